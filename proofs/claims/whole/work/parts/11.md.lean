/-! laid by wip/whole/gen.py: walks of the reference's methods -/
set_option maxHeartbeats 4000000 in
set_option maxRecDepth 100000 in
theorem c_X5_isLate (l : Launch) (D : va_G) (cI cC cK cO : ClassId) (h : Nat) (a1 : Nat) (a2 : Nat) (a3 : Nat) (a4 : Nat) (zs : Nat → Int32) (zb : Nat → Int32) (za : Nat → Int32) (zt : Nat → Int32) (zl : Int32) (zu : Int32) (zp : Int32) (zw : Int32) (zf : Int32) (zg : Int32) (zc : Int32) (x1 : Int32) (K : Nat) (R : Int32) (hf : f_X5_isLate K zs x1 = some R) : KI l D (TY cI cC cK cO) E0 yX5_isLate wsX5_isLate 1 [.ref h, .int x1] (wM cI h a1 a2 a3 a4 zs zb za zt zl zu zp zw zf zg zc) (fun (r : Int32) (u : Unit) => r = R ∧ (r = 0 ∨ r = 1)) (fun u => (wM cI h a1 a2 a3 a4 zs zb za zt zl zu zp zw zf zg zc)) := by
  refine KI.ofZ (cc := cX5_isLate) (maxL := 4) (C := RX5) (by decide) rfl rfl (Nat.le_of_ble_eq_true rfl) (fun _ _ h => h.2) ?_
  intro p e s m args below meth c A Q hx hb hml hts hown hP hK hD hA hE hS hret ls hl
  replace hl : lv_has ls 4 [(0, .ref h), (1, .int x1)] := hl
  have w7 := hts (.fieldLink RX5 7 "BlockClerksModel" "s" "[I") (by decide +kernel)
  have iX5 : ∀ w ∈ wsX50, w ∈ wsX5_isLate := by decide +kernel
  have L_6 : ∀ (n : Nat)  (x1 : Int32) (x2 : Int32) (x3 : Int32) (hz2 : x2 = 0 ∨ x2 = 1) (hf : f_X5_isLate_6 x1 zs n x2 x3 = some R) (H : Heap) (locs : List Loc) (ls : Array Slot), va_P D vwCl (wM cI h a1 a2 a3 a4 zs zb za zt zl zu zp zw zf zg zc) H → va_D A (wM cI h a1 a2 a3 a4 zs zb za zt zl zu zp zw zf zg zc) → va_S A s.heap H locs → lv_has ls 4 [(0, .ref h), (1, .int x1), (2, .int x2), (3, .int x3)] → W p l e (rm 1) s m args below meth c H locs 0 0 Q (F0 m 6 ls []) := by
    intro n
    induction n with
    | zero =>
      intro  x1 x2 x3 hz2 hf
      cases hf
    | succ n ih =>
      intro  x1 x2 x3 hz2 hf H locs ls hP hD hS hl
      rw [f_X5_isLate_6] at hf
      refine lv_iload_n hx hb dX5_isLate_6 rfl (lv_at hl 3 rfl) ?_
      refine lv_sipush (v := 600) hx hb dX5_isLate_7 (by decide) ?_
      refine lv_icmp_gt (tgt := 66) hx hb dX5_isLate_10 (by decide) (fun c1 => ?_) (fun c1 => ?_)
      · replace hf := op_t c1 hf
        refine lv_iload_n hx hb dX5_isLate_66 rfl (lv_at hl 2 rfl) ?_
        exact hret _ _ _ _ _ () dX5_isLate_67 ⟨(op_k hf), hz2⟩ hP hS
      · replace hf := op_f c1 hf
        refine lv_iload_n hx hb dX5_isLate_13 rfl (lv_at hl 2 rfl) ?_
        refine lv_aload_n hx hb dX5_isLate_14 rfl (lv_at hl 0 rfl) ?_
        refine va_get (D := D) (ci := 5) (v := .ref a1) (C := RX5) (T := TX5) (N := 11) hx hb hts iX5 hown hK hP 0 rfl rfl 0 (by decide) w7 (fun _ h9 => h9) rfl dX5_isLate_15 ?_
        refine lv_iload_n hx hb dX5_isLate_18 rfl (lv_at hl 3 rfl) ?_
        refine ck_SI (st := [.int x3, .ref a1, .int x2]) (rest := [.ref a1, .int x2]) (As := [.int x3]) ⟨hx, hb, hml, hown, hts⟩ E0_ok (c_X5_n l D cI cC cK cO  x3 _ rfl) (va_cwS 1 hts gX5_isLate_X5_n rfl rfl rfl hs_X5_n ⟨Nat.le_of_ble_eq_true rfl, Nat.le_of_ble_eq_true rfl⟩) hK hP hD hS hA hE rfl hl.1 rfl (Nat.le_of_ble_eq_true rfl) dX5_isLate_19 ⟨Nat.zero_le _, Nat.zero_le _⟩ (fun r H locs hw hP hS => ?_)
        cases hw
        refine lv_iconst (v := 2) hx hb dX5_isLate_22 (by decide) ?_
        refine lv_iadd hx hb dX5_isLate_23 ?_
        obtain ⟨q4, hf⟩ := op_x hf
        refine ck_iald (j := ((f_X5_n x3) + 2).toNatClampNeg) hx hb hK hP 1 0 rfl rfl q4 rfl dX5_isLate_24 ?_
        refine lv_if_lt (tgt := 57) hx hb dX5_isLate_25 (by decide) (fun c5 => ?_) (fun c5 => ?_)
        · replace hf := op_t c5 hf
          refine lv_iconst (v := 0) hx hb dX5_isLate_57 (by decide) ?_
          refine lv_ior hx hb dX5_isLate_58 ?_
          refine lv_istore_n (lv' := [(2, .int (x2 ||| 0)), (0, .ref h), (1, .int x1), (3, .int x3)]) hx hb dX5_isLate_59 rfl hl (by decide) rfl (fun ls hl => ?_)
          refine lv_iinc (v := (x3 + 1)) (lv' := [(3, .int (x3 + 1)), (2, .int (x2 ||| 0)), (0, .ref h), (1, .int x1)]) hx hb dX5_isLate_60 hl (k := 3) rfl rfl (by decide) rfl (fun ls hl => ?_)
          refine lv_goto (tgt := 6) hx hb dX5_isLate_63 (by decide) ?_
          exact ih  x1 (x2 ||| 0) (x3 + 1) (or_b0 hz2) hf _ _ _ hP hD hS (lv_sub hl [2, 3, 1, 0] rfl)
        · replace hf := op_f c5 hf
          refine lv_aload_n hx hb dX5_isLate_28 rfl (lv_at hl 0 rfl) ?_
          refine va_get (D := D) (ci := 5) (v := .ref a1) (C := RX5) (T := TX5) (N := 11) hx hb hts iX5 hown hK hP 0 rfl rfl 0 (by decide) w7 (fun _ h9 => h9) rfl dX5_isLate_29 ?_
          refine lv_iload_n hx hb dX5_isLate_32 rfl (lv_at hl 3 rfl) ?_
          refine ck_SI (st := [.int x3, .ref a1, .int x2]) (rest := [.ref a1, .int x2]) (As := [.int x3]) ⟨hx, hb, hml, hown, hts⟩ E0_ok (c_X5_n l D cI cC cK cO  x3 _ rfl) (va_cwS 1 hts gX5_isLate_X5_n rfl rfl rfl hs_X5_n ⟨Nat.le_of_ble_eq_true rfl, Nat.le_of_ble_eq_true rfl⟩) hK hP hD hS hA hE rfl hl.1 rfl (Nat.le_of_ble_eq_true rfl) dX5_isLate_33 ⟨Nat.zero_le _, Nat.zero_le _⟩ (fun r H locs hw hP hS => ?_)
          cases hw
          refine lv_iconst (v := 2) hx hb dX5_isLate_36 (by decide) ?_
          refine lv_iadd hx hb dX5_isLate_37 ?_
          obtain ⟨q8, hf⟩ := op_x hf
          refine ck_iald (j := ((f_X5_n x3) + 2).toNatClampNeg) hx hb hK hP 1 0 rfl rfl q8 rfl dX5_isLate_38 ?_
          refine lv_aload_n hx hb dX5_isLate_39 rfl (lv_at hl 0 rfl) ?_
          refine va_get (D := D) (ci := 5) (v := .ref a1) (C := RX5) (T := TX5) (N := 11) hx hb hts iX5 hown hK hP 0 rfl rfl 0 (by decide) w7 (fun _ h9 => h9) rfl dX5_isLate_40 ?_
          refine lv_iload_n hx hb dX5_isLate_43 rfl (lv_at hl 1 rfl) ?_
          refine ck_SI (st := [.int x1, .ref a1, .int (zs ((f_X5_n x3) + 2).toNatClampNeg), .int x2]) (rest := [.ref a1, .int (zs ((f_X5_n x3) + 2).toNatClampNeg), .int x2]) (As := [.int x1]) ⟨hx, hb, hml, hown, hts⟩ E0_ok (c_X5_n l D cI cC cK cO  x1 _ rfl) (va_cwS 1 hts gX5_isLate_X5_n rfl rfl rfl hs_X5_n ⟨Nat.le_of_ble_eq_true rfl, Nat.le_of_ble_eq_true rfl⟩) hK hP hD hS hA hE rfl hl.1 rfl (Nat.le_of_ble_eq_true rfl) dX5_isLate_44 ⟨Nat.zero_le _, Nat.zero_le _⟩ (fun r H locs hw hP hS => ?_)
          cases hw
          refine lv_iconst (v := 2) hx hb dX5_isLate_47 (by decide) ?_
          refine lv_iadd hx hb dX5_isLate_48 ?_
          obtain ⟨q11, hf⟩ := op_x hf
          refine ck_iald (j := ((f_X5_n x1) + 2).toNatClampNeg) hx hb hK hP 1 0 rfl rfl q11 rfl dX5_isLate_49 ?_
          refine lv_icmp_ge (tgt := 57) hx hb dX5_isLate_50 (by decide) (fun c12 => ?_) (fun c12 => ?_)
          · replace hf := op_t c12 hf
            refine lv_iconst (v := 0) hx hb dX5_isLate_57 (by decide) ?_
            refine lv_ior hx hb dX5_isLate_58 ?_
            refine lv_istore_n (lv' := [(2, .int (x2 ||| 0)), (0, .ref h), (1, .int x1), (3, .int x3)]) hx hb dX5_isLate_59 rfl hl (by decide) rfl (fun ls hl => ?_)
            refine lv_iinc (v := (x3 + 1)) (lv' := [(3, .int (x3 + 1)), (2, .int (x2 ||| 0)), (0, .ref h), (1, .int x1)]) hx hb dX5_isLate_60 hl (k := 3) rfl rfl (by decide) rfl (fun ls hl => ?_)
            refine lv_goto (tgt := 6) hx hb dX5_isLate_63 (by decide) ?_
            exact ih  x1 (x2 ||| 0) (x3 + 1) (or_b0 hz2) hf _ _ _ hP hD hS (lv_sub hl [2, 3, 1, 0] rfl)
          · replace hf := op_f c12 hf
            refine lv_iconst (v := 1) hx hb dX5_isLate_53 (by decide) ?_
            refine lv_goto (tgt := 58) hx hb dX5_isLate_54 (by decide) ?_
            refine lv_ior hx hb dX5_isLate_58 ?_
            refine lv_istore_n (lv' := [(2, .int (x2 ||| 1)), (0, .ref h), (1, .int x1), (3, .int x3)]) hx hb dX5_isLate_59 rfl hl (by decide) rfl (fun ls hl => ?_)
            refine lv_iinc (v := (x3 + 1)) (lv' := [(3, .int (x3 + 1)), (2, .int (x2 ||| 1)), (0, .ref h), (1, .int x1)]) hx hb dX5_isLate_60 hl (k := 3) rfl rfl (by decide) rfl (fun ls hl => ?_)
            refine lv_goto (tgt := 6) hx hb dX5_isLate_63 (by decide) ?_
            exact ih  x1 (x2 ||| 1) (x3 + 1) (or_b1 hz2) hf _ _ _ hP hD hS (lv_sub hl [2, 3, 1, 0] rfl)
  rw [f_X5_isLate] at hf
  refine lv_iconst (v := 0) hx hb dX5_isLate_0 (by decide) ?_
  refine lv_istore_n (lv' := [(2, .int 0), (0, .ref h), (1, .int x1)]) hx hb dX5_isLate_1 rfl hl (by decide) rfl (fun ls hl => ?_)
  refine lv_iload_n hx hb dX5_isLate_2 rfl (lv_at hl 2 rfl) ?_
  refine lv_iconst (v := 1) hx hb dX5_isLate_3 (by decide) ?_
  refine lv_iadd hx hb dX5_isLate_4 ?_
  refine lv_istore_n (lv' := [(3, .int (x1 + 1)), (2, .int 0), (0, .ref h), (1, .int x1)]) hx hb dX5_isLate_5 rfl hl (by decide) rfl (fun ls hl => ?_)
  exact L_6 K  x1 0 (x1 + 1) (Or.inl rfl) hf _ _ _ hP hD hS (lv_sub hl [2, 3, 1, 0] rfl)
set_option maxHeartbeats 4000000 in
set_option maxRecDepth 100000 in
theorem c_X5_numberOf (l : Launch) (D : va_G) (cI cC cK cO : ClassId) (h : Nat) (a1 : Nat) (a2 : Nat) (a3 : Nat) (a4 : Nat) (zs : Nat → Int32) (zb : Nat → Int32) (za : Nat → Int32) (zt : Nat → Int32) (zl : Int32) (zu : Int32) (zp : Int32) (zw : Int32) (zf : Int32) (zg : Int32) (zc : Int32) (x1 : Int32) (x2 : Int32) (K : Nat) (R : Int32) (hf : f_X5_numberOf K zs x1 x2 = some R) : KI l D (TY cI cC cK cO) E0 yX5_numberOf wsX5_numberOf 2 [.ref h, .int x1, .int x2] (wM cI h a1 a2 a3 a4 zs zb za zt zl zu zp zw zf zg zc) (fun (r : Int32) (u : Unit) => r = R) (fun u => (wM cI h a1 a2 a3 a4 zs zb za zt zl zu zp zw zf zg zc)) := by
  refine KI.ofI (cc := cX5_numberOf) (maxL := 5) (C := RX5) (by decide) rfl rfl (Nat.le_of_ble_eq_true rfl) ?_
  intro p e s m args below meth c A Q hx hb hml hts hown hP hK hD hA hE hS hret ls hl
  replace hl : lv_has ls 5 [(0, .ref h), (1, .int x1), (2, .int x2)] := hl
  have w7 := hts (.fieldLink RX5 7 "BlockClerksModel" "s" "[I") (by decide +kernel)
  have iX5 : ∀ w ∈ wsX50, w ∈ wsX5_numberOf := by decide +kernel
  rw [f_X5_numberOf] at hf
  refine lv_iload_n hx hb dX5_numberOf_0 rfl (lv_at hl 1 rfl) ?_
  refine ck_SI (st := [.int x1]) (rest := []) (As := [.int x1]) ⟨hx, hb, hml, hown, hts⟩ E0_ok (c_X5_isNumber l D cI cC cK cO  x1 _ rfl) (va_cwS 1 hts gX5_numberOf_X5_isNumber rfl rfl rfl hs_X5_isNumber ⟨Nat.le_of_ble_eq_true rfl, Nat.le_of_ble_eq_true rfl⟩) hK hP hD hS hA hE rfl hl.1 rfl (Nat.le_of_ble_eq_true rfl) dX5_numberOf_1 ⟨Nat.zero_le _, Nat.zero_le _⟩ (fun r H locs hw hP hS => ?_)
  obtain ⟨hw, z2⟩ := hw
  cases hw
  refine lv_if_eq (tgt := 16) hx hb dX5_numberOf_4 (by decide) (fun c3 => ?_) (fun c3 => ?_)
  · replace hf := op_t c3 hf
    refine lv_iconst (v := (-1)) hx hb dX5_numberOf_16 (by decide) ?_
    exact hret _ _ _ _ _ () dX5_numberOf_17 (op_k hf) hP hS
  · replace hf := op_f c3 hf
    refine lv_iload_n hx hb dX5_numberOf_7 rfl (lv_at hl 2 rfl) ?_
    refine lv_iconst (v := 0) hx hb dX5_numberOf_8 (by decide) ?_
    refine lv_iconst (v := 5) hx hb dX5_numberOf_9 (by decide) ?_
    refine ck_SI (st := [.int 5, .int 0, .int x2]) (rest := []) (As := [.int x2, .int 0, .int 5]) ⟨hx, hb, hml, hown, hts⟩ E0_ok (c_X5_in l D cI cC cK cO  x2 0 5 _ rfl) (va_cwS 3 hts gX5_numberOf_X5_in rfl rfl rfl hs_X5_in ⟨Nat.le_of_ble_eq_true rfl, Nat.le_of_ble_eq_true rfl⟩) hK hP hD hS hA hE rfl hl.1 rfl (Nat.le_of_ble_eq_true rfl) dX5_numberOf_10 ⟨Nat.zero_le _, Nat.zero_le _⟩ (fun r H locs hw hP hS => ?_)
    obtain ⟨hw, z5⟩ := hw
    cases hw
    refine lv_if_ne (tgt := 18) hx hb dX5_numberOf_13 (by decide) (fun c6 => ?_) (fun c6 => ?_)
    · replace hf := op_f c6 hf
      refine lv_iload_n hx hb dX5_numberOf_18 rfl (lv_at hl 1 rfl) ?_
      refine ck_SI (st := [.int x1]) (rest := []) (As := [.int x1]) ⟨hx, hb, hml, hown, hts⟩ E0_ok (c_X5_n l D cI cC cK cO  x1 _ rfl) (va_cwS 1 hts gX5_numberOf_X5_n rfl rfl rfl hs_X5_n ⟨Nat.le_of_ble_eq_true rfl, Nat.le_of_ble_eq_true rfl⟩) hK hP hD hS hA hE rfl hl.1 rfl (Nat.le_of_ble_eq_true rfl) dX5_numberOf_19 ⟨Nat.zero_le _, Nat.zero_le _⟩ (fun r H locs hw hP hS => ?_)
      cases hw
      refine lv_istore_n (lv' := [(3, .int (f_X5_n x1)), (0, .ref h), (1, .int x1), (2, .int x2)]) hx hb dX5_numberOf_22 rfl hl (by decide) rfl (fun ls hl => ?_)
      refine lv_aload_n hx hb dX5_numberOf_23 rfl (lv_at hl 1 rfl) ?_
      refine va_get (D := D) (ci := 5) (v := .ref a1) (C := RX5) (T := TX5) (N := 11) hx hb hts iX5 hown hK hP 0 rfl rfl 0 (by decide) w7 (fun _ h9 => h9) rfl dX5_numberOf_24 ?_
      refine lv_iload_n hx hb dX5_numberOf_27 rfl (lv_at hl 0 rfl) ?_
      refine lv_iconst (v := 2) hx hb dX5_numberOf_28 (by decide) ?_
      refine lv_iadd hx hb dX5_numberOf_29 ?_
      obtain ⟨q9, hf⟩ := op_x hf
      refine ck_iald (j := ((f_X5_n x1) + 2).toNatClampNeg) hx hb hK hP 1 0 rfl rfl q9 rfl dX5_numberOf_30 ?_
      refine lv_if_lt (tgt := 38) hx hb dX5_numberOf_31 (by decide) (fun c10 => ?_) (fun c10 => ?_)
      · replace hf := op_t c10 hf
        refine lv_iconst (v := 0) hx hb dX5_numberOf_38 (by decide) ?_
        refine lv_istore (lv' := [(4, .int 0), (3, .int (f_X5_n x1)), (0, .ref h), (1, .int x1), (2, .int x2)]) hx hb dX5_numberOf_39 hl (by decide) rfl (fun ls hl => ?_)
        refine lv_iload_n hx hb dX5_numberOf_41 rfl (lv_at hl 4 rfl) ?_
        by_cases c11 : x2 = 0
        · replace hf := op_t c11 hf
          refine sw_in (v := 0) (tgt := 76) hx hb dX5_numberOf_42 c11 (by decide) (by decide) rfl (by decide) ?_
          refine lv_aload_n hx hb dX5_numberOf_76 rfl (lv_at hl 2 rfl) ?_
          refine va_get (D := D) (ci := 5) (v := .ref a1) (C := RX5) (T := TX5) (N := 11) hx hb hts iX5 hown hK hP 0 rfl rfl 0 (by decide) w7 (fun _ h9 => h9) rfl dX5_numberOf_77 ?_
          refine lv_iload_n hx hb dX5_numberOf_80 rfl (lv_at hl 1 rfl) ?_
          refine lv_iconst (v := 0) hx hb dX5_numberOf_81 (by decide) ?_
          refine lv_iadd hx hb dX5_numberOf_82 ?_
          obtain ⟨q12, hf⟩ := op_x hf
          refine ck_iald (j := ((f_X5_n x1) + 0).toNatClampNeg) hx hb hK hP 1 0 rfl rfl q12 rfl dX5_numberOf_83 ?_
          exact hret _ _ _ _ _ () dX5_numberOf_84 (op_k hf) hP hS
        replace hf := op_f c11 hf
        by_cases c13 : x2 = 1
        · replace hf := op_t c13 hf
          refine sw_in (v := 1) (tgt := 85) hx hb dX5_numberOf_42 c13 (by decide) (by decide) rfl (by decide) ?_
          refine lv_aload_n hx hb dX5_numberOf_85 rfl (lv_at hl 2 rfl) ?_
          refine va_get (D := D) (ci := 5) (v := .ref a1) (C := RX5) (T := TX5) (N := 11) hx hb hts iX5 hown hK hP 0 rfl rfl 0 (by decide) w7 (fun _ h9 => h9) rfl dX5_numberOf_86 ?_
          refine lv_iload_n hx hb dX5_numberOf_89 rfl (lv_at hl 1 rfl) ?_
          refine lv_iconst (v := 1) hx hb dX5_numberOf_90 (by decide) ?_
          refine lv_iadd hx hb dX5_numberOf_91 ?_
          obtain ⟨q14, hf⟩ := op_x hf
          refine ck_iald (j := ((f_X5_n x1) + 1).toNatClampNeg) hx hb hK hP 1 0 rfl rfl q14 rfl dX5_numberOf_92 ?_
          refine lv_if_ge (tgt := 101) hx hb dX5_numberOf_93 (by decide) (fun c15 => ?_) (fun c15 => ?_)
          · replace hf := op_t c15 hf
            refine lv_aload_n hx hb dX5_numberOf_101 rfl (lv_at hl 2 rfl) ?_
            refine va_get (D := D) (ci := 5) (v := .ref a1) (C := RX5) (T := TX5) (N := 11) hx hb hts iX5 hown hK hP 0 rfl rfl 0 (by decide) w7 (fun _ h9 => h9) rfl dX5_numberOf_102 ?_
            refine lv_iload_n hx hb dX5_numberOf_105 rfl (lv_at hl 1 rfl) ?_
            refine lv_iconst (v := 1) hx hb dX5_numberOf_106 (by decide) ?_
            refine lv_iadd hx hb dX5_numberOf_107 ?_
            obtain ⟨q16, hf⟩ := op_x hf
            refine ck_iald (j := ((f_X5_n x1) + 1).toNatClampNeg) hx hb hK hP 1 0 rfl rfl q16 rfl dX5_numberOf_108 ?_
            exact hret _ _ _ _ _ () dX5_numberOf_109 (op_k hf) hP hS
          · replace hf := op_f c15 hf
            refine lv_bipush (v := (-4)) hx hb dX5_numberOf_96 (by decide) ?_
            refine lv_goto (tgt := 109) hx hb dX5_numberOf_98 (by decide) ?_
            exact hret _ _ _ _ _ () dX5_numberOf_109 (op_k hf) hP hS
        replace hf := op_f c13 hf
        by_cases c17 : x2 = 2
        · replace hf := op_t c17 hf
          refine sw_in (v := 2) (tgt := 110) hx hb dX5_numberOf_42 c17 (by decide) (by decide) rfl (by decide) ?_
          refine lv_iload hx hb dX5_numberOf_110 (lv_at hl 0 rfl) ?_
          refine lv_if_eq (tgt := 126) hx hb dX5_numberOf_112 (by decide) (fun _ => ?_) (fun c9 => absurd c9 (by decide))
          refine lv_bipush (v := (-4)) hx hb dX5_numberOf_126 (by decide) ?_
          exact hret _ _ _ _ _ () dX5_numberOf_128 (op_k hf) hP hS
        replace hf := op_f c17 hf
        by_cases c18 : x2 = 3
        · replace hf := op_t c18 hf
          refine sw_in (v := 3) (tgt := 129) hx hb dX5_numberOf_42 c18 (by decide) (by decide) rfl (by decide) ?_
          refine lv_iload hx hb dX5_numberOf_129 (lv_at hl 0 rfl) ?_
          refine lv_if_eq (tgt := 145) hx hb dX5_numberOf_131 (by decide) (fun _ => ?_) (fun c9 => absurd c9 (by decide))
          refine lv_bipush (v := (-4)) hx hb dX5_numberOf_145 (by decide) ?_
          exact hret _ _ _ _ _ () dX5_numberOf_147 (op_k hf) hP hS
        replace hf := op_f c18 hf
        by_cases c19 : x2 = 4
        · replace hf := op_t c19 hf
          refine sw_in (v := 4) (tgt := 148) hx hb dX5_numberOf_42 c19 (by decide) (by decide) rfl (by decide) ?_
          refine lv_aload_n hx hb dX5_numberOf_148 rfl (lv_at hl 2 rfl) ?_
          refine va_get (D := D) (ci := 5) (v := .ref a1) (C := RX5) (T := TX5) (N := 11) hx hb hts iX5 hown hK hP 0 rfl rfl 0 (by decide) w7 (fun _ h9 => h9) rfl dX5_numberOf_149 ?_
          refine lv_iload_n hx hb dX5_numberOf_152 rfl (lv_at hl 1 rfl) ?_
          refine lv_iconst (v := 0) hx hb dX5_numberOf_153 (by decide) ?_
          refine lv_iadd hx hb dX5_numberOf_154 ?_
          obtain ⟨q20, hf⟩ := op_x hf
          refine ck_iald (j := ((f_X5_n x1) + 0).toNatClampNeg) hx hb hK hP 1 0 rfl rfl q20 rfl dX5_numberOf_155 ?_
          refine lv_iconst (v := 4) hx hb dX5_numberOf_156 (by decide) ?_
          refine lv_icmp_ne (tgt := 171) hx hb dX5_numberOf_157 (by decide) (fun c21 => ?_) (fun c21 => ?_)
          · replace hf := op_f c21 hf
            refine lv_bipush (v := (-4)) hx hb dX5_numberOf_171 (by decide) ?_
            exact hret _ _ _ _ _ () dX5_numberOf_173 (op_k hf) hP hS
          · replace hf := op_t c21 hf
            refine lv_aload_n hx hb dX5_numberOf_160 rfl (lv_at hl 2 rfl) ?_
            refine va_get (D := D) (ci := 5) (v := .ref a1) (C := RX5) (T := TX5) (N := 11) hx hb hts iX5 hown hK hP 0 rfl rfl 0 (by decide) w7 (fun _ h9 => h9) rfl dX5_numberOf_161 ?_
            refine lv_iload_n hx hb dX5_numberOf_164 rfl (lv_at hl 1 rfl) ?_
            refine lv_iconst (v := 4) hx hb dX5_numberOf_165 (by decide) ?_
            refine lv_iadd hx hb dX5_numberOf_166 ?_
            obtain ⟨q22, hf⟩ := op_x hf
            refine ck_iald (j := ((f_X5_n x1) + 4).toNatClampNeg) hx hb hK hP 1 0 rfl rfl q22 rfl dX5_numberOf_167 ?_
            refine lv_goto (tgt := 173) hx hb dX5_numberOf_168 (by decide) ?_
            exact hret _ _ _ _ _ () dX5_numberOf_173 (op_k hf) hP hS
        replace hf := op_f c19 hf
        refine lv_tableOut (tgt := 174) hx hb dX5_numberOf_42 (sw_o_0_5 c11 c13 c17 c18 c19) (by decide) ?_
        refine lv_iload hx hb dX5_numberOf_174 (lv_at hl 0 rfl) ?_
        refine lv_if_ne (tgt := 184) hx hb dX5_numberOf_176 (by decide) (fun c9 => absurd c9 (by decide)) (fun _ => ?_)
        refine lv_bipush (v := (-4)) hx hb dX5_numberOf_179 (by decide) ?_
        refine lv_goto (tgt := 197) hx hb dX5_numberOf_181 (by decide) ?_
        exact hret _ _ _ _ _ () dX5_numberOf_197 (op_k hf) hP hS
      · replace hf := op_f c10 hf
        refine lv_iconst (v := 1) hx hb dX5_numberOf_34 (by decide) ?_
        refine lv_goto (tgt := 39) hx hb dX5_numberOf_35 (by decide) ?_
        refine lv_istore (lv' := [(4, .int 1), (3, .int (f_X5_n x1)), (0, .ref h), (1, .int x1), (2, .int x2)]) hx hb dX5_numberOf_39 hl (by decide) rfl (fun ls hl => ?_)
        refine lv_iload_n hx hb dX5_numberOf_41 rfl (lv_at hl 4 rfl) ?_
        by_cases c23 : x2 = 0
        · replace hf := op_t c23 hf
          refine sw_in (v := 0) (tgt := 76) hx hb dX5_numberOf_42 c23 (by decide) (by decide) rfl (by decide) ?_
          refine lv_aload_n hx hb dX5_numberOf_76 rfl (lv_at hl 2 rfl) ?_
          refine va_get (D := D) (ci := 5) (v := .ref a1) (C := RX5) (T := TX5) (N := 11) hx hb hts iX5 hown hK hP 0 rfl rfl 0 (by decide) w7 (fun _ h9 => h9) rfl dX5_numberOf_77 ?_
          refine lv_iload_n hx hb dX5_numberOf_80 rfl (lv_at hl 1 rfl) ?_
          refine lv_iconst (v := 0) hx hb dX5_numberOf_81 (by decide) ?_
          refine lv_iadd hx hb dX5_numberOf_82 ?_
          obtain ⟨q24, hf⟩ := op_x hf
          refine ck_iald (j := ((f_X5_n x1) + 0).toNatClampNeg) hx hb hK hP 1 0 rfl rfl q24 rfl dX5_numberOf_83 ?_
          exact hret _ _ _ _ _ () dX5_numberOf_84 (op_k hf) hP hS
        replace hf := op_f c23 hf
        by_cases c25 : x2 = 1
        · replace hf := op_t c25 hf
          refine sw_in (v := 1) (tgt := 85) hx hb dX5_numberOf_42 c25 (by decide) (by decide) rfl (by decide) ?_
          refine lv_aload_n hx hb dX5_numberOf_85 rfl (lv_at hl 2 rfl) ?_
          refine va_get (D := D) (ci := 5) (v := .ref a1) (C := RX5) (T := TX5) (N := 11) hx hb hts iX5 hown hK hP 0 rfl rfl 0 (by decide) w7 (fun _ h9 => h9) rfl dX5_numberOf_86 ?_
          refine lv_iload_n hx hb dX5_numberOf_89 rfl (lv_at hl 1 rfl) ?_
          refine lv_iconst (v := 1) hx hb dX5_numberOf_90 (by decide) ?_
          refine lv_iadd hx hb dX5_numberOf_91 ?_
          obtain ⟨q26, hf⟩ := op_x hf
          refine ck_iald (j := ((f_X5_n x1) + 1).toNatClampNeg) hx hb hK hP 1 0 rfl rfl q26 rfl dX5_numberOf_92 ?_
          refine lv_if_ge (tgt := 101) hx hb dX5_numberOf_93 (by decide) (fun c27 => ?_) (fun c27 => ?_)
          · replace hf := op_t c27 hf
            refine lv_aload_n hx hb dX5_numberOf_101 rfl (lv_at hl 2 rfl) ?_
            refine va_get (D := D) (ci := 5) (v := .ref a1) (C := RX5) (T := TX5) (N := 11) hx hb hts iX5 hown hK hP 0 rfl rfl 0 (by decide) w7 (fun _ h9 => h9) rfl dX5_numberOf_102 ?_
            refine lv_iload_n hx hb dX5_numberOf_105 rfl (lv_at hl 1 rfl) ?_
            refine lv_iconst (v := 1) hx hb dX5_numberOf_106 (by decide) ?_
            refine lv_iadd hx hb dX5_numberOf_107 ?_
            obtain ⟨q28, hf⟩ := op_x hf
            refine ck_iald (j := ((f_X5_n x1) + 1).toNatClampNeg) hx hb hK hP 1 0 rfl rfl q28 rfl dX5_numberOf_108 ?_
            exact hret _ _ _ _ _ () dX5_numberOf_109 (op_k hf) hP hS
          · replace hf := op_f c27 hf
            refine lv_bipush (v := (-4)) hx hb dX5_numberOf_96 (by decide) ?_
            refine lv_goto (tgt := 109) hx hb dX5_numberOf_98 (by decide) ?_
            exact hret _ _ _ _ _ () dX5_numberOf_109 (op_k hf) hP hS
        replace hf := op_f c25 hf
        by_cases c29 : x2 = 2
        · replace hf := op_t c29 hf
          refine sw_in (v := 2) (tgt := 110) hx hb dX5_numberOf_42 c29 (by decide) (by decide) rfl (by decide) ?_
          refine lv_iload hx hb dX5_numberOf_110 (lv_at hl 0 rfl) ?_
          refine lv_if_eq (tgt := 126) hx hb dX5_numberOf_112 (by decide) (fun c9 => absurd c9 (by decide)) (fun _ => ?_)
          refine lv_aload_n hx hb dX5_numberOf_115 rfl (lv_at hl 2 rfl) ?_
          refine va_get (D := D) (ci := 5) (v := .ref a1) (C := RX5) (T := TX5) (N := 11) hx hb hts iX5 hown hK hP 0 rfl rfl 0 (by decide) w7 (fun _ h9 => h9) rfl dX5_numberOf_116 ?_
          refine lv_iload_n hx hb dX5_numberOf_119 rfl (lv_at hl 1 rfl) ?_
          refine lv_iconst (v := 2) hx hb dX5_numberOf_120 (by decide) ?_
          refine lv_iadd hx hb dX5_numberOf_121 ?_
          obtain ⟨q30, hf⟩ := op_x hf
          refine ck_iald (j := ((f_X5_n x1) + 2).toNatClampNeg) hx hb hK hP 1 0 rfl rfl q30 rfl dX5_numberOf_122 ?_
          refine lv_goto (tgt := 128) hx hb dX5_numberOf_123 (by decide) ?_
          exact hret _ _ _ _ _ () dX5_numberOf_128 (op_k hf) hP hS
        replace hf := op_f c29 hf
        by_cases c31 : x2 = 3
        · replace hf := op_t c31 hf
          refine sw_in (v := 3) (tgt := 129) hx hb dX5_numberOf_42 c31 (by decide) (by decide) rfl (by decide) ?_
          refine lv_iload hx hb dX5_numberOf_129 (lv_at hl 0 rfl) ?_
          refine lv_if_eq (tgt := 145) hx hb dX5_numberOf_131 (by decide) (fun c9 => absurd c9 (by decide)) (fun _ => ?_)
          refine lv_aload_n hx hb dX5_numberOf_134 rfl (lv_at hl 2 rfl) ?_
          refine va_get (D := D) (ci := 5) (v := .ref a1) (C := RX5) (T := TX5) (N := 11) hx hb hts iX5 hown hK hP 0 rfl rfl 0 (by decide) w7 (fun _ h9 => h9) rfl dX5_numberOf_135 ?_
          refine lv_iload_n hx hb dX5_numberOf_138 rfl (lv_at hl 1 rfl) ?_
          refine lv_iconst (v := 3) hx hb dX5_numberOf_139 (by decide) ?_
          refine lv_iadd hx hb dX5_numberOf_140 ?_
          obtain ⟨q32, hf⟩ := op_x hf
          refine ck_iald (j := ((f_X5_n x1) + 3).toNatClampNeg) hx hb hK hP 1 0 rfl rfl q32 rfl dX5_numberOf_141 ?_
          refine lv_goto (tgt := 147) hx hb dX5_numberOf_142 (by decide) ?_
          exact hret _ _ _ _ _ () dX5_numberOf_147 (op_k hf) hP hS
        replace hf := op_f c31 hf
        by_cases c33 : x2 = 4
        · replace hf := op_t c33 hf
          refine sw_in (v := 4) (tgt := 148) hx hb dX5_numberOf_42 c33 (by decide) (by decide) rfl (by decide) ?_
          refine lv_aload_n hx hb dX5_numberOf_148 rfl (lv_at hl 2 rfl) ?_
          refine va_get (D := D) (ci := 5) (v := .ref a1) (C := RX5) (T := TX5) (N := 11) hx hb hts iX5 hown hK hP 0 rfl rfl 0 (by decide) w7 (fun _ h9 => h9) rfl dX5_numberOf_149 ?_
          refine lv_iload_n hx hb dX5_numberOf_152 rfl (lv_at hl 1 rfl) ?_
          refine lv_iconst (v := 0) hx hb dX5_numberOf_153 (by decide) ?_
          refine lv_iadd hx hb dX5_numberOf_154 ?_
          obtain ⟨q34, hf⟩ := op_x hf
          refine ck_iald (j := ((f_X5_n x1) + 0).toNatClampNeg) hx hb hK hP 1 0 rfl rfl q34 rfl dX5_numberOf_155 ?_
          refine lv_iconst (v := 4) hx hb dX5_numberOf_156 (by decide) ?_
          refine lv_icmp_ne (tgt := 171) hx hb dX5_numberOf_157 (by decide) (fun c35 => ?_) (fun c35 => ?_)
          · replace hf := op_f c35 hf
            refine lv_bipush (v := (-4)) hx hb dX5_numberOf_171 (by decide) ?_
            exact hret _ _ _ _ _ () dX5_numberOf_173 (op_k hf) hP hS
          · replace hf := op_t c35 hf
            refine lv_aload_n hx hb dX5_numberOf_160 rfl (lv_at hl 2 rfl) ?_
            refine va_get (D := D) (ci := 5) (v := .ref a1) (C := RX5) (T := TX5) (N := 11) hx hb hts iX5 hown hK hP 0 rfl rfl 0 (by decide) w7 (fun _ h9 => h9) rfl dX5_numberOf_161 ?_
            refine lv_iload_n hx hb dX5_numberOf_164 rfl (lv_at hl 1 rfl) ?_
            refine lv_iconst (v := 4) hx hb dX5_numberOf_165 (by decide) ?_
            refine lv_iadd hx hb dX5_numberOf_166 ?_
            obtain ⟨q36, hf⟩ := op_x hf
            refine ck_iald (j := ((f_X5_n x1) + 4).toNatClampNeg) hx hb hK hP 1 0 rfl rfl q36 rfl dX5_numberOf_167 ?_
            refine lv_goto (tgt := 173) hx hb dX5_numberOf_168 (by decide) ?_
            exact hret _ _ _ _ _ () dX5_numberOf_173 (op_k hf) hP hS
        replace hf := op_f c33 hf
        refine lv_tableOut (tgt := 174) hx hb dX5_numberOf_42 (sw_o_0_5 c23 c25 c29 c31 c33) (by decide) ?_
        refine lv_iload hx hb dX5_numberOf_174 (lv_at hl 0 rfl) ?_
        refine lv_if_ne (tgt := 184) hx hb dX5_numberOf_176 (by decide) (fun _ => ?_) (fun c9 => absurd c9 (by decide))
        refine lv_aload_n hx hb dX5_numberOf_184 rfl (lv_at hl 2 rfl) ?_
        refine lv_iload_n hx hb dX5_numberOf_185 rfl (lv_at hl 3 rfl) ?_
        obtain ⟨r37, h38, hf⟩ := op_b hf
        refine ck_VI (st := [.int x1, .ref h]) (rest := []) (As := [.int x1]) (C := RX5) (ci := 5) ⟨hx, hb, hml, hown, hts⟩ E0_ok (c_X5_isLate l D cI cC cK cO h a1 a2 a3 a4 zs zb za zt zl zu zp zw zf zg zc x1 K _ h38) (cwV 1 hts gX5_numberOf_X5_isLate rfl rfl rfl hv_X5_isLate ⟨Nat.le_of_ble_eq_true rfl, Nat.le_of_ble_eq_true rfl⟩) hK hP hD hS hA hE [0, 1, 2, 3, 4] rfl rfl rfl rfl rfl (fun _ => rfl) rfl hl.1 rfl (Nat.le_of_ble_eq_true rfl) dX5_numberOf_186 ⟨Nat.zero_le _, Nat.zero_le _⟩ (fun r u H locs hw hP hD hS => ?_)
        obtain ⟨hw, z39⟩ := hw
        cases hw
        replace hP : va_P D vwCl (wM cI h a1 a2 a3 a4 zs zb za zt zl zu zp zw zf zg zc) H := hP
        replace hD : va_D A (wM cI h a1 a2 a3 a4 zs zb za zt zl zu zp zw zf zg zc) := hD
        refine lv_if_eq (tgt := 196) hx hb dX5_numberOf_189 (by decide) (fun c40 => ?_) (fun c40 => ?_)
        · replace hf := op_t c40 hf
          refine lv_iconst (v := 0) hx hb dX5_numberOf_196 (by decide) ?_
          exact hret _ _ _ _ _ () dX5_numberOf_197 (op_k hf) hP hS
        · replace hf := op_f c40 hf
          refine lv_iconst (v := 1) hx hb dX5_numberOf_192 (by decide) ?_
          refine lv_goto (tgt := 197) hx hb dX5_numberOf_193 (by decide) ?_
          exact hret _ _ _ _ _ () dX5_numberOf_197 (op_k hf) hP hS
    · replace hf := op_t c6 hf
      refine lv_iconst (v := (-1)) hx hb dX5_numberOf_16 (by decide) ?_
      exact hret _ _ _ _ _ () dX5_numberOf_17 (op_k hf) hP hS
set_option maxHeartbeats 4000000 in
set_option maxRecDepth 100000 in
theorem c_X5_holesOf (l : Launch) (D : va_G) (cI cC cK cO : ClassId) (h : Nat) (a1 : Nat) (a2 : Nat) (a3 : Nat) (a4 : Nat) (zs : Nat → Int32) (zb : Nat → Int32) (za : Nat → Int32) (zt : Nat → Int32) (zl : Int32) (zu : Int32) (zp : Int32) (zw : Int32) (zf : Int32) (zg : Int32) (zc : Int32) (x1 : Int32) (x2 : Int32) (K : Nat) (R : Int32) (hf : f_X5_holesOf K zs x1 x2 = some R) : KI l D (TY cI cC cK cO) E0 yX5_holesOf wsX5_holesOf 1 [.ref h, .int x1, .int x2] (wM cI h a1 a2 a3 a4 zs zb za zt zl zu zp zw zf zg zc) (fun (r : Int32) (u : Unit) => r = R) (fun u => (wM cI h a1 a2 a3 a4 zs zb za zt zl zu zp zw zf zg zc)) := by
  refine KI.ofI (cc := cX5_holesOf) (maxL := 6) (C := RX5) (by decide) rfl rfl (Nat.le_of_ble_eq_true rfl) ?_
  intro p e s m args below meth c A Q hx hb hml hts hown hP hK hD hA hE hS hret ls hl
  replace hl : lv_has ls 6 [(0, .ref h), (1, .int x1), (2, .int x2)] := hl
  have w7 := hts (.fieldLink RX5 7 "BlockClerksModel" "s" "[I") (by decide +kernel)
  have iX5 : ∀ w ∈ wsX50, w ∈ wsX5_holesOf := by decide +kernel
  have L_5 : ∀ (n : Nat)  (x1 : Int32) (x2 : Int32) (x3 : Int32) (x4 : Int32) (hf : f_X5_holesOf_5 x1 x2 zs n x3 x4 = some R) (H : Heap) (locs : List Loc) (ls : Array Slot), va_P D vwCl (wM cI h a1 a2 a3 a4 zs zb za zt zl zu zp zw zf zg zc) H → va_D A (wM cI h a1 a2 a3 a4 zs zb za zt zl zu zp zw zf zg zc) → va_S A s.heap H locs → lv_has ls 6 [(0, .ref h), (1, .int x1), (2, .int x2), (3, .int x3), (4, .int x4)] → W p l e (rm 1) s m args below meth c H locs 0 0 Q (F0 m 5 ls []) := by
    intro n
    induction n with
    | zero =>
      intro  x1 x2 x3 x4 hf
      cases hf
    | succ n ih =>
      intro  x1 x2 x3 x4 hf H locs ls hP hD hS hl
      rw [f_X5_holesOf_5] at hf
      refine lv_iload hx hb dX5_holesOf_5 (lv_at hl 4 rfl) ?_
      refine lv_sipush (v := 600) hx hb dX5_holesOf_7 (by decide) ?_
      refine lv_icmp_gt (tgt := 91) hx hb dX5_holesOf_10 (by decide) (fun c1 => ?_) (fun c1 => ?_)
      · replace hf := op_t c1 hf
        refine lv_iload_n hx hb dX5_holesOf_91 rfl (lv_at hl 3 rfl) ?_
        exact hret _ _ _ _ _ () dX5_holesOf_92 (op_k hf) hP hS
      · replace hf := op_f c1 hf
        refine lv_aload_n hx hb dX5_holesOf_13 rfl (lv_at hl 0 rfl) ?_
        refine va_get (D := D) (ci := 5) (v := .ref a1) (C := RX5) (T := TX5) (N := 11) hx hb hts iX5 hown hK hP 0 rfl rfl 0 (by decide) w7 (fun _ h9 => h9) rfl dX5_holesOf_14 ?_
        refine lv_iload hx hb dX5_holesOf_17 (lv_at hl 4 rfl) ?_
        refine ck_SI (st := [.int x4, .ref a1]) (rest := [.ref a1]) (As := [.int x4]) ⟨hx, hb, hml, hown, hts⟩ E0_ok (c_X5_n l D cI cC cK cO  x4 _ rfl) (va_cwS 1 hts gX5_holesOf_X5_n rfl rfl rfl hs_X5_n ⟨Nat.le_of_ble_eq_true rfl, Nat.le_of_ble_eq_true rfl⟩) hK hP hD hS hA hE rfl hl.1 rfl (Nat.le_of_ble_eq_true rfl) dX5_holesOf_19 ⟨Nat.zero_le _, Nat.zero_le _⟩ (fun r H locs hw hP hS => ?_)
        cases hw
        refine lv_iconst (v := 0) hx hb dX5_holesOf_22 (by decide) ?_
        refine lv_iadd hx hb dX5_holesOf_23 ?_
        obtain ⟨q4, hf⟩ := op_x hf
        refine ck_iald (j := ((f_X5_n x4) + 0).toNatClampNeg) hx hb hK hP 1 0 rfl rfl q4 rfl dX5_holesOf_24 ?_
        refine lv_iconst (v := 4) hx hb dX5_holesOf_25 (by decide) ?_
        refine lv_icmp_ne (tgt := 49) hx hb dX5_holesOf_26 (by decide) (fun c5 => ?_) (fun c5 => ?_)
        · replace hf := op_f c5 hf
          refine lv_iconst (v := 0) hx hb dX5_holesOf_49 (by decide) ?_
          refine lv_istore (lv' := [(5, .int 0), (0, .ref h), (1, .int x1), (2, .int x2), (3, .int x3), (4, .int x4)]) hx hb dX5_holesOf_50 hl (by decide) rfl (fun ls hl => ?_)
          refine lv_iload_n hx hb dX5_holesOf_52 rfl (lv_at hl 4 rfl) ?_
          refine lv_iload hx hb dX5_holesOf_53 (lv_at hl 0 rfl) ?_
          refine lv_if_eq (tgt := 82) hx hb dX5_holesOf_55 (by decide) (fun _ => ?_) (fun c9 => absurd c9 (by decide))
          refine lv_iconst (v := 0) hx hb dX5_holesOf_82 (by decide) ?_
          refine lv_iadd hx hb dX5_holesOf_83 ?_
          refine lv_istore_n (lv' := [(3, .int (x3 + 0)), (5, .int 0), (0, .ref h), (1, .int x1), (2, .int x2), (4, .int x4)]) hx hb dX5_holesOf_84 rfl hl (by decide) rfl (fun ls hl => ?_)
          refine lv_iinc (v := (x4 + 1)) (lv' := [(4, .int (x4 + 1)), (3, .int (x3 + 0)), (5, .int 0), (0, .ref h), (1, .int x1), (2, .int x2)]) hx hb dX5_holesOf_85 hl (k := 5) rfl rfl (by decide) rfl (fun ls hl => ?_)
          refine lv_goto (tgt := 5) hx hb dX5_holesOf_88 (by decide) ?_
          exact ih  x1 x2 (x3 + 0) (x4 + 1) hf _ _ _ hP hD hS (lv_sub hl [3, 4, 5, 1, 0] rfl)
        · replace hf := op_t c5 hf
          refine lv_aload_n hx hb dX5_holesOf_29 rfl (lv_at hl 0 rfl) ?_
          refine va_get (D := D) (ci := 5) (v := .ref a1) (C := RX5) (T := TX5) (N := 11) hx hb hts iX5 hown hK hP 0 rfl rfl 0 (by decide) w7 (fun _ h9 => h9) rfl dX5_holesOf_30 ?_
          refine lv_iload hx hb dX5_holesOf_33 (lv_at hl 4 rfl) ?_
          refine ck_SI (st := [.int x4, .ref a1]) (rest := [.ref a1]) (As := [.int x4]) ⟨hx, hb, hml, hown, hts⟩ E0_ok (c_X5_n l D cI cC cK cO  x4 _ rfl) (va_cwS 1 hts gX5_holesOf_X5_n rfl rfl rfl hs_X5_n ⟨Nat.le_of_ble_eq_true rfl, Nat.le_of_ble_eq_true rfl⟩) hK hP hD hS hA hE rfl hl.1 rfl (Nat.le_of_ble_eq_true rfl) dX5_holesOf_35 ⟨Nat.zero_le _, Nat.zero_le _⟩ (fun r H locs hw hP hS => ?_)
          cases hw
          refine lv_iconst (v := 1) hx hb dX5_holesOf_38 (by decide) ?_
          refine lv_iadd hx hb dX5_holesOf_39 ?_
          obtain ⟨q8, hf⟩ := op_x hf
          refine ck_iald (j := ((f_X5_n x4) + 1).toNatClampNeg) hx hb hK hP 1 0 rfl rfl q8 rfl dX5_holesOf_40 ?_
          refine lv_iload_n hx hb dX5_holesOf_41 rfl (lv_at hl 1 rfl) ?_
          refine lv_icmp_ne (tgt := 49) hx hb dX5_holesOf_42 (by decide) (fun c9 => ?_) (fun c9 => ?_)
          · replace hf := op_f c9 hf
            refine lv_iconst (v := 0) hx hb dX5_holesOf_49 (by decide) ?_
            refine lv_istore (lv' := [(5, .int 0), (0, .ref h), (1, .int x1), (2, .int x2), (3, .int x3), (4, .int x4)]) hx hb dX5_holesOf_50 hl (by decide) rfl (fun ls hl => ?_)
            refine lv_iload_n hx hb dX5_holesOf_52 rfl (lv_at hl 4 rfl) ?_
            refine lv_iload hx hb dX5_holesOf_53 (lv_at hl 0 rfl) ?_
            refine lv_if_eq (tgt := 82) hx hb dX5_holesOf_55 (by decide) (fun _ => ?_) (fun c9 => absurd c9 (by decide))
            refine lv_iconst (v := 0) hx hb dX5_holesOf_82 (by decide) ?_
            refine lv_iadd hx hb dX5_holesOf_83 ?_
            refine lv_istore_n (lv' := [(3, .int (x3 + 0)), (5, .int 0), (0, .ref h), (1, .int x1), (2, .int x2), (4, .int x4)]) hx hb dX5_holesOf_84 rfl hl (by decide) rfl (fun ls hl => ?_)
            refine lv_iinc (v := (x4 + 1)) (lv' := [(4, .int (x4 + 1)), (3, .int (x3 + 0)), (5, .int 0), (0, .ref h), (1, .int x1), (2, .int x2)]) hx hb dX5_holesOf_85 hl (k := 5) rfl rfl (by decide) rfl (fun ls hl => ?_)
            refine lv_goto (tgt := 5) hx hb dX5_holesOf_88 (by decide) ?_
            exact ih  x1 x2 (x3 + 0) (x4 + 1) hf _ _ _ hP hD hS (lv_sub hl [3, 4, 5, 1, 0] rfl)
          · replace hf := op_t c9 hf
            refine lv_iconst (v := 1) hx hb dX5_holesOf_45 (by decide) ?_
            refine lv_goto (tgt := 50) hx hb dX5_holesOf_46 (by decide) ?_
            refine lv_istore (lv' := [(5, .int 1), (0, .ref h), (1, .int x1), (2, .int x2), (3, .int x3), (4, .int x4)]) hx hb dX5_holesOf_50 hl (by decide) rfl (fun ls hl => ?_)
            refine lv_iload_n hx hb dX5_holesOf_52 rfl (lv_at hl 4 rfl) ?_
            refine lv_iload hx hb dX5_holesOf_53 (lv_at hl 0 rfl) ?_
            refine lv_if_eq (tgt := 82) hx hb dX5_holesOf_55 (by decide) (fun c9 => absurd c9 (by decide)) (fun _ => ?_)
            refine lv_iload_n hx hb dX5_holesOf_58 rfl (lv_at hl 3 rfl) ?_
            refine lv_if_lt (tgt := 78) hx hb dX5_holesOf_59 (by decide) (fun c10 => ?_) (fun c10 => ?_)
            · replace hf := op_t c10 hf
              refine lv_iconst (v := 1) hx hb dX5_holesOf_78 (by decide) ?_
              refine lv_goto (tgt := 83) hx hb dX5_holesOf_79 (by decide) ?_
              refine lv_iadd hx hb dX5_holesOf_83 ?_
              refine lv_istore_n (lv' := [(3, .int (x3 + 1)), (5, .int 1), (0, .ref h), (1, .int x1), (2, .int x2), (4, .int x4)]) hx hb dX5_holesOf_84 rfl hl (by decide) rfl (fun ls hl => ?_)
              refine lv_iinc (v := (x4 + 1)) (lv' := [(4, .int (x4 + 1)), (3, .int (x3 + 1)), (5, .int 1), (0, .ref h), (1, .int x1), (2, .int x2)]) hx hb dX5_holesOf_85 hl (k := 5) rfl rfl (by decide) rfl (fun ls hl => ?_)
              refine lv_goto (tgt := 5) hx hb dX5_holesOf_88 (by decide) ?_
              exact ih  x1 x2 (x3 + 1) (x4 + 1) hf _ _ _ hP hD hS (lv_sub hl [3, 4, 5, 1, 0] rfl)
            · replace hf := op_f c10 hf
              refine lv_aload_n hx hb dX5_holesOf_62 rfl (lv_at hl 1 rfl) ?_
              refine va_get (D := D) (ci := 5) (v := .ref a1) (C := RX5) (T := TX5) (N := 11) hx hb hts iX5 hown hK hP 0 rfl rfl 0 (by decide) w7 (fun _ h9 => h9) rfl dX5_holesOf_63 ?_
              refine lv_iload hx hb dX5_holesOf_66 (lv_at hl 5 rfl) ?_
              refine ck_SI (st := [.int x4, .ref a1, .int x3]) (rest := [.ref a1, .int x3]) (As := [.int x4]) ⟨hx, hb, hml, hown, hts⟩ E0_ok (c_X5_n l D cI cC cK cO  x4 _ rfl) (va_cwS 1 hts gX5_holesOf_X5_n rfl rfl rfl hs_X5_n ⟨Nat.le_of_ble_eq_true rfl, Nat.le_of_ble_eq_true rfl⟩) hK hP hD hS hA hE rfl hl.1 rfl (Nat.le_of_ble_eq_true rfl) dX5_holesOf_68 ⟨Nat.zero_le _, Nat.zero_le _⟩ (fun r H locs hw hP hS => ?_)
              cases hw
              refine lv_iconst (v := 4) hx hb dX5_holesOf_71 (by decide) ?_
              refine lv_iadd hx hb dX5_holesOf_72 ?_
              obtain ⟨q13, hf⟩ := op_x hf
              refine ck_iald (j := ((f_X5_n x4) + 4).toNatClampNeg) hx hb hK hP 1 0 rfl rfl q13 rfl dX5_holesOf_73 ?_
              refine lv_iload_n hx hb dX5_holesOf_74 rfl (lv_at hl 3 rfl) ?_
              refine lv_icmp_ne (tgt := 82) hx hb dX5_holesOf_75 (by decide) (fun c14 => ?_) (fun c14 => ?_)
              · replace hf := op_f c14 hf
                refine lv_iconst (v := 0) hx hb dX5_holesOf_82 (by decide) ?_
                refine lv_iadd hx hb dX5_holesOf_83 ?_
                refine lv_istore_n (lv' := [(3, .int (x3 + 0)), (5, .int 1), (0, .ref h), (1, .int x1), (2, .int x2), (4, .int x4)]) hx hb dX5_holesOf_84 rfl hl (by decide) rfl (fun ls hl => ?_)
                refine lv_iinc (v := (x4 + 1)) (lv' := [(4, .int (x4 + 1)), (3, .int (x3 + 0)), (5, .int 1), (0, .ref h), (1, .int x1), (2, .int x2)]) hx hb dX5_holesOf_85 hl (k := 5) rfl rfl (by decide) rfl (fun ls hl => ?_)
                refine lv_goto (tgt := 5) hx hb dX5_holesOf_88 (by decide) ?_
                exact ih  x1 x2 (x3 + 0) (x4 + 1) hf _ _ _ hP hD hS (lv_sub hl [3, 4, 5, 1, 0] rfl)
              · replace hf := op_t c14 hf
                refine lv_iconst (v := 1) hx hb dX5_holesOf_78 (by decide) ?_
                refine lv_goto (tgt := 83) hx hb dX5_holesOf_79 (by decide) ?_
                refine lv_iadd hx hb dX5_holesOf_83 ?_
                refine lv_istore_n (lv' := [(3, .int (x3 + 1)), (5, .int 1), (0, .ref h), (1, .int x1), (2, .int x2), (4, .int x4)]) hx hb dX5_holesOf_84 rfl hl (by decide) rfl (fun ls hl => ?_)
                refine lv_iinc (v := (x4 + 1)) (lv' := [(4, .int (x4 + 1)), (3, .int (x3 + 1)), (5, .int 1), (0, .ref h), (1, .int x1), (2, .int x2)]) hx hb dX5_holesOf_85 hl (k := 5) rfl rfl (by decide) rfl (fun ls hl => ?_)
                refine lv_goto (tgt := 5) hx hb dX5_holesOf_88 (by decide) ?_
                exact ih  x1 x2 (x3 + 1) (x4 + 1) hf _ _ _ hP hD hS (lv_sub hl [3, 4, 5, 1, 0] rfl)
  rw [f_X5_holesOf] at hf
  refine lv_iconst (v := 0) hx hb dX5_holesOf_0 (by decide) ?_
  refine lv_istore_n (lv' := [(3, .int 0), (0, .ref h), (1, .int x1), (2, .int x2)]) hx hb dX5_holesOf_1 rfl hl (by decide) rfl (fun ls hl => ?_)
  refine lv_iconst (v := 1) hx hb dX5_holesOf_2 (by decide) ?_
  refine lv_istore (lv' := [(4, .int 1), (3, .int 0), (0, .ref h), (1, .int x1), (2, .int x2)]) hx hb dX5_holesOf_3 hl (by decide) rfl (fun ls hl => ?_)
  exact L_5 K  x1 x2 0 1 hf _ _ _ hP hD hS (lv_sub hl [2, 3, 4, 1, 0] rfl)
set_option maxHeartbeats 4000000 in
set_option maxRecDepth 100000 in
theorem c_X5_clerkOf (l : Launch) (D : va_G) (cI cC cK cO : ClassId) (h : Nat) (a1 : Nat) (a2 : Nat) (a3 : Nat) (a4 : Nat) (zs : Nat → Int32) (zb : Nat → Int32) (za : Nat → Int32) (zt : Nat → Int32) (zl : Int32) (zu : Int32) (zp : Int32) (zw : Int32) (zf : Int32) (zg : Int32) (zc : Int32) (x1 : Int32) (x2 : Int32) (K : Nat) (R : Int32) (hf : f_X5_clerkOf K zs x1 x2 = some R) : KI l D (TY cI cC cK cO) E0 yX5_clerkOf wsX5_clerkOf 2 [.ref h, .int x1, .int x2] (wM cI h a1 a2 a3 a4 zs zb za zt zl zu zp zw zf zg zc) (fun (r : Int32) (u : Unit) => r = R) (fun u => (wM cI h a1 a2 a3 a4 zs zb za zt zl zu zp zw zf zg zc)) := by
  refine KI.ofI (cc := cX5_clerkOf) (maxL := 4) (C := RX5) (by decide) rfl rfl (Nat.le_of_ble_eq_true rfl) ?_
  intro p e s m args below meth c A Q hx hb hml hts hown hP hK hD hA hE hS hret ls hl
  replace hl : lv_has ls 4 [(0, .ref h), (1, .int x1), (2, .int x2)] := hl
  have w7 := hts (.fieldLink RX5 7 "BlockClerksModel" "s" "[I") (by decide +kernel)
  have iX5 : ∀ w ∈ wsX50, w ∈ wsX5_clerkOf := by decide +kernel
  rw [f_X5_clerkOf] at hf
  refine lv_aload_n hx hb dX5_clerkOf_0 rfl (lv_at hl 0 rfl) ?_
  refine lv_iload_n hx hb dX5_clerkOf_1 rfl (lv_at hl 1 rfl) ?_
  refine ck_VI (st := [.int x1, .ref h]) (rest := []) (As := [.int x1]) (C := RX5) (ci := 5) ⟨hx, hb, hml, hown, hts⟩ E0_ok (c_X5_isClerk l D cI cC cK cO h a1 a2 a3 a4 zs zb za zt zl zu zp zw zf zg zc x1 _ rfl) (cwV 1 hts gX5_clerkOf_X5_isClerk rfl rfl rfl hv_X5_isClerk ⟨Nat.le_of_ble_eq_true rfl, Nat.le_of_ble_eq_true rfl⟩) hK hP hD hS hA hE [0, 1, 2, 3, 4] rfl rfl rfl rfl rfl (fun _ => rfl) rfl hl.1 rfl (Nat.le_of_ble_eq_true rfl) dX5_clerkOf_2 ⟨Nat.zero_le _, Nat.zero_le _⟩ (fun r u H locs hw hP hD hS => ?_)
  obtain ⟨hw, z2⟩ := hw
  cases hw
  replace hP : va_P D vwCl (wM cI h a1 a2 a3 a4 zs zb za zt zl zu zp zw zf zg zc) H := hP
  replace hD : va_D A (wM cI h a1 a2 a3 a4 zs zb za zt zl zu zp zw zf zg zc) := hD
  refine lv_if_eq (tgt := 18) hx hb dX5_clerkOf_5 (by decide) (fun c3 => ?_) (fun c3 => ?_)
  · replace hf := op_t c3 hf
    refine lv_iconst (v := (-1)) hx hb dX5_clerkOf_18 (by decide) ?_
    exact hret _ _ _ _ _ () dX5_clerkOf_19 (op_k hf) hP hS
  · replace hf := op_f c3 hf
    refine lv_iload_n hx hb dX5_clerkOf_8 rfl (lv_at hl 2 rfl) ?_
    refine lv_iconst (v := 0) hx hb dX5_clerkOf_9 (by decide) ?_
    refine lv_bipush (v := 9) hx hb dX5_clerkOf_10 (by decide) ?_
    refine ck_SI (st := [.int 9, .int 0, .int x2]) (rest := []) (As := [.int x2, .int 0, .int 9]) ⟨hx, hb, hml, hown, hts⟩ E0_ok (c_X5_in l D cI cC cK cO  x2 0 9 _ rfl) (va_cwS 3 hts gX5_clerkOf_X5_in rfl rfl rfl hs_X5_in ⟨Nat.le_of_ble_eq_true rfl, Nat.le_of_ble_eq_true rfl⟩) hK hP hD hS hA hE rfl hl.1 rfl (Nat.le_of_ble_eq_true rfl) dX5_clerkOf_12 ⟨Nat.zero_le _, Nat.zero_le _⟩ (fun r H locs hw hP hS => ?_)
    obtain ⟨hw, z5⟩ := hw
    cases hw
    refine lv_if_ne (tgt := 20) hx hb dX5_clerkOf_15 (by decide) (fun c6 => ?_) (fun c6 => ?_)
    · replace hf := op_f c6 hf
      refine lv_iload_n hx hb dX5_clerkOf_20 rfl (lv_at hl 1 rfl) ?_
      refine ck_SI (st := [.int x1]) (rest := []) (As := [.int x1]) ⟨hx, hb, hml, hown, hts⟩ E0_ok (c_X5_c l D cI cC cK cO  x1 _ rfl) (va_cwS 1 hts gX5_clerkOf_X5_c rfl rfl rfl hs_X5_c ⟨Nat.le_of_ble_eq_true rfl, Nat.le_of_ble_eq_true rfl⟩) hK hP hD hS hA hE rfl hl.1 rfl (Nat.le_of_ble_eq_true rfl) dX5_clerkOf_21 ⟨Nat.zero_le _, Nat.zero_le _⟩ (fun r H locs hw hP hS => ?_)
      cases hw
      refine lv_istore_n (lv' := [(3, .int (f_X5_c x1)), (0, .ref h), (1, .int x1), (2, .int x2)]) hx hb dX5_clerkOf_24 rfl hl (by decide) rfl (fun ls hl => ?_)
      refine lv_iload_n hx hb dX5_clerkOf_25 rfl (lv_at hl 3 rfl) ?_
      refine lv_iconst (v := 1) hx hb dX5_clerkOf_26 (by decide) ?_
      refine lv_icmp_le (tgt := 46) hx hb dX5_clerkOf_27 (by decide) (fun c9 => ?_) (fun c9 => ?_)
      · replace hf := op_t c9 hf
        refine lv_iload_n hx hb dX5_clerkOf_46 rfl (lv_at hl 3 rfl) ?_
        by_cases c10 : x2 = 0
        · replace hf := op_t c10 hf
          refine sw_in (v := 0) (tgt := 96) hx hb dX5_clerkOf_47 c10 (by decide) (by decide) rfl (by decide) ?_
          refine lv_aload_n hx hb dX5_clerkOf_96 rfl (lv_at hl 1 rfl) ?_
          refine va_get (D := D) (ci := 5) (v := .ref a1) (C := RX5) (T := TX5) (N := 11) hx hb hts iX5 hown hK hP 0 rfl rfl 0 (by decide) w7 (fun _ h9 => h9) rfl dX5_clerkOf_97 ?_
          refine lv_iload_n hx hb dX5_clerkOf_100 rfl (lv_at hl 0 rfl) ?_
          refine lv_iconst (v := 0) hx hb dX5_clerkOf_101 (by decide) ?_
          refine lv_iadd hx hb dX5_clerkOf_102 ?_
          obtain ⟨q11, hf⟩ := op_x hf
          refine ck_iald (j := ((f_X5_c x1) + 0).toNatClampNeg) hx hb hK hP 1 0 rfl rfl q11 rfl dX5_clerkOf_103 ?_
          exact hret _ _ _ _ _ () dX5_clerkOf_104 (op_k hf) hP hS
        replace hf := op_f c10 hf
        by_cases c12 : x2 = 1
        · replace hf := op_t c12 hf
          refine sw_in (v := 1) (tgt := 105) hx hb dX5_clerkOf_47 c12 (by decide) (by decide) rfl (by decide) ?_
          refine lv_aload_n hx hb dX5_clerkOf_105 rfl (lv_at hl 1 rfl) ?_
          refine lv_iload_n hx hb dX5_clerkOf_106 rfl (lv_at hl 2 rfl) ?_
          obtain ⟨r13, h14, hf⟩ := op_b hf
          refine ck_VI (st := [.int x1, .ref h]) (rest := []) (As := [.int x1]) (C := RX5) (ci := 5) ⟨hx, hb, hml, hown, hts⟩ E0_ok (c_X5_holds l D cI cC cK cO h a1 a2 a3 a4 zs zb za zt zl zu zp zw zf zg zc x1 _ h14) (cwV 1 hts gX5_clerkOf_X5_holds rfl rfl rfl hv_X5_holds ⟨Nat.le_of_ble_eq_true rfl, Nat.le_of_ble_eq_true rfl⟩) hK hP hD hS hA hE [0, 1, 2, 3, 4] rfl rfl rfl rfl rfl (fun _ => rfl) rfl hl.1 rfl (Nat.le_of_ble_eq_true rfl) dX5_clerkOf_107 ⟨Nat.zero_le _, Nat.zero_le _⟩ (fun r u H locs hw hP hD hS => ?_)
          cases hw
          replace hP : va_P D vwCl (wM cI h a1 a2 a3 a4 zs zb za zt zl zu zp zw zf zg zc) H := hP
          replace hD : va_D A (wM cI h a1 a2 a3 a4 zs zb za zt zl zu zp zw zf zg zc) := hD
          exact hret _ _ _ _ _ () dX5_clerkOf_110 (op_k hf) hP hS
        replace hf := op_f c12 hf
        by_cases c16 : x2 = 2
        · replace hf := op_t c16 hf
          refine sw_in (v := 2) (tgt := 111) hx hb dX5_clerkOf_47 c16 (by decide) (by decide) rfl (by decide) ?_
          refine lv_aload_n hx hb dX5_clerkOf_111 rfl (lv_at hl 1 rfl) ?_
          refine va_get (D := D) (ci := 5) (v := .ref a1) (C := RX5) (T := TX5) (N := 11) hx hb hts iX5 hown hK hP 0 rfl rfl 0 (by decide) w7 (fun _ h9 => h9) rfl dX5_clerkOf_112 ?_
          refine lv_iload_n hx hb dX5_clerkOf_115 rfl (lv_at hl 0 rfl) ?_
          refine lv_iconst (v := 1) hx hb dX5_clerkOf_116 (by decide) ?_
          refine lv_iadd hx hb dX5_clerkOf_117 ?_
          obtain ⟨q17, hf⟩ := op_x hf
          refine ck_iald (j := ((f_X5_c x1) + 1).toNatClampNeg) hx hb hK hP 1 0 rfl rfl q17 rfl dX5_clerkOf_118 ?_
          exact hret _ _ _ _ _ () dX5_clerkOf_119 (op_k hf) hP hS
        replace hf := op_f c16 hf
        by_cases c18 : x2 = 3
        · replace hf := op_t c18 hf
          refine sw_in (v := 3) (tgt := 120) hx hb dX5_clerkOf_47 c18 (by decide) (by decide) rfl (by decide) ?_
          refine lv_aload_n hx hb dX5_clerkOf_120 rfl (lv_at hl 1 rfl) ?_
          refine va_get (D := D) (ci := 5) (v := .ref a1) (C := RX5) (T := TX5) (N := 11) hx hb hts iX5 hown hK hP 0 rfl rfl 0 (by decide) w7 (fun _ h9 => h9) rfl dX5_clerkOf_121 ?_
          refine lv_iload_n hx hb dX5_clerkOf_124 rfl (lv_at hl 0 rfl) ?_
          refine lv_iconst (v := 2) hx hb dX5_clerkOf_125 (by decide) ?_
          refine lv_iadd hx hb dX5_clerkOf_126 ?_
          obtain ⟨q19, hf⟩ := op_x hf
          refine ck_iald (j := ((f_X5_c x1) + 2).toNatClampNeg) hx hb hK hP 1 0 rfl rfl q19 rfl dX5_clerkOf_127 ?_
          exact hret _ _ _ _ _ () dX5_clerkOf_128 (op_k hf) hP hS
        replace hf := op_f c18 hf
        by_cases c20 : x2 = 4
        · replace hf := op_t c20 hf
          refine sw_in (v := 4) (tgt := 129) hx hb dX5_clerkOf_47 c20 (by decide) (by decide) rfl (by decide) ?_
          refine lv_aload_n hx hb dX5_clerkOf_129 rfl (lv_at hl 1 rfl) ?_
          refine va_get (D := D) (ci := 5) (v := .ref a1) (C := RX5) (T := TX5) (N := 11) hx hb hts iX5 hown hK hP 0 rfl rfl 0 (by decide) w7 (fun _ h9 => h9) rfl dX5_clerkOf_130 ?_
          refine lv_iload_n hx hb dX5_clerkOf_133 rfl (lv_at hl 0 rfl) ?_
          refine lv_iconst (v := 3) hx hb dX5_clerkOf_134 (by decide) ?_
          refine lv_iadd hx hb dX5_clerkOf_135 ?_
          obtain ⟨q21, hf⟩ := op_x hf
          refine ck_iald (j := ((f_X5_c x1) + 3).toNatClampNeg) hx hb hK hP 1 0 rfl rfl q21 rfl dX5_clerkOf_136 ?_
          exact hret _ _ _ _ _ () dX5_clerkOf_137 (op_k hf) hP hS
        replace hf := op_f c20 hf
        by_cases c22 : x2 = 5
        · replace hf := op_t c22 hf
          refine sw_in (v := 5) (tgt := 138) hx hb dX5_clerkOf_47 c22 (by decide) (by decide) rfl (by decide) ?_
          refine lv_aload_n hx hb dX5_clerkOf_138 rfl (lv_at hl 1 rfl) ?_
          refine va_get (D := D) (ci := 5) (v := .ref a1) (C := RX5) (T := TX5) (N := 11) hx hb hts iX5 hown hK hP 0 rfl rfl 0 (by decide) w7 (fun _ h9 => h9) rfl dX5_clerkOf_139 ?_
          refine lv_iload_n hx hb dX5_clerkOf_142 rfl (lv_at hl 0 rfl) ?_
          refine lv_iconst (v := 4) hx hb dX5_clerkOf_143 (by decide) ?_
          refine lv_iadd hx hb dX5_clerkOf_144 ?_
          obtain ⟨q23, hf⟩ := op_x hf
          refine ck_iald (j := ((f_X5_c x1) + 4).toNatClampNeg) hx hb hK hP 1 0 rfl rfl q23 rfl dX5_clerkOf_145 ?_
          exact hret _ _ _ _ _ () dX5_clerkOf_146 (op_k hf) hP hS
        replace hf := op_f c22 hf
        by_cases c24 : x2 = 6
        · replace hf := op_t c24 hf
          refine sw_in (v := 6) (tgt := 147) hx hb dX5_clerkOf_47 c24 (by decide) (by decide) rfl (by decide) ?_
          refine lv_aload_n hx hb dX5_clerkOf_147 rfl (lv_at hl 1 rfl) ?_
          refine lv_iload_n hx hb dX5_clerkOf_148 rfl (lv_at hl 2 rfl) ?_
          refine lv_iconst (v := (-1)) hx hb dX5_clerkOf_149 (by decide) ?_
          obtain ⟨r25, h26, hf⟩ := op_b hf
          refine ck_VI (st := [.int (-1), .int x1, .ref h]) (rest := []) (As := [.int x1, .int (-1)]) (C := RX5) (ci := 5) ⟨hx, hb, hml, hown, hts⟩ E0_ok (c_X5_holesOf l D cI cC cK cO h a1 a2 a3 a4 zs zb za zt zl zu zp zw zf zg zc x1 (-1) K _ h26) (cwV 2 hts gX5_clerkOf_X5_holesOf rfl rfl rfl hv_X5_holesOf ⟨Nat.le_of_ble_eq_true rfl, Nat.le_of_ble_eq_true rfl⟩) hK hP hD hS hA hE [0, 1, 2, 3, 4] rfl rfl rfl rfl rfl (fun _ => rfl) rfl hl.1 rfl (Nat.le_of_ble_eq_true rfl) dX5_clerkOf_150 ⟨Nat.zero_le _, Nat.zero_le _⟩ (fun r u H locs hw hP hD hS => ?_)
          cases hw
          replace hP : va_P D vwCl (wM cI h a1 a2 a3 a4 zs zb za zt zl zu zp zw zf zg zc) H := hP
          replace hD : va_D A (wM cI h a1 a2 a3 a4 zs zb za zt zl zu zp zw zf zg zc) := hD
          exact hret _ _ _ _ _ () dX5_clerkOf_153 (op_k hf) hP hS
        replace hf := op_f c24 hf
        by_cases c28 : x2 = 7
        · replace hf := op_t c28 hf
          refine sw_in (v := 7) (tgt := 154) hx hb dX5_clerkOf_47 c28 (by decide) (by decide) rfl (by decide) ?_
          refine lv_aload_n hx hb dX5_clerkOf_154 rfl (lv_at hl 1 rfl) ?_
          refine lv_iload_n hx hb dX5_clerkOf_155 rfl (lv_at hl 2 rfl) ?_
          refine lv_iconst (v := 0) hx hb dX5_clerkOf_156 (by decide) ?_
          obtain ⟨r29, h30, hf⟩ := op_b hf
          refine ck_VI (st := [.int 0, .int x1, .ref h]) (rest := []) (As := [.int x1, .int 0]) (C := RX5) (ci := 5) ⟨hx, hb, hml, hown, hts⟩ E0_ok (c_X5_holesOf l D cI cC cK cO h a1 a2 a3 a4 zs zb za zt zl zu zp zw zf zg zc x1 0 K _ h30) (cwV 2 hts gX5_clerkOf_X5_holesOf rfl rfl rfl hv_X5_holesOf ⟨Nat.le_of_ble_eq_true rfl, Nat.le_of_ble_eq_true rfl⟩) hK hP hD hS hA hE [0, 1, 2, 3, 4] rfl rfl rfl rfl rfl (fun _ => rfl) rfl hl.1 rfl (Nat.le_of_ble_eq_true rfl) dX5_clerkOf_157 ⟨Nat.zero_le _, Nat.zero_le _⟩ (fun r u H locs hw hP hD hS => ?_)
          cases hw
          replace hP : va_P D vwCl (wM cI h a1 a2 a3 a4 zs zb za zt zl zu zp zw zf zg zc) H := hP
          replace hD : va_D A (wM cI h a1 a2 a3 a4 zs zb za zt zl zu zp zw zf zg zc) := hD
          exact hret _ _ _ _ _ () dX5_clerkOf_160 (op_k hf) hP hS
        replace hf := op_f c28 hf
        by_cases c32 : x2 = 8
        · replace hf := op_t c32 hf
          refine sw_in (v := 8) (tgt := 161) hx hb dX5_clerkOf_47 c32 (by decide) (by decide) rfl (by decide) ?_
          refine lv_aload_n hx hb dX5_clerkOf_161 rfl (lv_at hl 1 rfl) ?_
          refine va_get (D := D) (ci := 5) (v := .ref a1) (C := RX5) (T := TX5) (N := 11) hx hb hts iX5 hown hK hP 0 rfl rfl 0 (by decide) w7 (fun _ h9 => h9) rfl dX5_clerkOf_162 ?_
          refine lv_iload_n hx hb dX5_clerkOf_165 rfl (lv_at hl 0 rfl) ?_
          refine lv_iconst (v := 5) hx hb dX5_clerkOf_166 (by decide) ?_
          refine lv_iadd hx hb dX5_clerkOf_167 ?_
          obtain ⟨q33, hf⟩ := op_x hf
          refine ck_iald (j := ((f_X5_c x1) + 5).toNatClampNeg) hx hb hK hP 1 0 rfl rfl q33 rfl dX5_clerkOf_168 ?_
          exact hret _ _ _ _ _ () dX5_clerkOf_169 (op_k hf) hP hS
        replace hf := op_f c32 hf
        refine lv_tableOut (tgt := 170) hx hb dX5_clerkOf_47 (sw_o_0_9 c10 c12 c16 c18 c20 c22 c24 c28 c32) (by decide) ?_
        refine lv_aload_n hx hb dX5_clerkOf_170 rfl (lv_at hl 1 rfl) ?_
        refine va_get (D := D) (ci := 5) (v := .ref a1) (C := RX5) (T := TX5) (N := 11) hx hb hts iX5 hown hK hP 0 rfl rfl 0 (by decide) w7 (fun _ h9 => h9) rfl dX5_clerkOf_171 ?_
        refine lv_iload_n hx hb dX5_clerkOf_174 rfl (lv_at hl 0 rfl) ?_
        refine lv_iconst (v := 4) hx hb dX5_clerkOf_175 (by decide) ?_
        refine lv_iadd hx hb dX5_clerkOf_176 ?_
        obtain ⟨q34, hf⟩ := op_x hf
        refine ck_iald (j := ((f_X5_c x1) + 4).toNatClampNeg) hx hb hK hP 1 0 rfl rfl q34 rfl dX5_clerkOf_177 ?_
        refine lv_if_ne (tgt := 186) hx hb dX5_clerkOf_178 (by decide) (fun c35 => ?_) (fun c35 => ?_)
        · replace hf := op_f c35 hf
          refine lv_aload_n hx hb dX5_clerkOf_186 rfl (lv_at hl 1 rfl) ?_
          refine va_get (D := D) (ci := 5) (v := .ref a1) (C := RX5) (T := TX5) (N := 11) hx hb hts iX5 hown hK hP 0 rfl rfl 0 (by decide) w7 (fun _ h9 => h9) rfl dX5_clerkOf_187 ?_
          refine lv_iload_n hx hb dX5_clerkOf_190 rfl (lv_at hl 0 rfl) ?_
          refine lv_bipush (v := 6) hx hb dX5_clerkOf_191 (by decide) ?_
          refine lv_iadd hx hb dX5_clerkOf_193 ?_
          obtain ⟨q36, hf⟩ := op_x hf
          refine ck_iald (j := ((f_X5_c x1) + 6).toNatClampNeg) hx hb hK hP 1 0 rfl rfl q36 rfl dX5_clerkOf_194 ?_
          exact hret _ _ _ _ _ () dX5_clerkOf_195 (op_k hf) hP hS
        · replace hf := op_t c35 hf
          refine lv_bipush (v := (-4)) hx hb dX5_clerkOf_181 (by decide) ?_
          refine lv_goto (tgt := 195) hx hb dX5_clerkOf_183 (by decide) ?_
          exact hret _ _ _ _ _ () dX5_clerkOf_195 (op_k hf) hP hS
      · replace hf := op_f c9 hf
        refine lv_iload_n hx hb dX5_clerkOf_30 rfl (lv_at hl 3 rfl) ?_
        refine lv_iconst (v := 5) hx hb dX5_clerkOf_31 (by decide) ?_
        refine lv_icmp_ge (tgt := 46) hx hb dX5_clerkOf_32 (by decide) (fun c37 => ?_) (fun c37 => ?_)
        · replace hf := op_t c37 hf
          refine lv_iload_n hx hb dX5_clerkOf_46 rfl (lv_at hl 3 rfl) ?_
          by_cases c38 : x2 = 0
          · replace hf := op_t c38 hf
            refine sw_in (v := 0) (tgt := 96) hx hb dX5_clerkOf_47 c38 (by decide) (by decide) rfl (by decide) ?_
            refine lv_aload_n hx hb dX5_clerkOf_96 rfl (lv_at hl 1 rfl) ?_
            refine va_get (D := D) (ci := 5) (v := .ref a1) (C := RX5) (T := TX5) (N := 11) hx hb hts iX5 hown hK hP 0 rfl rfl 0 (by decide) w7 (fun _ h9 => h9) rfl dX5_clerkOf_97 ?_
            refine lv_iload_n hx hb dX5_clerkOf_100 rfl (lv_at hl 0 rfl) ?_
            refine lv_iconst (v := 0) hx hb dX5_clerkOf_101 (by decide) ?_
            refine lv_iadd hx hb dX5_clerkOf_102 ?_
            obtain ⟨q39, hf⟩ := op_x hf
            refine ck_iald (j := ((f_X5_c x1) + 0).toNatClampNeg) hx hb hK hP 1 0 rfl rfl q39 rfl dX5_clerkOf_103 ?_
            exact hret _ _ _ _ _ () dX5_clerkOf_104 (op_k hf) hP hS
          replace hf := op_f c38 hf
          by_cases c40 : x2 = 1
          · replace hf := op_t c40 hf
            refine sw_in (v := 1) (tgt := 105) hx hb dX5_clerkOf_47 c40 (by decide) (by decide) rfl (by decide) ?_
            refine lv_aload_n hx hb dX5_clerkOf_105 rfl (lv_at hl 1 rfl) ?_
            refine lv_iload_n hx hb dX5_clerkOf_106 rfl (lv_at hl 2 rfl) ?_
            obtain ⟨r41, h42, hf⟩ := op_b hf
            refine ck_VI (st := [.int x1, .ref h]) (rest := []) (As := [.int x1]) (C := RX5) (ci := 5) ⟨hx, hb, hml, hown, hts⟩ E0_ok (c_X5_holds l D cI cC cK cO h a1 a2 a3 a4 zs zb za zt zl zu zp zw zf zg zc x1 _ h42) (cwV 1 hts gX5_clerkOf_X5_holds rfl rfl rfl hv_X5_holds ⟨Nat.le_of_ble_eq_true rfl, Nat.le_of_ble_eq_true rfl⟩) hK hP hD hS hA hE [0, 1, 2, 3, 4] rfl rfl rfl rfl rfl (fun _ => rfl) rfl hl.1 rfl (Nat.le_of_ble_eq_true rfl) dX5_clerkOf_107 ⟨Nat.zero_le _, Nat.zero_le _⟩ (fun r u H locs hw hP hD hS => ?_)
            cases hw
            replace hP : va_P D vwCl (wM cI h a1 a2 a3 a4 zs zb za zt zl zu zp zw zf zg zc) H := hP
            replace hD : va_D A (wM cI h a1 a2 a3 a4 zs zb za zt zl zu zp zw zf zg zc) := hD
            exact hret _ _ _ _ _ () dX5_clerkOf_110 (op_k hf) hP hS
          replace hf := op_f c40 hf
          by_cases c44 : x2 = 2
          · replace hf := op_t c44 hf
            refine sw_in (v := 2) (tgt := 111) hx hb dX5_clerkOf_47 c44 (by decide) (by decide) rfl (by decide) ?_
            refine lv_aload_n hx hb dX5_clerkOf_111 rfl (lv_at hl 1 rfl) ?_
            refine va_get (D := D) (ci := 5) (v := .ref a1) (C := RX5) (T := TX5) (N := 11) hx hb hts iX5 hown hK hP 0 rfl rfl 0 (by decide) w7 (fun _ h9 => h9) rfl dX5_clerkOf_112 ?_
            refine lv_iload_n hx hb dX5_clerkOf_115 rfl (lv_at hl 0 rfl) ?_
            refine lv_iconst (v := 1) hx hb dX5_clerkOf_116 (by decide) ?_
            refine lv_iadd hx hb dX5_clerkOf_117 ?_
            obtain ⟨q45, hf⟩ := op_x hf
            refine ck_iald (j := ((f_X5_c x1) + 1).toNatClampNeg) hx hb hK hP 1 0 rfl rfl q45 rfl dX5_clerkOf_118 ?_
            exact hret _ _ _ _ _ () dX5_clerkOf_119 (op_k hf) hP hS
          replace hf := op_f c44 hf
          by_cases c46 : x2 = 3
          · replace hf := op_t c46 hf
            refine sw_in (v := 3) (tgt := 120) hx hb dX5_clerkOf_47 c46 (by decide) (by decide) rfl (by decide) ?_
            refine lv_aload_n hx hb dX5_clerkOf_120 rfl (lv_at hl 1 rfl) ?_
            refine va_get (D := D) (ci := 5) (v := .ref a1) (C := RX5) (T := TX5) (N := 11) hx hb hts iX5 hown hK hP 0 rfl rfl 0 (by decide) w7 (fun _ h9 => h9) rfl dX5_clerkOf_121 ?_
            refine lv_iload_n hx hb dX5_clerkOf_124 rfl (lv_at hl 0 rfl) ?_
            refine lv_iconst (v := 2) hx hb dX5_clerkOf_125 (by decide) ?_
            refine lv_iadd hx hb dX5_clerkOf_126 ?_
            obtain ⟨q47, hf⟩ := op_x hf
            refine ck_iald (j := ((f_X5_c x1) + 2).toNatClampNeg) hx hb hK hP 1 0 rfl rfl q47 rfl dX5_clerkOf_127 ?_
            exact hret _ _ _ _ _ () dX5_clerkOf_128 (op_k hf) hP hS
          replace hf := op_f c46 hf
          by_cases c48 : x2 = 4
          · replace hf := op_t c48 hf
            refine sw_in (v := 4) (tgt := 129) hx hb dX5_clerkOf_47 c48 (by decide) (by decide) rfl (by decide) ?_
            refine lv_aload_n hx hb dX5_clerkOf_129 rfl (lv_at hl 1 rfl) ?_
            refine va_get (D := D) (ci := 5) (v := .ref a1) (C := RX5) (T := TX5) (N := 11) hx hb hts iX5 hown hK hP 0 rfl rfl 0 (by decide) w7 (fun _ h9 => h9) rfl dX5_clerkOf_130 ?_
            refine lv_iload_n hx hb dX5_clerkOf_133 rfl (lv_at hl 0 rfl) ?_
            refine lv_iconst (v := 3) hx hb dX5_clerkOf_134 (by decide) ?_
            refine lv_iadd hx hb dX5_clerkOf_135 ?_
            obtain ⟨q49, hf⟩ := op_x hf
            refine ck_iald (j := ((f_X5_c x1) + 3).toNatClampNeg) hx hb hK hP 1 0 rfl rfl q49 rfl dX5_clerkOf_136 ?_
            exact hret _ _ _ _ _ () dX5_clerkOf_137 (op_k hf) hP hS
          replace hf := op_f c48 hf
          by_cases c50 : x2 = 5
          · replace hf := op_t c50 hf
            refine sw_in (v := 5) (tgt := 138) hx hb dX5_clerkOf_47 c50 (by decide) (by decide) rfl (by decide) ?_
            refine lv_aload_n hx hb dX5_clerkOf_138 rfl (lv_at hl 1 rfl) ?_
            refine va_get (D := D) (ci := 5) (v := .ref a1) (C := RX5) (T := TX5) (N := 11) hx hb hts iX5 hown hK hP 0 rfl rfl 0 (by decide) w7 (fun _ h9 => h9) rfl dX5_clerkOf_139 ?_
            refine lv_iload_n hx hb dX5_clerkOf_142 rfl (lv_at hl 0 rfl) ?_
            refine lv_iconst (v := 4) hx hb dX5_clerkOf_143 (by decide) ?_
            refine lv_iadd hx hb dX5_clerkOf_144 ?_
            obtain ⟨q51, hf⟩ := op_x hf
            refine ck_iald (j := ((f_X5_c x1) + 4).toNatClampNeg) hx hb hK hP 1 0 rfl rfl q51 rfl dX5_clerkOf_145 ?_
            exact hret _ _ _ _ _ () dX5_clerkOf_146 (op_k hf) hP hS
          replace hf := op_f c50 hf
          by_cases c52 : x2 = 6
          · replace hf := op_t c52 hf
            refine sw_in (v := 6) (tgt := 147) hx hb dX5_clerkOf_47 c52 (by decide) (by decide) rfl (by decide) ?_
            refine lv_aload_n hx hb dX5_clerkOf_147 rfl (lv_at hl 1 rfl) ?_
            refine lv_iload_n hx hb dX5_clerkOf_148 rfl (lv_at hl 2 rfl) ?_
            refine lv_iconst (v := (-1)) hx hb dX5_clerkOf_149 (by decide) ?_
            obtain ⟨r53, h54, hf⟩ := op_b hf
            refine ck_VI (st := [.int (-1), .int x1, .ref h]) (rest := []) (As := [.int x1, .int (-1)]) (C := RX5) (ci := 5) ⟨hx, hb, hml, hown, hts⟩ E0_ok (c_X5_holesOf l D cI cC cK cO h a1 a2 a3 a4 zs zb za zt zl zu zp zw zf zg zc x1 (-1) K _ h54) (cwV 2 hts gX5_clerkOf_X5_holesOf rfl rfl rfl hv_X5_holesOf ⟨Nat.le_of_ble_eq_true rfl, Nat.le_of_ble_eq_true rfl⟩) hK hP hD hS hA hE [0, 1, 2, 3, 4] rfl rfl rfl rfl rfl (fun _ => rfl) rfl hl.1 rfl (Nat.le_of_ble_eq_true rfl) dX5_clerkOf_150 ⟨Nat.zero_le _, Nat.zero_le _⟩ (fun r u H locs hw hP hD hS => ?_)
            cases hw
            replace hP : va_P D vwCl (wM cI h a1 a2 a3 a4 zs zb za zt zl zu zp zw zf zg zc) H := hP
            replace hD : va_D A (wM cI h a1 a2 a3 a4 zs zb za zt zl zu zp zw zf zg zc) := hD
            exact hret _ _ _ _ _ () dX5_clerkOf_153 (op_k hf) hP hS
          replace hf := op_f c52 hf
          by_cases c56 : x2 = 7
          · replace hf := op_t c56 hf
            refine sw_in (v := 7) (tgt := 154) hx hb dX5_clerkOf_47 c56 (by decide) (by decide) rfl (by decide) ?_
            refine lv_aload_n hx hb dX5_clerkOf_154 rfl (lv_at hl 1 rfl) ?_
            refine lv_iload_n hx hb dX5_clerkOf_155 rfl (lv_at hl 2 rfl) ?_
            refine lv_iconst (v := 0) hx hb dX5_clerkOf_156 (by decide) ?_
            obtain ⟨r57, h58, hf⟩ := op_b hf
            refine ck_VI (st := [.int 0, .int x1, .ref h]) (rest := []) (As := [.int x1, .int 0]) (C := RX5) (ci := 5) ⟨hx, hb, hml, hown, hts⟩ E0_ok (c_X5_holesOf l D cI cC cK cO h a1 a2 a3 a4 zs zb za zt zl zu zp zw zf zg zc x1 0 K _ h58) (cwV 2 hts gX5_clerkOf_X5_holesOf rfl rfl rfl hv_X5_holesOf ⟨Nat.le_of_ble_eq_true rfl, Nat.le_of_ble_eq_true rfl⟩) hK hP hD hS hA hE [0, 1, 2, 3, 4] rfl rfl rfl rfl rfl (fun _ => rfl) rfl hl.1 rfl (Nat.le_of_ble_eq_true rfl) dX5_clerkOf_157 ⟨Nat.zero_le _, Nat.zero_le _⟩ (fun r u H locs hw hP hD hS => ?_)
            cases hw
            replace hP : va_P D vwCl (wM cI h a1 a2 a3 a4 zs zb za zt zl zu zp zw zf zg zc) H := hP
            replace hD : va_D A (wM cI h a1 a2 a3 a4 zs zb za zt zl zu zp zw zf zg zc) := hD
            exact hret _ _ _ _ _ () dX5_clerkOf_160 (op_k hf) hP hS
          replace hf := op_f c56 hf
          by_cases c60 : x2 = 8
          · replace hf := op_t c60 hf
            refine sw_in (v := 8) (tgt := 161) hx hb dX5_clerkOf_47 c60 (by decide) (by decide) rfl (by decide) ?_
            refine lv_aload_n hx hb dX5_clerkOf_161 rfl (lv_at hl 1 rfl) ?_
            refine va_get (D := D) (ci := 5) (v := .ref a1) (C := RX5) (T := TX5) (N := 11) hx hb hts iX5 hown hK hP 0 rfl rfl 0 (by decide) w7 (fun _ h9 => h9) rfl dX5_clerkOf_162 ?_
            refine lv_iload_n hx hb dX5_clerkOf_165 rfl (lv_at hl 0 rfl) ?_
            refine lv_iconst (v := 5) hx hb dX5_clerkOf_166 (by decide) ?_
            refine lv_iadd hx hb dX5_clerkOf_167 ?_
            obtain ⟨q61, hf⟩ := op_x hf
            refine ck_iald (j := ((f_X5_c x1) + 5).toNatClampNeg) hx hb hK hP 1 0 rfl rfl q61 rfl dX5_clerkOf_168 ?_
            exact hret _ _ _ _ _ () dX5_clerkOf_169 (op_k hf) hP hS
          replace hf := op_f c60 hf
          refine lv_tableOut (tgt := 170) hx hb dX5_clerkOf_47 (sw_o_0_9 c38 c40 c44 c46 c48 c50 c52 c56 c60) (by decide) ?_
          refine lv_aload_n hx hb dX5_clerkOf_170 rfl (lv_at hl 1 rfl) ?_
          refine va_get (D := D) (ci := 5) (v := .ref a1) (C := RX5) (T := TX5) (N := 11) hx hb hts iX5 hown hK hP 0 rfl rfl 0 (by decide) w7 (fun _ h9 => h9) rfl dX5_clerkOf_171 ?_
          refine lv_iload_n hx hb dX5_clerkOf_174 rfl (lv_at hl 0 rfl) ?_
          refine lv_iconst (v := 4) hx hb dX5_clerkOf_175 (by decide) ?_
          refine lv_iadd hx hb dX5_clerkOf_176 ?_
          obtain ⟨q62, hf⟩ := op_x hf
          refine ck_iald (j := ((f_X5_c x1) + 4).toNatClampNeg) hx hb hK hP 1 0 rfl rfl q62 rfl dX5_clerkOf_177 ?_
          refine lv_if_ne (tgt := 186) hx hb dX5_clerkOf_178 (by decide) (fun c63 => ?_) (fun c63 => ?_)
          · replace hf := op_f c63 hf
            refine lv_aload_n hx hb dX5_clerkOf_186 rfl (lv_at hl 1 rfl) ?_
            refine va_get (D := D) (ci := 5) (v := .ref a1) (C := RX5) (T := TX5) (N := 11) hx hb hts iX5 hown hK hP 0 rfl rfl 0 (by decide) w7 (fun _ h9 => h9) rfl dX5_clerkOf_187 ?_
            refine lv_iload_n hx hb dX5_clerkOf_190 rfl (lv_at hl 0 rfl) ?_
            refine lv_bipush (v := 6) hx hb dX5_clerkOf_191 (by decide) ?_
            refine lv_iadd hx hb dX5_clerkOf_193 ?_
            obtain ⟨q64, hf⟩ := op_x hf
            refine ck_iald (j := ((f_X5_c x1) + 6).toNatClampNeg) hx hb hK hP 1 0 rfl rfl q64 rfl dX5_clerkOf_194 ?_
            exact hret _ _ _ _ _ () dX5_clerkOf_195 (op_k hf) hP hS
          · replace hf := op_t c63 hf
            refine lv_bipush (v := (-4)) hx hb dX5_clerkOf_181 (by decide) ?_
            refine lv_goto (tgt := 195) hx hb dX5_clerkOf_183 (by decide) ?_
            exact hret _ _ _ _ _ () dX5_clerkOf_195 (op_k hf) hP hS
        · replace hf := op_f c37 hf
          refine lv_aload_n hx hb dX5_clerkOf_35 rfl (lv_at hl 1 rfl) ?_
          refine lv_iload_n hx hb dX5_clerkOf_36 rfl (lv_at hl 2 rfl) ?_
          obtain ⟨r65, h66, hf⟩ := op_b hf
          refine ck_VI (st := [.int x1, .ref h]) (rest := []) (As := [.int x1]) (C := RX5) (ci := 5) ⟨hx, hb, hml, hown, hts⟩ E0_ok (c_X5_holds l D cI cC cK cO h a1 a2 a3 a4 zs zb za zt zl zu zp zw zf zg zc x1 _ h66) (cwV 1 hts gX5_clerkOf_X5_holds rfl rfl rfl hv_X5_holds ⟨Nat.le_of_ble_eq_true rfl, Nat.le_of_ble_eq_true rfl⟩) hK hP hD hS hA hE [0, 1, 2, 3, 4] rfl rfl rfl rfl rfl (fun _ => rfl) rfl hl.1 rfl (Nat.le_of_ble_eq_true rfl) dX5_clerkOf_37 ⟨Nat.zero_le _, Nat.zero_le _⟩ (fun r u H locs hw hP hD hS => ?_)
          cases hw
          replace hP : va_P D vwCl (wM cI h a1 a2 a3 a4 zs zb za zt zl zu zp zw zf zg zc) H := hP
          replace hD : va_D A (wM cI h a1 a2 a3 a4 zs zb za zt zl zu zp zw zf zg zc) := hD
          refine lv_if_ne (tgt := 46) hx hb dX5_clerkOf_40 (by decide) (fun c68 => ?_) (fun c68 => ?_)
          · replace hf := op_f c68 hf
            refine lv_iload_n hx hb dX5_clerkOf_46 rfl (lv_at hl 3 rfl) ?_
            by_cases c69 : x2 = 0
            · replace hf := op_t c69 hf
              refine sw_in (v := 0) (tgt := 96) hx hb dX5_clerkOf_47 c69 (by decide) (by decide) rfl (by decide) ?_
              refine lv_aload_n hx hb dX5_clerkOf_96 rfl (lv_at hl 1 rfl) ?_
              refine va_get (D := D) (ci := 5) (v := .ref a1) (C := RX5) (T := TX5) (N := 11) hx hb hts iX5 hown hK hP 0 rfl rfl 0 (by decide) w7 (fun _ h9 => h9) rfl dX5_clerkOf_97 ?_
              refine lv_iload_n hx hb dX5_clerkOf_100 rfl (lv_at hl 0 rfl) ?_
              refine lv_iconst (v := 0) hx hb dX5_clerkOf_101 (by decide) ?_
              refine lv_iadd hx hb dX5_clerkOf_102 ?_
              obtain ⟨q70, hf⟩ := op_x hf
              refine ck_iald (j := ((f_X5_c x1) + 0).toNatClampNeg) hx hb hK hP 1 0 rfl rfl q70 rfl dX5_clerkOf_103 ?_
              exact hret _ _ _ _ _ () dX5_clerkOf_104 (op_k hf) hP hS
            replace hf := op_f c69 hf
            by_cases c71 : x2 = 1
            · replace hf := op_t c71 hf
              refine sw_in (v := 1) (tgt := 105) hx hb dX5_clerkOf_47 c71 (by decide) (by decide) rfl (by decide) ?_
              refine lv_aload_n hx hb dX5_clerkOf_105 rfl (lv_at hl 1 rfl) ?_
              refine lv_iload_n hx hb dX5_clerkOf_106 rfl (lv_at hl 2 rfl) ?_
              obtain ⟨r72, h73, hf⟩ := op_b hf
              refine ck_VI (st := [.int x1, .ref h]) (rest := []) (As := [.int x1]) (C := RX5) (ci := 5) ⟨hx, hb, hml, hown, hts⟩ E0_ok (c_X5_holds l D cI cC cK cO h a1 a2 a3 a4 zs zb za zt zl zu zp zw zf zg zc x1 _ h73) (cwV 1 hts gX5_clerkOf_X5_holds rfl rfl rfl hv_X5_holds ⟨Nat.le_of_ble_eq_true rfl, Nat.le_of_ble_eq_true rfl⟩) hK hP hD hS hA hE [0, 1, 2, 3, 4] rfl rfl rfl rfl rfl (fun _ => rfl) rfl hl.1 rfl (Nat.le_of_ble_eq_true rfl) dX5_clerkOf_107 ⟨Nat.zero_le _, Nat.zero_le _⟩ (fun r u H locs hw hP hD hS => ?_)
              cases hw
              replace hP : va_P D vwCl (wM cI h a1 a2 a3 a4 zs zb za zt zl zu zp zw zf zg zc) H := hP
              replace hD : va_D A (wM cI h a1 a2 a3 a4 zs zb za zt zl zu zp zw zf zg zc) := hD
              exact hret _ _ _ _ _ () dX5_clerkOf_110 (op_k hf) hP hS
            replace hf := op_f c71 hf
            by_cases c75 : x2 = 2
            · replace hf := op_t c75 hf
              refine sw_in (v := 2) (tgt := 111) hx hb dX5_clerkOf_47 c75 (by decide) (by decide) rfl (by decide) ?_
              refine lv_aload_n hx hb dX5_clerkOf_111 rfl (lv_at hl 1 rfl) ?_
              refine va_get (D := D) (ci := 5) (v := .ref a1) (C := RX5) (T := TX5) (N := 11) hx hb hts iX5 hown hK hP 0 rfl rfl 0 (by decide) w7 (fun _ h9 => h9) rfl dX5_clerkOf_112 ?_
              refine lv_iload_n hx hb dX5_clerkOf_115 rfl (lv_at hl 0 rfl) ?_
              refine lv_iconst (v := 1) hx hb dX5_clerkOf_116 (by decide) ?_
              refine lv_iadd hx hb dX5_clerkOf_117 ?_
              obtain ⟨q76, hf⟩ := op_x hf
              refine ck_iald (j := ((f_X5_c x1) + 1).toNatClampNeg) hx hb hK hP 1 0 rfl rfl q76 rfl dX5_clerkOf_118 ?_
              exact hret _ _ _ _ _ () dX5_clerkOf_119 (op_k hf) hP hS
            replace hf := op_f c75 hf
            by_cases c77 : x2 = 3
            · replace hf := op_t c77 hf
              refine sw_in (v := 3) (tgt := 120) hx hb dX5_clerkOf_47 c77 (by decide) (by decide) rfl (by decide) ?_
              refine lv_aload_n hx hb dX5_clerkOf_120 rfl (lv_at hl 1 rfl) ?_
              refine va_get (D := D) (ci := 5) (v := .ref a1) (C := RX5) (T := TX5) (N := 11) hx hb hts iX5 hown hK hP 0 rfl rfl 0 (by decide) w7 (fun _ h9 => h9) rfl dX5_clerkOf_121 ?_
              refine lv_iload_n hx hb dX5_clerkOf_124 rfl (lv_at hl 0 rfl) ?_
              refine lv_iconst (v := 2) hx hb dX5_clerkOf_125 (by decide) ?_
              refine lv_iadd hx hb dX5_clerkOf_126 ?_
              obtain ⟨q78, hf⟩ := op_x hf
              refine ck_iald (j := ((f_X5_c x1) + 2).toNatClampNeg) hx hb hK hP 1 0 rfl rfl q78 rfl dX5_clerkOf_127 ?_
              exact hret _ _ _ _ _ () dX5_clerkOf_128 (op_k hf) hP hS
            replace hf := op_f c77 hf
            by_cases c79 : x2 = 4
            · replace hf := op_t c79 hf
              refine sw_in (v := 4) (tgt := 129) hx hb dX5_clerkOf_47 c79 (by decide) (by decide) rfl (by decide) ?_
              refine lv_aload_n hx hb dX5_clerkOf_129 rfl (lv_at hl 1 rfl) ?_
              refine va_get (D := D) (ci := 5) (v := .ref a1) (C := RX5) (T := TX5) (N := 11) hx hb hts iX5 hown hK hP 0 rfl rfl 0 (by decide) w7 (fun _ h9 => h9) rfl dX5_clerkOf_130 ?_
              refine lv_iload_n hx hb dX5_clerkOf_133 rfl (lv_at hl 0 rfl) ?_
              refine lv_iconst (v := 3) hx hb dX5_clerkOf_134 (by decide) ?_
              refine lv_iadd hx hb dX5_clerkOf_135 ?_
              obtain ⟨q80, hf⟩ := op_x hf
              refine ck_iald (j := ((f_X5_c x1) + 3).toNatClampNeg) hx hb hK hP 1 0 rfl rfl q80 rfl dX5_clerkOf_136 ?_
              exact hret _ _ _ _ _ () dX5_clerkOf_137 (op_k hf) hP hS
            replace hf := op_f c79 hf
            by_cases c81 : x2 = 5
            · replace hf := op_t c81 hf
              refine sw_in (v := 5) (tgt := 138) hx hb dX5_clerkOf_47 c81 (by decide) (by decide) rfl (by decide) ?_
              refine lv_aload_n hx hb dX5_clerkOf_138 rfl (lv_at hl 1 rfl) ?_
              refine va_get (D := D) (ci := 5) (v := .ref a1) (C := RX5) (T := TX5) (N := 11) hx hb hts iX5 hown hK hP 0 rfl rfl 0 (by decide) w7 (fun _ h9 => h9) rfl dX5_clerkOf_139 ?_
              refine lv_iload_n hx hb dX5_clerkOf_142 rfl (lv_at hl 0 rfl) ?_
              refine lv_iconst (v := 4) hx hb dX5_clerkOf_143 (by decide) ?_
              refine lv_iadd hx hb dX5_clerkOf_144 ?_
              obtain ⟨q82, hf⟩ := op_x hf
              refine ck_iald (j := ((f_X5_c x1) + 4).toNatClampNeg) hx hb hK hP 1 0 rfl rfl q82 rfl dX5_clerkOf_145 ?_
              exact hret _ _ _ _ _ () dX5_clerkOf_146 (op_k hf) hP hS
            replace hf := op_f c81 hf
            by_cases c83 : x2 = 6
            · replace hf := op_t c83 hf
              refine sw_in (v := 6) (tgt := 147) hx hb dX5_clerkOf_47 c83 (by decide) (by decide) rfl (by decide) ?_
              refine lv_aload_n hx hb dX5_clerkOf_147 rfl (lv_at hl 1 rfl) ?_
              refine lv_iload_n hx hb dX5_clerkOf_148 rfl (lv_at hl 2 rfl) ?_
              refine lv_iconst (v := (-1)) hx hb dX5_clerkOf_149 (by decide) ?_
              obtain ⟨r84, h85, hf⟩ := op_b hf
              refine ck_VI (st := [.int (-1), .int x1, .ref h]) (rest := []) (As := [.int x1, .int (-1)]) (C := RX5) (ci := 5) ⟨hx, hb, hml, hown, hts⟩ E0_ok (c_X5_holesOf l D cI cC cK cO h a1 a2 a3 a4 zs zb za zt zl zu zp zw zf zg zc x1 (-1) K _ h85) (cwV 2 hts gX5_clerkOf_X5_holesOf rfl rfl rfl hv_X5_holesOf ⟨Nat.le_of_ble_eq_true rfl, Nat.le_of_ble_eq_true rfl⟩) hK hP hD hS hA hE [0, 1, 2, 3, 4] rfl rfl rfl rfl rfl (fun _ => rfl) rfl hl.1 rfl (Nat.le_of_ble_eq_true rfl) dX5_clerkOf_150 ⟨Nat.zero_le _, Nat.zero_le _⟩ (fun r u H locs hw hP hD hS => ?_)
              cases hw
              replace hP : va_P D vwCl (wM cI h a1 a2 a3 a4 zs zb za zt zl zu zp zw zf zg zc) H := hP
              replace hD : va_D A (wM cI h a1 a2 a3 a4 zs zb za zt zl zu zp zw zf zg zc) := hD
              exact hret _ _ _ _ _ () dX5_clerkOf_153 (op_k hf) hP hS
            replace hf := op_f c83 hf
            by_cases c87 : x2 = 7
            · replace hf := op_t c87 hf
              refine sw_in (v := 7) (tgt := 154) hx hb dX5_clerkOf_47 c87 (by decide) (by decide) rfl (by decide) ?_
              refine lv_aload_n hx hb dX5_clerkOf_154 rfl (lv_at hl 1 rfl) ?_
              refine lv_iload_n hx hb dX5_clerkOf_155 rfl (lv_at hl 2 rfl) ?_
              refine lv_iconst (v := 0) hx hb dX5_clerkOf_156 (by decide) ?_
              obtain ⟨r88, h89, hf⟩ := op_b hf
              refine ck_VI (st := [.int 0, .int x1, .ref h]) (rest := []) (As := [.int x1, .int 0]) (C := RX5) (ci := 5) ⟨hx, hb, hml, hown, hts⟩ E0_ok (c_X5_holesOf l D cI cC cK cO h a1 a2 a3 a4 zs zb za zt zl zu zp zw zf zg zc x1 0 K _ h89) (cwV 2 hts gX5_clerkOf_X5_holesOf rfl rfl rfl hv_X5_holesOf ⟨Nat.le_of_ble_eq_true rfl, Nat.le_of_ble_eq_true rfl⟩) hK hP hD hS hA hE [0, 1, 2, 3, 4] rfl rfl rfl rfl rfl (fun _ => rfl) rfl hl.1 rfl (Nat.le_of_ble_eq_true rfl) dX5_clerkOf_157 ⟨Nat.zero_le _, Nat.zero_le _⟩ (fun r u H locs hw hP hD hS => ?_)
              cases hw
              replace hP : va_P D vwCl (wM cI h a1 a2 a3 a4 zs zb za zt zl zu zp zw zf zg zc) H := hP
              replace hD : va_D A (wM cI h a1 a2 a3 a4 zs zb za zt zl zu zp zw zf zg zc) := hD
              exact hret _ _ _ _ _ () dX5_clerkOf_160 (op_k hf) hP hS
            replace hf := op_f c87 hf
            by_cases c91 : x2 = 8
            · replace hf := op_t c91 hf
              refine sw_in (v := 8) (tgt := 161) hx hb dX5_clerkOf_47 c91 (by decide) (by decide) rfl (by decide) ?_
              refine lv_aload_n hx hb dX5_clerkOf_161 rfl (lv_at hl 1 rfl) ?_
              refine va_get (D := D) (ci := 5) (v := .ref a1) (C := RX5) (T := TX5) (N := 11) hx hb hts iX5 hown hK hP 0 rfl rfl 0 (by decide) w7 (fun _ h9 => h9) rfl dX5_clerkOf_162 ?_
              refine lv_iload_n hx hb dX5_clerkOf_165 rfl (lv_at hl 0 rfl) ?_
              refine lv_iconst (v := 5) hx hb dX5_clerkOf_166 (by decide) ?_
              refine lv_iadd hx hb dX5_clerkOf_167 ?_
              obtain ⟨q92, hf⟩ := op_x hf
              refine ck_iald (j := ((f_X5_c x1) + 5).toNatClampNeg) hx hb hK hP 1 0 rfl rfl q92 rfl dX5_clerkOf_168 ?_
              exact hret _ _ _ _ _ () dX5_clerkOf_169 (op_k hf) hP hS
            replace hf := op_f c91 hf
            refine lv_tableOut (tgt := 170) hx hb dX5_clerkOf_47 (sw_o_0_9 c69 c71 c75 c77 c79 c81 c83 c87 c91) (by decide) ?_
            refine lv_aload_n hx hb dX5_clerkOf_170 rfl (lv_at hl 1 rfl) ?_
            refine va_get (D := D) (ci := 5) (v := .ref a1) (C := RX5) (T := TX5) (N := 11) hx hb hts iX5 hown hK hP 0 rfl rfl 0 (by decide) w7 (fun _ h9 => h9) rfl dX5_clerkOf_171 ?_
            refine lv_iload_n hx hb dX5_clerkOf_174 rfl (lv_at hl 0 rfl) ?_
            refine lv_iconst (v := 4) hx hb dX5_clerkOf_175 (by decide) ?_
            refine lv_iadd hx hb dX5_clerkOf_176 ?_
            obtain ⟨q93, hf⟩ := op_x hf
            refine ck_iald (j := ((f_X5_c x1) + 4).toNatClampNeg) hx hb hK hP 1 0 rfl rfl q93 rfl dX5_clerkOf_177 ?_
            refine lv_if_ne (tgt := 186) hx hb dX5_clerkOf_178 (by decide) (fun c94 => ?_) (fun c94 => ?_)
            · replace hf := op_f c94 hf
              refine lv_aload_n hx hb dX5_clerkOf_186 rfl (lv_at hl 1 rfl) ?_
              refine va_get (D := D) (ci := 5) (v := .ref a1) (C := RX5) (T := TX5) (N := 11) hx hb hts iX5 hown hK hP 0 rfl rfl 0 (by decide) w7 (fun _ h9 => h9) rfl dX5_clerkOf_187 ?_
              refine lv_iload_n hx hb dX5_clerkOf_190 rfl (lv_at hl 0 rfl) ?_
              refine lv_bipush (v := 6) hx hb dX5_clerkOf_191 (by decide) ?_
              refine lv_iadd hx hb dX5_clerkOf_193 ?_
              obtain ⟨q95, hf⟩ := op_x hf
              refine ck_iald (j := ((f_X5_c x1) + 6).toNatClampNeg) hx hb hK hP 1 0 rfl rfl q95 rfl dX5_clerkOf_194 ?_
              exact hret _ _ _ _ _ () dX5_clerkOf_195 (op_k hf) hP hS
            · replace hf := op_t c94 hf
              refine lv_bipush (v := (-4)) hx hb dX5_clerkOf_181 (by decide) ?_
              refine lv_goto (tgt := 195) hx hb dX5_clerkOf_183 (by decide) ?_
              exact hret _ _ _ _ _ () dX5_clerkOf_195 (op_k hf) hP hS
          · replace hf := op_t c68 hf
            refine lv_bipush (v := (-4)) hx hb dX5_clerkOf_43 (by decide) ?_
            exact hret _ _ _ _ _ () dX5_clerkOf_45 (op_k hf) hP hS
    · replace hf := op_t c6 hf
      refine lv_iconst (v := (-1)) hx hb dX5_clerkOf_18 (by decide) ?_
      exact hret _ _ _ _ _ () dX5_clerkOf_19 (op_k hf) hP hS
