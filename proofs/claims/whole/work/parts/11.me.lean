/-! laid by wip/whole/gen.py: walks of the reference's methods -/
set_option maxHeartbeats 4000000 in
set_option maxRecDepth 100000 in
theorem c_X5_goesOn (l : Launch) (D : va_G) (cI cC cK cO : ClassId) (h : Nat) (a1 : Nat) (a2 : Nat) (a3 : Nat) (a4 : Nat) (zs : Nat → Int32) (zb : Nat → Int32) (za : Nat → Int32) (zt : Nat → Int32) (zl : Int32) (zu : Int32) (zp : Int32) (zw : Int32) (zf : Int32) (zg : Int32) (zc : Int32) (x1 : Int32) (x2 : Int32) (R : Int32) (hf : f_X5_goesOn zs x1 x2 = some R) : KI l D (TY cI cC cK cO) E0 yX5_goesOn wsX5_goesOn 1 [.ref h, .int x1, .int x2] (wM cI h a1 a2 a3 a4 zs zb za zt zl zu zp zw zf zg zc) (fun (r : Int32) (u : Unit) => r = R ∧ (r = 0 ∨ r = 1)) (fun u => (wM cI h a1 a2 a3 a4 zs zb za zt zl zu zp zw zf zg zc)) := by
  refine KI.ofZ (cc := cX5_goesOn) (maxL := 4) (C := RX5) (by decide) rfl rfl (Nat.le_of_ble_eq_true rfl) (fun _ _ h => h.2) ?_
  intro p e s m args below meth c A Q hx hb hml hts hown hP hK hD hA hE hS hret ls hl
  replace hl : lv_has ls 4 [(0, .ref h), (1, .int x1), (2, .int x2)] := hl
  have w7 := hts (.fieldLink RX5 7 "BlockClerksModel" "s" "[I") (by decide +kernel)
  have iX5 : ∀ w ∈ wsX50, w ∈ wsX5_goesOn := by decide +kernel
  rw [f_X5_goesOn] at hf
  refine lv_iload_n hx hb dX5_goesOn_0 rfl (lv_at hl 1 rfl) ?_
  refine lv_iconst (v := 1) hx hb dX5_goesOn_1 (by decide) ?_
  refine lv_icmp_le (tgt := 41) hx hb dX5_goesOn_2 (by decide) (fun c1 => ?_) (fun c1 => ?_)
  · replace hf := op_t c1 hf
    refine lv_iconst (v := 0) hx hb dX5_goesOn_41 (by decide) ?_
    refine lv_istore_n (lv' := [(3, .int 0), (0, .ref h), (1, .int x1), (2, .int x2)]) hx hb dX5_goesOn_42 rfl hl (by decide) rfl (fun ls hl => ?_)
    refine lv_iload_n hx hb dX5_goesOn_43 rfl (lv_at hl 0 rfl) ?_
    refine lv_if_eq (tgt := 110) hx hb dX5_goesOn_44 (by decide) (fun _ => ?_) (fun c9 => absurd c9 (by decide))
    refine lv_iconst (v := 0) hx hb dX5_goesOn_110 (by decide) ?_
    exact hret _ _ _ _ _ () dX5_goesOn_111 ⟨(op_k hf), (Or.inl rfl)⟩ hP hS
  · replace hf := op_f c1 hf
    refine lv_aload_n hx hb dX5_goesOn_5 rfl (lv_at hl 0 rfl) ?_
    refine va_get (D := D) (ci := 5) (v := .ref a1) (C := RX5) (T := TX5) (N := 11) hx hb hts iX5 hown hK hP 0 rfl rfl 0 (by decide) w7 (fun _ h9 => h9) rfl dX5_goesOn_6 ?_
    refine lv_iload_n hx hb dX5_goesOn_9 rfl (lv_at hl 1 rfl) ?_
    refine ck_SI (st := [.int x1, .ref a1]) (rest := [.ref a1]) (As := [.int x1]) ⟨hx, hb, hml, hown, hts⟩ E0_ok (c_X5_n l D cI cC cK cO  x1 _ rfl) (va_cwS 1 hts gX5_goesOn_X5_n rfl rfl rfl hs_X5_n ⟨Nat.le_of_ble_eq_true rfl, Nat.le_of_ble_eq_true rfl⟩) hK hP hD hS hA hE rfl hl.1 rfl (Nat.le_of_ble_eq_true rfl) dX5_goesOn_10 ⟨Nat.zero_le _, Nat.zero_le _⟩ (fun r H locs hw hP hS => ?_)
    cases hw
    refine lv_iconst (v := 0) hx hb dX5_goesOn_13 (by decide) ?_
    refine lv_iadd hx hb dX5_goesOn_14 ?_
    obtain ⟨q4, hf⟩ := op_x hf
    refine ck_iald (j := ((f_X5_n x1) + 0).toNatClampNeg) hx hb hK hP 1 0 rfl rfl q4 rfl dX5_goesOn_15 ?_
    refine lv_iload_n hx hb dX5_goesOn_16 rfl (lv_at hl 2 rfl) ?_
    refine lv_icmp_ne (tgt := 41) hx hb dX5_goesOn_17 (by decide) (fun c5 => ?_) (fun c5 => ?_)
    · replace hf := op_f c5 hf
      refine lv_iconst (v := 0) hx hb dX5_goesOn_41 (by decide) ?_
      refine lv_istore_n (lv' := [(3, .int 0), (0, .ref h), (1, .int x1), (2, .int x2)]) hx hb dX5_goesOn_42 rfl hl (by decide) rfl (fun ls hl => ?_)
      refine lv_iload_n hx hb dX5_goesOn_43 rfl (lv_at hl 0 rfl) ?_
      refine lv_if_eq (tgt := 110) hx hb dX5_goesOn_44 (by decide) (fun _ => ?_) (fun c9 => absurd c9 (by decide))
      refine lv_iconst (v := 0) hx hb dX5_goesOn_110 (by decide) ?_
      exact hret _ _ _ _ _ () dX5_goesOn_111 ⟨(op_k hf), (Or.inl rfl)⟩ hP hS
    · replace hf := op_t c5 hf
      refine lv_aload_n hx hb dX5_goesOn_20 rfl (lv_at hl 0 rfl) ?_
      refine va_get (D := D) (ci := 5) (v := .ref a1) (C := RX5) (T := TX5) (N := 11) hx hb hts iX5 hown hK hP 0 rfl rfl 0 (by decide) w7 (fun _ h9 => h9) rfl dX5_goesOn_21 ?_
      refine lv_iload_n hx hb dX5_goesOn_24 rfl (lv_at hl 1 rfl) ?_
      refine lv_iconst (v := 1) hx hb dX5_goesOn_25 (by decide) ?_
      refine lv_isub hx hb dX5_goesOn_26 ?_
      refine ck_SI (st := [.int (x1 - 1), .ref a1]) (rest := [.ref a1]) (As := [.int (x1 - 1)]) ⟨hx, hb, hml, hown, hts⟩ E0_ok (c_X5_n l D cI cC cK cO  (x1 - 1) _ rfl) (va_cwS 1 hts gX5_goesOn_X5_n rfl rfl rfl hs_X5_n ⟨Nat.le_of_ble_eq_true rfl, Nat.le_of_ble_eq_true rfl⟩) hK hP hD hS hA hE rfl hl.1 rfl (Nat.le_of_ble_eq_true rfl) dX5_goesOn_27 ⟨Nat.zero_le _, Nat.zero_le _⟩ (fun r H locs hw hP hS => ?_)
      cases hw
      refine lv_iconst (v := 0) hx hb dX5_goesOn_30 (by decide) ?_
      refine lv_iadd hx hb dX5_goesOn_31 ?_
      obtain ⟨q8, hf⟩ := op_x hf
      refine ck_iald (j := ((f_X5_n (x1 - 1)) + 0).toNatClampNeg) hx hb hK hP 1 0 rfl rfl q8 rfl dX5_goesOn_32 ?_
      refine lv_iload_n hx hb dX5_goesOn_33 rfl (lv_at hl 2 rfl) ?_
      refine lv_icmp_ne (tgt := 41) hx hb dX5_goesOn_34 (by decide) (fun c9 => ?_) (fun c9 => ?_)
      · replace hf := op_f c9 hf
        refine lv_iconst (v := 0) hx hb dX5_goesOn_41 (by decide) ?_
        refine lv_istore_n (lv' := [(3, .int 0), (0, .ref h), (1, .int x1), (2, .int x2)]) hx hb dX5_goesOn_42 rfl hl (by decide) rfl (fun ls hl => ?_)
        refine lv_iload_n hx hb dX5_goesOn_43 rfl (lv_at hl 0 rfl) ?_
        refine lv_if_eq (tgt := 110) hx hb dX5_goesOn_44 (by decide) (fun _ => ?_) (fun c9 => absurd c9 (by decide))
        refine lv_iconst (v := 0) hx hb dX5_goesOn_110 (by decide) ?_
        exact hret _ _ _ _ _ () dX5_goesOn_111 ⟨(op_k hf), (Or.inl rfl)⟩ hP hS
      · replace hf := op_t c9 hf
        refine lv_iconst (v := 1) hx hb dX5_goesOn_37 (by decide) ?_
        refine lv_goto (tgt := 42) hx hb dX5_goesOn_38 (by decide) ?_
        refine lv_istore_n (lv' := [(3, .int 1), (0, .ref h), (1, .int x1), (2, .int x2)]) hx hb dX5_goesOn_42 rfl hl (by decide) rfl (fun ls hl => ?_)
        refine lv_iload_n hx hb dX5_goesOn_43 rfl (lv_at hl 0 rfl) ?_
        refine lv_if_eq (tgt := 110) hx hb dX5_goesOn_44 (by decide) (fun c9 => absurd c9 (by decide)) (fun _ => ?_)
        refine lv_iload_n hx hb dX5_goesOn_47 rfl (lv_at hl 3 rfl) ?_
        refine lv_iconst (v := 3) hx hb dX5_goesOn_48 (by decide) ?_
        refine lv_icmp_eq (tgt := 106) hx hb dX5_goesOn_49 (by decide) (fun c10 => ?_) (fun c10 => ?_)
        · replace hf := op_t c10 hf
          refine lv_iconst (v := 1) hx hb dX5_goesOn_106 (by decide) ?_
          refine lv_goto (tgt := 111) hx hb dX5_goesOn_107 (by decide) ?_
          exact hret _ _ _ _ _ () dX5_goesOn_111 ⟨(op_k hf), (Or.inr rfl)⟩ hP hS
        · replace hf := op_f c10 hf
          refine lv_aload_n hx hb dX5_goesOn_52 rfl (lv_at hl 1 rfl) ?_
          refine va_get (D := D) (ci := 5) (v := .ref a1) (C := RX5) (T := TX5) (N := 11) hx hb hts iX5 hown hK hP 0 rfl rfl 0 (by decide) w7 (fun _ h9 => h9) rfl dX5_goesOn_53 ?_
          refine lv_iload_n hx hb dX5_goesOn_56 rfl (lv_at hl 2 rfl) ?_
          refine ck_SI (st := [.int x1, .ref a1]) (rest := [.ref a1]) (As := [.int x1]) ⟨hx, hb, hml, hown, hts⟩ E0_ok (c_X5_n l D cI cC cK cO  x1 _ rfl) (va_cwS 1 hts gX5_goesOn_X5_n rfl rfl rfl hs_X5_n ⟨Nat.le_of_ble_eq_true rfl, Nat.le_of_ble_eq_true rfl⟩) hK hP hD hS hA hE rfl hl.1 rfl (Nat.le_of_ble_eq_true rfl) dX5_goesOn_57 ⟨Nat.zero_le _, Nat.zero_le _⟩ (fun r H locs hw hP hS => ?_)
          cases hw
          refine lv_iconst (v := 4) hx hb dX5_goesOn_60 (by decide) ?_
          refine lv_iadd hx hb dX5_goesOn_61 ?_
          obtain ⟨q13, hf⟩ := op_x hf
          refine ck_iald (j := ((f_X5_n x1) + 4).toNatClampNeg) hx hb hK hP 1 0 rfl rfl q13 rfl dX5_goesOn_62 ?_
          refine lv_aload_n hx hb dX5_goesOn_63 rfl (lv_at hl 1 rfl) ?_
          refine va_get (D := D) (ci := 5) (v := .ref a1) (C := RX5) (T := TX5) (N := 11) hx hb hts iX5 hown hK hP 0 rfl rfl 0 (by decide) w7 (fun _ h9 => h9) rfl dX5_goesOn_64 ?_
          refine lv_iload_n hx hb dX5_goesOn_67 rfl (lv_at hl 2 rfl) ?_
          refine lv_iconst (v := 1) hx hb dX5_goesOn_68 (by decide) ?_
          refine lv_isub hx hb dX5_goesOn_69 ?_
          refine ck_SI (st := [.int (x1 - 1), .ref a1, .int (zs ((f_X5_n x1) + 4).toNatClampNeg)]) (rest := [.ref a1, .int (zs ((f_X5_n x1) + 4).toNatClampNeg)]) (As := [.int (x1 - 1)]) ⟨hx, hb, hml, hown, hts⟩ E0_ok (c_X5_n l D cI cC cK cO  (x1 - 1) _ rfl) (va_cwS 1 hts gX5_goesOn_X5_n rfl rfl rfl hs_X5_n ⟨Nat.le_of_ble_eq_true rfl, Nat.le_of_ble_eq_true rfl⟩) hK hP hD hS hA hE rfl hl.1 rfl (Nat.le_of_ble_eq_true rfl) dX5_goesOn_70 ⟨Nat.zero_le _, Nat.zero_le _⟩ (fun r H locs hw hP hS => ?_)
          cases hw
          refine lv_iconst (v := 4) hx hb dX5_goesOn_73 (by decide) ?_
          refine lv_iadd hx hb dX5_goesOn_74 ?_
          obtain ⟨q16, hf⟩ := op_x hf
          refine ck_iald (j := ((f_X5_n (x1 - 1)) + 4).toNatClampNeg) hx hb hK hP 1 0 rfl rfl q16 rfl dX5_goesOn_75 ?_
          refine lv_icmp_ne (tgt := 110) hx hb dX5_goesOn_76 (by decide) (fun c17 => ?_) (fun c17 => ?_)
          · replace hf := op_f c17 hf
            refine lv_iconst (v := 0) hx hb dX5_goesOn_110 (by decide) ?_
            exact hret _ _ _ _ _ () dX5_goesOn_111 ⟨(op_k hf), (Or.inl rfl)⟩ hP hS
          · replace hf := op_t c17 hf
            refine lv_aload_n hx hb dX5_goesOn_79 rfl (lv_at hl 1 rfl) ?_
            refine va_get (D := D) (ci := 5) (v := .ref a1) (C := RX5) (T := TX5) (N := 11) hx hb hts iX5 hown hK hP 0 rfl rfl 0 (by decide) w7 (fun _ h9 => h9) rfl dX5_goesOn_80 ?_
            refine lv_iload_n hx hb dX5_goesOn_83 rfl (lv_at hl 2 rfl) ?_
            refine ck_SI (st := [.int x1, .ref a1]) (rest := [.ref a1]) (As := [.int x1]) ⟨hx, hb, hml, hown, hts⟩ E0_ok (c_X5_n l D cI cC cK cO  x1 _ rfl) (va_cwS 1 hts gX5_goesOn_X5_n rfl rfl rfl hs_X5_n ⟨Nat.le_of_ble_eq_true rfl, Nat.le_of_ble_eq_true rfl⟩) hK hP hD hS hA hE rfl hl.1 rfl (Nat.le_of_ble_eq_true rfl) dX5_goesOn_84 ⟨Nat.zero_le _, Nat.zero_le _⟩ (fun r H locs hw hP hS => ?_)
            cases hw
            refine lv_iconst (v := 1) hx hb dX5_goesOn_87 (by decide) ?_
            refine lv_iadd hx hb dX5_goesOn_88 ?_
            obtain ⟨q20, hf⟩ := op_x hf
            refine ck_iald (j := ((f_X5_n x1) + 1).toNatClampNeg) hx hb hK hP 1 0 rfl rfl q20 rfl dX5_goesOn_89 ?_
            refine lv_aload_n hx hb dX5_goesOn_90 rfl (lv_at hl 1 rfl) ?_
            refine va_get (D := D) (ci := 5) (v := .ref a1) (C := RX5) (T := TX5) (N := 11) hx hb hts iX5 hown hK hP 0 rfl rfl 0 (by decide) w7 (fun _ h9 => h9) rfl dX5_goesOn_91 ?_
            refine lv_iload_n hx hb dX5_goesOn_94 rfl (lv_at hl 2 rfl) ?_
            refine lv_iconst (v := 1) hx hb dX5_goesOn_95 (by decide) ?_
            refine lv_isub hx hb dX5_goesOn_96 ?_
            refine ck_SI (st := [.int (x1 - 1), .ref a1, .int (zs ((f_X5_n x1) + 1).toNatClampNeg)]) (rest := [.ref a1, .int (zs ((f_X5_n x1) + 1).toNatClampNeg)]) (As := [.int (x1 - 1)]) ⟨hx, hb, hml, hown, hts⟩ E0_ok (c_X5_n l D cI cC cK cO  (x1 - 1) _ rfl) (va_cwS 1 hts gX5_goesOn_X5_n rfl rfl rfl hs_X5_n ⟨Nat.le_of_ble_eq_true rfl, Nat.le_of_ble_eq_true rfl⟩) hK hP hD hS hA hE rfl hl.1 rfl (Nat.le_of_ble_eq_true rfl) dX5_goesOn_97 ⟨Nat.zero_le _, Nat.zero_le _⟩ (fun r H locs hw hP hS => ?_)
            cases hw
            refine lv_iconst (v := 1) hx hb dX5_goesOn_100 (by decide) ?_
            refine lv_iadd hx hb dX5_goesOn_101 ?_
            obtain ⟨q23, hf⟩ := op_x hf
            refine ck_iald (j := ((f_X5_n (x1 - 1)) + 1).toNatClampNeg) hx hb hK hP 1 0 rfl rfl q23 rfl dX5_goesOn_102 ?_
            refine lv_icmp_ne (tgt := 110) hx hb dX5_goesOn_103 (by decide) (fun c24 => ?_) (fun c24 => ?_)
            · replace hf := op_f c24 hf
              refine lv_iconst (v := 0) hx hb dX5_goesOn_110 (by decide) ?_
              exact hret _ _ _ _ _ () dX5_goesOn_111 ⟨(op_k hf), (Or.inl rfl)⟩ hP hS
            · replace hf := op_t c24 hf
              refine lv_iconst (v := 1) hx hb dX5_goesOn_106 (by decide) ?_
              refine lv_goto (tgt := 111) hx hb dX5_goesOn_107 (by decide) ?_
              exact hret _ _ _ _ _ () dX5_goesOn_111 ⟨(op_k hf), (Or.inr rfl)⟩ hP hS
set_option maxHeartbeats 4000000 in
set_option maxRecDepth 100000 in
theorem c_X5_rowAt (l : Launch) (D : va_G) (cI cC cK cO : ClassId) (h : Nat) (a1 : Nat) (a2 : Nat) (a3 : Nat) (a4 : Nat) (zs : Nat → Int32) (zb : Nat → Int32) (za : Nat → Int32) (zt : Nat → Int32) (zl : Int32) (zu : Int32) (zp : Int32) (zw : Int32) (zf : Int32) (zg : Int32) (zc : Int32) (x1 : Int32) (x2 : Int32) (K : Nat) (R : Int32) (hf : f_X5_rowAt K zs x1 x2 = some R) : KI l D (TY cI cC cK cO) E0 yX5_rowAt wsX5_rowAt 2 [.ref h, .int x1, .int x2] (wM cI h a1 a2 a3 a4 zs zb za zt zl zu zp zw zf zg zc) (fun (r : Int32) (u : Unit) => r = R) (fun u => (wM cI h a1 a2 a3 a4 zs zb za zt zl zu zp zw zf zg zc)) := by
  refine KI.ofI (cc := cX5_rowAt) (maxL := 5) (C := RX5) (by decide) rfl rfl (Nat.le_of_ble_eq_true rfl) ?_
  intro p e s m args below meth c A Q hx hb hml hts hown hP hK hD hA hE hS hret ls hl
  replace hl : lv_has ls 5 [(0, .ref h), (1, .int x1), (2, .int x2)] := hl
  have w7 := hts (.fieldLink RX5 7 "BlockClerksModel" "s" "[I") (by decide +kernel)
  have iX5 : ∀ w ∈ wsX50, w ∈ wsX5_rowAt := by decide +kernel
  have L_5 : ∀ (n : Nat)  (x1 : Int32) (x2 : Int32) (x3 : Int32) (x4 : Int32) (hf : f_X5_rowAt_5 x2 zs n x3 x4 = some R) (H : Heap) (locs : List Loc) (ls : Array Slot), va_P D vwCl (wM cI h a1 a2 a3 a4 zs zb za zt zl zu zp zw zf zg zc) H → va_D A (wM cI h a1 a2 a3 a4 zs zb za zt zl zu zp zw zf zg zc) → va_S A s.heap H locs → lv_has ls 5 [(0, .ref h), (1, .int x1), (2, .int x2), (3, .int x3), (4, .int x4)] → W p l e (rm 2) s m args below meth c H locs 0 0 Q (F0 m 5 ls []) := by
    intro n
    induction n with
    | zero =>
      intro  x1 x2 x3 x4 hf
      cases hf
    | succ n ih =>
      intro  x1 x2 x3 x4 hf H locs ls hP hD hS hl
      rw [f_X5_rowAt_5] at hf
      refine lv_iload hx hb dX5_rowAt_5 (lv_at hl 4 rfl) ?_
      refine lv_sipush (v := 600) hx hb dX5_rowAt_7 (by decide) ?_
      refine lv_icmp_gt (tgt := 55) hx hb dX5_rowAt_10 (by decide) (fun c1 => ?_) (fun c1 => ?_)
      · replace hf := op_t c1 hf
        refine lv_sipush (v := 601) hx hb dX5_rowAt_55 (by decide) ?_
        exact hret _ _ _ _ _ () dX5_rowAt_58 (op_k hf) hP hS
      · replace hf := op_f c1 hf
        refine lv_aload_n hx hb dX5_rowAt_13 rfl (lv_at hl 0 rfl) ?_
        refine va_get (D := D) (ci := 5) (v := .ref a1) (C := RX5) (T := TX5) (N := 11) hx hb hts iX5 hown hK hP 0 rfl rfl 0 (by decide) w7 (fun _ h9 => h9) rfl dX5_rowAt_14 ?_
        refine lv_iload hx hb dX5_rowAt_17 (lv_at hl 4 rfl) ?_
        refine ck_SI (st := [.int x4, .ref a1]) (rest := [.ref a1]) (As := [.int x4]) ⟨hx, hb, hml, hown, hts⟩ E0_ok (c_X5_n l D cI cC cK cO  x4 _ rfl) (va_cwS 1 hts gX5_rowAt_X5_n rfl rfl rfl hs_X5_n ⟨Nat.le_of_ble_eq_true rfl, Nat.le_of_ble_eq_true rfl⟩) hK hP hD hS hA hE rfl hl.1 rfl (Nat.le_of_ble_eq_true rfl) dX5_rowAt_19 ⟨Nat.zero_le _, Nat.zero_le _⟩ (fun r H locs hw hP hS => ?_)
        cases hw
        refine lv_iconst (v := 0) hx hb dX5_rowAt_22 (by decide) ?_
        refine lv_iadd hx hb dX5_rowAt_23 ?_
        obtain ⟨q4, hf⟩ := op_x hf
        refine ck_iald (j := ((f_X5_n x4) + 0).toNatClampNeg) hx hb hK hP 1 0 rfl rfl q4 rfl dX5_rowAt_24 ?_
        refine lv_iload_n hx hb dX5_rowAt_25 rfl (lv_at hl 2 rfl) ?_
        refine lv_icmp_ne (tgt := 49) hx hb dX5_rowAt_26 (by decide) (fun c5 => ?_) (fun c5 => ?_)
        · replace hf := op_f c5 hf
          refine lv_iinc (v := (x4 + 1)) (lv' := [(4, .int (x4 + 1)), (0, .ref h), (1, .int x1), (2, .int x2), (3, .int x3)]) hx hb dX5_rowAt_49 hl (k := 4) rfl rfl (by decide) rfl (fun ls hl => ?_)
          refine lv_goto (tgt := 5) hx hb dX5_rowAt_52 (by decide) ?_
          exact ih  x1 x2 x3 (x4 + 1) hf _ _ _ hP hD hS (lv_sub hl [1, 2, 3, 4, 0] rfl)
        · replace hf := op_t c5 hf
          refine lv_aload_n hx hb dX5_rowAt_29 rfl (lv_at hl 0 rfl) ?_
          refine lv_iload hx hb dX5_rowAt_30 (lv_at hl 4 rfl) ?_
          refine lv_iload_n hx hb dX5_rowAt_32 rfl (lv_at hl 2 rfl) ?_
          obtain ⟨r6, h7, hf⟩ := op_b hf
          refine ck_VI (st := [.int x2, .int x4, .ref h]) (rest := []) (As := [.int x4, .int x2]) (C := RX5) (ci := 5) ⟨hx, hb, hml, hown, hts⟩ E0_ok (c_X5_goesOn l D cI cC cK cO h a1 a2 a3 a4 zs zb za zt zl zu zp zw zf zg zc x4 x2 _ h7) (cwV 2 hts gX5_rowAt_X5_goesOn rfl rfl rfl hv_X5_goesOn ⟨Nat.le_of_ble_eq_true rfl, Nat.le_of_ble_eq_true rfl⟩) hK hP hD hS hA hE [0, 1, 2, 3, 4] rfl rfl rfl rfl rfl (fun _ => rfl) rfl hl.1 rfl (Nat.le_of_ble_eq_true rfl) dX5_rowAt_33 ⟨Nat.zero_le _, Nat.zero_le _⟩ (fun r u H locs hw hP hD hS => ?_)
          obtain ⟨hw, z8⟩ := hw
          cases hw
          replace hP : va_P D vwCl (wM cI h a1 a2 a3 a4 zs zb za zt zl zu zp zw zf zg zc) H := hP
          replace hD : va_D A (wM cI h a1 a2 a3 a4 zs zb za zt zl zu zp zw zf zg zc) := hD
          refine lv_if_ne (tgt := 49) hx hb dX5_rowAt_36 (by decide) (fun c9 => ?_) (fun c9 => ?_)
          · replace hf := op_f c9 hf
            refine lv_iinc (v := (x4 + 1)) (lv' := [(4, .int (x4 + 1)), (0, .ref h), (1, .int x1), (2, .int x2), (3, .int x3)]) hx hb dX5_rowAt_49 hl (k := 4) rfl rfl (by decide) rfl (fun ls hl => ?_)
            refine lv_goto (tgt := 5) hx hb dX5_rowAt_52 (by decide) ?_
            exact ih  x1 x2 x3 (x4 + 1) hf _ _ _ hP hD hS (lv_sub hl [1, 2, 3, 4, 0] rfl)
          · replace hf := op_t c9 hf
            refine lv_iload_n hx hb dX5_rowAt_39 rfl (lv_at hl 3 rfl) ?_
            refine lv_if_ne (tgt := 46) hx hb dX5_rowAt_40 (by decide) (fun c10 => ?_) (fun c10 => ?_)
            · replace hf := op_f c10 hf
              refine lv_iinc (v := (x3 + (-1))) (lv' := [(3, .int (x3 + (-1))), (0, .ref h), (1, .int x1), (2, .int x2), (4, .int x4)]) hx hb dX5_rowAt_46 hl (k := 3) rfl rfl (by decide) rfl (fun ls hl => ?_)
              refine lv_iinc (v := (x4 + 1)) (lv' := [(4, .int (x4 + 1)), (3, .int (x3 + (-1))), (0, .ref h), (1, .int x1), (2, .int x2)]) hx hb dX5_rowAt_49 hl (k := 4) rfl rfl (by decide) rfl (fun ls hl => ?_)
              refine lv_goto (tgt := 5) hx hb dX5_rowAt_52 (by decide) ?_
              exact ih  x1 x2 (x3 + (-1)) (x4 + 1) hf _ _ _ hP hD hS (lv_sub hl [2, 3, 4, 1, 0] rfl)
            · replace hf := op_t c10 hf
              refine lv_iload hx hb dX5_rowAt_43 (lv_at hl 4 rfl) ?_
              exact hret _ _ _ _ _ () dX5_rowAt_45 (op_k hf) hP hS
  rw [f_X5_rowAt] at hf
  refine lv_iload_n hx hb dX5_rowAt_0 rfl (lv_at hl 1 rfl) ?_
  refine lv_istore_n (lv' := [(3, .int x1), (0, .ref h), (1, .int x1), (2, .int x2)]) hx hb dX5_rowAt_1 rfl hl (by decide) rfl (fun ls hl => ?_)
  refine lv_iconst (v := 1) hx hb dX5_rowAt_2 (by decide) ?_
  refine lv_istore (lv' := [(4, .int 1), (3, .int x1), (0, .ref h), (1, .int x1), (2, .int x2)]) hx hb dX5_rowAt_3 hl (by decide) rfl (fun ls hl => ?_)
  exact L_5 K  x1 x2 x1 1 hf _ _ _ hP hD hS (lv_sub hl [2, 3, 4, 1, 0] rfl)
set_option maxHeartbeats 4000000 in
set_option maxRecDepth 100000 in
theorem c_X5_endOf (l : Launch) (D : va_G) (cI cC cK cO : ClassId) (h : Nat) (a1 : Nat) (a2 : Nat) (a3 : Nat) (a4 : Nat) (zs : Nat → Int32) (zb : Nat → Int32) (za : Nat → Int32) (zt : Nat → Int32) (zl : Int32) (zu : Int32) (zp : Int32) (zw : Int32) (zf : Int32) (zg : Int32) (zc : Int32) (x1 : Int32) (x2 : Int32) (K : Nat) (R : Int32) (hf : f_X5_endOf K zs x1 x2 = some R) : KI l D (TY cI cC cK cO) E0 yX5_endOf wsX5_endOf 2 [.ref h, .int x1, .int x2] (wM cI h a1 a2 a3 a4 zs zb za zt zl zu zp zw zf zg zc) (fun (r : Int32) (u : Unit) => r = R) (fun u => (wM cI h a1 a2 a3 a4 zs zb za zt zl zu zp zw zf zg zc)) := by
  refine KI.ofI (cc := cX5_endOf) (maxL := 4) (C := RX5) (by decide) rfl rfl (Nat.le_of_ble_eq_true rfl) ?_
  intro p e s m args below meth c A Q hx hb hml hts hown hP hK hD hA hE hS hret ls hl
  replace hl : lv_has ls 4 [(0, .ref h), (1, .int x1), (2, .int x2)] := hl
  have L_2 : ∀ (n : Nat)  (x1 : Int32) (x2 : Int32) (x3 : Int32) (hf : f_X5_endOf_2 x2 zs n x3 = some R) (H : Heap) (locs : List Loc) (ls : Array Slot), va_P D vwCl (wM cI h a1 a2 a3 a4 zs zb za zt zl zu zp zw zf zg zc) H → va_D A (wM cI h a1 a2 a3 a4 zs zb za zt zl zu zp zw zf zg zc) → va_S A s.heap H locs → lv_has ls 4 [(0, .ref h), (1, .int x1), (2, .int x2), (3, .int x3)] → W p l e (rm 2) s m args below meth c H locs 0 0 Q (F0 m 2 ls []) := by
    intro n
    induction n with
    | zero =>
      intro  x1 x2 x3 hf
      cases hf
    | succ n ih =>
      intro  x1 x2 x3 hf H locs ls hP hD hS hl
      rw [f_X5_endOf_2] at hf
      refine lv_iload_n hx hb dX5_endOf_2 rfl (lv_at hl 3 rfl) ?_
      refine lv_sipush (v := 600) hx hb dX5_endOf_3 (by decide) ?_
      refine lv_icmp_ge (tgt := 26) hx hb dX5_endOf_6 (by decide) (fun c1 => ?_) (fun c1 => ?_)
      · replace hf := op_t c1 hf
        refine lv_iload_n hx hb dX5_endOf_26 rfl (lv_at hl 3 rfl) ?_
        exact hret _ _ _ _ _ () dX5_endOf_27 (op_k hf) hP hS
      · replace hf := op_f c1 hf
        refine lv_aload_n hx hb dX5_endOf_9 rfl (lv_at hl 0 rfl) ?_
        refine lv_iload_n hx hb dX5_endOf_10 rfl (lv_at hl 3 rfl) ?_
        refine lv_iconst (v := 1) hx hb dX5_endOf_11 (by decide) ?_
        refine lv_iadd hx hb dX5_endOf_12 ?_
        refine lv_iload_n hx hb dX5_endOf_13 rfl (lv_at hl 2 rfl) ?_
        obtain ⟨r2, h3, hf⟩ := op_b hf
        refine ck_VI (st := [.int x2, .int (x3 + 1), .ref h]) (rest := []) (As := [.int (x3 + 1), .int x2]) (C := RX5) (ci := 5) ⟨hx, hb, hml, hown, hts⟩ E0_ok (c_X5_goesOn l D cI cC cK cO h a1 a2 a3 a4 zs zb za zt zl zu zp zw zf zg zc (x3 + 1) x2 _ h3) (cwV 2 hts gX5_endOf_X5_goesOn rfl rfl rfl hv_X5_goesOn ⟨Nat.le_of_ble_eq_true rfl, Nat.le_of_ble_eq_true rfl⟩) hK hP hD hS hA hE [0, 1, 2, 3, 4] rfl rfl rfl rfl rfl (fun _ => rfl) rfl hl.1 rfl (Nat.le_of_ble_eq_true rfl) dX5_endOf_14 ⟨Nat.zero_le _, Nat.zero_le _⟩ (fun r u H locs hw hP hD hS => ?_)
        obtain ⟨hw, z4⟩ := hw
        cases hw
        replace hP : va_P D vwCl (wM cI h a1 a2 a3 a4 zs zb za zt zl zu zp zw zf zg zc) H := hP
        replace hD : va_D A (wM cI h a1 a2 a3 a4 zs zb za zt zl zu zp zw zf zg zc) := hD
        refine lv_if_eq (tgt := 26) hx hb dX5_endOf_17 (by decide) (fun c5 => ?_) (fun c5 => ?_)
        · replace hf := op_t c5 hf
          refine lv_iload_n hx hb dX5_endOf_26 rfl (lv_at hl 3 rfl) ?_
          exact hret _ _ _ _ _ () dX5_endOf_27 (op_k hf) hP hS
        · replace hf := op_f c5 hf
          refine lv_iinc (v := (x3 + 1)) (lv' := [(3, .int (x3 + 1)), (0, .ref h), (1, .int x1), (2, .int x2)]) hx hb dX5_endOf_20 hl (k := 3) rfl rfl (by decide) rfl (fun ls hl => ?_)
          refine lv_goto (tgt := 2) hx hb dX5_endOf_23 (by decide) ?_
          exact ih  x1 x2 (x3 + 1) hf _ _ _ hP hD hS (lv_sub hl [1, 2, 3, 0] rfl)
  rw [f_X5_endOf] at hf
  refine lv_iload_n hx hb dX5_endOf_0 rfl (lv_at hl 1 rfl) ?_
  refine lv_istore_n (lv' := [(3, .int x1), (0, .ref h), (1, .int x1), (2, .int x2)]) hx hb dX5_endOf_1 rfl hl (by decide) rfl (fun ls hl => ?_)
  exact L_2 K  x1 x2 x1 hf _ _ _ hP hD hS (lv_sub hl [1, 2, 3, 0] rfl)
set_option maxHeartbeats 4000000 in
set_option maxRecDepth 100000 in
theorem c_X5_holesAt (l : Launch) (D : va_G) (cI cC cK cO : ClassId) (h : Nat) (a1 : Nat) (a2 : Nat) (a3 : Nat) (a4 : Nat) (zs : Nat → Int32) (zb : Nat → Int32) (za : Nat → Int32) (zt : Nat → Int32) (zl : Int32) (zu : Int32) (zp : Int32) (zw : Int32) (zf : Int32) (zg : Int32) (zc : Int32) (x1 : Int32) (x2 : Int32) (K : Nat) (R : Int32) (hf : f_X5_holesAt K zs x1 x2 = some R) : KI l D (TY cI cC cK cO) E0 yX5_holesAt wsX5_holesAt 3 [.ref h, .int x1, .int x2] (wM cI h a1 a2 a3 a4 zs zb za zt zl zu zp zw zf zg zc) (fun (r : Int32) (u : Unit) => r = R) (fun u => (wM cI h a1 a2 a3 a4 zs zb za zt zl zu zp zw zf zg zc)) := by
  refine KI.ofI (cc := cX5_holesAt) (maxL := 4) (C := RX5) (by decide) rfl rfl (Nat.le_of_ble_eq_true rfl) ?_
  intro p e s m args below meth c A Q hx hb hml hts hown hP hK hD hA hE hS hret ls hl
  replace hl : lv_has ls 4 [(0, .ref h), (1, .int x1), (2, .int x2)] := hl
  have w7 := hts (.fieldLink RX5 7 "BlockClerksModel" "s" "[I") (by decide +kernel)
  have iX5 : ∀ w ∈ wsX50, w ∈ wsX5_holesAt := by decide +kernel
  rw [f_X5_holesAt] at hf
  refine lv_iload_n hx hb dX5_holesAt_0 rfl (lv_at hl 1 rfl) ?_
  refine lv_if_lt (tgt := 13) hx hb dX5_holesAt_1 (by decide) (fun c1 => ?_) (fun c1 => ?_)
  · replace hf := op_t c1 hf
    refine lv_iconst (v := (-1)) hx hb dX5_holesAt_13 (by decide) ?_
    exact hret _ _ _ _ _ () dX5_holesAt_14 (op_k hf) hP hS
  · replace hf := op_f c1 hf
    refine lv_iload_n hx hb dX5_holesAt_4 rfl (lv_at hl 2 rfl) ?_
    refine lv_iconst (v := 0) hx hb dX5_holesAt_5 (by decide) ?_
    refine lv_iconst (v := 3) hx hb dX5_holesAt_6 (by decide) ?_
    refine ck_SI (st := [.int 3, .int 0, .int x2]) (rest := []) (As := [.int x2, .int 0, .int 3]) ⟨hx, hb, hml, hown, hts⟩ E0_ok (c_X5_in l D cI cC cK cO  x2 0 3 _ rfl) (va_cwS 3 hts gX5_holesAt_X5_in rfl rfl rfl hs_X5_in ⟨Nat.le_of_ble_eq_true rfl, Nat.le_of_ble_eq_true rfl⟩) hK hP hD hS hA hE rfl hl.1 rfl (Nat.le_of_ble_eq_true rfl) dX5_holesAt_7 ⟨Nat.zero_le _, Nat.zero_le _⟩ (fun r H locs hw hP hS => ?_)
    obtain ⟨hw, z3⟩ := hw
    cases hw
    refine lv_if_ne (tgt := 15) hx hb dX5_holesAt_10 (by decide) (fun c4 => ?_) (fun c4 => ?_)
    · replace hf := op_f c4 hf
      refine lv_aload_n hx hb dX5_holesAt_15 rfl (lv_at hl 0 rfl) ?_
      refine lv_iload_n hx hb dX5_holesAt_16 rfl (lv_at hl 1 rfl) ?_
      refine lv_iconst (v := 4) hx hb dX5_holesAt_17 (by decide) ?_
      obtain ⟨r5, h6, hf⟩ := op_b hf
      refine ck_VI (st := [.int 4, .int x1, .ref h]) (rest := []) (As := [.int x1, .int 4]) (C := RX5) (ci := 5) ⟨hx, hb, hml, hown, hts⟩ E0_ok (c_X5_rowAt l D cI cC cK cO h a1 a2 a3 a4 zs zb za zt zl zu zp zw zf zg zc x1 4 K _ h6) (cwV 2 hts gX5_holesAt_X5_rowAt rfl rfl rfl hv_X5_rowAt ⟨Nat.le_of_ble_eq_true rfl, Nat.le_of_ble_eq_true rfl⟩) hK hP hD hS hA hE [0, 1, 2, 3, 4] rfl rfl rfl rfl rfl (fun _ => rfl) rfl hl.1 rfl (Nat.le_of_ble_eq_true rfl) dX5_holesAt_18 ⟨Nat.zero_le _, Nat.zero_le _⟩ (fun r u H locs hw hP hD hS => ?_)
      cases hw
      replace hP : va_P D vwCl (wM cI h a1 a2 a3 a4 zs zb za zt zl zu zp zw zf zg zc) H := hP
      replace hD : va_D A (wM cI h a1 a2 a3 a4 zs zb za zt zl zu zp zw zf zg zc) := hD
      refine lv_istore_n (lv' := [(3, .int r5), (0, .ref h), (1, .int x1), (2, .int x2)]) hx hb dX5_holesAt_21 rfl hl (by decide) rfl (fun ls hl => ?_)
      refine lv_iload_n hx hb dX5_holesAt_22 rfl (lv_at hl 0 rfl) ?_
      refine lv_sipush (v := 600) hx hb dX5_holesAt_23 (by decide) ?_
      refine lv_icmp_le (tgt := 32) hx hb dX5_holesAt_26 (by decide) (fun c8 => ?_) (fun c8 => ?_)
      · replace hf := op_t c8 hf
        refine lv_iload_n hx hb dX5_holesAt_32 rfl (lv_at hl 3 rfl) ?_
        by_cases c9 : x2 = 0
        · replace hf := op_t c9 hf
          refine sw_in (v := 0) (tgt := 60) hx hb dX5_holesAt_33 c9 (by decide) (by decide) rfl (by decide) ?_
          refine lv_iload_n hx hb dX5_holesAt_60 rfl (lv_at hl 0 rfl) ?_
          exact hret _ _ _ _ _ () dX5_holesAt_61 (op_k hf) hP hS
        replace hf := op_f c9 hf
        by_cases c10 : x2 = 1
        · replace hf := op_t c10 hf
          refine sw_in (v := 1) (tgt := 62) hx hb dX5_holesAt_33 c10 (by decide) (by decide) rfl (by decide) ?_
          refine lv_aload_n hx hb dX5_holesAt_62 rfl (lv_at hl 1 rfl) ?_
          refine lv_iload_n hx hb dX5_holesAt_63 rfl (lv_at hl 0 rfl) ?_
          refine lv_iconst (v := 4) hx hb dX5_holesAt_64 (by decide) ?_
          obtain ⟨r11, h12, hf⟩ := op_b hf
          refine ck_VI (st := [.int 4, .int r5, .ref h]) (rest := []) (As := [.int r5, .int 4]) (C := RX5) (ci := 5) ⟨hx, hb, hml, hown, hts⟩ E0_ok (c_X5_endOf l D cI cC cK cO h a1 a2 a3 a4 zs zb za zt zl zu zp zw zf zg zc r5 4 K _ h12) (cwV 2 hts gX5_holesAt_X5_endOf rfl rfl rfl hv_X5_endOf ⟨Nat.le_of_ble_eq_true rfl, Nat.le_of_ble_eq_true rfl⟩) hK hP hD hS hA hE [0, 1, 2, 3, 4] rfl rfl rfl rfl rfl (fun _ => rfl) rfl hl.1 rfl (Nat.le_of_ble_eq_true rfl) dX5_holesAt_65 ⟨Nat.zero_le _, Nat.zero_le _⟩ (fun r u H locs hw hP hD hS => ?_)
          cases hw
          replace hP : va_P D vwCl (wM cI h a1 a2 a3 a4 zs zb za zt zl zu zp zw zf zg zc) H := hP
          replace hD : va_D A (wM cI h a1 a2 a3 a4 zs zb za zt zl zu zp zw zf zg zc) := hD
          exact hret _ _ _ _ _ () dX5_holesAt_68 (op_k hf) hP hS
        replace hf := op_f c10 hf
        by_cases c14 : x2 = 2
        · replace hf := op_t c14 hf
          refine sw_in (v := 2) (tgt := 69) hx hb dX5_holesAt_33 c14 (by decide) (by decide) rfl (by decide) ?_
          refine lv_aload_n hx hb dX5_holesAt_69 rfl (lv_at hl 1 rfl) ?_
          refine va_get (D := D) (ci := 5) (v := .ref a1) (C := RX5) (T := TX5) (N := 11) hx hb hts iX5 hown hK hP 0 rfl rfl 0 (by decide) w7 (fun _ h9 => h9) rfl dX5_holesAt_70 ?_
          refine lv_iload_n hx hb dX5_holesAt_73 rfl (lv_at hl 0 rfl) ?_
          refine ck_SI (st := [.int r5, .ref a1]) (rest := [.ref a1]) (As := [.int r5]) ⟨hx, hb, hml, hown, hts⟩ E0_ok (c_X5_n l D cI cC cK cO  r5 _ rfl) (va_cwS 1 hts gX5_holesAt_X5_n rfl rfl rfl hs_X5_n ⟨Nat.le_of_ble_eq_true rfl, Nat.le_of_ble_eq_true rfl⟩) hK hP hD hS hA hE rfl hl.1 rfl (Nat.le_of_ble_eq_true rfl) dX5_holesAt_74 ⟨Nat.zero_le _, Nat.zero_le _⟩ (fun r H locs hw hP hS => ?_)
          cases hw
          refine lv_iconst (v := 4) hx hb dX5_holesAt_77 (by decide) ?_
          refine lv_iadd hx hb dX5_holesAt_78 ?_
          obtain ⟨q17, hf⟩ := op_x hf
          refine ck_iald (j := ((f_X5_n r5) + 4).toNatClampNeg) hx hb hK hP 1 0 rfl rfl q17 rfl dX5_holesAt_79 ?_
          exact hret _ _ _ _ _ () dX5_holesAt_80 (op_k hf) hP hS
        replace hf := op_f c14 hf
        refine lv_tableOut (tgt := 81) hx hb dX5_holesAt_33 (sw_o_0_3 c9 c10 c14) (by decide) ?_
        refine lv_aload_n hx hb dX5_holesAt_81 rfl (lv_at hl 1 rfl) ?_
        refine va_get (D := D) (ci := 5) (v := .ref a1) (C := RX5) (T := TX5) (N := 11) hx hb hts iX5 hown hK hP 0 rfl rfl 0 (by decide) w7 (fun _ h9 => h9) rfl dX5_holesAt_82 ?_
        refine lv_iload_n hx hb dX5_holesAt_85 rfl (lv_at hl 0 rfl) ?_
        refine ck_SI (st := [.int r5, .ref a1]) (rest := [.ref a1]) (As := [.int r5]) ⟨hx, hb, hml, hown, hts⟩ E0_ok (c_X5_n l D cI cC cK cO  r5 _ rfl) (va_cwS 1 hts gX5_holesAt_X5_n rfl rfl rfl hs_X5_n ⟨Nat.le_of_ble_eq_true rfl, Nat.le_of_ble_eq_true rfl⟩) hK hP hD hS hA hE rfl hl.1 rfl (Nat.le_of_ble_eq_true rfl) dX5_holesAt_86 ⟨Nat.zero_le _, Nat.zero_le _⟩ (fun r H locs hw hP hS => ?_)
        cases hw
        refine lv_iconst (v := 1) hx hb dX5_holesAt_89 (by decide) ?_
        refine lv_iadd hx hb dX5_holesAt_90 ?_
        obtain ⟨q20, hf⟩ := op_x hf
        refine ck_iald (j := ((f_X5_n r5) + 1).toNatClampNeg) hx hb hK hP 1 0 rfl rfl q20 rfl dX5_holesAt_91 ?_
        refine lv_if_ge (tgt := 100) hx hb dX5_holesAt_92 (by decide) (fun c21 => ?_) (fun c21 => ?_)
        · replace hf := op_t c21 hf
          refine lv_aload_n hx hb dX5_holesAt_100 rfl (lv_at hl 1 rfl) ?_
          refine va_get (D := D) (ci := 5) (v := .ref a1) (C := RX5) (T := TX5) (N := 11) hx hb hts iX5 hown hK hP 0 rfl rfl 0 (by decide) w7 (fun _ h9 => h9) rfl dX5_holesAt_101 ?_
          refine lv_iload_n hx hb dX5_holesAt_104 rfl (lv_at hl 0 rfl) ?_
          refine ck_SI (st := [.int r5, .ref a1]) (rest := [.ref a1]) (As := [.int r5]) ⟨hx, hb, hml, hown, hts⟩ E0_ok (c_X5_n l D cI cC cK cO  r5 _ rfl) (va_cwS 1 hts gX5_holesAt_X5_n rfl rfl rfl hs_X5_n ⟨Nat.le_of_ble_eq_true rfl, Nat.le_of_ble_eq_true rfl⟩) hK hP hD hS hA hE rfl hl.1 rfl (Nat.le_of_ble_eq_true rfl) dX5_holesAt_105 ⟨Nat.zero_le _, Nat.zero_le _⟩ (fun r H locs hw hP hS => ?_)
          cases hw
          refine lv_iconst (v := 1) hx hb dX5_holesAt_108 (by decide) ?_
          refine lv_iadd hx hb dX5_holesAt_109 ?_
          obtain ⟨q24, hf⟩ := op_x hf
          refine ck_iald (j := ((f_X5_n r5) + 1).toNatClampNeg) hx hb hK hP 1 0 rfl rfl q24 rfl dX5_holesAt_110 ?_
          exact hret _ _ _ _ _ () dX5_holesAt_111 (op_k hf) hP hS
        · replace hf := op_f c21 hf
          refine lv_bipush (v := (-4)) hx hb dX5_holesAt_95 (by decide) ?_
          refine lv_goto (tgt := 111) hx hb dX5_holesAt_97 (by decide) ?_
          exact hret _ _ _ _ _ () dX5_holesAt_111 (op_k hf) hP hS
      · replace hf := op_f c8 hf
        refine lv_bipush (v := (-4)) hx hb dX5_holesAt_29 (by decide) ?_
        exact hret _ _ _ _ _ () dX5_holesAt_31 (op_k hf) hP hS
    · replace hf := op_t c4 hf
      refine lv_iconst (v := (-1)) hx hb dX5_holesAt_13 (by decide) ?_
      exact hret _ _ _ _ _ () dX5_holesAt_14 (op_k hf) hP hS
set_option maxHeartbeats 4000000 in
set_option maxRecDepth 100000 in
theorem c_X5_freeAt (l : Launch) (D : va_G) (cI cC cK cO : ClassId) (h : Nat) (a1 : Nat) (a2 : Nat) (a3 : Nat) (a4 : Nat) (zs : Nat → Int32) (zb : Nat → Int32) (za : Nat → Int32) (zt : Nat → Int32) (zl : Int32) (zu : Int32) (zp : Int32) (zw : Int32) (zf : Int32) (zg : Int32) (zc : Int32) (x1 : Int32) (x2 : Int32) (K : Nat) (R : Int32) (hf : f_X5_freeAt K zs x1 x2 = some R) : KI l D (TY cI cC cK cO) E0 yX5_freeAt wsX5_freeAt 3 [.ref h, .int x1, .int x2] (wM cI h a1 a2 a3 a4 zs zb za zt zl zu zp zw zf zg zc) (fun (r : Int32) (u : Unit) => r = R) (fun u => (wM cI h a1 a2 a3 a4 zs zb za zt zl zu zp zw zf zg zc)) := by
  refine KI.ofI (cc := cX5_freeAt) (maxL := 4) (C := RX5) (by decide) rfl rfl (Nat.le_of_ble_eq_true rfl) ?_
  intro p e s m args below meth c A Q hx hb hml hts hown hP hK hD hA hE hS hret ls hl
  replace hl : lv_has ls 4 [(0, .ref h), (1, .int x1), (2, .int x2)] := hl
  rw [f_X5_freeAt] at hf
  refine lv_iload_n hx hb dX5_freeAt_0 rfl (lv_at hl 1 rfl) ?_
  refine lv_if_lt (tgt := 13) hx hb dX5_freeAt_1 (by decide) (fun c1 => ?_) (fun c1 => ?_)
  · replace hf := op_t c1 hf
    refine lv_iconst (v := (-1)) hx hb dX5_freeAt_13 (by decide) ?_
    exact hret _ _ _ _ _ () dX5_freeAt_14 (op_k hf) hP hS
  · replace hf := op_f c1 hf
    refine lv_iload_n hx hb dX5_freeAt_4 rfl (lv_at hl 2 rfl) ?_
    refine lv_iconst (v := 0) hx hb dX5_freeAt_5 (by decide) ?_
    refine lv_iconst (v := 1) hx hb dX5_freeAt_6 (by decide) ?_
    refine ck_SI (st := [.int 1, .int 0, .int x2]) (rest := []) (As := [.int x2, .int 0, .int 1]) ⟨hx, hb, hml, hown, hts⟩ E0_ok (c_X5_in l D cI cC cK cO  x2 0 1 _ rfl) (va_cwS 3 hts gX5_freeAt_X5_in rfl rfl rfl hs_X5_in ⟨Nat.le_of_ble_eq_true rfl, Nat.le_of_ble_eq_true rfl⟩) hK hP hD hS hA hE rfl hl.1 rfl (Nat.le_of_ble_eq_true rfl) dX5_freeAt_7 ⟨Nat.zero_le _, Nat.zero_le _⟩ (fun r H locs hw hP hS => ?_)
    obtain ⟨hw, z3⟩ := hw
    cases hw
    refine lv_if_ne (tgt := 15) hx hb dX5_freeAt_10 (by decide) (fun c4 => ?_) (fun c4 => ?_)
    · replace hf := op_f c4 hf
      refine lv_aload_n hx hb dX5_freeAt_15 rfl (lv_at hl 0 rfl) ?_
      refine lv_iload_n hx hb dX5_freeAt_16 rfl (lv_at hl 1 rfl) ?_
      refine lv_iconst (v := 3) hx hb dX5_freeAt_17 (by decide) ?_
      obtain ⟨r5, h6, hf⟩ := op_b hf
      refine ck_VI (st := [.int 3, .int x1, .ref h]) (rest := []) (As := [.int x1, .int 3]) (C := RX5) (ci := 5) ⟨hx, hb, hml, hown, hts⟩ E0_ok (c_X5_rowAt l D cI cC cK cO h a1 a2 a3 a4 zs zb za zt zl zu zp zw zf zg zc x1 3 K _ h6) (cwV 2 hts gX5_freeAt_X5_rowAt rfl rfl rfl hv_X5_rowAt ⟨Nat.le_of_ble_eq_true rfl, Nat.le_of_ble_eq_true rfl⟩) hK hP hD hS hA hE [0, 1, 2, 3, 4] rfl rfl rfl rfl rfl (fun _ => rfl) rfl hl.1 rfl (Nat.le_of_ble_eq_true rfl) dX5_freeAt_18 ⟨Nat.zero_le _, Nat.zero_le _⟩ (fun r u H locs hw hP hD hS => ?_)
      cases hw
      replace hP : va_P D vwCl (wM cI h a1 a2 a3 a4 zs zb za zt zl zu zp zw zf zg zc) H := hP
      replace hD : va_D A (wM cI h a1 a2 a3 a4 zs zb za zt zl zu zp zw zf zg zc) := hD
      refine lv_istore_n (lv' := [(3, .int r5), (0, .ref h), (1, .int x1), (2, .int x2)]) hx hb dX5_freeAt_21 rfl hl (by decide) rfl (fun ls hl => ?_)
      refine lv_iload_n hx hb dX5_freeAt_22 rfl (lv_at hl 0 rfl) ?_
      refine lv_sipush (v := 600) hx hb dX5_freeAt_23 (by decide) ?_
      refine lv_icmp_le (tgt := 34) hx hb dX5_freeAt_26 (by decide) (fun c8 => ?_) (fun c8 => ?_)
      · replace hf := op_t c8 hf
        refine lv_iload_n hx hb dX5_freeAt_34 rfl (lv_at hl 3 rfl) ?_
        refine lv_if_ne (tgt := 42) hx hb dX5_freeAt_35 (by decide) (fun c9 => ?_) (fun c9 => ?_)
        · replace hf := op_f c9 hf
          refine lv_aload_n hx hb dX5_freeAt_42 rfl (lv_at hl 1 rfl) ?_
          refine lv_iload_n hx hb dX5_freeAt_43 rfl (lv_at hl 0 rfl) ?_
          refine lv_iconst (v := 3) hx hb dX5_freeAt_44 (by decide) ?_
          obtain ⟨r10, h11, hf⟩ := op_b hf
          refine ck_VI (st := [.int 3, .int r5, .ref h]) (rest := []) (As := [.int r5, .int 3]) (C := RX5) (ci := 5) ⟨hx, hb, hml, hown, hts⟩ E0_ok (c_X5_endOf l D cI cC cK cO h a1 a2 a3 a4 zs zb za zt zl zu zp zw zf zg zc r5 3 K _ h11) (cwV 2 hts gX5_freeAt_X5_endOf rfl rfl rfl hv_X5_endOf ⟨Nat.le_of_ble_eq_true rfl, Nat.le_of_ble_eq_true rfl⟩) hK hP hD hS hA hE [0, 1, 2, 3, 4] rfl rfl rfl rfl rfl (fun _ => rfl) rfl hl.1 rfl (Nat.le_of_ble_eq_true rfl) dX5_freeAt_45 ⟨Nat.zero_le _, Nat.zero_le _⟩ (fun r u H locs hw hP hD hS => ?_)
          cases hw
          replace hP : va_P D vwCl (wM cI h a1 a2 a3 a4 zs zb za zt zl zu zp zw zf zg zc) H := hP
          replace hD : va_D A (wM cI h a1 a2 a3 a4 zs zb za zt zl zu zp zw zf zg zc) := hD
          exact hret _ _ _ _ _ () dX5_freeAt_48 (op_k hf) hP hS
        · replace hf := op_t c9 hf
          refine lv_iload_n hx hb dX5_freeAt_38 rfl (lv_at hl 0 rfl) ?_
          refine lv_goto (tgt := 48) hx hb dX5_freeAt_39 (by decide) ?_
          exact hret _ _ _ _ _ () dX5_freeAt_48 (op_k hf) hP hS
      · replace hf := op_f c8 hf
        refine lv_bipush (v := (-4)) hx hb dX5_freeAt_29 (by decide) ?_
        refine lv_goto (tgt := 48) hx hb dX5_freeAt_31 (by decide) ?_
        exact hret _ _ _ _ _ () dX5_freeAt_48 (op_k hf) hP hS
    · replace hf := op_t c4 hf
      refine lv_iconst (v := (-1)) hx hb dX5_freeAt_13 (by decide) ?_
      exact hret _ _ _ _ _ () dX5_freeAt_14 (op_k hf) hP hS
set_option maxHeartbeats 4000000 in
set_option maxRecDepth 100000 in
theorem c_X5_turnAt (l : Launch) (D : va_G) (cI cC cK cO : ClassId) (h : Nat) (a1 : Nat) (a2 : Nat) (a3 : Nat) (a4 : Nat) (zs : Nat → Int32) (zb : Nat → Int32) (za : Nat → Int32) (zt : Nat → Int32) (zl : Int32) (zu : Int32) (zp : Int32) (zw : Int32) (zf : Int32) (zg : Int32) (zc : Int32) (x1 : Int32) (K : Nat) (R : Int32) (hf : f_X5_turnAt K zs x1 = some R) : KI l D (TY cI cC cK cO) E0 yX5_turnAt wsX5_turnAt 1 [.ref h, .int x1] (wM cI h a1 a2 a3 a4 zs zb za zt zl zu zp zw zf zg zc) (fun (r : Int32) (u : Unit) => r = R) (fun u => (wM cI h a1 a2 a3 a4 zs zb za zt zl zu zp zw zf zg zc)) := by
  refine KI.ofI (cc := cX5_turnAt) (maxL := 3) (C := RX5) (by decide) rfl rfl (Nat.le_of_ble_eq_true rfl) ?_
  intro p e s m args below meth c A Q hx hb hml hts hown hP hK hD hA hE hS hret ls hl
  replace hl : lv_has ls 3 [(0, .ref h), (1, .int x1)] := hl
  have w7 := hts (.fieldLink RX5 7 "BlockClerksModel" "s" "[I") (by decide +kernel)
  have iX5 : ∀ w ∈ wsX50, w ∈ wsX5_turnAt := by decide +kernel
  have L_8 : ∀ (n : Nat)  (x1 : Int32) (x2 : Int32) (hf : f_X5_turnAt_8 x1 zs n x2 = some R) (H : Heap) (locs : List Loc) (ls : Array Slot), va_P D vwCl (wM cI h a1 a2 a3 a4 zs zb za zt zl zu zp zw zf zg zc) H → va_D A (wM cI h a1 a2 a3 a4 zs zb za zt zl zu zp zw zf zg zc) → va_S A s.heap H locs → lv_has ls 3 [(0, .ref h), (1, .int x1), (2, .int x2)] → W p l e (rm 1) s m args below meth c H locs 0 0 Q (F0 m 8 ls []) := by
    intro n
    induction n with
    | zero =>
      intro  x1 x2 hf
      cases hf
    | succ n ih =>
      intro  x1 x2 hf H locs ls hP hD hS hl
      rw [f_X5_turnAt_8] at hf
      refine lv_iload_n hx hb dX5_turnAt_8 rfl (lv_at hl 2 rfl) ?_
      refine lv_sipush (v := 600) hx hb dX5_turnAt_9 (by decide) ?_
      refine lv_icmp_gt (tgt := 38) hx hb dX5_turnAt_12 (by decide) (fun c2 => ?_) (fun c2 => ?_)
      · replace hf := op_t c2 hf
        refine lv_bipush (v := (-4)) hx hb dX5_turnAt_38 (by decide) ?_
        exact hret _ _ _ _ _ () dX5_turnAt_40 (op_k hf) hP hS
      · replace hf := op_f c2 hf
        refine lv_aload_n hx hb dX5_turnAt_15 rfl (lv_at hl 0 rfl) ?_
        refine va_get (D := D) (ci := 5) (v := .ref a1) (C := RX5) (T := TX5) (N := 11) hx hb hts iX5 hown hK hP 0 rfl rfl 0 (by decide) w7 (fun _ h9 => h9) rfl dX5_turnAt_16 ?_
        refine lv_iload_n hx hb dX5_turnAt_19 rfl (lv_at hl 2 rfl) ?_
        refine ck_SI (st := [.int x2, .ref a1]) (rest := [.ref a1]) (As := [.int x2]) ⟨hx, hb, hml, hown, hts⟩ E0_ok (c_X5_n l D cI cC cK cO  x2 _ rfl) (va_cwS 1 hts gX5_turnAt_X5_n rfl rfl rfl hs_X5_n ⟨Nat.le_of_ble_eq_true rfl, Nat.le_of_ble_eq_true rfl⟩) hK hP hD hS hA hE rfl hl.1 rfl (Nat.le_of_ble_eq_true rfl) dX5_turnAt_20 ⟨Nat.zero_le _, Nat.zero_le _⟩ (fun r H locs hw hP hS => ?_)
        cases hw
        refine lv_iconst (v := 2) hx hb dX5_turnAt_23 (by decide) ?_
        refine lv_iadd hx hb dX5_turnAt_24 ?_
        obtain ⟨q5, hf⟩ := op_x hf
        refine ck_iald (j := ((f_X5_n x2) + 2).toNatClampNeg) hx hb hK hP 1 0 rfl rfl q5 rfl dX5_turnAt_25 ?_
        refine lv_iload_n hx hb dX5_turnAt_26 rfl (lv_at hl 1 rfl) ?_
        refine lv_icmp_ne (tgt := 32) hx hb dX5_turnAt_27 (by decide) (fun c6 => ?_) (fun c6 => ?_)
        · replace hf := op_f c6 hf
          refine lv_iinc (v := (x2 + 1)) (lv' := [(2, .int (x2 + 1)), (0, .ref h), (1, .int x1)]) hx hb dX5_turnAt_32 hl (k := 2) rfl rfl (by decide) rfl (fun ls hl => ?_)
          refine lv_goto (tgt := 8) hx hb dX5_turnAt_35 (by decide) ?_
          exact ih  x1 (x2 + 1) hf _ _ _ hP hD hS (lv_sub hl [1, 2, 0] rfl)
        · replace hf := op_t c6 hf
          refine lv_iload_n hx hb dX5_turnAt_30 rfl (lv_at hl 2 rfl) ?_
          exact hret _ _ _ _ _ () dX5_turnAt_31 (op_k hf) hP hS
  rw [f_X5_turnAt] at hf
  refine lv_iload_n hx hb dX5_turnAt_0 rfl (lv_at hl 1 rfl) ?_
  refine lv_if_ge (tgt := 6) hx hb dX5_turnAt_1 (by decide) (fun c1 => ?_) (fun c1 => ?_)
  · replace hf := op_t c1 hf
    refine lv_iconst (v := 1) hx hb dX5_turnAt_6 (by decide) ?_
    refine lv_istore_n (lv' := [(2, .int 1), (0, .ref h), (1, .int x1)]) hx hb dX5_turnAt_7 rfl hl (by decide) rfl (fun ls hl => ?_)
    exact L_8 K  x1 1 hf _ _ _ hP hD hS (lv_sub hl [1, 2, 0] rfl)
  · replace hf := op_f c1 hf
    refine lv_iconst (v := (-1)) hx hb dX5_turnAt_4 (by decide) ?_
    exact hret _ _ _ _ _ () dX5_turnAt_5 (op_k hf) hP hS
set_option maxHeartbeats 4000000 in
set_option maxRecDepth 100000 in
theorem c_X5_among (l : Launch) (D : va_G) (cI cC cK cO : ClassId) (h : Nat) (a1 : Nat) (a2 : Nat) (a3 : Nat) (a4 : Nat) (zs : Nat → Int32) (zb : Nat → Int32) (za : Nat → Int32) (zt : Nat → Int32) (zl : Int32) (zu : Int32) (zp : Int32) (zw : Int32) (zf : Int32) (zg : Int32) (zc : Int32) (x1 : Int32) (x2 : Int32) (x3 : Int32) (K : Nat) (R : Int32) (hf : f_X5_among K zs x1 x2 x3 = some R) : KI l D (TY cI cC cK cO) E0 yX5_among wsX5_among 2 [.ref h, .int x1, .int x2, .int x3] (wM cI h a1 a2 a3 a4 zs zb za zt zl zu zp zw zf zg zc) (fun (r : Int32) (u : Unit) => r = R) (fun u => (wM cI h a1 a2 a3 a4 zs zb za zt zl zu zp zw zf zg zc)) := by
  refine KI.ofI (cc := cX5_among) (maxL := 7) (C := RX5) (by decide) rfl rfl (Nat.le_of_ble_eq_true rfl) ?_
  intro p e s m args below meth c A Q hx hb hml hts hown hP hK hD hA hE hS hret ls hl
  replace hl : lv_has ls 7 [(0, .ref h), (1, .int x1), (2, .int x2), (3, .int x3)] := hl
  have w7 := hts (.fieldLink RX5 7 "BlockClerksModel" "s" "[I") (by decide +kernel)
  have iX5 : ∀ w ∈ wsX50, w ∈ wsX5_among := by decide +kernel
  have L_46 : ∀ (n : Nat)  (x1 : Int32) (x2 : Int32) (x3 : Int32) (x4 : Int32) (x5 : Int32) (hf : f_X5_among_46 x2 x3 zs n x4 x5 = some R) (H : Heap) (locs : List Loc) (ls : Array Slot), va_P D vwCl (wM cI h a1 a2 a3 a4 zs zb za zt zl zu zp zw zf zg zc) H → va_D A (wM cI h a1 a2 a3 a4 zs zb za zt zl zu zp zw zf zg zc) → va_S A s.heap H locs → lv_has ls 7 [(0, .ref h), (1, .int x1), (2, .int x2), (3, .int x3), (4, .int x4), (5, .int x5)] → W p l e (rm 2) s m args below meth c H locs 0 0 Q (F0 m 46 ls []) := by
    intro n
    induction n with
    | zero =>
      intro  x1 x2 x3 x4 x5 hf
      cases hf
    | succ n ih =>
      intro  x1 x2 x3 x4 x5 hf H locs ls hP hD hS hl
      rw [f_X5_among_46] at hf
      refine lv_iload hx hb dX5_among_46 (lv_at hl 5 rfl) ?_
      refine lv_iload_n hx hb dX5_among_48 rfl (lv_at hl 2 rfl) ?_
      refine lv_icmp_gt (tgt := 127) hx hb dX5_among_49 (by decide) (fun c13 => ?_) (fun c13 => ?_)
      · replace hf := op_t c13 hf
        refine lv_iload hx hb dX5_among_127 (lv_at hl 4 rfl) ?_
        exact hret _ _ _ _ _ () dX5_among_129 (op_k hf) hP hS
      · replace hf := op_f c13 hf
        refine lv_aload_n hx hb dX5_among_52 rfl (lv_at hl 0 rfl) ?_
        refine va_get (D := D) (ci := 5) (v := .ref a1) (C := RX5) (T := TX5) (N := 11) hx hb hts iX5 hown hK hP 0 rfl rfl 0 (by decide) w7 (fun _ h9 => h9) rfl dX5_among_53 ?_
        refine lv_iload hx hb dX5_among_56 (lv_at hl 5 rfl) ?_
        refine ck_SI (st := [.int x5, .ref a1]) (rest := [.ref a1]) (As := [.int x5]) ⟨hx, hb, hml, hown, hts⟩ E0_ok (c_X5_n l D cI cC cK cO  x5 _ rfl) (va_cwS 1 hts gX5_among_X5_n rfl rfl rfl hs_X5_n ⟨Nat.le_of_ble_eq_true rfl, Nat.le_of_ble_eq_true rfl⟩) hK hP hD hS hA hE rfl hl.1 rfl (Nat.le_of_ble_eq_true rfl) dX5_among_58 ⟨Nat.zero_le _, Nat.zero_le _⟩ (fun r H locs hw hP hS => ?_)
        cases hw
        refine lv_iconst (v := 0) hx hb dX5_among_61 (by decide) ?_
        refine lv_iadd hx hb dX5_among_62 ?_
        obtain ⟨q16, hf⟩ := op_x hf
        refine ck_iald (j := ((f_X5_n x5) + 0).toNatClampNeg) hx hb hK hP 1 0 rfl rfl q16 rfl dX5_among_63 ?_
        refine lv_istore (lv' := [(6, .int (zs ((f_X5_n x5) + 0).toNatClampNeg)), (0, .ref h), (1, .int x1), (2, .int x2), (3, .int x3), (4, .int x4), (5, .int x5)]) hx hb dX5_among_64 hl (by decide) rfl (fun ls hl => ?_)
        refine lv_iload hx hb dX5_among_66 (lv_at hl 5 rfl) ?_
        refine lv_iload_n hx hb dX5_among_68 rfl (lv_at hl 4 rfl) ?_
        refine lv_bipush (v := 10) hx hb dX5_among_69 (by decide) ?_
        refine lv_icmp_ge (tgt := 88) hx hb dX5_among_71 (by decide) (fun c17 => ?_) (fun c17 => ?_)
        · replace hf := op_t c17 hf
          refine lv_iload hx hb dX5_among_88 (lv_at hl 0 rfl) ?_
          refine lv_iconst (v := 4) hx hb dX5_among_90 (by decide) ?_
          refine lv_icmp_ne (tgt := 117) hx hb dX5_among_91 (by decide) (fun c18 => ?_) (fun c18 => ?_)
          · replace hf := op_f c18 hf
            refine lv_iconst (v := 0) hx hb dX5_among_117 (by decide) ?_
            refine lv_iadd hx hb dX5_among_118 ?_
            refine lv_istore (lv' := [(4, .int (x4 + 0)), (6, .int (zs ((f_X5_n x5) + 0).toNatClampNeg)), (0, .ref h), (1, .int x1), (2, .int x2), (3, .int x3), (5, .int x5)]) hx hb dX5_among_119 hl (by decide) rfl (fun ls hl => ?_)
            refine lv_iinc (v := (x5 + 1)) (lv' := [(5, .int (x5 + 1)), (4, .int (x4 + 0)), (6, .int (zs ((f_X5_n x5) + 0).toNatClampNeg)), (0, .ref h), (1, .int x1), (2, .int x2), (3, .int x3)]) hx hb dX5_among_121 hl (k := 6) rfl rfl (by decide) rfl (fun ls hl => ?_)
            refine lv_goto (tgt := 46) hx hb dX5_among_124 (by decide) ?_
            exact ih  x1 x2 x3 (x4 + 0) (x5 + 1) hf _ _ _ hP hD hS (lv_sub hl [3, 4, 5, 6, 1, 0] rfl)
          · replace hf := op_t c18 hf
            refine lv_aload_n hx hb dX5_among_94 rfl (lv_at hl 1 rfl) ?_
            refine va_get (D := D) (ci := 5) (v := .ref a1) (C := RX5) (T := TX5) (N := 11) hx hb hts iX5 hown hK hP 0 rfl rfl 0 (by decide) w7 (fun _ h9 => h9) rfl dX5_among_95 ?_
            refine lv_iload hx hb dX5_among_98 (lv_at hl 6 rfl) ?_
            refine ck_SI (st := [.int x5, .ref a1, .int x4]) (rest := [.ref a1, .int x4]) (As := [.int x5]) ⟨hx, hb, hml, hown, hts⟩ E0_ok (c_X5_n l D cI cC cK cO  x5 _ rfl) (va_cwS 1 hts gX5_among_X5_n rfl rfl rfl hs_X5_n ⟨Nat.le_of_ble_eq_true rfl, Nat.le_of_ble_eq_true rfl⟩) hK hP hD hS hA hE rfl hl.1 rfl (Nat.le_of_ble_eq_true rfl) dX5_among_100 ⟨Nat.zero_le _, Nat.zero_le _⟩ (fun r H locs hw hP hS => ?_)
            cases hw
            refine lv_iconst (v := 4) hx hb dX5_among_103 (by decide) ?_
            refine lv_iadd hx hb dX5_among_104 ?_
            obtain ⟨q21, hf⟩ := op_x hf
            refine ck_iald (j := ((f_X5_n x5) + 4).toNatClampNeg) hx hb hK hP 1 0 rfl rfl q21 rfl dX5_among_105 ?_
            refine lv_iload_n hx hb dX5_among_106 rfl (lv_at hl 4 rfl) ?_
            refine lv_bipush (v := 10) hx hb dX5_among_107 (by decide) ?_
            refine lv_isub hx hb dX5_among_109 ?_
            refine lv_icmp_ne (tgt := 117) hx hb dX5_among_110 (by decide) (fun c22 => ?_) (fun c22 => ?_)
            · replace hf := op_f c22 hf
              refine lv_iconst (v := 0) hx hb dX5_among_117 (by decide) ?_
              refine lv_iadd hx hb dX5_among_118 ?_
              refine lv_istore (lv' := [(4, .int (x4 + 0)), (6, .int (zs ((f_X5_n x5) + 0).toNatClampNeg)), (0, .ref h), (1, .int x1), (2, .int x2), (3, .int x3), (5, .int x5)]) hx hb dX5_among_119 hl (by decide) rfl (fun ls hl => ?_)
              refine lv_iinc (v := (x5 + 1)) (lv' := [(5, .int (x5 + 1)), (4, .int (x4 + 0)), (6, .int (zs ((f_X5_n x5) + 0).toNatClampNeg)), (0, .ref h), (1, .int x1), (2, .int x2), (3, .int x3)]) hx hb dX5_among_121 hl (k := 6) rfl rfl (by decide) rfl (fun ls hl => ?_)
              refine lv_goto (tgt := 46) hx hb dX5_among_124 (by decide) ?_
              exact ih  x1 x2 x3 (x4 + 0) (x5 + 1) hf _ _ _ hP hD hS (lv_sub hl [3, 4, 5, 6, 1, 0] rfl)
            · replace hf := op_t c22 hf
              refine lv_iconst (v := 1) hx hb dX5_among_113 (by decide) ?_
              refine lv_goto (tgt := 118) hx hb dX5_among_114 (by decide) ?_
              refine lv_iadd hx hb dX5_among_118 ?_
              refine lv_istore (lv' := [(4, .int (x4 + 1)), (6, .int (zs ((f_X5_n x5) + 0).toNatClampNeg)), (0, .ref h), (1, .int x1), (2, .int x2), (3, .int x3), (5, .int x5)]) hx hb dX5_among_119 hl (by decide) rfl (fun ls hl => ?_)
              refine lv_iinc (v := (x5 + 1)) (lv' := [(5, .int (x5 + 1)), (4, .int (x4 + 1)), (6, .int (zs ((f_X5_n x5) + 0).toNatClampNeg)), (0, .ref h), (1, .int x1), (2, .int x2), (3, .int x3)]) hx hb dX5_among_121 hl (k := 6) rfl rfl (by decide) rfl (fun ls hl => ?_)
              refine lv_goto (tgt := 46) hx hb dX5_among_124 (by decide) ?_
              exact ih  x1 x2 x3 (x4 + 1) (x5 + 1) hf _ _ _ hP hD hS (lv_sub hl [3, 4, 5, 6, 1, 0] rfl)
        · replace hf := op_f c17 hf
          refine lv_iload hx hb dX5_among_74 (lv_at hl 0 rfl) ?_
          refine lv_iload_n hx hb dX5_among_76 rfl (lv_at hl 4 rfl) ?_
          refine lv_icmp_ne (tgt := 84) hx hb dX5_among_77 (by decide) (fun c23 => ?_) (fun c23 => ?_)
          · replace hf := op_f c23 hf
            refine lv_iconst (v := 0) hx hb dX5_among_84 (by decide) ?_
            refine lv_goto (tgt := 118) hx hb dX5_among_85 (by decide) ?_
            refine lv_iadd hx hb dX5_among_118 ?_
            refine lv_istore (lv' := [(4, .int (x4 + 0)), (6, .int (zs ((f_X5_n x5) + 0).toNatClampNeg)), (0, .ref h), (1, .int x1), (2, .int x2), (3, .int x3), (5, .int x5)]) hx hb dX5_among_119 hl (by decide) rfl (fun ls hl => ?_)
            refine lv_iinc (v := (x5 + 1)) (lv' := [(5, .int (x5 + 1)), (4, .int (x4 + 0)), (6, .int (zs ((f_X5_n x5) + 0).toNatClampNeg)), (0, .ref h), (1, .int x1), (2, .int x2), (3, .int x3)]) hx hb dX5_among_121 hl (k := 6) rfl rfl (by decide) rfl (fun ls hl => ?_)
            refine lv_goto (tgt := 46) hx hb dX5_among_124 (by decide) ?_
            exact ih  x1 x2 x3 (x4 + 0) (x5 + 1) hf _ _ _ hP hD hS (lv_sub hl [3, 4, 5, 6, 1, 0] rfl)
          · replace hf := op_t c23 hf
            refine lv_iconst (v := 1) hx hb dX5_among_80 (by decide) ?_
            refine lv_goto (tgt := 118) hx hb dX5_among_81 (by decide) ?_
            refine lv_iadd hx hb dX5_among_118 ?_
            refine lv_istore (lv' := [(4, .int (x4 + 1)), (6, .int (zs ((f_X5_n x5) + 0).toNatClampNeg)), (0, .ref h), (1, .int x1), (2, .int x2), (3, .int x3), (5, .int x5)]) hx hb dX5_among_119 hl (by decide) rfl (fun ls hl => ?_)
            refine lv_iinc (v := (x5 + 1)) (lv' := [(5, .int (x5 + 1)), (4, .int (x4 + 1)), (6, .int (zs ((f_X5_n x5) + 0).toNatClampNeg)), (0, .ref h), (1, .int x1), (2, .int x2), (3, .int x3)]) hx hb dX5_among_121 hl (k := 6) rfl rfl (by decide) rfl (fun ls hl => ?_)
            refine lv_goto (tgt := 46) hx hb dX5_among_124 (by decide) ?_
            exact ih  x1 x2 x3 (x4 + 1) (x5 + 1) hf _ _ _ hP hD hS (lv_sub hl [3, 4, 5, 6, 1, 0] rfl)
  rw [f_X5_among] at hf
  refine lv_iload_n hx hb dX5_among_0 rfl (lv_at hl 1 rfl) ?_
  refine ck_SI (st := [.int x1]) (rest := []) (As := [.int x1]) ⟨hx, hb, hml, hown, hts⟩ E0_ok (c_X5_isNumber l D cI cC cK cO  x1 _ rfl) (va_cwS 1 hts gX5_among_X5_isNumber rfl rfl rfl hs_X5_isNumber ⟨Nat.le_of_ble_eq_true rfl, Nat.le_of_ble_eq_true rfl⟩) hK hP hD hS hA hE rfl hl.1 rfl (Nat.le_of_ble_eq_true rfl) dX5_among_1 ⟨Nat.zero_le _, Nat.zero_le _⟩ (fun r H locs hw hP hS => ?_)
  obtain ⟨hw, z2⟩ := hw
  cases hw
  refine lv_if_eq (tgt := 38) hx hb dX5_among_4 (by decide) (fun c3 => ?_) (fun c3 => ?_)
  · replace hf := op_t c3 hf
    refine lv_iconst (v := (-1)) hx hb dX5_among_38 (by decide) ?_
    exact hret _ _ _ _ _ () dX5_among_39 (op_k hf) hP hS
  · replace hf := op_f c3 hf
    refine lv_iload_n hx hb dX5_among_7 rfl (lv_at hl 2 rfl) ?_
    refine lv_iload_n hx hb dX5_among_8 rfl (lv_at hl 1 rfl) ?_
    refine lv_sipush (v := 600) hx hb dX5_among_9 (by decide) ?_
    refine ck_SI (st := [.int 600, .int x1, .int x2]) (rest := []) (As := [.int x2, .int x1, .int 600]) ⟨hx, hb, hml, hown, hts⟩ E0_ok (c_X5_in l D cI cC cK cO  x2 x1 600 _ rfl) (va_cwS 3 hts gX5_among_X5_in rfl rfl rfl hs_X5_in ⟨Nat.le_of_ble_eq_true rfl, Nat.le_of_ble_eq_true rfl⟩) hK hP hD hS hA hE rfl hl.1 rfl (Nat.le_of_ble_eq_true rfl) dX5_among_12 ⟨Nat.zero_le _, Nat.zero_le _⟩ (fun r H locs hw hP hS => ?_)
    obtain ⟨hw, z5⟩ := hw
    cases hw
    refine lv_if_eq (tgt := 38) hx hb dX5_among_15 (by decide) (fun c6 => ?_) (fun c6 => ?_)
    · replace hf := op_t c6 hf
      refine lv_iconst (v := (-1)) hx hb dX5_among_38 (by decide) ?_
      exact hret _ _ _ _ _ () dX5_among_39 (op_k hf) hP hS
    · replace hf := op_f c6 hf
      refine lv_iload_n hx hb dX5_among_18 rfl (lv_at hl 3 rfl) ?_
      refine lv_iconst (v := 0) hx hb dX5_among_19 (by decide) ?_
      refine lv_iconst (v := 4) hx hb dX5_among_20 (by decide) ?_
      refine ck_SI (st := [.int 4, .int 0, .int x3]) (rest := []) (As := [.int x3, .int 0, .int 4]) ⟨hx, hb, hml, hown, hts⟩ E0_ok (c_X5_in l D cI cC cK cO  x3 0 4 _ rfl) (va_cwS 3 hts gX5_among_X5_in rfl rfl rfl hs_X5_in ⟨Nat.le_of_ble_eq_true rfl, Nat.le_of_ble_eq_true rfl⟩) hK hP hD hS hA hE rfl hl.1 rfl (Nat.le_of_ble_eq_true rfl) dX5_among_21 ⟨Nat.zero_le _, Nat.zero_le _⟩ (fun r H locs hw hP hS => ?_)
      obtain ⟨hw, z8⟩ := hw
      cases hw
      refine lv_if_ne (tgt := 40) hx hb dX5_among_24 (by decide) (fun c9 => ?_) (fun c9 => ?_)
      · replace hf := op_f c9 hf
        refine lv_iconst (v := 0) hx hb dX5_among_40 (by decide) ?_
        refine lv_istore (lv' := [(4, .int 0), (0, .ref h), (1, .int x1), (2, .int x2), (3, .int x3)]) hx hb dX5_among_41 hl (by decide) rfl (fun ls hl => ?_)
        refine lv_iload_n hx hb dX5_among_43 rfl (lv_at hl 2 rfl) ?_
        refine lv_istore (lv' := [(5, .int x1), (4, .int 0), (0, .ref h), (1, .int x1), (2, .int x2), (3, .int x3)]) hx hb dX5_among_44 hl (by decide) rfl (fun ls hl => ?_)
        exact L_46 K  x1 x2 x3 0 x1 hf _ _ _ hP hD hS (lv_sub hl [2, 3, 4, 5, 1, 0] rfl)
      · replace hf := op_t c9 hf
        refine lv_iload_n hx hb dX5_among_27 rfl (lv_at hl 3 rfl) ?_
        refine lv_bipush (v := 10) hx hb dX5_among_28 (by decide) ?_
        refine lv_bipush (v := 13) hx hb dX5_among_30 (by decide) ?_
        refine ck_SI (st := [.int 13, .int 10, .int x3]) (rest := []) (As := [.int x3, .int 10, .int 13]) ⟨hx, hb, hml, hown, hts⟩ E0_ok (c_X5_in l D cI cC cK cO  x3 10 13 _ rfl) (va_cwS 3 hts gX5_among_X5_in rfl rfl rfl hs_X5_in ⟨Nat.le_of_ble_eq_true rfl, Nat.le_of_ble_eq_true rfl⟩) hK hP hD hS hA hE rfl hl.1 rfl (Nat.le_of_ble_eq_true rfl) dX5_among_32 ⟨Nat.zero_le _, Nat.zero_le _⟩ (fun r H locs hw hP hS => ?_)
        obtain ⟨hw, z11⟩ := hw
        cases hw
        refine lv_if_ne (tgt := 40) hx hb dX5_among_35 (by decide) (fun c12 => ?_) (fun c12 => ?_)
        · replace hf := op_f c12 hf
          refine lv_iconst (v := 0) hx hb dX5_among_40 (by decide) ?_
          refine lv_istore (lv' := [(4, .int 0), (0, .ref h), (1, .int x1), (2, .int x2), (3, .int x3)]) hx hb dX5_among_41 hl (by decide) rfl (fun ls hl => ?_)
          refine lv_iload_n hx hb dX5_among_43 rfl (lv_at hl 2 rfl) ?_
          refine lv_istore (lv' := [(5, .int x1), (4, .int 0), (0, .ref h), (1, .int x1), (2, .int x2), (3, .int x3)]) hx hb dX5_among_44 hl (by decide) rfl (fun ls hl => ?_)
          exact L_46 K  x1 x2 x3 0 x1 hf _ _ _ hP hD hS (lv_sub hl [2, 3, 4, 5, 1, 0] rfl)
        · replace hf := op_t c12 hf
          refine lv_iconst (v := (-1)) hx hb dX5_among_38 (by decide) ?_
          exact hret _ _ _ _ _ () dX5_among_39 (op_k hf) hP hS
set_option maxHeartbeats 4000000 in
set_option maxRecDepth 100000 in
theorem c_X5_lateMany (l : Launch) (D : va_G) (cI cC cK cO : ClassId) (h : Nat) (a1 : Nat) (a2 : Nat) (a3 : Nat) (a4 : Nat) (zs : Nat → Int32) (zb : Nat → Int32) (za : Nat → Int32) (zt : Nat → Int32) (zl : Int32) (zu : Int32) (zp : Int32) (zw : Int32) (zf : Int32) (zg : Int32) (zc : Int32) (K : Nat) (R : Int32) (hf : f_X5_lateMany K zs = some R) : KI l D (TY cI cC cK cO) E0 yX5_lateMany wsX5_lateMany 1 [.ref h] (wM cI h a1 a2 a3 a4 zs zb za zt zl zu zp zw zf zg zc) (fun (r : Int32) (u : Unit) => r = R) (fun u => (wM cI h a1 a2 a3 a4 zs zb za zt zl zu zp zw zf zg zc)) := by
  refine KI.ofI (cc := cX5_lateMany) (maxL := 5) (C := RX5) (by decide) rfl rfl (Nat.le_of_ble_eq_true rfl) ?_
  intro p e s m args below meth c A Q hx hb hml hts hown hP hK hD hA hE hS hret ls hl
  replace hl : lv_has ls 5 [(0, .ref h)] := hl
  have w7 := hts (.fieldLink RX5 7 "BlockClerksModel" "s" "[I") (by decide +kernel)
  have iX5 : ∀ w ∈ wsX50, w ∈ wsX5_lateMany := by decide +kernel
  have L_13 : ∀ (n : Nat)  (x1 : Int32) (x2 : Int32) (x3 : Int32) (hf : f_X5_lateMany_13 zs n x1 x2 x3 = some R) (H : Heap) (locs : List Loc) (ls : Array Slot), va_P D vwCl (wM cI h a1 a2 a3 a4 zs zb za zt zl zu zp zw zf zg zc) H → va_D A (wM cI h a1 a2 a3 a4 zs zb za zt zl zu zp zw zf zg zc) → va_S A s.heap H locs → lv_has ls 5 [(0, .ref h), (1, .int x1), (2, .int x2), (3, .int x3)] → W p l e (rm 1) s m args below meth c H locs 0 0 Q (F0 m 13 ls []) := by
    intro n
    induction n with
    | zero =>
      intro  x1 x2 x3 hf
      cases hf
    | succ n ih =>
      intro  x1 x2 x3 hf H locs ls hP hD hS hl
      rw [f_X5_lateMany_13] at hf
      refine lv_iload_n hx hb dX5_lateMany_13 rfl (lv_at hl 3 rfl) ?_
      refine lv_if_le (tgt := 68) hx hb dX5_lateMany_14 (by decide) (fun c1 => ?_) (fun c1 => ?_)
      · replace hf := op_t c1 hf
        refine lv_iload_n hx hb dX5_lateMany_68 rfl (lv_at hl 1 rfl) ?_
        exact hret _ _ _ _ _ () dX5_lateMany_69 (op_k hf) hP hS
      · replace hf := op_f c1 hf
        refine lv_aload_n hx hb dX5_lateMany_17 rfl (lv_at hl 0 rfl) ?_
        refine va_get (D := D) (ci := 5) (v := .ref a1) (C := RX5) (T := TX5) (N := 11) hx hb hts iX5 hown hK hP 0 rfl rfl 0 (by decide) w7 (fun _ h9 => h9) rfl dX5_lateMany_18 ?_
        refine lv_iload_n hx hb dX5_lateMany_21 rfl (lv_at hl 3 rfl) ?_
        refine ck_SI (st := [.int x3, .ref a1]) (rest := [.ref a1]) (As := [.int x3]) ⟨hx, hb, hml, hown, hts⟩ E0_ok (c_X5_n l D cI cC cK cO  x3 _ rfl) (va_cwS 1 hts gX5_lateMany_X5_n rfl rfl rfl hs_X5_n ⟨Nat.le_of_ble_eq_true rfl, Nat.le_of_ble_eq_true rfl⟩) hK hP hD hS hA hE rfl hl.1 rfl (Nat.le_of_ble_eq_true rfl) dX5_lateMany_22 ⟨Nat.zero_le _, Nat.zero_le _⟩ (fun r H locs hw hP hS => ?_)
        cases hw
        refine lv_iconst (v := 2) hx hb dX5_lateMany_25 (by decide) ?_
        refine lv_iadd hx hb dX5_lateMany_26 ?_
        obtain ⟨q4, hf⟩ := op_x hf
        refine ck_iald (j := ((f_X5_n x3) + 2).toNatClampNeg) hx hb hK hP 1 0 rfl rfl q4 rfl dX5_lateMany_27 ?_
        refine lv_istore (lv' := [(4, .int (zs ((f_X5_n x3) + 2).toNatClampNeg)), (0, .ref h), (1, .int x1), (2, .int x2), (3, .int x3)]) hx hb dX5_lateMany_28 hl (by decide) rfl (fun ls hl => ?_)
        refine lv_iload_n hx hb dX5_lateMany_30 rfl (lv_at hl 2 rfl) ?_
        refine lv_iload hx hb dX5_lateMany_31 (lv_at hl 0 rfl) ?_
        refine lv_iload_n hx hb dX5_lateMany_33 rfl (lv_at hl 3 rfl) ?_
        refine lv_icmp_le (tgt := 41) hx hb dX5_lateMany_34 (by decide) (fun c5 => ?_) (fun c5 => ?_)
        · replace hf := op_t c5 hf
          refine lv_iconst (v := 0) hx hb dX5_lateMany_41 (by decide) ?_
          refine lv_iadd hx hb dX5_lateMany_42 ?_
          refine lv_istore_n (lv' := [(1, .int (x1 + 0)), (4, .int (zs ((f_X5_n x3) + 2).toNatClampNeg)), (0, .ref h), (2, .int x2), (3, .int x3)]) hx hb dX5_lateMany_43 rfl hl (by decide) rfl (fun ls hl => ?_)
          refine lv_iload hx hb dX5_lateMany_44 (lv_at hl 1 rfl) ?_
          refine lv_if_lt (tgt := 60) hx hb dX5_lateMany_46 (by decide) (fun c6 => ?_) (fun c6 => ?_)
          · replace hf := op_t c6 hf
            refine lv_iload_n hx hb dX5_lateMany_60 rfl (lv_at hl 3 rfl) ?_
            refine lv_istore_n (lv' := [(2, .int x2), (1, .int (x1 + 0)), (4, .int (zs ((f_X5_n x3) + 2).toNatClampNeg)), (0, .ref h), (3, .int x3)]) hx hb dX5_lateMany_61 rfl hl (by decide) rfl (fun ls hl => ?_)
            refine lv_iinc (v := (x3 + (-1))) (lv' := [(3, .int (x3 + (-1))), (2, .int x2), (1, .int (x1 + 0)), (4, .int (zs ((f_X5_n x3) + 2).toNatClampNeg)), (0, .ref h)]) hx hb dX5_lateMany_62 hl (k := 4) rfl rfl (by decide) rfl (fun ls hl => ?_)
            refine lv_goto (tgt := 13) hx hb dX5_lateMany_65 (by decide) ?_
            exact ih  (x1 + 0) x2 (x3 + (-1)) hf _ _ _ hP hD hS (lv_sub hl [4, 2, 1, 0] rfl)
          · replace hf := op_f c6 hf
            refine lv_iload hx hb dX5_lateMany_49 (lv_at hl 1 rfl) ?_
            refine lv_iload_n hx hb dX5_lateMany_51 rfl (lv_at hl 3 rfl) ?_
            refine lv_icmp_ge (tgt := 60) hx hb dX5_lateMany_52 (by decide) (fun c7 => ?_) (fun c7 => ?_)
            · replace hf := op_t c7 hf
              refine lv_iload_n hx hb dX5_lateMany_60 rfl (lv_at hl 3 rfl) ?_
              refine lv_istore_n (lv' := [(2, .int x2), (1, .int (x1 + 0)), (4, .int (zs ((f_X5_n x3) + 2).toNatClampNeg)), (0, .ref h), (3, .int x3)]) hx hb dX5_lateMany_61 rfl hl (by decide) rfl (fun ls hl => ?_)
              refine lv_iinc (v := (x3 + (-1))) (lv' := [(3, .int (x3 + (-1))), (2, .int x2), (1, .int (x1 + 0)), (4, .int (zs ((f_X5_n x3) + 2).toNatClampNeg)), (0, .ref h)]) hx hb dX5_lateMany_62 hl (k := 4) rfl rfl (by decide) rfl (fun ls hl => ?_)
              refine lv_goto (tgt := 13) hx hb dX5_lateMany_65 (by decide) ?_
              exact ih  (x1 + 0) x2 (x3 + (-1)) hf _ _ _ hP hD hS (lv_sub hl [4, 2, 1, 0] rfl)
            · replace hf := op_f c7 hf
              refine lv_iload hx hb dX5_lateMany_55 (lv_at hl 1 rfl) ?_
              refine lv_goto (tgt := 61) hx hb dX5_lateMany_57 (by decide) ?_
              refine lv_istore_n (lv' := [(2, .int (zs ((f_X5_n x3) + 2).toNatClampNeg)), (1, .int (x1 + 0)), (4, .int (zs ((f_X5_n x3) + 2).toNatClampNeg)), (0, .ref h), (3, .int x3)]) hx hb dX5_lateMany_61 rfl hl (by decide) rfl (fun ls hl => ?_)
              refine lv_iinc (v := (x3 + (-1))) (lv' := [(3, .int (x3 + (-1))), (2, .int (zs ((f_X5_n x3) + 2).toNatClampNeg)), (1, .int (x1 + 0)), (4, .int (zs ((f_X5_n x3) + 2).toNatClampNeg)), (0, .ref h)]) hx hb dX5_lateMany_62 hl (k := 4) rfl rfl (by decide) rfl (fun ls hl => ?_)
              refine lv_goto (tgt := 13) hx hb dX5_lateMany_65 (by decide) ?_
              exact ih  (x1 + 0) (zs ((f_X5_n x3) + 2).toNatClampNeg) (x3 + (-1)) hf _ _ _ hP hD hS (lv_sub hl [4, 2, 1, 0] rfl)
        · replace hf := op_f c5 hf
          refine lv_iconst (v := 1) hx hb dX5_lateMany_37 (by decide) ?_
          refine lv_goto (tgt := 42) hx hb dX5_lateMany_38 (by decide) ?_
          refine lv_iadd hx hb dX5_lateMany_42 ?_
          refine lv_istore_n (lv' := [(1, .int (x1 + 1)), (4, .int (zs ((f_X5_n x3) + 2).toNatClampNeg)), (0, .ref h), (2, .int x2), (3, .int x3)]) hx hb dX5_lateMany_43 rfl hl (by decide) rfl (fun ls hl => ?_)
          refine lv_iload hx hb dX5_lateMany_44 (lv_at hl 1 rfl) ?_
          refine lv_if_lt (tgt := 60) hx hb dX5_lateMany_46 (by decide) (fun c8 => ?_) (fun c8 => ?_)
          · replace hf := op_t c8 hf
            refine lv_iload_n hx hb dX5_lateMany_60 rfl (lv_at hl 3 rfl) ?_
            refine lv_istore_n (lv' := [(2, .int x2), (1, .int (x1 + 1)), (4, .int (zs ((f_X5_n x3) + 2).toNatClampNeg)), (0, .ref h), (3, .int x3)]) hx hb dX5_lateMany_61 rfl hl (by decide) rfl (fun ls hl => ?_)
            refine lv_iinc (v := (x3 + (-1))) (lv' := [(3, .int (x3 + (-1))), (2, .int x2), (1, .int (x1 + 1)), (4, .int (zs ((f_X5_n x3) + 2).toNatClampNeg)), (0, .ref h)]) hx hb dX5_lateMany_62 hl (k := 4) rfl rfl (by decide) rfl (fun ls hl => ?_)
            refine lv_goto (tgt := 13) hx hb dX5_lateMany_65 (by decide) ?_
            exact ih  (x1 + 1) x2 (x3 + (-1)) hf _ _ _ hP hD hS (lv_sub hl [4, 2, 1, 0] rfl)
          · replace hf := op_f c8 hf
            refine lv_iload hx hb dX5_lateMany_49 (lv_at hl 1 rfl) ?_
            refine lv_iload_n hx hb dX5_lateMany_51 rfl (lv_at hl 3 rfl) ?_
            refine lv_icmp_ge (tgt := 60) hx hb dX5_lateMany_52 (by decide) (fun c9 => ?_) (fun c9 => ?_)
            · replace hf := op_t c9 hf
              refine lv_iload_n hx hb dX5_lateMany_60 rfl (lv_at hl 3 rfl) ?_
              refine lv_istore_n (lv' := [(2, .int x2), (1, .int (x1 + 1)), (4, .int (zs ((f_X5_n x3) + 2).toNatClampNeg)), (0, .ref h), (3, .int x3)]) hx hb dX5_lateMany_61 rfl hl (by decide) rfl (fun ls hl => ?_)
              refine lv_iinc (v := (x3 + (-1))) (lv' := [(3, .int (x3 + (-1))), (2, .int x2), (1, .int (x1 + 1)), (4, .int (zs ((f_X5_n x3) + 2).toNatClampNeg)), (0, .ref h)]) hx hb dX5_lateMany_62 hl (k := 4) rfl rfl (by decide) rfl (fun ls hl => ?_)
              refine lv_goto (tgt := 13) hx hb dX5_lateMany_65 (by decide) ?_
              exact ih  (x1 + 1) x2 (x3 + (-1)) hf _ _ _ hP hD hS (lv_sub hl [4, 2, 1, 0] rfl)
            · replace hf := op_f c9 hf
              refine lv_iload hx hb dX5_lateMany_55 (lv_at hl 1 rfl) ?_
              refine lv_goto (tgt := 61) hx hb dX5_lateMany_57 (by decide) ?_
              refine lv_istore_n (lv' := [(2, .int (zs ((f_X5_n x3) + 2).toNatClampNeg)), (1, .int (x1 + 1)), (4, .int (zs ((f_X5_n x3) + 2).toNatClampNeg)), (0, .ref h), (3, .int x3)]) hx hb dX5_lateMany_61 rfl hl (by decide) rfl (fun ls hl => ?_)
              refine lv_iinc (v := (x3 + (-1))) (lv' := [(3, .int (x3 + (-1))), (2, .int (zs ((f_X5_n x3) + 2).toNatClampNeg)), (1, .int (x1 + 1)), (4, .int (zs ((f_X5_n x3) + 2).toNatClampNeg)), (0, .ref h)]) hx hb dX5_lateMany_62 hl (k := 4) rfl rfl (by decide) rfl (fun ls hl => ?_)
              refine lv_goto (tgt := 13) hx hb dX5_lateMany_65 (by decide) ?_
              exact ih  (x1 + 1) (zs ((f_X5_n x3) + 2).toNatClampNeg) (x3 + (-1)) hf _ _ _ hP hD hS (lv_sub hl [4, 2, 1, 0] rfl)
  rw [f_X5_lateMany] at hf
  refine lv_iconst (v := 0) hx hb dX5_lateMany_0 (by decide) ?_
  refine lv_istore_n (lv' := [(1, .int 0), (0, .ref h)]) hx hb dX5_lateMany_1 rfl hl (by decide) rfl (fun ls hl => ?_)
  refine lv_aload_n hx hb dX5_lateMany_2 rfl (lv_at hl 1 rfl) ?_
  refine va_get (D := D) (ci := 5) (v := .ref a1) (C := RX5) (T := TX5) (N := 11) hx hb hts iX5 hown hK hP 0 rfl rfl 0 (by decide) w7 (fun _ h9 => h9) rfl dX5_lateMany_3 ?_
  refine lv_iconst (v := 5) hx hb dX5_lateMany_6 (by decide) ?_
  refine ck_iald (j := 5) hx hb hK hP 1 0 rfl rfl (in_lit (by decide)) (by decide) dX5_lateMany_7 ?_
  refine lv_istore_n (lv' := [(2, .int (zs 5)), (1, .int 0), (0, .ref h)]) hx hb dX5_lateMany_8 rfl hl (by decide) rfl (fun ls hl => ?_)
  refine lv_sipush (v := 600) hx hb dX5_lateMany_9 (by decide) ?_
  refine lv_istore_n (lv' := [(3, .int 600), (2, .int (zs 5)), (1, .int 0), (0, .ref h)]) hx hb dX5_lateMany_12 rfl hl (by decide) rfl (fun ls hl => ?_)
  exact L_13 K  0 (zs 5) 600 hf _ _ _ hP hD hS (lv_sub hl [3, 2, 1, 0] rfl)
