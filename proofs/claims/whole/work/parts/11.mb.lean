/-! laid by wip/whole/gen.py: walks of the reference's methods -/
set_option maxHeartbeats 4000000 in
set_option maxRecDepth 100000 in
theorem c_X5_giveOne (l : Launch) (D : va_G) (cI cC cK cO : ClassId) (h : Nat) (a1 : Nat) (a2 : Nat) (a3 : Nat) (a4 : Nat) (zs : Nat → Int32) (zb : Nat → Int32) (za : Nat → Int32) (zt : Nat → Int32) (zl : Int32) (zu : Int32) (zp : Int32) (zw : Int32) (zf : Int32) (zg : Int32) (zc : Int32) (x1 : Int32) (K : Nat) (R : (Nat → Int32)) (hf : f_X5_giveOne K zs x1 = some R) : KV l D (TY cI cC cK cO) E0 yX5_giveOne wsX5_giveOne 4 [.ref h, .int x1] (wM cI h a1 a2 a3 a4 zs zb za zt zl zu zp zw zf zg zc) (fun (u : (Nat → Int32)) => u = R) (fun u => (wM cI h a1 a2 a3 a4 u zb za zt zl zu zp zw zf zg zc)) := by
  refine KV.of (cc := cX5_giveOne) (maxL := 5) (C := RX5) (by decide) rfl rfl (Nat.le_of_ble_eq_true rfl) ?_
  intro p e s m args below meth c A Q hx hb hml hts hown hP hK hD hA hE hS hret ls hl
  replace hl : lv_has ls 5 [(0, .ref h), (1, .int x1)] := hl
  have w7 := hts (.fieldLink RX5 7 "BlockClerksModel" "s" "[I") (by decide +kernel)
  have iX5 : ∀ w ∈ wsX50, w ∈ wsX5_giveOne := by decide +kernel
  rw [f_X5_giveOne] at hf
  refine lv_iload_n hx hb dX5_giveOne_0 rfl (lv_at hl 1 rfl) ?_
  refine ck_SI (st := [.int x1]) (rest := []) (As := [.int x1]) ⟨hx, hb, hml, hown, hts⟩ E0_ok (c_X5_c l D cI cC cK cO  x1 _ rfl) (va_cwS 1 hts gX5_giveOne_X5_c rfl rfl rfl hs_X5_c ⟨Nat.le_of_ble_eq_true rfl, Nat.le_of_ble_eq_true rfl⟩) hK hP hD hS hA hE rfl hl.1 rfl (Nat.le_of_ble_eq_true rfl) dX5_giveOne_1 ⟨Nat.zero_le _, Nat.zero_le _⟩ (fun r H locs hw hP hS => ?_)
  cases hw
  refine lv_istore_n (lv' := [(2, .int (f_X5_c x1)), (0, .ref h), (1, .int x1)]) hx hb dX5_giveOne_4 rfl hl (by decide) rfl (fun ls hl => ?_)
  refine lv_aload_n hx hb dX5_giveOne_5 rfl (lv_at hl 1 rfl) ?_
  refine lv_iload_n hx hb dX5_giveOne_6 rfl (lv_at hl 2 rfl) ?_
  obtain ⟨r3, h4, hf⟩ := op_b hf
  refine ck_VI (st := [.int x1, .ref h]) (rest := []) (As := [.int x1]) (C := RX5) (ci := 5) ⟨hx, hb, hml, hown, hts⟩ E0_ok (c_X5_holds l D cI cC cK cO h a1 a2 a3 a4 zs zb za zt zl zu zp zw zf zg zc x1 _ h4) (cwV 1 hts gX5_giveOne_X5_holds rfl rfl rfl hv_X5_holds ⟨Nat.le_of_ble_eq_true rfl, Nat.le_of_ble_eq_true rfl⟩) hK hP hD hS hA hE [0, 1, 2, 3, 4] rfl rfl rfl rfl rfl (fun _ => rfl) rfl hl.1 rfl (Nat.le_of_ble_eq_true rfl) dX5_giveOne_7 ⟨Nat.zero_le _, Nat.zero_le _⟩ (fun r u H locs hw hP hD hS => ?_)
  cases hw
  replace hP : va_P D vwCl (wM cI h a1 a2 a3 a4 zs zb za zt zl zu zp zw zf zg zc) H := hP
  replace hD : va_D A (wM cI h a1 a2 a3 a4 zs zb za zt zl zu zp zw zf zg zc) := hD
  refine lv_if_ne (tgt := 18) hx hb dX5_giveOne_10 (by decide) (fun c6 => ?_) (fun c6 => ?_)
  · replace hf := op_f c6 hf
    refine lv_aload_n hx hb dX5_giveOne_18 rfl (lv_at hl 1 rfl) ?_
    refine va_get (D := D) (ci := 5) (v := .ref a1) (C := RX5) (T := TX5) (N := 11) hx hb hts iX5 hown hK hP 0 rfl rfl 0 (by decide) w7 (fun _ h9 => h9) rfl dX5_giveOne_19 ?_
    refine lv_iload_n hx hb dX5_giveOne_22 rfl (lv_at hl 0 rfl) ?_
    refine lv_iconst (v := 1) hx hb dX5_giveOne_23 (by decide) ?_
    refine lv_iadd hx hb dX5_giveOne_24 ?_
    obtain ⟨q7, hf⟩ := op_x hf
    refine ck_iald (j := ((f_X5_c x1) + 1).toNatClampNeg) hx hb hK hP 1 0 rfl rfl q7 rfl dX5_giveOne_25 ?_
    refine lv_istore_n (lv' := [(3, .int (zs ((f_X5_c x1) + 1).toNatClampNeg)), (2, .int (f_X5_c x1)), (0, .ref h), (1, .int x1)]) hx hb dX5_giveOne_26 rfl hl (by decide) rfl (fun ls hl => ?_)
    refine lv_aload_n hx hb dX5_giveOne_27 rfl (lv_at hl 2 rfl) ?_
    refine va_get (D := D) (ci := 5) (v := .ref a1) (C := RX5) (T := TX5) (N := 11) hx hb hts iX5 hown hK hP 0 rfl rfl 0 (by decide) w7 (fun _ h9 => h9) rfl dX5_giveOne_28 ?_
    refine lv_iload_n hx hb dX5_giveOne_31 rfl (lv_at hl 1 rfl) ?_
    refine lv_iconst (v := 1) hx hb dX5_giveOne_32 (by decide) ?_
    refine lv_iadd hx hb dX5_giveOne_33 ?_
    refine lv_dup2_11 hx hb dX5_giveOne_34 rfl rfl ?_
    obtain ⟨q8, hf⟩ := op_x hf
    refine ck_iald (j := ((f_X5_c x1) + 1).toNatClampNeg) hx hb hK hP 1 0 rfl rfl q8 rfl dX5_giveOne_35 ?_
    refine lv_iconst (v := 1) hx hb dX5_giveOne_36 (by decide) ?_
    refine lv_iadd hx hb dX5_giveOne_37 ?_
    obtain ⟨q9, hf⟩ := op_x hf
    obtain ⟨y10, e11, hf⟩ := nb_o hf
    refine ck_iast (f' := y10) hx hb hK hP hD hS 1 0 rfl rfl q9 dX5_giveOne_38 e11 (fun H locs hP hD hS => ?_)
    replace hP : va_P D vwCl (wM cI h a1 a2 a3 a4 y10 zb za zt zl zu zp zw zf zg zc) H := hP
    replace hD : va_D A (wM cI h a1 a2 a3 a4 y10 zb za zt zl zu zp zw zf zg zc) := hD
    refine lv_aload_n hx hb dX5_giveOne_39 rfl (lv_at hl 2 rfl) ?_
    refine va_get (D := D) (ci := 5) (v := .ref a1) (C := RX5) (T := TX5) (N := 11) hx hb hts iX5 hown hK hP 0 rfl rfl 0 (by decide) w7 (fun _ h9 => h9) rfl dX5_giveOne_40 ?_
    refine lv_iload_n hx hb dX5_giveOne_43 rfl (lv_at hl 0 rfl) ?_
    refine ck_SI (st := [.int (zs ((f_X5_c x1) + 1).toNatClampNeg), .ref a1]) (rest := [.ref a1]) (As := [.int (zs ((f_X5_c x1) + 1).toNatClampNeg)]) ⟨hx, hb, hml, hown, hts⟩ E0_ok (c_X5_n l D cI cC cK cO  (zs ((f_X5_c x1) + 1).toNatClampNeg) _ rfl) (va_cwS 1 hts gX5_giveOne_X5_n rfl rfl rfl hs_X5_n ⟨Nat.le_of_ble_eq_true rfl, Nat.le_of_ble_eq_true rfl⟩) hK hP hD hS hA hE rfl hl.1 rfl (Nat.le_of_ble_eq_true rfl) dX5_giveOne_44 ⟨Nat.zero_le _, Nat.zero_le _⟩ (fun r H locs hw hP hS => ?_)
    cases hw
    refine lv_iconst (v := 0) hx hb dX5_giveOne_47 (by decide) ?_
    refine lv_iadd hx hb dX5_giveOne_48 ?_
    refine lv_iconst (v := 2) hx hb dX5_giveOne_49 (by decide) ?_
    obtain ⟨q14, hf⟩ := op_x hf
    obtain ⟨y15, e16, hf⟩ := nb_o hf
    refine ck_iast (f' := y15) hx hb hK hP hD hS 1 0 rfl rfl q14 dX5_giveOne_50 e16 (fun H locs hP hD hS => ?_)
    replace hP : va_P D vwCl (wM cI h a1 a2 a3 a4 y15 zb za zt zl zu zp zw zf zg zc) H := hP
    replace hD : va_D A (wM cI h a1 a2 a3 a4 y15 zb za zt zl zu zp zw zf zg zc) := hD
    refine lv_aload_n hx hb dX5_giveOne_51 rfl (lv_at hl 2 rfl) ?_
    refine va_get (D := D) (ci := 5) (v := .ref a1) (C := RX5) (T := TX5) (N := 11) hx hb hts iX5 hown hK hP 0 rfl rfl 0 (by decide) w7 (fun _ h9 => h9) rfl dX5_giveOne_52 ?_
    refine lv_iload_n hx hb dX5_giveOne_55 rfl (lv_at hl 0 rfl) ?_
    refine ck_SI (st := [.int (zs ((f_X5_c x1) + 1).toNatClampNeg), .ref a1]) (rest := [.ref a1]) (As := [.int (zs ((f_X5_c x1) + 1).toNatClampNeg)]) ⟨hx, hb, hml, hown, hts⟩ E0_ok (c_X5_n l D cI cC cK cO  (zs ((f_X5_c x1) + 1).toNatClampNeg) _ rfl) (va_cwS 1 hts gX5_giveOne_X5_n rfl rfl rfl hs_X5_n ⟨Nat.le_of_ble_eq_true rfl, Nat.le_of_ble_eq_true rfl⟩) hK hP hD hS hA hE rfl hl.1 rfl (Nat.le_of_ble_eq_true rfl) dX5_giveOne_56 ⟨Nat.zero_le _, Nat.zero_le _⟩ (fun r H locs hw hP hS => ?_)
    cases hw
    refine lv_iconst (v := 2) hx hb dX5_giveOne_59 (by decide) ?_
    refine lv_iadd hx hb dX5_giveOne_60 ?_
    refine lv_aload_n hx hb dX5_giveOne_61 rfl (lv_at hl 2 rfl) ?_
    refine va_get (D := D) (ci := 5) (v := .ref a1) (C := RX5) (T := TX5) (N := 11) hx hb hts iX5 hown hK hP 0 rfl rfl 0 (by decide) w7 (fun _ h9 => h9) rfl dX5_giveOne_62 ?_
    refine lv_iconst (v := 5) hx hb dX5_giveOne_65 (by decide) ?_
    refine ck_iald (j := 5) hx hb hK hP 1 0 rfl rfl (in_lit (by decide)) (by decide) dX5_giveOne_66 ?_
    obtain ⟨q19, hf⟩ := op_x hf
    obtain ⟨y20, e21, hf⟩ := nb_o hf
    refine ck_iast (f' := y20) hx hb hK hP hD hS 1 0 rfl rfl q19 dX5_giveOne_67 e21 (fun H locs hP hD hS => ?_)
    replace hP : va_P D vwCl (wM cI h a1 a2 a3 a4 y20 zb za zt zl zu zp zw zf zg zc) H := hP
    replace hD : va_D A (wM cI h a1 a2 a3 a4 y20 zb za zt zl zu zp zw zf zg zc) := hD
    refine lv_aload_n hx hb dX5_giveOne_68 rfl (lv_at hl 2 rfl) ?_
    refine va_get (D := D) (ci := 5) (v := .ref a1) (C := RX5) (T := TX5) (N := 11) hx hb hts iX5 hown hK hP 0 rfl rfl 0 (by decide) w7 (fun _ h9 => h9) rfl dX5_giveOne_69 ?_
    refine lv_iload_n hx hb dX5_giveOne_72 rfl (lv_at hl 0 rfl) ?_
    refine ck_SI (st := [.int (zs ((f_X5_c x1) + 1).toNatClampNeg), .ref a1]) (rest := [.ref a1]) (As := [.int (zs ((f_X5_c x1) + 1).toNatClampNeg)]) ⟨hx, hb, hml, hown, hts⟩ E0_ok (c_X5_n l D cI cC cK cO  (zs ((f_X5_c x1) + 1).toNatClampNeg) _ rfl) (va_cwS 1 hts gX5_giveOne_X5_n rfl rfl rfl hs_X5_n ⟨Nat.le_of_ble_eq_true rfl, Nat.le_of_ble_eq_true rfl⟩) hK hP hD hS hA hE rfl hl.1 rfl (Nat.le_of_ble_eq_true rfl) dX5_giveOne_73 ⟨Nat.zero_le _, Nat.zero_le _⟩ (fun r H locs hw hP hS => ?_)
    cases hw
    refine lv_iconst (v := 3) hx hb dX5_giveOne_76 (by decide) ?_
    refine lv_iadd hx hb dX5_giveOne_77 ?_
    refine lv_aload_n hx hb dX5_giveOne_78 rfl (lv_at hl 2 rfl) ?_
    refine va_get (D := D) (ci := 5) (v := .ref a1) (C := RX5) (T := TX5) (N := 11) hx hb hts iX5 hown hK hP 0 rfl rfl 0 (by decide) w7 (fun _ h9 => h9) rfl dX5_giveOne_79 ?_
    refine lv_iconst (v := 4) hx hb dX5_giveOne_82 (by decide) ?_
    refine ck_iald (j := 4) hx hb hK hP 1 0 rfl rfl (in_lit (by decide)) (by decide) dX5_giveOne_83 ?_
    obtain ⟨q24, hf⟩ := op_x hf
    obtain ⟨y25, e26, hf⟩ := nb_o hf
    refine ck_iast (f' := y25) hx hb hK hP hD hS 1 0 rfl rfl q24 dX5_giveOne_84 e26 (fun H locs hP hD hS => ?_)
    replace hP : va_P D vwCl (wM cI h a1 a2 a3 a4 y25 zb za zt zl zu zp zw zf zg zc) H := hP
    replace hD : va_D A (wM cI h a1 a2 a3 a4 y25 zb za zt zl zu zp zw zf zg zc) := hD
    refine lv_aload_n hx hb dX5_giveOne_85 rfl (lv_at hl 2 rfl) ?_
    refine va_get (D := D) (ci := 5) (v := .ref a1) (C := RX5) (T := TX5) (N := 11) hx hb hts iX5 hown hK hP 0 rfl rfl 0 (by decide) w7 (fun _ h9 => h9) rfl dX5_giveOne_86 ?_
    refine lv_iconst (v := 5) hx hb dX5_giveOne_89 (by decide) ?_
    refine lv_dup2_11 hx hb dX5_giveOne_90 rfl rfl ?_
    refine ck_iald (j := 5) hx hb hK hP 1 0 rfl rfl (in_lit (by decide)) (by decide) dX5_giveOne_91 ?_
    refine lv_iconst (v := 1) hx hb dX5_giveOne_92 (by decide) ?_
    refine lv_iadd hx hb dX5_giveOne_93 ?_
    obtain ⟨y27, e28, hf⟩ := nb_o hf
    refine ck_iast (f' := y27) hx hb hK hP hD hS 1 0 rfl rfl (in_lit (by decide)) dX5_giveOne_94 (by rw [e28, show (5 : Int32).toNatClampNeg = 5 from by decide]) (fun H locs hP hD hS => ?_)
    replace hP : va_P D vwCl (wM cI h a1 a2 a3 a4 y27 zb za zt zl zu zp zw zf zg zc) H := hP
    replace hD : va_D A (wM cI h a1 a2 a3 a4 y27 zb za zt zl zu zp zw zf zg zc) := hD
    refine lv_aload_n hx hb dX5_giveOne_95 rfl (lv_at hl 2 rfl) ?_
    refine va_get (D := D) (ci := 5) (v := .ref a1) (C := RX5) (T := TX5) (N := 11) hx hb hts iX5 hown hK hP 0 rfl rfl 0 (by decide) w7 (fun _ h9 => h9) rfl dX5_giveOne_96 ?_
    refine lv_iload_n hx hb dX5_giveOne_99 rfl (lv_at hl 1 rfl) ?_
    refine lv_iconst (v := 4) hx hb dX5_giveOne_100 (by decide) ?_
    refine lv_iadd hx hb dX5_giveOne_101 ?_
    refine lv_dup2_11 hx hb dX5_giveOne_102 rfl rfl ?_
    obtain ⟨q29, hf⟩ := op_x hf
    refine ck_iald (j := ((f_X5_c x1) + 4).toNatClampNeg) hx hb hK hP 1 0 rfl rfl q29 rfl dX5_giveOne_103 ?_
    refine lv_iconst (v := 1) hx hb dX5_giveOne_104 (by decide) ?_
    refine lv_iadd hx hb dX5_giveOne_105 ?_
    obtain ⟨q30, hf⟩ := op_x hf
    obtain ⟨y31, e32, hf⟩ := nb_o hf
    refine ck_iast (f' := y31) hx hb hK hP hD hS 1 0 rfl rfl q30 dX5_giveOne_106 e32 (fun H locs hP hD hS => ?_)
    replace hP : va_P D vwCl (wM cI h a1 a2 a3 a4 y31 zb za zt zl zu zp zw zf zg zc) H := hP
    replace hD : va_D A (wM cI h a1 a2 a3 a4 y31 zb za zt zl zu zp zw zf zg zc) := hD
    refine lv_aload_n hx hb dX5_giveOne_107 rfl (lv_at hl 2 rfl) ?_
    refine va_get (D := D) (ci := 5) (v := .ref a1) (C := RX5) (T := TX5) (N := 11) hx hb hts iX5 hown hK hP 0 rfl rfl 0 (by decide) w7 (fun _ h9 => h9) rfl dX5_giveOne_108 ?_
    refine lv_iload_n hx hb dX5_giveOne_111 rfl (lv_at hl 1 rfl) ?_
    refine lv_bipush (v := 6) hx hb dX5_giveOne_112 (by decide) ?_
    refine lv_iadd hx hb dX5_giveOne_114 ?_
    refine lv_iload_n hx hb dX5_giveOne_115 rfl (lv_at hl 0 rfl) ?_
    obtain ⟨q33, hf⟩ := op_x hf
    obtain ⟨y34, e35, hf⟩ := nb_o hf
    refine ck_iast (f' := y34) hx hb hK hP hD hS 1 0 rfl rfl q33 dX5_giveOne_116 e35 (fun H locs hP hD hS => ?_)
    replace hP : va_P D vwCl (wM cI h a1 a2 a3 a4 y34 zb za zt zl zu zp zw zf zg zc) H := hP
    replace hD : va_D A (wM cI h a1 a2 a3 a4 y34 zb za zt zl zu zp zw zf zg zc) := hD
    refine lv_aload_n hx hb dX5_giveOne_117 rfl (lv_at hl 2 rfl) ?_
    refine va_get (D := D) (ci := 5) (v := .ref a1) (C := RX5) (T := TX5) (N := 11) hx hb hts iX5 hown hK hP 0 rfl rfl 0 (by decide) w7 (fun _ h9 => h9) rfl dX5_giveOne_118 ?_
    refine lv_iload_n hx hb dX5_giveOne_121 rfl (lv_at hl 1 rfl) ?_
    refine lv_iconst (v := 0) hx hb dX5_giveOne_122 (by decide) ?_
    refine lv_iadd hx hb dX5_giveOne_123 ?_
    obtain ⟨q36, hf⟩ := op_x hf
    refine ck_iald (j := ((f_X5_c x1) + 0).toNatClampNeg) hx hb hK hP 1 0 rfl rfl q36 rfl dX5_giveOne_124 ?_
    refine lv_if_ne (tgt := 140) hx hb dX5_giveOne_125 (by decide) (fun c37 => ?_) (fun c37 => ?_)
    · replace hf := op_f c37 hf
      refine lv_aload_n hx hb dX5_giveOne_140 rfl (lv_at hl 2 rfl) ?_
      refine va_get (D := D) (ci := 5) (v := .ref a1) (C := RX5) (T := TX5) (N := 11) hx hb hts iX5 hown hK hP 0 rfl rfl 0 (by decide) w7 (fun _ h9 => h9) rfl dX5_giveOne_141 ?_
      refine lv_iload_n hx hb dX5_giveOne_144 rfl (lv_at hl 1 rfl) ?_
      refine lv_iconst (v := 0) hx hb dX5_giveOne_145 (by decide) ?_
      refine lv_iadd hx hb dX5_giveOne_146 ?_
      obtain ⟨q38, hf⟩ := op_x hf
      refine ck_iald (j := ((f_X5_c x1) + 0).toNatClampNeg) hx hb hK hP 1 0 rfl rfl q38 rfl dX5_giveOne_147 ?_
      refine lv_iconst (v := 1) hx hb dX5_giveOne_148 (by decide) ?_
      refine lv_icmp_ne (tgt := 210) hx hb dX5_giveOne_149 (by decide) (fun c39 => ?_) (fun c39 => ?_)
      · replace hf := op_f c39 hf
        exact hret _ _ _ _ (y34) dX5_giveOne_210 (op_k hf) hP hS
      · replace hf := op_t c39 hf
        refine lv_iload_n hx hb dX5_giveOne_152 rfl (lv_at hl 0 rfl) ?_
        refine lv_aload_n hx hb dX5_giveOne_153 rfl (lv_at hl 2 rfl) ?_
        refine va_get (D := D) (ci := 5) (v := .ref a1) (C := RX5) (T := TX5) (N := 11) hx hb hts iX5 hown hK hP 0 rfl rfl 0 (by decide) w7 (fun _ h9 => h9) rfl dX5_giveOne_154 ?_
        refine lv_iload_n hx hb dX5_giveOne_157 rfl (lv_at hl 1 rfl) ?_
        refine lv_iconst (v := 3) hx hb dX5_giveOne_158 (by decide) ?_
        refine lv_iadd hx hb dX5_giveOne_159 ?_
        obtain ⟨q40, hf⟩ := op_x hf
        refine ck_iald (j := ((f_X5_c x1) + 3).toNatClampNeg) hx hb hK hP 1 0 rfl rfl q40 rfl dX5_giveOne_160 ?_
        refine lv_icmp_le (tgt := 210) hx hb dX5_giveOne_161 (by decide) (fun c41 => ?_) (fun c41 => ?_)
        · replace hf := op_t c41 hf
          exact hret _ _ _ _ (y34) dX5_giveOne_210 (op_k hf) hP hS
        · replace hf := op_f c41 hf
          refine lv_iload_n hx hb dX5_giveOne_164 rfl (lv_at hl 0 rfl) ?_
          refine lv_aload_n hx hb dX5_giveOne_165 rfl (lv_at hl 2 rfl) ?_
          refine va_get (D := D) (ci := 5) (v := .ref a1) (C := RX5) (T := TX5) (N := 11) hx hb hts iX5 hown hK hP 0 rfl rfl 0 (by decide) w7 (fun _ h9 => h9) rfl dX5_giveOne_166 ?_
          refine lv_iconst (v := 2) hx hb dX5_giveOne_169 (by decide) ?_
          refine ck_iald (j := 2) hx hb hK hP 1 0 rfl rfl (in_lit (by decide)) (by decide) dX5_giveOne_170 ?_
          refine lv_iadd hx hb dX5_giveOne_171 ?_
          refine lv_iconst (v := 1) hx hb dX5_giveOne_172 (by decide) ?_
          refine lv_isub hx hb dX5_giveOne_173 ?_
          refine lv_istore (lv' := [(4, .int (((zs ((f_X5_c x1) + 1).toNatClampNeg) + (y34 2)) - 1)), (3, .int (zs ((f_X5_c x1) + 1).toNatClampNeg)), (2, .int (f_X5_c x1)), (0, .ref h), (1, .int x1)]) hx hb dX5_giveOne_174 hl (by decide) rfl (fun ls hl => ?_)
          refine lv_aload_n hx hb dX5_giveOne_176 rfl (lv_at hl 3 rfl) ?_
          refine va_get (D := D) (ci := 5) (v := .ref a1) (C := RX5) (T := TX5) (N := 11) hx hb hts iX5 hown hK hP 0 rfl rfl 0 (by decide) w7 (fun _ h9 => h9) rfl dX5_giveOne_177 ?_
          refine lv_iload_n hx hb dX5_giveOne_180 rfl (lv_at hl 2 rfl) ?_
          refine lv_iconst (v := 3) hx hb dX5_giveOne_181 (by decide) ?_
          refine lv_iadd hx hb dX5_giveOne_182 ?_
          refine lv_iload hx hb dX5_giveOne_183 (lv_at hl 0 rfl) ?_
          refine lv_aload_n hx hb dX5_giveOne_185 rfl (lv_at hl 3 rfl) ?_
          refine va_get (D := D) (ci := 5) (v := .ref a1) (C := RX5) (T := TX5) (N := 11) hx hb hts iX5 hown hK hP 0 rfl rfl 0 (by decide) w7 (fun _ h9 => h9) rfl dX5_giveOne_186 ?_
          refine lv_iload_n hx hb dX5_giveOne_189 rfl (lv_at hl 2 rfl) ?_
          refine lv_iconst (v := 2) hx hb dX5_giveOne_190 (by decide) ?_
          refine lv_iadd hx hb dX5_giveOne_191 ?_
          obtain ⟨q42, hf⟩ := op_x hf
          refine ck_iald (j := ((f_X5_c x1) + 2).toNatClampNeg) hx hb hK hP 1 0 rfl rfl q42 rfl dX5_giveOne_192 ?_
          refine lv_icmp_ge (tgt := 201) hx hb dX5_giveOne_193 (by decide) (fun c43 => ?_) (fun c43 => ?_)
          · replace hf := op_t c43 hf
            refine lv_aload_n hx hb dX5_giveOne_201 rfl (lv_at hl 3 rfl) ?_
            refine va_get (D := D) (ci := 5) (v := .ref a1) (C := RX5) (T := TX5) (N := 11) hx hb hts iX5 hown hK hP 0 rfl rfl 0 (by decide) w7 (fun _ h9 => h9) rfl dX5_giveOne_202 ?_
            refine lv_iload_n hx hb dX5_giveOne_205 rfl (lv_at hl 2 rfl) ?_
            refine lv_iconst (v := 2) hx hb dX5_giveOne_206 (by decide) ?_
            refine lv_iadd hx hb dX5_giveOne_207 ?_
            obtain ⟨q44, hf⟩ := op_x hf
            refine ck_iald (j := ((f_X5_c x1) + 2).toNatClampNeg) hx hb hK hP 1 0 rfl rfl q44 rfl dX5_giveOne_208 ?_
            obtain ⟨q45, hf⟩ := op_x hf
            obtain ⟨y46, e47, hf⟩ := nb_o hf
            refine ck_iast (f' := y46) hx hb hK hP hD hS 1 0 rfl rfl q45 dX5_giveOne_209 e47 (fun H locs hP hD hS => ?_)
            replace hP : va_P D vwCl (wM cI h a1 a2 a3 a4 y46 zb za zt zl zu zp zw zf zg zc) H := hP
            replace hD : va_D A (wM cI h a1 a2 a3 a4 y46 zb za zt zl zu zp zw zf zg zc) := hD
            exact hret _ _ _ _ (y46) dX5_giveOne_210 (op_k hf) hP hS
          · replace hf := op_f c43 hf
            refine lv_iload hx hb dX5_giveOne_196 (lv_at hl 0 rfl) ?_
            refine lv_goto (tgt := 209) hx hb dX5_giveOne_198 (by decide) ?_
            obtain ⟨q48, hf⟩ := op_x hf
            obtain ⟨y49, e50, hf⟩ := nb_o hf
            refine ck_iast (f' := y49) hx hb hK hP hD hS 1 0 rfl rfl q48 dX5_giveOne_209 e50 (fun H locs hP hD hS => ?_)
            replace hP : va_P D vwCl (wM cI h a1 a2 a3 a4 y49 zb za zt zl zu zp zw zf zg zc) H := hP
            replace hD : va_D A (wM cI h a1 a2 a3 a4 y49 zb za zt zl zu zp zw zf zg zc) := hD
            exact hret _ _ _ _ (y49) dX5_giveOne_210 (op_k hf) hP hS
    · replace hf := op_t c37 hf
      refine lv_aload_n hx hb dX5_giveOne_128 rfl (lv_at hl 2 rfl) ?_
      refine va_get (D := D) (ci := 5) (v := .ref a1) (C := RX5) (T := TX5) (N := 11) hx hb hts iX5 hown hK hP 0 rfl rfl 0 (by decide) w7 (fun _ h9 => h9) rfl dX5_giveOne_129 ?_
      refine lv_iload_n hx hb dX5_giveOne_132 rfl (lv_at hl 1 rfl) ?_
      refine lv_iconst (v := 3) hx hb dX5_giveOne_133 (by decide) ?_
      refine lv_iadd hx hb dX5_giveOne_134 ?_
      refine lv_iload_n hx hb dX5_giveOne_135 rfl (lv_at hl 0 rfl) ?_
      obtain ⟨q51, hf⟩ := op_x hf
      obtain ⟨y52, e53, hf⟩ := nb_o hf
      refine ck_iast (f' := y52) hx hb hK hP hD hS 1 0 rfl rfl q51 dX5_giveOne_136 e53 (fun H locs hP hD hS => ?_)
      replace hP : va_P D vwCl (wM cI h a1 a2 a3 a4 y52 zb za zt zl zu zp zw zf zg zc) H := hP
      replace hD : va_D A (wM cI h a1 a2 a3 a4 y52 zb za zt zl zu zp zw zf zg zc) := hD
      refine lv_goto (tgt := 210) hx hb dX5_giveOne_137 (by decide) ?_
      exact hret _ _ _ _ (y52) dX5_giveOne_210 (op_k hf) hP hS
  · replace hf := op_t c6 hf
    refine lv_aload_n hx hb dX5_giveOne_13 rfl (lv_at hl 1 rfl) ?_
    refine lv_iload_n hx hb dX5_giveOne_14 rfl (lv_at hl 2 rfl) ?_
    obtain ⟨y55, h56, hf⟩ := op_b hf
    refine ck_VV (st := [.int x1, .ref h]) (rest := []) (As := [.int x1]) (C := RX5) (ci := 5) ⟨hx, hb, hml, hown, hts⟩ E0_ok (c_X5_getBlock l D cI cC cK cO h a1 a2 a3 a4 zs zb za zt zl zu zp zw zf zg zc x1 K _ h56) (cwV 1 hts gX5_giveOne_X5_getBlock rfl rfl rfl hv_X5_getBlock ⟨Nat.le_of_ble_eq_true rfl, Nat.le_of_ble_eq_true rfl⟩) hK hP hD hS hA hE [0, 1, 2, 3, 4] rfl rfl rfl rfl rfl (fun _ => rfl) rfl hl.1 rfl (Nat.le_of_ble_eq_true rfl) dX5_giveOne_15 ⟨Nat.zero_le _, Nat.zero_le _⟩ (fun u H locs hw hP hD hS => ?_)
    cases hw
    replace hP : va_P D vwCl (wM cI h a1 a2 a3 a4 y55 zb za zt zl zu zp zw zf zg zc) H := hP
    replace hD : va_D A (wM cI h a1 a2 a3 a4 y55 zb za zt zl zu zp zw zf zg zc) := hD
    refine lv_aload_n hx hb dX5_giveOne_18 rfl (lv_at hl 1 rfl) ?_
    refine va_get (D := D) (ci := 5) (v := .ref a1) (C := RX5) (T := TX5) (N := 11) hx hb hts iX5 hown hK hP 0 rfl rfl 0 (by decide) w7 (fun _ h9 => h9) rfl dX5_giveOne_19 ?_
    refine lv_iload_n hx hb dX5_giveOne_22 rfl (lv_at hl 0 rfl) ?_
    refine lv_iconst (v := 1) hx hb dX5_giveOne_23 (by decide) ?_
    refine lv_iadd hx hb dX5_giveOne_24 ?_
    obtain ⟨q58, hf⟩ := op_x hf
    refine ck_iald (j := ((f_X5_c x1) + 1).toNatClampNeg) hx hb hK hP 1 0 rfl rfl q58 rfl dX5_giveOne_25 ?_
    refine lv_istore_n (lv' := [(3, .int (y55 ((f_X5_c x1) + 1).toNatClampNeg)), (2, .int (f_X5_c x1)), (0, .ref h), (1, .int x1)]) hx hb dX5_giveOne_26 rfl hl (by decide) rfl (fun ls hl => ?_)
    refine lv_aload_n hx hb dX5_giveOne_27 rfl (lv_at hl 2 rfl) ?_
    refine va_get (D := D) (ci := 5) (v := .ref a1) (C := RX5) (T := TX5) (N := 11) hx hb hts iX5 hown hK hP 0 rfl rfl 0 (by decide) w7 (fun _ h9 => h9) rfl dX5_giveOne_28 ?_
    refine lv_iload_n hx hb dX5_giveOne_31 rfl (lv_at hl 1 rfl) ?_
    refine lv_iconst (v := 1) hx hb dX5_giveOne_32 (by decide) ?_
    refine lv_iadd hx hb dX5_giveOne_33 ?_
    refine lv_dup2_11 hx hb dX5_giveOne_34 rfl rfl ?_
    obtain ⟨q59, hf⟩ := op_x hf
    refine ck_iald (j := ((f_X5_c x1) + 1).toNatClampNeg) hx hb hK hP 1 0 rfl rfl q59 rfl dX5_giveOne_35 ?_
    refine lv_iconst (v := 1) hx hb dX5_giveOne_36 (by decide) ?_
    refine lv_iadd hx hb dX5_giveOne_37 ?_
    obtain ⟨q60, hf⟩ := op_x hf
    obtain ⟨y61, e62, hf⟩ := nb_o hf
    refine ck_iast (f' := y61) hx hb hK hP hD hS 1 0 rfl rfl q60 dX5_giveOne_38 e62 (fun H locs hP hD hS => ?_)
    replace hP : va_P D vwCl (wM cI h a1 a2 a3 a4 y61 zb za zt zl zu zp zw zf zg zc) H := hP
    replace hD : va_D A (wM cI h a1 a2 a3 a4 y61 zb za zt zl zu zp zw zf zg zc) := hD
    refine lv_aload_n hx hb dX5_giveOne_39 rfl (lv_at hl 2 rfl) ?_
    refine va_get (D := D) (ci := 5) (v := .ref a1) (C := RX5) (T := TX5) (N := 11) hx hb hts iX5 hown hK hP 0 rfl rfl 0 (by decide) w7 (fun _ h9 => h9) rfl dX5_giveOne_40 ?_
    refine lv_iload_n hx hb dX5_giveOne_43 rfl (lv_at hl 0 rfl) ?_
    refine ck_SI (st := [.int (y55 ((f_X5_c x1) + 1).toNatClampNeg), .ref a1]) (rest := [.ref a1]) (As := [.int (y55 ((f_X5_c x1) + 1).toNatClampNeg)]) ⟨hx, hb, hml, hown, hts⟩ E0_ok (c_X5_n l D cI cC cK cO  (y55 ((f_X5_c x1) + 1).toNatClampNeg) _ rfl) (va_cwS 1 hts gX5_giveOne_X5_n rfl rfl rfl hs_X5_n ⟨Nat.le_of_ble_eq_true rfl, Nat.le_of_ble_eq_true rfl⟩) hK hP hD hS hA hE rfl hl.1 rfl (Nat.le_of_ble_eq_true rfl) dX5_giveOne_44 ⟨Nat.zero_le _, Nat.zero_le _⟩ (fun r H locs hw hP hS => ?_)
    cases hw
    refine lv_iconst (v := 0) hx hb dX5_giveOne_47 (by decide) ?_
    refine lv_iadd hx hb dX5_giveOne_48 ?_
    refine lv_iconst (v := 2) hx hb dX5_giveOne_49 (by decide) ?_
    obtain ⟨q65, hf⟩ := op_x hf
    obtain ⟨y66, e67, hf⟩ := nb_o hf
    refine ck_iast (f' := y66) hx hb hK hP hD hS 1 0 rfl rfl q65 dX5_giveOne_50 e67 (fun H locs hP hD hS => ?_)
    replace hP : va_P D vwCl (wM cI h a1 a2 a3 a4 y66 zb za zt zl zu zp zw zf zg zc) H := hP
    replace hD : va_D A (wM cI h a1 a2 a3 a4 y66 zb za zt zl zu zp zw zf zg zc) := hD
    refine lv_aload_n hx hb dX5_giveOne_51 rfl (lv_at hl 2 rfl) ?_
    refine va_get (D := D) (ci := 5) (v := .ref a1) (C := RX5) (T := TX5) (N := 11) hx hb hts iX5 hown hK hP 0 rfl rfl 0 (by decide) w7 (fun _ h9 => h9) rfl dX5_giveOne_52 ?_
    refine lv_iload_n hx hb dX5_giveOne_55 rfl (lv_at hl 0 rfl) ?_
    refine ck_SI (st := [.int (y55 ((f_X5_c x1) + 1).toNatClampNeg), .ref a1]) (rest := [.ref a1]) (As := [.int (y55 ((f_X5_c x1) + 1).toNatClampNeg)]) ⟨hx, hb, hml, hown, hts⟩ E0_ok (c_X5_n l D cI cC cK cO  (y55 ((f_X5_c x1) + 1).toNatClampNeg) _ rfl) (va_cwS 1 hts gX5_giveOne_X5_n rfl rfl rfl hs_X5_n ⟨Nat.le_of_ble_eq_true rfl, Nat.le_of_ble_eq_true rfl⟩) hK hP hD hS hA hE rfl hl.1 rfl (Nat.le_of_ble_eq_true rfl) dX5_giveOne_56 ⟨Nat.zero_le _, Nat.zero_le _⟩ (fun r H locs hw hP hS => ?_)
    cases hw
    refine lv_iconst (v := 2) hx hb dX5_giveOne_59 (by decide) ?_
    refine lv_iadd hx hb dX5_giveOne_60 ?_
    refine lv_aload_n hx hb dX5_giveOne_61 rfl (lv_at hl 2 rfl) ?_
    refine va_get (D := D) (ci := 5) (v := .ref a1) (C := RX5) (T := TX5) (N := 11) hx hb hts iX5 hown hK hP 0 rfl rfl 0 (by decide) w7 (fun _ h9 => h9) rfl dX5_giveOne_62 ?_
    refine lv_iconst (v := 5) hx hb dX5_giveOne_65 (by decide) ?_
    refine ck_iald (j := 5) hx hb hK hP 1 0 rfl rfl (in_lit (by decide)) (by decide) dX5_giveOne_66 ?_
    obtain ⟨q70, hf⟩ := op_x hf
    obtain ⟨y71, e72, hf⟩ := nb_o hf
    refine ck_iast (f' := y71) hx hb hK hP hD hS 1 0 rfl rfl q70 dX5_giveOne_67 e72 (fun H locs hP hD hS => ?_)
    replace hP : va_P D vwCl (wM cI h a1 a2 a3 a4 y71 zb za zt zl zu zp zw zf zg zc) H := hP
    replace hD : va_D A (wM cI h a1 a2 a3 a4 y71 zb za zt zl zu zp zw zf zg zc) := hD
    refine lv_aload_n hx hb dX5_giveOne_68 rfl (lv_at hl 2 rfl) ?_
    refine va_get (D := D) (ci := 5) (v := .ref a1) (C := RX5) (T := TX5) (N := 11) hx hb hts iX5 hown hK hP 0 rfl rfl 0 (by decide) w7 (fun _ h9 => h9) rfl dX5_giveOne_69 ?_
    refine lv_iload_n hx hb dX5_giveOne_72 rfl (lv_at hl 0 rfl) ?_
    refine ck_SI (st := [.int (y55 ((f_X5_c x1) + 1).toNatClampNeg), .ref a1]) (rest := [.ref a1]) (As := [.int (y55 ((f_X5_c x1) + 1).toNatClampNeg)]) ⟨hx, hb, hml, hown, hts⟩ E0_ok (c_X5_n l D cI cC cK cO  (y55 ((f_X5_c x1) + 1).toNatClampNeg) _ rfl) (va_cwS 1 hts gX5_giveOne_X5_n rfl rfl rfl hs_X5_n ⟨Nat.le_of_ble_eq_true rfl, Nat.le_of_ble_eq_true rfl⟩) hK hP hD hS hA hE rfl hl.1 rfl (Nat.le_of_ble_eq_true rfl) dX5_giveOne_73 ⟨Nat.zero_le _, Nat.zero_le _⟩ (fun r H locs hw hP hS => ?_)
    cases hw
    refine lv_iconst (v := 3) hx hb dX5_giveOne_76 (by decide) ?_
    refine lv_iadd hx hb dX5_giveOne_77 ?_
    refine lv_aload_n hx hb dX5_giveOne_78 rfl (lv_at hl 2 rfl) ?_
    refine va_get (D := D) (ci := 5) (v := .ref a1) (C := RX5) (T := TX5) (N := 11) hx hb hts iX5 hown hK hP 0 rfl rfl 0 (by decide) w7 (fun _ h9 => h9) rfl dX5_giveOne_79 ?_
    refine lv_iconst (v := 4) hx hb dX5_giveOne_82 (by decide) ?_
    refine ck_iald (j := 4) hx hb hK hP 1 0 rfl rfl (in_lit (by decide)) (by decide) dX5_giveOne_83 ?_
    obtain ⟨q75, hf⟩ := op_x hf
    obtain ⟨y76, e77, hf⟩ := nb_o hf
    refine ck_iast (f' := y76) hx hb hK hP hD hS 1 0 rfl rfl q75 dX5_giveOne_84 e77 (fun H locs hP hD hS => ?_)
    replace hP : va_P D vwCl (wM cI h a1 a2 a3 a4 y76 zb za zt zl zu zp zw zf zg zc) H := hP
    replace hD : va_D A (wM cI h a1 a2 a3 a4 y76 zb za zt zl zu zp zw zf zg zc) := hD
    refine lv_aload_n hx hb dX5_giveOne_85 rfl (lv_at hl 2 rfl) ?_
    refine va_get (D := D) (ci := 5) (v := .ref a1) (C := RX5) (T := TX5) (N := 11) hx hb hts iX5 hown hK hP 0 rfl rfl 0 (by decide) w7 (fun _ h9 => h9) rfl dX5_giveOne_86 ?_
    refine lv_iconst (v := 5) hx hb dX5_giveOne_89 (by decide) ?_
    refine lv_dup2_11 hx hb dX5_giveOne_90 rfl rfl ?_
    refine ck_iald (j := 5) hx hb hK hP 1 0 rfl rfl (in_lit (by decide)) (by decide) dX5_giveOne_91 ?_
    refine lv_iconst (v := 1) hx hb dX5_giveOne_92 (by decide) ?_
    refine lv_iadd hx hb dX5_giveOne_93 ?_
    obtain ⟨y78, e79, hf⟩ := nb_o hf
    refine ck_iast (f' := y78) hx hb hK hP hD hS 1 0 rfl rfl (in_lit (by decide)) dX5_giveOne_94 (by rw [e79, show (5 : Int32).toNatClampNeg = 5 from by decide]) (fun H locs hP hD hS => ?_)
    replace hP : va_P D vwCl (wM cI h a1 a2 a3 a4 y78 zb za zt zl zu zp zw zf zg zc) H := hP
    replace hD : va_D A (wM cI h a1 a2 a3 a4 y78 zb za zt zl zu zp zw zf zg zc) := hD
    refine lv_aload_n hx hb dX5_giveOne_95 rfl (lv_at hl 2 rfl) ?_
    refine va_get (D := D) (ci := 5) (v := .ref a1) (C := RX5) (T := TX5) (N := 11) hx hb hts iX5 hown hK hP 0 rfl rfl 0 (by decide) w7 (fun _ h9 => h9) rfl dX5_giveOne_96 ?_
    refine lv_iload_n hx hb dX5_giveOne_99 rfl (lv_at hl 1 rfl) ?_
    refine lv_iconst (v := 4) hx hb dX5_giveOne_100 (by decide) ?_
    refine lv_iadd hx hb dX5_giveOne_101 ?_
    refine lv_dup2_11 hx hb dX5_giveOne_102 rfl rfl ?_
    obtain ⟨q80, hf⟩ := op_x hf
    refine ck_iald (j := ((f_X5_c x1) + 4).toNatClampNeg) hx hb hK hP 1 0 rfl rfl q80 rfl dX5_giveOne_103 ?_
    refine lv_iconst (v := 1) hx hb dX5_giveOne_104 (by decide) ?_
    refine lv_iadd hx hb dX5_giveOne_105 ?_
    obtain ⟨q81, hf⟩ := op_x hf
    obtain ⟨y82, e83, hf⟩ := nb_o hf
    refine ck_iast (f' := y82) hx hb hK hP hD hS 1 0 rfl rfl q81 dX5_giveOne_106 e83 (fun H locs hP hD hS => ?_)
    replace hP : va_P D vwCl (wM cI h a1 a2 a3 a4 y82 zb za zt zl zu zp zw zf zg zc) H := hP
    replace hD : va_D A (wM cI h a1 a2 a3 a4 y82 zb za zt zl zu zp zw zf zg zc) := hD
    refine lv_aload_n hx hb dX5_giveOne_107 rfl (lv_at hl 2 rfl) ?_
    refine va_get (D := D) (ci := 5) (v := .ref a1) (C := RX5) (T := TX5) (N := 11) hx hb hts iX5 hown hK hP 0 rfl rfl 0 (by decide) w7 (fun _ h9 => h9) rfl dX5_giveOne_108 ?_
    refine lv_iload_n hx hb dX5_giveOne_111 rfl (lv_at hl 1 rfl) ?_
    refine lv_bipush (v := 6) hx hb dX5_giveOne_112 (by decide) ?_
    refine lv_iadd hx hb dX5_giveOne_114 ?_
    refine lv_iload_n hx hb dX5_giveOne_115 rfl (lv_at hl 0 rfl) ?_
    obtain ⟨q84, hf⟩ := op_x hf
    obtain ⟨y85, e86, hf⟩ := nb_o hf
    refine ck_iast (f' := y85) hx hb hK hP hD hS 1 0 rfl rfl q84 dX5_giveOne_116 e86 (fun H locs hP hD hS => ?_)
    replace hP : va_P D vwCl (wM cI h a1 a2 a3 a4 y85 zb za zt zl zu zp zw zf zg zc) H := hP
    replace hD : va_D A (wM cI h a1 a2 a3 a4 y85 zb za zt zl zu zp zw zf zg zc) := hD
    refine lv_aload_n hx hb dX5_giveOne_117 rfl (lv_at hl 2 rfl) ?_
    refine va_get (D := D) (ci := 5) (v := .ref a1) (C := RX5) (T := TX5) (N := 11) hx hb hts iX5 hown hK hP 0 rfl rfl 0 (by decide) w7 (fun _ h9 => h9) rfl dX5_giveOne_118 ?_
    refine lv_iload_n hx hb dX5_giveOne_121 rfl (lv_at hl 1 rfl) ?_
    refine lv_iconst (v := 0) hx hb dX5_giveOne_122 (by decide) ?_
    refine lv_iadd hx hb dX5_giveOne_123 ?_
    obtain ⟨q87, hf⟩ := op_x hf
    refine ck_iald (j := ((f_X5_c x1) + 0).toNatClampNeg) hx hb hK hP 1 0 rfl rfl q87 rfl dX5_giveOne_124 ?_
    refine lv_if_ne (tgt := 140) hx hb dX5_giveOne_125 (by decide) (fun c88 => ?_) (fun c88 => ?_)
    · replace hf := op_f c88 hf
      refine lv_aload_n hx hb dX5_giveOne_140 rfl (lv_at hl 2 rfl) ?_
      refine va_get (D := D) (ci := 5) (v := .ref a1) (C := RX5) (T := TX5) (N := 11) hx hb hts iX5 hown hK hP 0 rfl rfl 0 (by decide) w7 (fun _ h9 => h9) rfl dX5_giveOne_141 ?_
      refine lv_iload_n hx hb dX5_giveOne_144 rfl (lv_at hl 1 rfl) ?_
      refine lv_iconst (v := 0) hx hb dX5_giveOne_145 (by decide) ?_
      refine lv_iadd hx hb dX5_giveOne_146 ?_
      obtain ⟨q89, hf⟩ := op_x hf
      refine ck_iald (j := ((f_X5_c x1) + 0).toNatClampNeg) hx hb hK hP 1 0 rfl rfl q89 rfl dX5_giveOne_147 ?_
      refine lv_iconst (v := 1) hx hb dX5_giveOne_148 (by decide) ?_
      refine lv_icmp_ne (tgt := 210) hx hb dX5_giveOne_149 (by decide) (fun c90 => ?_) (fun c90 => ?_)
      · replace hf := op_f c90 hf
        exact hret _ _ _ _ (y85) dX5_giveOne_210 (op_k hf) hP hS
      · replace hf := op_t c90 hf
        refine lv_iload_n hx hb dX5_giveOne_152 rfl (lv_at hl 0 rfl) ?_
        refine lv_aload_n hx hb dX5_giveOne_153 rfl (lv_at hl 2 rfl) ?_
        refine va_get (D := D) (ci := 5) (v := .ref a1) (C := RX5) (T := TX5) (N := 11) hx hb hts iX5 hown hK hP 0 rfl rfl 0 (by decide) w7 (fun _ h9 => h9) rfl dX5_giveOne_154 ?_
        refine lv_iload_n hx hb dX5_giveOne_157 rfl (lv_at hl 1 rfl) ?_
        refine lv_iconst (v := 3) hx hb dX5_giveOne_158 (by decide) ?_
        refine lv_iadd hx hb dX5_giveOne_159 ?_
        obtain ⟨q91, hf⟩ := op_x hf
        refine ck_iald (j := ((f_X5_c x1) + 3).toNatClampNeg) hx hb hK hP 1 0 rfl rfl q91 rfl dX5_giveOne_160 ?_
        refine lv_icmp_le (tgt := 210) hx hb dX5_giveOne_161 (by decide) (fun c92 => ?_) (fun c92 => ?_)
        · replace hf := op_t c92 hf
          exact hret _ _ _ _ (y85) dX5_giveOne_210 (op_k hf) hP hS
        · replace hf := op_f c92 hf
          refine lv_iload_n hx hb dX5_giveOne_164 rfl (lv_at hl 0 rfl) ?_
          refine lv_aload_n hx hb dX5_giveOne_165 rfl (lv_at hl 2 rfl) ?_
          refine va_get (D := D) (ci := 5) (v := .ref a1) (C := RX5) (T := TX5) (N := 11) hx hb hts iX5 hown hK hP 0 rfl rfl 0 (by decide) w7 (fun _ h9 => h9) rfl dX5_giveOne_166 ?_
          refine lv_iconst (v := 2) hx hb dX5_giveOne_169 (by decide) ?_
          refine ck_iald (j := 2) hx hb hK hP 1 0 rfl rfl (in_lit (by decide)) (by decide) dX5_giveOne_170 ?_
          refine lv_iadd hx hb dX5_giveOne_171 ?_
          refine lv_iconst (v := 1) hx hb dX5_giveOne_172 (by decide) ?_
          refine lv_isub hx hb dX5_giveOne_173 ?_
          refine lv_istore (lv' := [(4, .int (((y55 ((f_X5_c x1) + 1).toNatClampNeg) + (y85 2)) - 1)), (3, .int (y55 ((f_X5_c x1) + 1).toNatClampNeg)), (2, .int (f_X5_c x1)), (0, .ref h), (1, .int x1)]) hx hb dX5_giveOne_174 hl (by decide) rfl (fun ls hl => ?_)
          refine lv_aload_n hx hb dX5_giveOne_176 rfl (lv_at hl 3 rfl) ?_
          refine va_get (D := D) (ci := 5) (v := .ref a1) (C := RX5) (T := TX5) (N := 11) hx hb hts iX5 hown hK hP 0 rfl rfl 0 (by decide) w7 (fun _ h9 => h9) rfl dX5_giveOne_177 ?_
          refine lv_iload_n hx hb dX5_giveOne_180 rfl (lv_at hl 2 rfl) ?_
          refine lv_iconst (v := 3) hx hb dX5_giveOne_181 (by decide) ?_
          refine lv_iadd hx hb dX5_giveOne_182 ?_
          refine lv_iload hx hb dX5_giveOne_183 (lv_at hl 0 rfl) ?_
          refine lv_aload_n hx hb dX5_giveOne_185 rfl (lv_at hl 3 rfl) ?_
          refine va_get (D := D) (ci := 5) (v := .ref a1) (C := RX5) (T := TX5) (N := 11) hx hb hts iX5 hown hK hP 0 rfl rfl 0 (by decide) w7 (fun _ h9 => h9) rfl dX5_giveOne_186 ?_
          refine lv_iload_n hx hb dX5_giveOne_189 rfl (lv_at hl 2 rfl) ?_
          refine lv_iconst (v := 2) hx hb dX5_giveOne_190 (by decide) ?_
          refine lv_iadd hx hb dX5_giveOne_191 ?_
          obtain ⟨q93, hf⟩ := op_x hf
          refine ck_iald (j := ((f_X5_c x1) + 2).toNatClampNeg) hx hb hK hP 1 0 rfl rfl q93 rfl dX5_giveOne_192 ?_
          refine lv_icmp_ge (tgt := 201) hx hb dX5_giveOne_193 (by decide) (fun c94 => ?_) (fun c94 => ?_)
          · replace hf := op_t c94 hf
            refine lv_aload_n hx hb dX5_giveOne_201 rfl (lv_at hl 3 rfl) ?_
            refine va_get (D := D) (ci := 5) (v := .ref a1) (C := RX5) (T := TX5) (N := 11) hx hb hts iX5 hown hK hP 0 rfl rfl 0 (by decide) w7 (fun _ h9 => h9) rfl dX5_giveOne_202 ?_
            refine lv_iload_n hx hb dX5_giveOne_205 rfl (lv_at hl 2 rfl) ?_
            refine lv_iconst (v := 2) hx hb dX5_giveOne_206 (by decide) ?_
            refine lv_iadd hx hb dX5_giveOne_207 ?_
            obtain ⟨q95, hf⟩ := op_x hf
            refine ck_iald (j := ((f_X5_c x1) + 2).toNatClampNeg) hx hb hK hP 1 0 rfl rfl q95 rfl dX5_giveOne_208 ?_
            obtain ⟨q96, hf⟩ := op_x hf
            obtain ⟨y97, e98, hf⟩ := nb_o hf
            refine ck_iast (f' := y97) hx hb hK hP hD hS 1 0 rfl rfl q96 dX5_giveOne_209 e98 (fun H locs hP hD hS => ?_)
            replace hP : va_P D vwCl (wM cI h a1 a2 a3 a4 y97 zb za zt zl zu zp zw zf zg zc) H := hP
            replace hD : va_D A (wM cI h a1 a2 a3 a4 y97 zb za zt zl zu zp zw zf zg zc) := hD
            exact hret _ _ _ _ (y97) dX5_giveOne_210 (op_k hf) hP hS
          · replace hf := op_f c94 hf
            refine lv_iload hx hb dX5_giveOne_196 (lv_at hl 0 rfl) ?_
            refine lv_goto (tgt := 209) hx hb dX5_giveOne_198 (by decide) ?_
            obtain ⟨q99, hf⟩ := op_x hf
            obtain ⟨y100, e101, hf⟩ := nb_o hf
            refine ck_iast (f' := y100) hx hb hK hP hD hS 1 0 rfl rfl q99 dX5_giveOne_209 e101 (fun H locs hP hD hS => ?_)
            replace hP : va_P D vwCl (wM cI h a1 a2 a3 a4 y100 zb za zt zl zu zp zw zf zg zc) H := hP
            replace hD : va_D A (wM cI h a1 a2 a3 a4 y100 zb za zt zl zu zp zw zf zg zc) := hD
            exact hret _ _ _ _ (y100) dX5_giveOne_210 (op_k hf) hP hS
    · replace hf := op_t c88 hf
      refine lv_aload_n hx hb dX5_giveOne_128 rfl (lv_at hl 2 rfl) ?_
      refine va_get (D := D) (ci := 5) (v := .ref a1) (C := RX5) (T := TX5) (N := 11) hx hb hts iX5 hown hK hP 0 rfl rfl 0 (by decide) w7 (fun _ h9 => h9) rfl dX5_giveOne_129 ?_
      refine lv_iload_n hx hb dX5_giveOne_132 rfl (lv_at hl 1 rfl) ?_
      refine lv_iconst (v := 3) hx hb dX5_giveOne_133 (by decide) ?_
      refine lv_iadd hx hb dX5_giveOne_134 ?_
      refine lv_iload_n hx hb dX5_giveOne_135 rfl (lv_at hl 0 rfl) ?_
      obtain ⟨q102, hf⟩ := op_x hf
      obtain ⟨y103, e104, hf⟩ := nb_o hf
      refine ck_iast (f' := y103) hx hb hK hP hD hS 1 0 rfl rfl q102 dX5_giveOne_136 e104 (fun H locs hP hD hS => ?_)
      replace hP : va_P D vwCl (wM cI h a1 a2 a3 a4 y103 zb za zt zl zu zp zw zf zg zc) H := hP
      replace hD : va_D A (wM cI h a1 a2 a3 a4 y103 zb za zt zl zu zp zw zf zg zc) := hD
      refine lv_goto (tgt := 210) hx hb dX5_giveOne_137 (by decide) ?_
      exact hret _ _ _ _ (y103) dX5_giveOne_210 (op_k hf) hP hS
set_option maxHeartbeats 4000000 in
set_option maxRecDepth 100000 in
theorem c_X5_canAsk (l : Launch) (D : va_G) (cI cC cK cO : ClassId) (h : Nat) (a1 : Nat) (a2 : Nat) (a3 : Nat) (a4 : Nat) (zs : Nat → Int32) (zb : Nat → Int32) (za : Nat → Int32) (zt : Nat → Int32) (zl : Int32) (zu : Int32) (zp : Int32) (zw : Int32) (zf : Int32) (zg : Int32) (zc : Int32) (x1 : Int32) (x2 : Int32) (K : Nat) (R : Int32) (hf : f_X5_canAsk K zs x1 x2 = some R) : KI l D (TY cI cC cK cO) E0 yX5_canAsk wsX5_canAsk 2 [.ref h, .int x1, .int x2] (wM cI h a1 a2 a3 a4 zs zb za zt zl zu zp zw zf zg zc) (fun (r : Int32) (u : Unit) => r = R ∧ (r = 0 ∨ r = 1)) (fun u => (wM cI h a1 a2 a3 a4 zs zb za zt zl zu zp zw zf zg zc)) := by
  refine KI.ofZ (cc := cX5_canAsk) (maxL := 3) (C := RX5) (by decide) rfl rfl (Nat.le_of_ble_eq_true rfl) (fun _ _ h => h.2) ?_
  intro p e s m args below meth c A Q hx hb hml hts hown hP hK hD hA hE hS hret ls hl
  replace hl : lv_has ls 3 [(0, .ref h), (1, .int x1), (2, .int x2)] := hl
  have w7 := hts (.fieldLink RX5 7 "BlockClerksModel" "s" "[I") (by decide +kernel)
  have iX5 : ∀ w ∈ wsX50, w ∈ wsX5_canAsk := by decide +kernel
  rw [f_X5_canAsk] at hf
  refine lv_iload_n hx hb dX5_canAsk_0 rfl (lv_at hl 2 rfl) ?_
  refine lv_aload_n hx hb dX5_canAsk_1 rfl (lv_at hl 0 rfl) ?_
  refine lv_iload_n hx hb dX5_canAsk_2 rfl (lv_at hl 1 rfl) ?_
  obtain ⟨r1, h2, hf⟩ := op_b hf
  refine ck_VI (st := [.int x1, .ref h, .int x2]) (rest := [.int x2]) (As := [.int x1]) (C := RX5) (ci := 5) ⟨hx, hb, hml, hown, hts⟩ E0_ok (c_X5_holds l D cI cC cK cO h a1 a2 a3 a4 zs zb za zt zl zu zp zw zf zg zc x1 _ h2) (cwV 1 hts gX5_canAsk_X5_holds rfl rfl rfl hv_X5_holds ⟨Nat.le_of_ble_eq_true rfl, Nat.le_of_ble_eq_true rfl⟩) hK hP hD hS hA hE [0, 1, 2, 3, 4] rfl rfl rfl rfl rfl (fun _ => rfl) rfl hl.1 rfl (Nat.le_of_ble_eq_true rfl) dX5_canAsk_3 ⟨Nat.zero_le _, Nat.zero_le _⟩ (fun r u H locs hw hP hD hS => ?_)
  cases hw
  replace hP : va_P D vwCl (wM cI h a1 a2 a3 a4 zs zb za zt zl zu zp zw zf zg zc) H := hP
  replace hD : va_D A (wM cI h a1 a2 a3 a4 zs zb za zt zl zu zp zw zf zg zc) := hD
  refine lv_aload_n hx hb dX5_canAsk_6 rfl (lv_at hl 0 rfl) ?_
  refine lv_iconst (v := 0) hx hb dX5_canAsk_7 (by decide) ?_
  obtain ⟨r4, h5, hf⟩ := op_b hf
  refine ck_VI (st := [.int 0, .ref h, .int r1, .int x2]) (rest := [.int r1, .int x2]) (As := [.int 0]) (C := RX5) (ci := 5) ⟨hx, hb, hml, hown, hts⟩ E0_ok (c_X5_many l D cI cC cK cO h a1 a2 a3 a4 zs zb za zt zl zu zp zw zf zg zc 0 K _ h5) (cwV 1 hts gX5_canAsk_X5_many rfl rfl rfl hv_X5_many ⟨Nat.le_of_ble_eq_true rfl, Nat.le_of_ble_eq_true rfl⟩) hK hP hD hS hA hE [0, 1, 2, 3, 4] rfl rfl rfl rfl rfl (fun _ => rfl) rfl hl.1 rfl (Nat.le_of_ble_eq_true rfl) dX5_canAsk_8 ⟨Nat.zero_le _, Nat.zero_le _⟩ (fun r u H locs hw hP hD hS => ?_)
  cases hw
  replace hP : va_P D vwCl (wM cI h a1 a2 a3 a4 zs zb za zt zl zu zp zw zf zg zc) H := hP
  replace hD : va_D A (wM cI h a1 a2 a3 a4 zs zb za zt zl zu zp zw zf zg zc) := hD
  refine lv_iadd hx hb dX5_canAsk_11 ?_
  refine lv_aload_n hx hb dX5_canAsk_12 rfl (lv_at hl 0 rfl) ?_
  refine va_get (D := D) (ci := 5) (v := .ref a1) (C := RX5) (T := TX5) (N := 11) hx hb hts iX5 hown hK hP 0 rfl rfl 0 (by decide) w7 (fun _ h9 => h9) rfl dX5_canAsk_13 ?_
  refine lv_iconst (v := 1) hx hb dX5_canAsk_16 (by decide) ?_
  refine ck_iald (j := 1) hx hb hK hP 1 0 rfl rfl (in_lit (by decide)) (by decide) dX5_canAsk_17 ?_
  refine lv_iconst (v := 1) hx hb dX5_canAsk_18 (by decide) ?_
  refine lv_icmp_ne (tgt := 30) hx hb dX5_canAsk_19 (by decide) (fun c7 => ?_) (fun c7 => ?_)
  · replace hf := op_f c7 hf
    refine lv_iconst (v := 0) hx hb dX5_canAsk_30 (by decide) ?_
    refine lv_iadd hx hb dX5_canAsk_31 ?_
    refine lv_icmp_gt (tgt := 39) hx hb dX5_canAsk_32 (by decide) (fun c8 => ?_) (fun c8 => ?_)
    · replace hf := op_t c8 hf
      refine lv_iconst (v := 0) hx hb dX5_canAsk_39 (by decide) ?_
      exact hret _ _ _ _ _ () dX5_canAsk_40 ⟨(op_k hf), (Or.inl rfl)⟩ hP hS
    · replace hf := op_f c8 hf
      refine lv_iconst (v := 1) hx hb dX5_canAsk_35 (by decide) ?_
      refine lv_goto (tgt := 40) hx hb dX5_canAsk_36 (by decide) ?_
      exact hret _ _ _ _ _ () dX5_canAsk_40 ⟨(op_k hf), (Or.inr rfl)⟩ hP hS
  · replace hf := op_t c7 hf
    refine lv_aload_n hx hb dX5_canAsk_22 rfl (lv_at hl 0 rfl) ?_
    refine lv_iconst (v := 3) hx hb dX5_canAsk_23 (by decide) ?_
    obtain ⟨r9, h10, hf⟩ := op_b hf
    refine ck_VI (st := [.int 3, .ref h, .int (r1 + r4), .int x2]) (rest := [.int (r1 + r4), .int x2]) (As := [.int 3]) (C := RX5) (ci := 5) ⟨hx, hb, hml, hown, hts⟩ E0_ok (c_X5_many l D cI cC cK cO h a1 a2 a3 a4 zs zb za zt zl zu zp zw zf zg zc 3 K _ h10) (cwV 1 hts gX5_canAsk_X5_many rfl rfl rfl hv_X5_many ⟨Nat.le_of_ble_eq_true rfl, Nat.le_of_ble_eq_true rfl⟩) hK hP hD hS hA hE [0, 1, 2, 3, 4] rfl rfl rfl rfl rfl (fun _ => rfl) rfl hl.1 rfl (Nat.le_of_ble_eq_true rfl) dX5_canAsk_24 ⟨Nat.zero_le _, Nat.zero_le _⟩ (fun r u H locs hw hP hD hS => ?_)
    cases hw
    replace hP : va_P D vwCl (wM cI h a1 a2 a3 a4 zs zb za zt zl zu zp zw zf zg zc) H := hP
    replace hD : va_D A (wM cI h a1 a2 a3 a4 zs zb za zt zl zu zp zw zf zg zc) := hD
    refine lv_goto (tgt := 31) hx hb dX5_canAsk_27 (by decide) ?_
    refine lv_iadd hx hb dX5_canAsk_31 ?_
    refine lv_icmp_gt (tgt := 39) hx hb dX5_canAsk_32 (by decide) (fun c12 => ?_) (fun c12 => ?_)
    · replace hf := op_t c12 hf
      refine lv_iconst (v := 0) hx hb dX5_canAsk_39 (by decide) ?_
      exact hret _ _ _ _ _ () dX5_canAsk_40 ⟨(op_k hf), (Or.inl rfl)⟩ hP hS
    · replace hf := op_f c12 hf
      refine lv_iconst (v := 1) hx hb dX5_canAsk_35 (by decide) ?_
      refine lv_goto (tgt := 40) hx hb dX5_canAsk_36 (by decide) ?_
      exact hret _ _ _ _ _ () dX5_canAsk_40 ⟨(op_k hf), (Or.inr rfl)⟩ hP hS
set_option maxHeartbeats 4000000 in
set_option maxRecDepth 100000 in
theorem c_X5_goAsk (l : Launch) (D : va_G) (cI cC cK cO : ClassId) (h : Nat) (a1 : Nat) (a2 : Nat) (a3 : Nat) (a4 : Nat) (zs : Nat → Int32) (zb : Nat → Int32) (za : Nat → Int32) (zt : Nat → Int32) (zl : Int32) (zu : Int32) (zp : Int32) (zw : Int32) (zf : Int32) (zg : Int32) (zc : Int32) (x1 : Int32) (x2 : Int32) (K : Nat) (R : Int32 × (Nat → Int32)) (hf : f_X5_goAsk K zs x1 x2 = some R) : KI l D (TY cI cC cK cO) E0 yX5_goAsk wsX5_goAsk 5 [.ref h, .int x1, .int x2] (wM cI h a1 a2 a3 a4 zs zb za zt zl zu zp zw zf zg zc) (fun (r : Int32) (u : (Nat → Int32)) => (r, u) = R) (fun u => (wM cI h a1 a2 a3 a4 u zb za zt zl zu zp zw zf zg zc)) := by
  refine KI.ofI (cc := cX5_goAsk) (maxL := 4) (C := RX5) (by decide) rfl rfl (Nat.le_of_ble_eq_true rfl) ?_
  intro p e s m args below meth c A Q hx hb hml hts hown hP hK hD hA hE hS hret ls hl
  replace hl : lv_has ls 4 [(0, .ref h), (1, .int x1), (2, .int x2)] := hl
  have w7 := hts (.fieldLink RX5 7 "BlockClerksModel" "s" "[I") (by decide +kernel)
  have iX5 : ∀ w ∈ wsX50, w ∈ wsX5_goAsk := by decide +kernel
  have L_2 : ∀ (n : Nat) (zs : Nat → Int32) (x1 : Int32) (x2 : Int32) (x3 : Int32) (hf : f_X5_goAsk_2 K x1 x2 n x3 zs = some R) (H : Heap) (locs : List Loc) (ls : Array Slot), va_P D vwCl (wM cI h a1 a2 a3 a4 zs zb za zt zl zu zp zw zf zg zc) H → va_D A (wM cI h a1 a2 a3 a4 zs zb za zt zl zu zp zw zf zg zc) → va_S A s.heap H locs → lv_has ls 4 [(0, .ref h), (1, .int x1), (2, .int x2), (3, .int x3)] → W p l e (rm 5) s m args below meth c H locs 0 0 Q (F0 m 2 ls []) := by
    intro n
    induction n with
    | zero =>
      intro zs x1 x2 x3 hf
      cases hf
    | succ n ih =>
      intro zs x1 x2 x3 hf H locs ls hP hD hS hl
      rw [f_X5_goAsk_2] at hf
      refine lv_iload_n hx hb dX5_goAsk_2 rfl (lv_at hl 3 rfl) ?_
      refine lv_iload_n hx hb dX5_goAsk_3 rfl (lv_at hl 2 rfl) ?_
      refine lv_icmp_ge (tgt := 18) hx hb dX5_goAsk_4 (by decide) (fun c1 => ?_) (fun c1 => ?_)
      · replace hf := op_t c1 hf
        refine lv_aload_n hx hb dX5_goAsk_18 rfl (lv_at hl 0 rfl) ?_
        refine va_get (D := D) (ci := 5) (v := .ref a1) (C := RX5) (T := TX5) (N := 11) hx hb hts iX5 hown hK hP 0 rfl rfl 0 (by decide) w7 (fun _ h9 => h9) rfl dX5_goAsk_19 ?_
        refine lv_iload_n hx hb dX5_goAsk_22 rfl (lv_at hl 1 rfl) ?_
        refine ck_SI (st := [.int x1, .ref a1]) (rest := [.ref a1]) (As := [.int x1]) ⟨hx, hb, hml, hown, hts⟩ E0_ok (c_X5_c l D cI cC cK cO  x1 _ rfl) (va_cwS 1 hts gX5_goAsk_X5_c rfl rfl rfl hs_X5_c ⟨Nat.le_of_ble_eq_true rfl, Nat.le_of_ble_eq_true rfl⟩) hK hP hD hS hA hE rfl hl.1 rfl (Nat.le_of_ble_eq_true rfl) dX5_goAsk_23 ⟨Nat.zero_le _, Nat.zero_le _⟩ (fun r H locs hw hP hS => ?_)
        cases hw
        refine lv_bipush (v := 6) hx hb dX5_goAsk_26 (by decide) ?_
        refine lv_iadd hx hb dX5_goAsk_28 ?_
        obtain ⟨q4, hf⟩ := op_x hf
        refine ck_iald (j := ((f_X5_c x1) + 6).toNatClampNeg) hx hb hK hP 1 0 rfl rfl q4 rfl dX5_goAsk_29 ?_
        exact hret _ _ _ _ _ (zs) dX5_goAsk_30 (op_k hf) hP hS
      · replace hf := op_f c1 hf
        refine lv_aload_n hx hb dX5_goAsk_7 rfl (lv_at hl 0 rfl) ?_
        refine lv_iload_n hx hb dX5_goAsk_8 rfl (lv_at hl 1 rfl) ?_
        obtain ⟨y6, h7, hf⟩ := op_b hf
        refine ck_VV (st := [.int x1, .ref h]) (rest := []) (As := [.int x1]) (C := RX5) (ci := 5) ⟨hx, hb, hml, hown, hts⟩ E0_ok (c_X5_giveOne l D cI cC cK cO h a1 a2 a3 a4 zs zb za zt zl zu zp zw zf zg zc x1 K _ h7) (cwV 1 hts gX5_goAsk_X5_giveOne rfl rfl rfl hv_X5_giveOne ⟨Nat.le_of_ble_eq_true rfl, Nat.le_of_ble_eq_true rfl⟩) hK hP hD hS hA hE [0, 1, 2, 3, 4] rfl rfl rfl rfl rfl (fun _ => rfl) rfl hl.1 rfl (Nat.le_of_ble_eq_true rfl) dX5_goAsk_9 ⟨Nat.zero_le _, Nat.zero_le _⟩ (fun u H locs hw hP hD hS => ?_)
        cases hw
        replace hP : va_P D vwCl (wM cI h a1 a2 a3 a4 y6 zb za zt zl zu zp zw zf zg zc) H := hP
        replace hD : va_D A (wM cI h a1 a2 a3 a4 y6 zb za zt zl zu zp zw zf zg zc) := hD
        refine lv_iinc (v := (x3 + 1)) (lv' := [(3, .int (x3 + 1)), (0, .ref h), (1, .int x1), (2, .int x2)]) hx hb dX5_goAsk_12 hl (k := 3) rfl rfl (by decide) rfl (fun ls hl => ?_)
        refine lv_goto (tgt := 2) hx hb dX5_goAsk_15 (by decide) ?_
        exact ih y6 x1 x2 (x3 + 1) hf _ _ _ hP hD hS (lv_sub hl [1, 2, 3, 0] rfl)
  rw [f_X5_goAsk] at hf
  refine lv_iconst (v := 0) hx hb dX5_goAsk_0 (by decide) ?_
  refine lv_istore_n (lv' := [(3, .int 0), (0, .ref h), (1, .int x1), (2, .int x2)]) hx hb dX5_goAsk_1 rfl hl (by decide) rfl (fun ls hl => ?_)
  exact L_2 K zs x1 x2 0 hf _ _ _ hP hD hS (lv_sub hl [1, 2, 3, 0] rfl)
set_option maxHeartbeats 4000000 in
set_option maxRecDepth 100000 in
theorem c_X5_ask (l : Launch) (D : va_G) (cI cC cK cO : ClassId) (h : Nat) (a1 : Nat) (a2 : Nat) (a3 : Nat) (a4 : Nat) (zs : Nat → Int32) (zb : Nat → Int32) (za : Nat → Int32) (zt : Nat → Int32) (zl : Int32) (zu : Int32) (zp : Int32) (zw : Int32) (zf : Int32) (zg : Int32) (zc : Int32) (x1 : Int32) (x2 : Int32) (K : Nat) (R : Int32 × (Nat → Int32) × (Nat → Int32) × Int32) (hf : f_X5_ask K zs zb zu x1 x2 = some R) : KI l D (TY cI cC cK cO) E0 yX5_ask wsX5_ask 6 [.ref h, .int x1, .int x2] (wM cI h a1 a2 a3 a4 zs zb za zt zl zu zp zw zf zg zc) (fun (r : Int32) (u : (Nat → Int32) × (Nat → Int32) × Int32) => (r, u) = R) (fun u => (wM cI h a1 a2 a3 a4 (u.1) (u.2.1) za zt zl (u.2.2) zp zw zf zg zc)) := by
  refine KI.ofI (cc := cX5_ask) (maxL := 3) (C := RX5) (by decide) rfl rfl (Nat.le_of_ble_eq_true rfl) ?_
  intro p e s m args below meth c A Q hx hb hml hts hown hP hK hD hA hE hS hret ls hl
  replace hl : lv_has ls 3 [(0, .ref h), (1, .int x1), (2, .int x2)] := hl
  rw [f_X5_ask] at hf
  refine lv_aload_n hx hb dX5_ask_0 rfl (lv_at hl 0 rfl) ?_
  refine lv_iload_n hx hb dX5_ask_1 rfl (lv_at hl 1 rfl) ?_
  refine ck_VI (st := [.int x1, .ref h]) (rest := []) (As := [.int x1]) (C := RX5) (ci := 5) ⟨hx, hb, hml, hown, hts⟩ E0_ok (c_X5_isClerk l D cI cC cK cO h a1 a2 a3 a4 zs zb za zt zl zu zp zw zf zg zc x1 _ rfl) (cwV 1 hts gX5_ask_X5_isClerk rfl rfl rfl hv_X5_isClerk ⟨Nat.le_of_ble_eq_true rfl, Nat.le_of_ble_eq_true rfl⟩) hK hP hD hS hA hE [0, 1, 2, 3, 4] rfl rfl rfl rfl rfl (fun _ => rfl) rfl hl.1 rfl (Nat.le_of_ble_eq_true rfl) dX5_ask_2 ⟨Nat.zero_le _, Nat.zero_le _⟩ (fun r u H locs hw hP hD hS => ?_)
  obtain ⟨hw, z2⟩ := hw
  cases hw
  replace hP : va_P D vwCl (wM cI h a1 a2 a3 a4 zs zb za zt zl zu zp zw zf zg zc) H := hP
  replace hD : va_D A (wM cI h a1 a2 a3 a4 zs zb za zt zl zu zp zw zf zg zc) := hD
  refine lv_if_eq (tgt := 18) hx hb dX5_ask_5 (by decide) (fun c3 => ?_) (fun c3 => ?_)
  · replace hf := op_t c3 hf
    refine lv_iconst (v := (-1)) hx hb dX5_ask_18 (by decide) ?_
    exact hret _ _ _ _ _ (zs, zb, zu) dX5_ask_19 (op_k hf) hP hS
  · replace hf := op_f c3 hf
    refine lv_iload_n hx hb dX5_ask_8 rfl (lv_at hl 2 rfl) ?_
    refine lv_iconst (v := 1) hx hb dX5_ask_9 (by decide) ?_
    refine lv_bipush (v := 50) hx hb dX5_ask_10 (by decide) ?_
    refine ck_SI (st := [.int 50, .int 1, .int x2]) (rest := []) (As := [.int x2, .int 1, .int 50]) ⟨hx, hb, hml, hown, hts⟩ E0_ok (c_X5_in l D cI cC cK cO  x2 1 50 _ rfl) (va_cwS 3 hts gX5_ask_X5_in rfl rfl rfl hs_X5_in ⟨Nat.le_of_ble_eq_true rfl, Nat.le_of_ble_eq_true rfl⟩) hK hP hD hS hA hE rfl hl.1 rfl (Nat.le_of_ble_eq_true rfl) dX5_ask_12 ⟨Nat.zero_le _, Nat.zero_le _⟩ (fun r H locs hw hP hS => ?_)
    obtain ⟨hw, z5⟩ := hw
    cases hw
    refine lv_if_ne (tgt := 20) hx hb dX5_ask_15 (by decide) (fun c6 => ?_) (fun c6 => ?_)
    · replace hf := op_f c6 hf
      refine lv_aload_n hx hb dX5_ask_20 rfl (lv_at hl 0 rfl) ?_
      refine lv_iload_n hx hb dX5_ask_21 rfl (lv_at hl 1 rfl) ?_
      refine lv_iload_n hx hb dX5_ask_22 rfl (lv_at hl 2 rfl) ?_
      obtain ⟨r7, h8, hf⟩ := op_b hf
      refine ck_VI (st := [.int x2, .int x1, .ref h]) (rest := []) (As := [.int x1, .int x2]) (C := RX5) (ci := 5) ⟨hx, hb, hml, hown, hts⟩ E0_ok (c_X5_canAsk l D cI cC cK cO h a1 a2 a3 a4 zs zb za zt zl zu zp zw zf zg zc x1 x2 K _ h8) (cwV 2 hts gX5_ask_X5_canAsk rfl rfl rfl hv_X5_canAsk ⟨Nat.le_of_ble_eq_true rfl, Nat.le_of_ble_eq_true rfl⟩) hK hP hD hS hA hE [0, 1, 2, 3, 4] rfl rfl rfl rfl rfl (fun _ => rfl) rfl hl.1 rfl (Nat.le_of_ble_eq_true rfl) dX5_ask_23 ⟨Nat.zero_le _, Nat.zero_le _⟩ (fun r u H locs hw hP hD hS => ?_)
      obtain ⟨hw, z9⟩ := hw
      cases hw
      replace hP : va_P D vwCl (wM cI h a1 a2 a3 a4 zs zb za zt zl zu zp zw zf zg zc) H := hP
      replace hD : va_D A (wM cI h a1 a2 a3 a4 zs zb za zt zl zu zp zw zf zg zc) := hD
      refine lv_if_ne (tgt := 32) hx hb dX5_ask_26 (by decide) (fun c10 => ?_) (fun c10 => ?_)
      · replace hf := op_f c10 hf
        refine lv_aload_n hx hb dX5_ask_32 rfl (lv_at hl 0 rfl) ?_
        obtain ⟨⟨y12, y13⟩, h14, hf⟩ := op_b hf
        refine ck_VV (st := [.ref h]) (rest := []) (As := []) (C := RX5) (ci := 5) ⟨hx, hb, hml, hown, hts⟩ E0_ok (c_X5_record l D cI cC cK cO h a1 a2 a3 a4 zs zb za zt zl zu zp zw zf zg zc  K _ h14) (cwV 0 hts gX5_ask_X5_record rfl rfl rfl hv_X5_record ⟨Nat.le_of_ble_eq_true rfl, Nat.le_of_ble_eq_true rfl⟩) hK hP hD hS hA hE [0, 1, 2, 3, 4] rfl rfl rfl rfl rfl (fun _ => rfl) rfl hl.1 rfl (Nat.le_of_ble_eq_true rfl) dX5_ask_33 ⟨Nat.zero_le _, Nat.zero_le _⟩ (fun u H locs hw hP hD hS => ?_)
        cases hw
        replace hP : va_P D vwCl (wM cI h a1 a2 a3 a4 zs y12 za zt zl y13 zp zw zf zg zc) H := hP
        replace hD : va_D A (wM cI h a1 a2 a3 a4 zs y12 za zt zl y13 zp zw zf zg zc) := hD
        refine lv_aload_n hx hb dX5_ask_36 rfl (lv_at hl 0 rfl) ?_
        refine lv_iload_n hx hb dX5_ask_37 rfl (lv_at hl 1 rfl) ?_
        refine lv_iload_n hx hb dX5_ask_38 rfl (lv_at hl 2 rfl) ?_
        obtain ⟨⟨r16, y17⟩, h18, hf⟩ := op_b hf
        refine ck_VI (st := [.int x2, .int x1, .ref h]) (rest := []) (As := [.int x1, .int x2]) (C := RX5) (ci := 5) ⟨hx, hb, hml, hown, hts⟩ E0_ok (c_X5_goAsk l D cI cC cK cO h a1 a2 a3 a4 zs y12 za zt zl y13 zp zw zf zg zc x1 x2 K _ h18) (cwV 2 hts gX5_ask_X5_goAsk rfl rfl rfl hv_X5_goAsk ⟨Nat.le_of_ble_eq_true rfl, Nat.le_of_ble_eq_true rfl⟩) hK hP hD hS hA hE [0, 1, 2, 3, 4] rfl rfl rfl rfl rfl (fun _ => rfl) rfl hl.1 rfl (Nat.le_of_ble_eq_true rfl) dX5_ask_39 ⟨Nat.zero_le _, Nat.zero_le _⟩ (fun r u H locs hw hP hD hS => ?_)
        cases hw
        replace hP : va_P D vwCl (wM cI h a1 a2 a3 a4 y17 y12 za zt zl y13 zp zw zf zg zc) H := hP
        replace hD : va_D A (wM cI h a1 a2 a3 a4 y17 y12 za zt zl y13 zp zw zf zg zc) := hD
        exact hret _ _ _ _ _ (y17, y12, y13) dX5_ask_42 (op_k hf) hP hS
      · replace hf := op_t c10 hf
        refine lv_bipush (v := (-3)) hx hb dX5_ask_29 (by decide) ?_
        exact hret _ _ _ _ _ (zs, zb, zu) dX5_ask_31 (op_k hf) hP hS
    · replace hf := op_t c6 hf
      refine lv_iconst (v := (-1)) hx hb dX5_ask_18 (by decide) ?_
      exact hret _ _ _ _ _ (zs, zb, zu) dX5_ask_19 (op_k hf) hP hS
set_option maxHeartbeats 4000000 in
set_option maxRecDepth 100000 in
theorem c_X5_makeHole (l : Launch) (D : va_G) (cI cC cK cO : ClassId) (h : Nat) (a1 : Nat) (a2 : Nat) (a3 : Nat) (a4 : Nat) (zs : Nat → Int32) (zb : Nat → Int32) (za : Nat → Int32) (zt : Nat → Int32) (zl : Int32) (zu : Int32) (zp : Int32) (zw : Int32) (zf : Int32) (zg : Int32) (zc : Int32) (x1 : Int32) (x2 : Int32) (R : (Nat → Int32)) (hf : f_X5_makeHole zs x1 x2 = some R) : KV l D (TY cI cC cK cO) E0 yX5_makeHole wsX5_makeHole 1 [.ref h, .int x1, .int x2] (wM cI h a1 a2 a3 a4 zs zb za zt zl zu zp zw zf zg zc) (fun (u : (Nat → Int32)) => u = R) (fun u => (wM cI h a1 a2 a3 a4 u zb za zt zl zu zp zw zf zg zc)) := by
  refine KV.of (cc := cX5_makeHole) (maxL := 3) (C := RX5) (by decide) rfl rfl (Nat.le_of_ble_eq_true rfl) ?_
  intro p e s m args below meth c A Q hx hb hml hts hown hP hK hD hA hE hS hret ls hl
  replace hl : lv_has ls 3 [(0, .ref h), (1, .int x1), (2, .int x2)] := hl
  have w7 := hts (.fieldLink RX5 7 "BlockClerksModel" "s" "[I") (by decide +kernel)
  have iX5 : ∀ w ∈ wsX50, w ∈ wsX5_makeHole := by decide +kernel
  rw [f_X5_makeHole] at hf
  refine lv_aload_n hx hb dX5_makeHole_0 rfl (lv_at hl 0 rfl) ?_
  refine va_get (D := D) (ci := 5) (v := .ref a1) (C := RX5) (T := TX5) (N := 11) hx hb hts iX5 hown hK hP 0 rfl rfl 0 (by decide) w7 (fun _ h9 => h9) rfl dX5_makeHole_1 ?_
  refine lv_iload_n hx hb dX5_makeHole_4 rfl (lv_at hl 1 rfl) ?_
  refine ck_SI (st := [.int x1, .ref a1]) (rest := [.ref a1]) (As := [.int x1]) ⟨hx, hb, hml, hown, hts⟩ E0_ok (c_X5_n l D cI cC cK cO  x1 _ rfl) (va_cwS 1 hts gX5_makeHole_X5_n rfl rfl rfl hs_X5_n ⟨Nat.le_of_ble_eq_true rfl, Nat.le_of_ble_eq_true rfl⟩) hK hP hD hS hA hE rfl hl.1 rfl (Nat.le_of_ble_eq_true rfl) dX5_makeHole_5 ⟨Nat.zero_le _, Nat.zero_le _⟩ (fun r H locs hw hP hS => ?_)
  cases hw
  refine lv_iconst (v := 0) hx hb dX5_makeHole_8 (by decide) ?_
  refine lv_iadd hx hb dX5_makeHole_9 ?_
  refine lv_iconst (v := 4) hx hb dX5_makeHole_10 (by decide) ?_
  obtain ⟨q3, hf⟩ := op_x hf
  obtain ⟨y4, e5, hf⟩ := nb_o hf
  refine ck_iast (f' := y4) hx hb hK hP hD hS 1 0 rfl rfl q3 dX5_makeHole_11 e5 (fun H locs hP hD hS => ?_)
  replace hP : va_P D vwCl (wM cI h a1 a2 a3 a4 y4 zb za zt zl zu zp zw zf zg zc) H := hP
  replace hD : va_D A (wM cI h a1 a2 a3 a4 y4 zb za zt zl zu zp zw zf zg zc) := hD
  refine lv_aload_n hx hb dX5_makeHole_12 rfl (lv_at hl 0 rfl) ?_
  refine va_get (D := D) (ci := 5) (v := .ref a1) (C := RX5) (T := TX5) (N := 11) hx hb hts iX5 hown hK hP 0 rfl rfl 0 (by decide) w7 (fun _ h9 => h9) rfl dX5_makeHole_13 ?_
  refine lv_iload_n hx hb dX5_makeHole_16 rfl (lv_at hl 1 rfl) ?_
  refine ck_SI (st := [.int x1, .ref a1]) (rest := [.ref a1]) (As := [.int x1]) ⟨hx, hb, hml, hown, hts⟩ E0_ok (c_X5_n l D cI cC cK cO  x1 _ rfl) (va_cwS 1 hts gX5_makeHole_X5_n rfl rfl rfl hs_X5_n ⟨Nat.le_of_ble_eq_true rfl, Nat.le_of_ble_eq_true rfl⟩) hK hP hD hS hA hE rfl hl.1 rfl (Nat.le_of_ble_eq_true rfl) dX5_makeHole_17 ⟨Nat.zero_le _, Nat.zero_le _⟩ (fun r H locs hw hP hS => ?_)
  cases hw
  refine lv_iconst (v := 4) hx hb dX5_makeHole_20 (by decide) ?_
  refine lv_iadd hx hb dX5_makeHole_21 ?_
  refine lv_iload_n hx hb dX5_makeHole_22 rfl (lv_at hl 2 rfl) ?_
  obtain ⟨q8, hf⟩ := op_x hf
  obtain ⟨y9, e10, hf⟩ := nb_o hf
  refine ck_iast (f' := y9) hx hb hK hP hD hS 1 0 rfl rfl q8 dX5_makeHole_23 e10 (fun H locs hP hD hS => ?_)
  replace hP : va_P D vwCl (wM cI h a1 a2 a3 a4 y9 zb za zt zl zu zp zw zf zg zc) H := hP
  replace hD : va_D A (wM cI h a1 a2 a3 a4 y9 zb za zt zl zu zp zw zf zg zc) := hD
  exact hret _ _ _ _ (y9) dX5_makeHole_24 (op_k hf) hP hS
set_option maxHeartbeats 4000000 in
set_option maxRecDepth 100000 in
theorem c_X5_goForget (l : Launch) (D : va_G) (cI cC cK cO : ClassId) (h : Nat) (a1 : Nat) (a2 : Nat) (a3 : Nat) (a4 : Nat) (zs : Nat → Int32) (zb : Nat → Int32) (za : Nat → Int32) (zt : Nat → Int32) (zl : Int32) (zu : Int32) (zp : Int32) (zw : Int32) (zf : Int32) (zg : Int32) (zc : Int32) (x1 : Int32) (K : Nat) (R : Int32 × (Nat → Int32)) (hf : f_X5_goForget K zs x1 = some R) : KI l D (TY cI cC cK cO) E0 yX5_goForget wsX5_goForget 2 [.ref h, .int x1] (wM cI h a1 a2 a3 a4 zs zb za zt zl zu zp zw zf zg zc) (fun (r : Int32) (u : (Nat → Int32)) => (r, u) = R) (fun u => (wM cI h a1 a2 a3 a4 u zb za zt zl zu zp zw zf zg zc)) := by
  refine KI.ofI (cc := cX5_goForget) (maxL := 4) (C := RX5) (by decide) rfl rfl (Nat.le_of_ble_eq_true rfl) ?_
  intro p e s m args below meth c A Q hx hb hml hts hown hP hK hD hA hE hS hret ls hl
  replace hl : lv_has ls 4 [(0, .ref h), (1, .int x1)] := hl
  have w7 := hts (.fieldLink RX5 7 "BlockClerksModel" "s" "[I") (by decide +kernel)
  have iX5 : ∀ w ∈ wsX50, w ∈ wsX5_goForget := by decide +kernel
  have L_7 : ∀ (n : Nat) (zs : Nat → Int32) (x1 : Int32) (x2 : Int32) (x3 : Int32) (hf : f_X5_goForget_7 x1 x2 n x3 zs = some R) (H : Heap) (locs : List Loc) (ls : Array Slot), va_P D vwCl (wM cI h a1 a2 a3 a4 zs zb za zt zl zu zp zw zf zg zc) H → va_D A (wM cI h a1 a2 a3 a4 zs zb za zt zl zu zp zw zf zg zc) → va_S A s.heap H locs → lv_has ls 4 [(0, .ref h), (1, .int x1), (2, .int x2), (3, .int x3)] → W p l e (rm 2) s m args below meth c H locs 0 0 Q (F0 m 7 ls []) := by
    intro n
    induction n with
    | zero =>
      intro zs x1 x2 x3 hf
      cases hf
    | succ n ih =>
      intro zs x1 x2 x3 hf H locs ls hP hD hS hl
      rw [f_X5_goForget_7] at hf
      refine lv_aload_n hx hb dX5_goForget_7 rfl (lv_at hl 0 rfl) ?_
      refine lv_iload_n hx hb dX5_goForget_8 rfl (lv_at hl 1 rfl) ?_
      obtain ⟨r3, h4, hf⟩ := op_b hf
      refine ck_VI (st := [.int x1, .ref h]) (rest := []) (As := [.int x1]) (C := RX5) (ci := 5) ⟨hx, hb, hml, hown, hts⟩ E0_ok (c_X5_holds l D cI cC cK cO h a1 a2 a3 a4 zs zb za zt zl zu zp zw zf zg zc x1 _ h4) (cwV 1 hts gX5_goForget_X5_holds rfl rfl rfl hv_X5_holds ⟨Nat.le_of_ble_eq_true rfl, Nat.le_of_ble_eq_true rfl⟩) hK hP hD hS hA hE [0, 1, 2, 3, 4] rfl rfl rfl rfl rfl (fun _ => rfl) rfl hl.1 rfl (Nat.le_of_ble_eq_true rfl) dX5_goForget_9 ⟨Nat.zero_le _, Nat.zero_le _⟩ (fun r u H locs hw hP hD hS => ?_)
      cases hw
      replace hP : va_P D vwCl (wM cI h a1 a2 a3 a4 zs zb za zt zl zu zp zw zf zg zc) H := hP
      replace hD : va_D A (wM cI h a1 a2 a3 a4 zs zb za zt zl zu zp zw zf zg zc) := hD
      refine lv_if_le (tgt := 65) hx hb dX5_goForget_12 (by decide) (fun c6 => ?_) (fun c6 => ?_)
      · replace hf := op_t c6 hf
        refine lv_iload_n hx hb dX5_goForget_65 rfl (lv_at hl 3 rfl) ?_
        exact hret _ _ _ _ _ (zs) dX5_goForget_66 (op_k hf) hP hS
      · replace hf := op_f c6 hf
        refine lv_aload_n hx hb dX5_goForget_15 rfl (lv_at hl 0 rfl) ?_
        refine va_get (D := D) (ci := 5) (v := .ref a1) (C := RX5) (T := TX5) (N := 11) hx hb hts iX5 hown hK hP 0 rfl rfl 0 (by decide) w7 (fun _ h9 => h9) rfl dX5_goForget_16 ?_
        refine lv_iload_n hx hb dX5_goForget_19 rfl (lv_at hl 2 rfl) ?_
        refine lv_iconst (v := 1) hx hb dX5_goForget_20 (by decide) ?_
        refine lv_iadd hx hb dX5_goForget_21 ?_
        obtain ⟨q7, hf⟩ := op_x hf
        refine ck_iald (j := (x2 + 1).toNatClampNeg) hx hb hK hP 1 0 rfl rfl q7 rfl dX5_goForget_22 ?_
        refine lv_aload_n hx hb dX5_goForget_23 rfl (lv_at hl 0 rfl) ?_
        refine va_get (D := D) (ci := 5) (v := .ref a1) (C := RX5) (T := TX5) (N := 11) hx hb hts iX5 hown hK hP 0 rfl rfl 0 (by decide) w7 (fun _ h9 => h9) rfl dX5_goForget_24 ?_
        refine lv_iload_n hx hb dX5_goForget_27 rfl (lv_at hl 2 rfl) ?_
        refine lv_iconst (v := 3) hx hb dX5_goForget_28 (by decide) ?_
        refine lv_iadd hx hb dX5_goForget_29 ?_
        obtain ⟨q8, hf⟩ := op_x hf
        refine ck_iald (j := (x2 + 3).toNatClampNeg) hx hb hK hP 1 0 rfl rfl q8 rfl dX5_goForget_30 ?_
        refine lv_icmp_gt (tgt := 65) hx hb dX5_goForget_31 (by decide) (fun c9 => ?_) (fun c9 => ?_)
        · replace hf := op_t c9 hf
          refine lv_iload_n hx hb dX5_goForget_65 rfl (lv_at hl 3 rfl) ?_
          exact hret _ _ _ _ _ (zs) dX5_goForget_66 (op_k hf) hP hS
        · replace hf := op_f c9 hf
          refine lv_aload_n hx hb dX5_goForget_34 rfl (lv_at hl 0 rfl) ?_
          refine lv_aload_n hx hb dX5_goForget_35 rfl (lv_at hl 0 rfl) ?_
          refine va_get (D := D) (ci := 5) (v := .ref a1) (C := RX5) (T := TX5) (N := 11) hx hb hts iX5 hown hK hP 0 rfl rfl 0 (by decide) w7 (fun _ h9 => h9) rfl dX5_goForget_36 ?_
          refine lv_iload_n hx hb dX5_goForget_39 rfl (lv_at hl 2 rfl) ?_
          refine lv_iconst (v := 1) hx hb dX5_goForget_40 (by decide) ?_
          refine lv_iadd hx hb dX5_goForget_41 ?_
          obtain ⟨q10, hf⟩ := op_x hf
          refine ck_iald (j := (x2 + 1).toNatClampNeg) hx hb hK hP 1 0 rfl rfl q10 rfl dX5_goForget_42 ?_
          refine lv_iconst (v := 0) hx hb dX5_goForget_43 (by decide) ?_
          obtain ⟨y12, h13, hf⟩ := op_b hf
          refine ck_VV (st := [.int 0, .int (zs (x2 + 1).toNatClampNeg), .ref h]) (rest := []) (As := [.int (zs (x2 + 1).toNatClampNeg), .int 0]) (C := RX5) (ci := 5) ⟨hx, hb, hml, hown, hts⟩ E0_ok (c_X5_makeHole l D cI cC cK cO h a1 a2 a3 a4 zs zb za zt zl zu zp zw zf zg zc (zs (x2 + 1).toNatClampNeg) 0 _ h13) (cwV 2 hts gX5_goForget_X5_makeHole rfl rfl rfl hv_X5_makeHole ⟨Nat.le_of_ble_eq_true rfl, Nat.le_of_ble_eq_true rfl⟩) hK hP hD hS hA hE [0, 1, 2, 3, 4] rfl rfl rfl rfl rfl (fun _ => rfl) rfl hl.1 rfl (Nat.le_of_ble_eq_true rfl) dX5_goForget_44 ⟨Nat.zero_le _, Nat.zero_le _⟩ (fun u H locs hw hP hD hS => ?_)
          cases hw
          replace hP : va_P D vwCl (wM cI h a1 a2 a3 a4 y12 zb za zt zl zu zp zw zf zg zc) H := hP
          replace hD : va_D A (wM cI h a1 a2 a3 a4 y12 zb za zt zl zu zp zw zf zg zc) := hD
          refine lv_aload_n hx hb dX5_goForget_47 rfl (lv_at hl 0 rfl) ?_
          refine va_get (D := D) (ci := 5) (v := .ref a1) (C := RX5) (T := TX5) (N := 11) hx hb hts iX5 hown hK hP 0 rfl rfl 0 (by decide) w7 (fun _ h9 => h9) rfl dX5_goForget_48 ?_
          refine lv_iload_n hx hb dX5_goForget_51 rfl (lv_at hl 2 rfl) ?_
          refine lv_iconst (v := 1) hx hb dX5_goForget_52 (by decide) ?_
          refine lv_iadd hx hb dX5_goForget_53 ?_
          refine lv_dup2_11 hx hb dX5_goForget_54 rfl rfl ?_
          obtain ⟨q15, hf⟩ := op_x hf
          refine ck_iald (j := (x2 + 1).toNatClampNeg) hx hb hK hP 1 0 rfl rfl q15 rfl dX5_goForget_55 ?_
          refine lv_iconst (v := 1) hx hb dX5_goForget_56 (by decide) ?_
          refine lv_iadd hx hb dX5_goForget_57 ?_
          obtain ⟨q16, hf⟩ := op_x hf
          obtain ⟨y17, e18, hf⟩ := nb_o hf
          refine ck_iast (f' := y17) hx hb hK hP hD hS 1 0 rfl rfl q16 dX5_goForget_58 e18 (fun H locs hP hD hS => ?_)
          replace hP : va_P D vwCl (wM cI h a1 a2 a3 a4 y17 zb za zt zl zu zp zw zf zg zc) H := hP
          replace hD : va_D A (wM cI h a1 a2 a3 a4 y17 zb za zt zl zu zp zw zf zg zc) := hD
          refine lv_iinc (v := (x3 + 1)) (lv' := [(3, .int (x3 + 1)), (0, .ref h), (1, .int x1), (2, .int x2)]) hx hb dX5_goForget_59 hl (k := 3) rfl rfl (by decide) rfl (fun ls hl => ?_)
          refine lv_goto (tgt := 7) hx hb dX5_goForget_62 (by decide) ?_
          exact ih y17 x1 x2 (x3 + 1) hf _ _ _ hP hD hS (lv_sub hl [1, 2, 3, 0] rfl)
  rw [f_X5_goForget] at hf
  refine lv_iload_n hx hb dX5_goForget_0 rfl (lv_at hl 1 rfl) ?_
  refine ck_SI (st := [.int x1]) (rest := []) (As := [.int x1]) ⟨hx, hb, hml, hown, hts⟩ E0_ok (c_X5_c l D cI cC cK cO  x1 _ rfl) (va_cwS 1 hts gX5_goForget_X5_c rfl rfl rfl hs_X5_c ⟨Nat.le_of_ble_eq_true rfl, Nat.le_of_ble_eq_true rfl⟩) hK hP hD hS hA hE rfl hl.1 rfl (Nat.le_of_ble_eq_true rfl) dX5_goForget_1 ⟨Nat.zero_le _, Nat.zero_le _⟩ (fun r H locs hw hP hS => ?_)
  cases hw
  refine lv_istore_n (lv' := [(2, .int (f_X5_c x1)), (0, .ref h), (1, .int x1)]) hx hb dX5_goForget_4 rfl hl (by decide) rfl (fun ls hl => ?_)
  refine lv_iconst (v := 0) hx hb dX5_goForget_5 (by decide) ?_
  refine lv_istore_n (lv' := [(3, .int 0), (2, .int (f_X5_c x1)), (0, .ref h), (1, .int x1)]) hx hb dX5_goForget_6 rfl hl (by decide) rfl (fun ls hl => ?_)
  exact L_7 K zs x1 (f_X5_c x1) 0 hf _ _ _ hP hD hS (lv_sub hl [2, 3, 1, 0] rfl)
