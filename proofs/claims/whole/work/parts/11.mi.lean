/-! laid by wip/whole/gen.py: walks of the reference's methods -/
set_option maxHeartbeats 4000000 in
set_option maxRecDepth 100000 in
theorem c_X5_isPossible (l : Launch) (D : va_G) (cI cC cK cO : ClassId) (h : Nat) (a1 : Nat) (a2 : Nat) (a3 : Nat) (a4 : Nat) (zs : Nat → Int32) (zb : Nat → Int32) (za : Nat → Int32) (zt : Nat → Int32) (zl : Int32) (zu : Int32) (zp : Int32) (zw : Int32) (zf : Int32) (zg : Int32) (zc : Int32) (K : Nat) (R : Int32) (hf : f_X5_isPossible K zs zw zf zg = some R) : KI l D (TY cI cC cK cO) E0 yX5_isPossible wsX5_isPossible 3 [.ref h] (wM cI h a1 a2 a3 a4 zs zb za zt zl zu zp zw zf zg zc) (fun (r : Int32) (u : Unit) => r = R ∧ (r = 0 ∨ r = 1)) (fun u => (wM cI h a1 a2 a3 a4 zs zb za zt zl zu zp zw zf zg zc)) := by
  refine KI.ofZ (cc := cX5_isPossible) (maxL := 1) (C := RX5) (by decide) rfl rfl (Nat.le_of_ble_eq_true rfl) (fun _ _ h => h.2) ?_
  intro p e s m args below meth c A Q hx hb hml hts hown hP hK hD hA hE hS hret ls hl
  replace hl : lv_has ls 1 [(0, .ref h)] := hl
  have w143 := hts (.fieldLink RX5 143 "BlockClerksModel" "word" "I") (by decide +kernel)
  have w146 := hts (.fieldLink RX5 146 "BlockClerksModel" "first" "I") (by decide +kernel)
  have w149 := hts (.fieldLink RX5 149 "BlockClerksModel" "second" "I") (by decide +kernel)
  have w7 := hts (.fieldLink RX5 7 "BlockClerksModel" "s" "[I") (by decide +kernel)
  have iX5 : ∀ w ∈ wsX50, w ∈ wsX5_isPossible := by decide +kernel
  rw [f_X5_isPossible] at hf
  refine lv_aload_n hx hb dX5_isPossible_0 rfl (lv_at hl 0 rfl) ?_
  refine va_get (D := D) (ci := 5) (v := .int zw) (C := RX5) (T := TX5) (N := 11) hx hb hts iX5 hown hK hP 0 rfl rfl 7 (by decide) w143 (fun _ h9 => h9) rfl dX5_isPossible_1 ?_
  by_cases c1 : zw = 0
  · replace hf := op_t c1 hf
    refine sw_in (v := 0) (tgt := 40) hx hb dX5_isPossible_4 c1 (by decide) (by decide) rfl (by decide) ?_
    refine lv_aload_n hx hb dX5_isPossible_40 rfl (lv_at hl 0 rfl) ?_
    refine va_get (D := D) (ci := 5) (v := .ref a1) (C := RX5) (T := TX5) (N := 11) hx hb hts iX5 hown hK hP 0 rfl rfl 0 (by decide) w7 (fun _ h9 => h9) rfl dX5_isPossible_41 ?_
    refine lv_iconst (v := 3) hx hb dX5_isPossible_44 (by decide) ?_
    refine ck_iald (j := 3) hx hb hK hP 1 0 rfl rfl (in_lit (by decide)) (by decide) dX5_isPossible_45 ?_
    refine lv_bipush (v := 6) hx hb dX5_isPossible_46 (by decide) ?_
    refine lv_icmp_ge (tgt := 55) hx hb dX5_isPossible_48 (by decide) (fun c2 => ?_) (fun c2 => ?_)
    · replace hf := op_t c2 hf
      refine lv_iconst (v := 0) hx hb dX5_isPossible_55 (by decide) ?_
      exact hret _ _ _ _ _ () dX5_isPossible_56 ⟨(op_k hf), (Or.inl rfl)⟩ hP hS
    · replace hf := op_f c2 hf
      refine lv_iconst (v := 1) hx hb dX5_isPossible_51 (by decide) ?_
      refine lv_goto (tgt := 56) hx hb dX5_isPossible_52 (by decide) ?_
      exact hret _ _ _ _ _ () dX5_isPossible_56 ⟨(op_k hf), (Or.inr rfl)⟩ hP hS
  replace hf := op_f c1 hf
  by_cases c3 : zw = 1
  · replace hf := op_t c3 hf
    refine sw_in (v := 1) (tgt := 57) hx hb dX5_isPossible_4 c3 (by decide) (by decide) rfl (by decide) ?_
    refine lv_aload_n hx hb dX5_isPossible_57 rfl (lv_at hl 0 rfl) ?_
    refine lv_aload_n hx hb dX5_isPossible_58 rfl (lv_at hl 0 rfl) ?_
    refine va_get (D := D) (ci := 5) (v := .int zf) (C := RX5) (T := TX5) (N := 11) hx hb hts iX5 hown hK hP 0 rfl rfl 8 (by decide) w146 (fun _ h9 => h9) rfl dX5_isPossible_59 ?_
    refine lv_aload_n hx hb dX5_isPossible_62 rfl (lv_at hl 0 rfl) ?_
    refine va_get (D := D) (ci := 5) (v := .int zg) (C := RX5) (T := TX5) (N := 11) hx hb hts iX5 hown hK hP 0 rfl rfl 9 (by decide) w149 (fun _ h9 => h9) rfl dX5_isPossible_63 ?_
    obtain ⟨r4, h5, hf⟩ := op_b hf
    refine ck_VI (st := [.int zg, .int zf, .ref h]) (rest := []) (As := [.int zf, .int zg]) (C := RX5) (ci := 5) ⟨hx, hb, hml, hown, hts⟩ E0_ok (c_X5_canAsk l D cI cC cK cO h a1 a2 a3 a4 zs zb za zt zl zu zp zw zf zg zc zf zg K _ h5) (cwV 2 hts gX5_isPossible_X5_canAsk rfl rfl rfl hv_X5_canAsk ⟨Nat.le_of_ble_eq_true rfl, Nat.le_of_ble_eq_true rfl⟩) hK hP hD hS hA hE [0, 1, 2, 3, 4] rfl rfl rfl rfl rfl (fun _ => rfl) rfl hl.1 rfl (Nat.le_of_ble_eq_true rfl) dX5_isPossible_66 ⟨Nat.zero_le _, Nat.zero_le _⟩ (fun r u H locs hw hP hD hS => ?_)
    obtain ⟨hw, z6⟩ := hw
    cases hw
    replace hP : va_P D vwCl (wM cI h a1 a2 a3 a4 zs zb za zt zl zu zp zw zf zg zc) H := hP
    replace hD : va_D A (wM cI h a1 a2 a3 a4 zs zb za zt zl zu zp zw zf zg zc) := hD
    exact hret _ _ _ _ _ () dX5_isPossible_69 ⟨(op_k hf), z6⟩ hP hS
  replace hf := op_f c3 hf
  by_cases c7 : zw = 2
  · replace hf := op_t c7 hf
    refine sw_in (v := 2) (tgt := 70) hx hb dX5_isPossible_4 c7 (by decide) (by decide) rfl (by decide) ?_
    refine lv_aload_n hx hb dX5_isPossible_70 rfl (lv_at hl 0 rfl) ?_
    refine lv_aload_n hx hb dX5_isPossible_71 rfl (lv_at hl 0 rfl) ?_
    refine va_get (D := D) (ci := 5) (v := .int zf) (C := RX5) (T := TX5) (N := 11) hx hb hts iX5 hown hK hP 0 rfl rfl 8 (by decide) w146 (fun _ h9 => h9) rfl dX5_isPossible_72 ?_
    obtain ⟨r8, h9, hf⟩ := op_b hf
    refine ck_VI (st := [.int zf, .ref h]) (rest := []) (As := [.int zf]) (C := RX5) (ci := 5) ⟨hx, hb, hml, hown, hts⟩ E0_ok (c_X5_holds l D cI cC cK cO h a1 a2 a3 a4 zs zb za zt zl zu zp zw zf zg zc zf _ h9) (cwV 1 hts gX5_isPossible_X5_holds rfl rfl rfl hv_X5_holds ⟨Nat.le_of_ble_eq_true rfl, Nat.le_of_ble_eq_true rfl⟩) hK hP hD hS hA hE [0, 1, 2, 3, 4] rfl rfl rfl rfl rfl (fun _ => rfl) rfl hl.1 rfl (Nat.le_of_ble_eq_true rfl) dX5_isPossible_75 ⟨Nat.zero_le _, Nat.zero_le _⟩ (fun r u H locs hw hP hD hS => ?_)
    cases hw
    replace hP : va_P D vwCl (wM cI h a1 a2 a3 a4 zs zb za zt zl zu zp zw zf zg zc) H := hP
    replace hD : va_D A (wM cI h a1 a2 a3 a4 zs zb za zt zl zu zp zw zf zg zc) := hD
    refine lv_if_le (tgt := 85) hx hb dX5_isPossible_78 (by decide) (fun c11 => ?_) (fun c11 => ?_)
    · replace hf := op_t c11 hf
      refine lv_iconst (v := 0) hx hb dX5_isPossible_85 (by decide) ?_
      exact hret _ _ _ _ _ () dX5_isPossible_86 ⟨(op_k hf), (Or.inl rfl)⟩ hP hS
    · replace hf := op_f c11 hf
      refine lv_iconst (v := 1) hx hb dX5_isPossible_81 (by decide) ?_
      refine lv_goto (tgt := 86) hx hb dX5_isPossible_82 (by decide) ?_
      exact hret _ _ _ _ _ () dX5_isPossible_86 ⟨(op_k hf), (Or.inr rfl)⟩ hP hS
  replace hf := op_f c7 hf
  by_cases c12 : zw = 3
  · replace hf := op_t c12 hf
    refine sw_in (v := 3) (tgt := 70) hx hb dX5_isPossible_4 c12 (by decide) (by decide) rfl (by decide) ?_
    refine lv_aload_n hx hb dX5_isPossible_70 rfl (lv_at hl 0 rfl) ?_
    refine lv_aload_n hx hb dX5_isPossible_71 rfl (lv_at hl 0 rfl) ?_
    refine va_get (D := D) (ci := 5) (v := .int zf) (C := RX5) (T := TX5) (N := 11) hx hb hts iX5 hown hK hP 0 rfl rfl 8 (by decide) w146 (fun _ h9 => h9) rfl dX5_isPossible_72 ?_
    obtain ⟨r13, h14, hf⟩ := op_b hf
    refine ck_VI (st := [.int zf, .ref h]) (rest := []) (As := [.int zf]) (C := RX5) (ci := 5) ⟨hx, hb, hml, hown, hts⟩ E0_ok (c_X5_holds l D cI cC cK cO h a1 a2 a3 a4 zs zb za zt zl zu zp zw zf zg zc zf _ h14) (cwV 1 hts gX5_isPossible_X5_holds rfl rfl rfl hv_X5_holds ⟨Nat.le_of_ble_eq_true rfl, Nat.le_of_ble_eq_true rfl⟩) hK hP hD hS hA hE [0, 1, 2, 3, 4] rfl rfl rfl rfl rfl (fun _ => rfl) rfl hl.1 rfl (Nat.le_of_ble_eq_true rfl) dX5_isPossible_75 ⟨Nat.zero_le _, Nat.zero_le _⟩ (fun r u H locs hw hP hD hS => ?_)
    cases hw
    replace hP : va_P D vwCl (wM cI h a1 a2 a3 a4 zs zb za zt zl zu zp zw zf zg zc) H := hP
    replace hD : va_D A (wM cI h a1 a2 a3 a4 zs zb za zt zl zu zp zw zf zg zc) := hD
    refine lv_if_le (tgt := 85) hx hb dX5_isPossible_78 (by decide) (fun c16 => ?_) (fun c16 => ?_)
    · replace hf := op_t c16 hf
      refine lv_iconst (v := 0) hx hb dX5_isPossible_85 (by decide) ?_
      exact hret _ _ _ _ _ () dX5_isPossible_86 ⟨(op_k hf), (Or.inl rfl)⟩ hP hS
    · replace hf := op_f c16 hf
      refine lv_iconst (v := 1) hx hb dX5_isPossible_81 (by decide) ?_
      refine lv_goto (tgt := 86) hx hb dX5_isPossible_82 (by decide) ?_
      exact hret _ _ _ _ _ () dX5_isPossible_86 ⟨(op_k hf), (Or.inr rfl)⟩ hP hS
  replace hf := op_f c12 hf
  by_cases c17 : zw = 4
  · replace hf := op_t c17 hf
    refine sw_in (v := 4) (tgt := 87) hx hb dX5_isPossible_4 c17 (by decide) (by decide) rfl (by decide) ?_
    refine lv_aload_n hx hb dX5_isPossible_87 rfl (lv_at hl 0 rfl) ?_
    refine va_get (D := D) (ci := 5) (v := .ref a1) (C := RX5) (T := TX5) (N := 11) hx hb hts iX5 hown hK hP 0 rfl rfl 0 (by decide) w7 (fun _ h9 => h9) rfl dX5_isPossible_88 ?_
    refine lv_aload_n hx hb dX5_isPossible_91 rfl (lv_at hl 0 rfl) ?_
    refine va_get (D := D) (ci := 5) (v := .int zf) (C := RX5) (T := TX5) (N := 11) hx hb hts iX5 hown hK hP 0 rfl rfl 8 (by decide) w146 (fun _ h9 => h9) rfl dX5_isPossible_92 ?_
    refine ck_SI (st := [.int zf, .ref a1]) (rest := [.ref a1]) (As := [.int zf]) ⟨hx, hb, hml, hown, hts⟩ E0_ok (c_X5_n l D cI cC cK cO  zf _ rfl) (va_cwS 1 hts gX5_isPossible_X5_n rfl rfl rfl hs_X5_n ⟨Nat.le_of_ble_eq_true rfl, Nat.le_of_ble_eq_true rfl⟩) hK hP hD hS hA hE rfl hl.1 rfl (Nat.le_of_ble_eq_true rfl) dX5_isPossible_95 ⟨Nat.zero_le _, Nat.zero_le _⟩ (fun r H locs hw hP hS => ?_)
    cases hw
    refine lv_iconst (v := 0) hx hb dX5_isPossible_98 (by decide) ?_
    refine lv_iadd hx hb dX5_isPossible_99 ?_
    obtain ⟨q20, hf⟩ := op_x hf
    refine ck_iald (j := ((f_X5_n zf) + 0).toNatClampNeg) hx hb hK hP 1 0 rfl rfl q20 rfl dX5_isPossible_100 ?_
    refine lv_iconst (v := 2) hx hb dX5_isPossible_101 (by decide) ?_
    refine lv_icmp_ne (tgt := 109) hx hb dX5_isPossible_102 (by decide) (fun c21 => ?_) (fun c21 => ?_)
    · replace hf := op_f c21 hf
      refine lv_iconst (v := 0) hx hb dX5_isPossible_109 (by decide) ?_
      exact hret _ _ _ _ _ () dX5_isPossible_110 ⟨(op_k hf), (Or.inl rfl)⟩ hP hS
    · replace hf := op_t c21 hf
      refine lv_iconst (v := 1) hx hb dX5_isPossible_105 (by decide) ?_
      refine lv_goto (tgt := 110) hx hb dX5_isPossible_106 (by decide) ?_
      exact hret _ _ _ _ _ () dX5_isPossible_110 ⟨(op_k hf), (Or.inr rfl)⟩ hP hS
  replace hf := op_f c17 hf
  refine lv_tableOut (tgt := 111) hx hb dX5_isPossible_4 (sw_o_0_5 c1 c3 c7 c12 c17) (by decide) ?_
  refine lv_iconst (v := 1) hx hb dX5_isPossible_111 (by decide) ?_
  exact hret _ _ _ _ _ () dX5_isPossible_112 ⟨(op_k hf), (Or.inr rfl)⟩ hP hS
set_option maxHeartbeats 4000000 in
set_option maxRecDepth 100000 in
theorem c_X5_goCommand (l : Launch) (D : va_G) (cI cC cK cO : ClassId) (h : Nat) (a1 : Nat) (a2 : Nat) (a3 : Nat) (a4 : Nat) (zs : Nat → Int32) (zb : Nat → Int32) (za : Nat → Int32) (zt : Nat → Int32) (zl : Int32) (zu : Int32) (zp : Int32) (zw : Int32) (zf : Int32) (zg : Int32) (zc : Int32) (K : Nat) (R : (Nat → Int32)) (hf : f_X5_goCommand K zs zw zf zg = some R) : KV l D (TY cI cC cK cO) E0 yX5_goCommand wsX5_goCommand 6 [.ref h] (wM cI h a1 a2 a3 a4 zs zb za zt zl zu zp zw zf zg zc) (fun (u : (Nat → Int32)) => u = R) (fun u => (wM cI h a1 a2 a3 a4 u zb za zt zl zu zp zw zf zg zc)) := by
  refine KV.of (cc := cX5_goCommand) (maxL := 1) (C := RX5) (by decide) rfl rfl (Nat.le_of_ble_eq_true rfl) ?_
  intro p e s m args below meth c A Q hx hb hml hts hown hP hK hD hA hE hS hret ls hl
  replace hl : lv_has ls 1 [(0, .ref h)] := hl
  have w143 := hts (.fieldLink RX5 143 "BlockClerksModel" "word" "I") (by decide +kernel)
  have w146 := hts (.fieldLink RX5 146 "BlockClerksModel" "first" "I") (by decide +kernel)
  have w149 := hts (.fieldLink RX5 149 "BlockClerksModel" "second" "I") (by decide +kernel)
  have iX5 : ∀ w ∈ wsX50, w ∈ wsX5_goCommand := by decide +kernel
  rw [f_X5_goCommand] at hf
  refine lv_aload_n hx hb dX5_goCommand_0 rfl (lv_at hl 0 rfl) ?_
  refine va_get (D := D) (ci := 5) (v := .int zw) (C := RX5) (T := TX5) (N := 11) hx hb hts iX5 hown hK hP 0 rfl rfl 7 (by decide) w143 (fun _ h9 => h9) rfl dX5_goCommand_1 ?_
  by_cases c1 : zw = 0
  · replace hf := op_t c1 hf
    refine sw_in (v := 0) (tgt := 40) hx hb dX5_goCommand_4 c1 (by decide) (by decide) rfl (by decide) ?_
    refine lv_aload_n hx hb dX5_goCommand_40 rfl (lv_at hl 0 rfl) ?_
    refine lv_aload_n hx hb dX5_goCommand_41 rfl (lv_at hl 0 rfl) ?_
    refine va_get (D := D) (ci := 5) (v := .int zf) (C := RX5) (T := TX5) (N := 11) hx hb hts iX5 hown hK hP 0 rfl rfl 8 (by decide) w146 (fun _ h9 => h9) rfl dX5_goCommand_42 ?_
    obtain ⟨⟨r2, y3⟩, h4, hf⟩ := op_b hf
    refine ck_VI (st := [.int zf, .ref h]) (rest := []) (As := [.int zf]) (C := RX5) (ci := 5) ⟨hx, hb, hml, hown, hts⟩ E0_ok (c_X5_goClerk l D cI cC cK cO h a1 a2 a3 a4 zs zb za zt zl zu zp zw zf zg zc zf _ h4) (cwV 1 hts gX5_goCommand_X5_goClerk rfl rfl rfl hv_X5_goClerk ⟨Nat.le_of_ble_eq_true rfl, Nat.le_of_ble_eq_true rfl⟩) hK hP hD hS hA hE [0, 1, 2, 3, 4] rfl rfl rfl rfl rfl (fun _ => rfl) rfl hl.1 rfl (Nat.le_of_ble_eq_true rfl) dX5_goCommand_45 ⟨Nat.zero_le _, Nat.zero_le _⟩ (fun r u H locs hw hP hD hS => ?_)
    cases hw
    replace hP : va_P D vwCl (wM cI h a1 a2 a3 a4 y3 zb za zt zl zu zp zw zf zg zc) H := hP
    replace hD : va_D A (wM cI h a1 a2 a3 a4 y3 zb za zt zl zu zp zw zf zg zc) := hD
    refine lv_pop hx hb dX5_goCommand_48 rfl ?_
    refine lv_goto (tgt := 109) hx hb dX5_goCommand_49 (by decide) ?_
    exact hret _ _ _ _ (y3) dX5_goCommand_109 (op_k hf) hP hS
  replace hf := op_f c1 hf
  by_cases c6 : zw = 1
  · replace hf := op_t c6 hf
    refine sw_in (v := 1) (tgt := 52) hx hb dX5_goCommand_4 c6 (by decide) (by decide) rfl (by decide) ?_
    refine lv_aload_n hx hb dX5_goCommand_52 rfl (lv_at hl 0 rfl) ?_
    refine lv_aload_n hx hb dX5_goCommand_53 rfl (lv_at hl 0 rfl) ?_
    refine va_get (D := D) (ci := 5) (v := .int zf) (C := RX5) (T := TX5) (N := 11) hx hb hts iX5 hown hK hP 0 rfl rfl 8 (by decide) w146 (fun _ h9 => h9) rfl dX5_goCommand_54 ?_
    refine lv_aload_n hx hb dX5_goCommand_57 rfl (lv_at hl 0 rfl) ?_
    refine va_get (D := D) (ci := 5) (v := .int zg) (C := RX5) (T := TX5) (N := 11) hx hb hts iX5 hown hK hP 0 rfl rfl 9 (by decide) w149 (fun _ h9 => h9) rfl dX5_goCommand_58 ?_
    obtain ⟨⟨r7, y8⟩, h9, hf⟩ := op_b hf
    refine ck_VI (st := [.int zg, .int zf, .ref h]) (rest := []) (As := [.int zf, .int zg]) (C := RX5) (ci := 5) ⟨hx, hb, hml, hown, hts⟩ E0_ok (c_X5_goAsk l D cI cC cK cO h a1 a2 a3 a4 zs zb za zt zl zu zp zw zf zg zc zf zg K _ h9) (cwV 2 hts gX5_goCommand_X5_goAsk rfl rfl rfl hv_X5_goAsk ⟨Nat.le_of_ble_eq_true rfl, Nat.le_of_ble_eq_true rfl⟩) hK hP hD hS hA hE [0, 1, 2, 3, 4] rfl rfl rfl rfl rfl (fun _ => rfl) rfl hl.1 rfl (Nat.le_of_ble_eq_true rfl) dX5_goCommand_61 ⟨Nat.zero_le _, Nat.zero_le _⟩ (fun r u H locs hw hP hD hS => ?_)
    cases hw
    replace hP : va_P D vwCl (wM cI h a1 a2 a3 a4 y8 zb za zt zl zu zp zw zf zg zc) H := hP
    replace hD : va_D A (wM cI h a1 a2 a3 a4 y8 zb za zt zl zu zp zw zf zg zc) := hD
    refine lv_pop hx hb dX5_goCommand_64 rfl ?_
    refine lv_goto (tgt := 109) hx hb dX5_goCommand_65 (by decide) ?_
    exact hret _ _ _ _ (y8) dX5_goCommand_109 (op_k hf) hP hS
  replace hf := op_f c6 hf
  by_cases c11 : zw = 2
  · replace hf := op_t c11 hf
    refine sw_in (v := 2) (tgt := 68) hx hb dX5_goCommand_4 c11 (by decide) (by decide) rfl (by decide) ?_
    refine lv_aload_n hx hb dX5_goCommand_68 rfl (lv_at hl 0 rfl) ?_
    refine lv_aload_n hx hb dX5_goCommand_69 rfl (lv_at hl 0 rfl) ?_
    refine va_get (D := D) (ci := 5) (v := .int zf) (C := RX5) (T := TX5) (N := 11) hx hb hts iX5 hown hK hP 0 rfl rfl 8 (by decide) w146 (fun _ h9 => h9) rfl dX5_goCommand_70 ?_
    obtain ⟨⟨r12, y13⟩, h14, hf⟩ := op_b hf
    refine ck_VI (st := [.int zf, .ref h]) (rest := []) (As := [.int zf]) (C := RX5) (ci := 5) ⟨hx, hb, hml, hown, hts⟩ E0_ok (c_X5_goForget l D cI cC cK cO h a1 a2 a3 a4 zs zb za zt zl zu zp zw zf zg zc zf K _ h14) (cwV 1 hts gX5_goCommand_X5_goForget rfl rfl rfl hv_X5_goForget ⟨Nat.le_of_ble_eq_true rfl, Nat.le_of_ble_eq_true rfl⟩) hK hP hD hS hA hE [0, 1, 2, 3, 4] rfl rfl rfl rfl rfl (fun _ => rfl) rfl hl.1 rfl (Nat.le_of_ble_eq_true rfl) dX5_goCommand_73 ⟨Nat.zero_le _, Nat.zero_le _⟩ (fun r u H locs hw hP hD hS => ?_)
    cases hw
    replace hP : va_P D vwCl (wM cI h a1 a2 a3 a4 y13 zb za zt zl zu zp zw zf zg zc) H := hP
    replace hD : va_D A (wM cI h a1 a2 a3 a4 y13 zb za zt zl zu zp zw zf zg zc) := hD
    refine lv_pop hx hb dX5_goCommand_76 rfl ?_
    refine lv_goto (tgt := 109) hx hb dX5_goCommand_77 (by decide) ?_
    exact hret _ _ _ _ (y13) dX5_goCommand_109 (op_k hf) hP hS
  replace hf := op_f c11 hf
  by_cases c16 : zw = 3
  · replace hf := op_t c16 hf
    refine sw_in (v := 3) (tgt := 80) hx hb dX5_goCommand_4 c16 (by decide) (by decide) rfl (by decide) ?_
    refine lv_aload_n hx hb dX5_goCommand_80 rfl (lv_at hl 0 rfl) ?_
    refine lv_aload_n hx hb dX5_goCommand_81 rfl (lv_at hl 0 rfl) ?_
    refine va_get (D := D) (ci := 5) (v := .int zf) (C := RX5) (T := TX5) (N := 11) hx hb hts iX5 hown hK hP 0 rfl rfl 8 (by decide) w146 (fun _ h9 => h9) rfl dX5_goCommand_82 ?_
    obtain ⟨⟨r17, y18⟩, h19, hf⟩ := op_b hf
    refine ck_VI (st := [.int zf, .ref h]) (rest := []) (As := [.int zf]) (C := RX5) (ci := 5) ⟨hx, hb, hml, hown, hts⟩ E0_ok (c_X5_goBack l D cI cC cK cO h a1 a2 a3 a4 zs zb za zt zl zu zp zw zf zg zc zf K _ h19) (cwV 1 hts gX5_goCommand_X5_goBack rfl rfl rfl hv_X5_goBack ⟨Nat.le_of_ble_eq_true rfl, Nat.le_of_ble_eq_true rfl⟩) hK hP hD hS hA hE [0, 1, 2, 3, 4] rfl rfl rfl rfl rfl (fun _ => rfl) rfl hl.1 rfl (Nat.le_of_ble_eq_true rfl) dX5_goCommand_85 ⟨Nat.zero_le _, Nat.zero_le _⟩ (fun r u H locs hw hP hD hS => ?_)
    cases hw
    replace hP : va_P D vwCl (wM cI h a1 a2 a3 a4 y18 zb za zt zl zu zp zw zf zg zc) H := hP
    replace hD : va_D A (wM cI h a1 a2 a3 a4 y18 zb za zt zl zu zp zw zf zg zc) := hD
    refine lv_pop hx hb dX5_goCommand_88 rfl ?_
    refine lv_goto (tgt := 109) hx hb dX5_goCommand_89 (by decide) ?_
    exact hret _ _ _ _ (y18) dX5_goCommand_109 (op_k hf) hP hS
  replace hf := op_f c16 hf
  by_cases c21 : zw = 4
  · replace hf := op_t c21 hf
    refine sw_in (v := 4) (tgt := 92) hx hb dX5_goCommand_4 c21 (by decide) (by decide) rfl (by decide) ?_
    refine lv_aload_n hx hb dX5_goCommand_92 rfl (lv_at hl 0 rfl) ?_
    refine lv_aload_n hx hb dX5_goCommand_93 rfl (lv_at hl 0 rfl) ?_
    refine va_get (D := D) (ci := 5) (v := .int zf) (C := RX5) (T := TX5) (N := 11) hx hb hts iX5 hown hK hP 0 rfl rfl 8 (by decide) w146 (fun _ h9 => h9) rfl dX5_goCommand_94 ?_
    refine lv_iconst (v := 2) hx hb dX5_goCommand_97 (by decide) ?_
    obtain ⟨y23, h24, hf⟩ := op_b hf
    refine ck_VV (st := [.int 2, .int zf, .ref h]) (rest := []) (As := [.int zf, .int 2]) (C := RX5) (ci := 5) ⟨hx, hb, hml, hown, hts⟩ E0_ok (c_X5_makeHole l D cI cC cK cO h a1 a2 a3 a4 zs zb za zt zl zu zp zw zf zg zc zf 2 _ h24) (cwV 2 hts gX5_goCommand_X5_makeHole rfl rfl rfl hv_X5_makeHole ⟨Nat.le_of_ble_eq_true rfl, Nat.le_of_ble_eq_true rfl⟩) hK hP hD hS hA hE [0, 1, 2, 3, 4] rfl rfl rfl rfl rfl (fun _ => rfl) rfl hl.1 rfl (Nat.le_of_ble_eq_true rfl) dX5_goCommand_98 ⟨Nat.zero_le _, Nat.zero_le _⟩ (fun u H locs hw hP hD hS => ?_)
    cases hw
    replace hP : va_P D vwCl (wM cI h a1 a2 a3 a4 y23 zb za zt zl zu zp zw zf zg zc) H := hP
    replace hD : va_D A (wM cI h a1 a2 a3 a4 y23 zb za zt zl zu zp zw zf zg zc) := hD
    refine lv_goto (tgt := 109) hx hb dX5_goCommand_101 (by decide) ?_
    exact hret _ _ _ _ (y23) dX5_goCommand_109 (op_k hf) hP hS
  replace hf := op_f c21 hf
  refine lv_tableOut (tgt := 104) hx hb dX5_goCommand_4 (sw_o_0_5 c1 c6 c11 c16 c21) (by decide) ?_
  refine lv_aload_n hx hb dX5_goCommand_104 rfl (lv_at hl 0 rfl) ?_
  obtain ⟨⟨r26, y27⟩, h28, hf⟩ := op_b hf
  refine ck_VI (st := [.ref h]) (rest := []) (As := []) (C := RX5) (ci := 5) ⟨hx, hb, hml, hown, hts⟩ E0_ok (c_X5_goClose l D cI cC cK cO h a1 a2 a3 a4 zs zb za zt zl zu zp zw zf zg zc  K _ h28) (cwV 0 hts gX5_goCommand_X5_goClose rfl rfl rfl hv_X5_goClose ⟨Nat.le_of_ble_eq_true rfl, Nat.le_of_ble_eq_true rfl⟩) hK hP hD hS hA hE [0, 1, 2, 3, 4] rfl rfl rfl rfl rfl (fun _ => rfl) rfl hl.1 rfl (Nat.le_of_ble_eq_true rfl) dX5_goCommand_105 ⟨Nat.zero_le _, Nat.zero_le _⟩ (fun r u H locs hw hP hD hS => ?_)
  cases hw
  replace hP : va_P D vwCl (wM cI h a1 a2 a3 a4 y27 zb za zt zl zu zp zw zf zg zc) H := hP
  replace hD : va_D A (wM cI h a1 a2 a3 a4 y27 zb za zt zl zu zp zw zf zg zc) := hD
  refine lv_pop hx hb dX5_goCommand_108 rfl ?_
  exact hret _ _ _ _ (y27) dX5_goCommand_109 (op_k hf) hP hS
set_option maxHeartbeats 4000000 in
set_option maxRecDepth 100000 in
theorem c_X5_run (l : Launch) (D : va_G) (cI cC cK cO : ClassId) (h : Nat) (a1 : Nat) (a2 : Nat) (a3 : Nat) (a4 : Nat) (zs : Nat → Int32) (zb : Nat → Int32) (za : Nat → Int32) (zt : Nat → Int32) (zl : Int32) (zu : Int32) (zp : Int32) (zw : Int32) (zf : Int32) (zg : Int32) (zc : Int32) (K : Nat) (R : Int32 × (Nat → Int32) × Int32 × Int32 × Int32 × Int32 × Int32) (hf : f_X5_run K zs zt zl zw zf zg = some R) : KI l D (TY cI cC cK cO) E0 yX5_run wsX5_run 7 [.ref h] (wM cI h a1 a2 a3 a4 zs zb za zt zl zu zp zw zf zg zc) (fun (r : Int32) (u : (Nat → Int32) × Int32 × Int32 × Int32 × Int32 × Int32) => (r, u) = R) (fun u => (wM cI h a1 a2 a3 a4 (u.1) zb za zt zl zu (u.2.1) (u.2.2.1) (u.2.2.2.1) (u.2.2.2.2.1) (u.2.2.2.2.2))) := by
  refine KI.ofI (cc := cX5_run) (maxL := 2) (C := RX5) (by decide) rfl rfl (Nat.le_of_ble_eq_true rfl) ?_
  intro p e s m args below meth c A Q hx hb hml hts hown hP hK hD hA hE hS hret ls hl
  replace hl : lv_has ls 2 [(0, .ref h)] := hl
  have w115 := hts (.fieldLink RX5 115 "BlockClerksModel" "length" "I") (by decide +kernel)
  have w127 := hts (.fieldLink RX5 127 "BlockClerksModel" "at" "I") (by decide +kernel)
  have w158 := hts (.fieldLink RX5 158 "BlockClerksModel" "commands" "I") (by decide +kernel)
  have iX5 : ∀ w ∈ wsX50, w ∈ wsX5_run := by decide +kernel
  have L_10 : ∀ (n : Nat) (zs : Nat → Int32) (zp : Int32) (zw : Int32) (zf : Int32) (zg : Int32) (zc : Int32)  (hf : f_X5_run_10 K zt zl n zs zp zw zf zg zc = some R) (H : Heap) (locs : List Loc) (ls : Array Slot), va_P D vwCl (wM cI h a1 a2 a3 a4 zs zb za zt zl zu zp zw zf zg zc) H → va_D A (wM cI h a1 a2 a3 a4 zs zb za zt zl zu zp zw zf zg zc) → va_S A s.heap H locs → lv_has ls 2 [(0, .ref h)] → W p l e (rm 7) s m args below meth c H locs 0 0 Q (F0 m 10 ls []) := by
    intro n
    induction n with
    | zero =>
      intro zs zp zw zf zg zc  hf
      cases hf
    | succ n ih =>
      intro zs zp zw zf zg zc  hf H locs ls hP hD hS hl
      rw [f_X5_run_10] at hf
      refine lv_aload_n hx hb dX5_run_10 rfl (lv_at hl 0 rfl) ?_
      refine va_get (D := D) (ci := 5) (v := .int zp) (C := RX5) (T := TX5) (N := 11) hx hb hts iX5 hown hK hP 0 rfl rfl 6 (by decide) w127 (fun _ h9 => h9) rfl dX5_run_11 ?_
      refine lv_aload_n hx hb dX5_run_14 rfl (lv_at hl 0 rfl) ?_
      refine va_get (D := D) (ci := 5) (v := .int zl) (C := RX5) (T := TX5) (N := 11) hx hb hts iX5 hown hK hP 0 rfl rfl 4 (by decide) w115 (fun _ h9 => h9) rfl dX5_run_15 ?_
      refine lv_icmp_ge (tgt := 82) hx hb dX5_run_18 (by decide) (fun c1 => ?_) (fun c1 => ?_)
      · replace hf := op_t c1 hf
        refine lv_iconst (v := (-1)) hx hb dX5_run_82 (by decide) ?_
        exact hret _ _ _ _ _ (zs, zp, zw, zf, zg, zc) dX5_run_83 (op_k hf) hP hS
      · replace hf := op_f c1 hf
        refine lv_aload_n hx hb dX5_run_21 rfl (lv_at hl 0 rfl) ?_
        refine va_get (D := D) (ci := 5) (v := .int zp) (C := RX5) (T := TX5) (N := 11) hx hb hts iX5 hown hK hP 0 rfl rfl 6 (by decide) w127 (fun _ h9 => h9) rfl dX5_run_22 ?_
        refine lv_istore_n (lv' := [(1, .int zp), (0, .ref h)]) hx hb dX5_run_25 rfl hl (by decide) rfl (fun ls hl => ?_)
        refine lv_aload_n hx hb dX5_run_26 rfl (lv_at hl 1 rfl) ?_
        obtain ⟨⟨r2, y3, y4, y5, y6⟩, h7, hf⟩ := op_b hf
        refine ck_VI (st := [.ref h]) (rest := []) (As := []) (C := RX5) (ci := 5) ⟨hx, hb, hml, hown, hts⟩ E0_ok (c_X5_isForm l D cI cC cK cO h a1 a2 a3 a4 zs zb za zt zl zu zp zw zf zg zc  K _ h7) (cwV 0 hts gX5_run_X5_isForm rfl rfl rfl hv_X5_isForm ⟨Nat.le_of_ble_eq_true rfl, Nat.le_of_ble_eq_true rfl⟩) hK hP hD hS hA hE [0, 1, 2, 3, 4] rfl rfl rfl rfl rfl (fun _ => rfl) rfl hl.1 rfl (Nat.le_of_ble_eq_true rfl) dX5_run_27 ⟨Nat.zero_le _, Nat.zero_le _⟩ (fun r u H locs hw hP hD hS => ?_)
        obtain ⟨hw, z8⟩ := hw
        cases hw
        replace hP : va_P D vwCl (wM cI h a1 a2 a3 a4 zs zb za zt zl zu y3 y4 y5 y6 zc) H := hP
        replace hD : va_D A (wM cI h a1 a2 a3 a4 zs zb za zt zl zu y3 y4 y5 y6 zc) := hD
        refine lv_if_ne (tgt := 39) hx hb dX5_run_30 (by decide) (fun c9 => ?_) (fun c9 => ?_)
        · replace hf := op_f c9 hf
          refine lv_aload_n hx hb dX5_run_39 rfl (lv_at hl 1 rfl) ?_
          refine ck_VI (st := [.ref h]) (rest := []) (As := []) (C := RX5) (ci := 5) ⟨hx, hb, hml, hown, hts⟩ E0_ok (c_X5_isRange l D cI cC cK cO h a1 a2 a3 a4 zs zb za zt zl zu y3 y4 y5 y6 zc  _ rfl) (cwV 0 hts gX5_run_X5_isRange rfl rfl rfl hv_X5_isRange ⟨Nat.le_of_ble_eq_true rfl, Nat.le_of_ble_eq_true rfl⟩) hK hP hD hS hA hE [0, 1, 2, 3, 4] rfl rfl rfl rfl rfl (fun _ => rfl) rfl hl.1 rfl (Nat.le_of_ble_eq_true rfl) dX5_run_40 ⟨Nat.zero_le _, Nat.zero_le _⟩ (fun r u H locs hw hP hD hS => ?_)
          obtain ⟨hw, z11⟩ := hw
          cases hw
          replace hP : va_P D vwCl (wM cI h a1 a2 a3 a4 zs zb za zt zl zu y3 y4 y5 y6 zc) H := hP
          replace hD : va_D A (wM cI h a1 a2 a3 a4 zs zb za zt zl zu y3 y4 y5 y6 zc) := hD
          refine lv_if_ne (tgt := 52) hx hb dX5_run_43 (by decide) (fun c12 => ?_) (fun c12 => ?_)
          · replace hf := op_f c12 hf
            refine lv_aload_n hx hb dX5_run_52 rfl (lv_at hl 1 rfl) ?_
            obtain ⟨r13, h14, hf⟩ := op_b hf
            refine ck_VI (st := [.ref h]) (rest := []) (As := []) (C := RX5) (ci := 5) ⟨hx, hb, hml, hown, hts⟩ E0_ok (c_X5_isPossible l D cI cC cK cO h a1 a2 a3 a4 zs zb za zt zl zu y3 y4 y5 y6 zc  K _ h14) (cwV 0 hts gX5_run_X5_isPossible rfl rfl rfl hv_X5_isPossible ⟨Nat.le_of_ble_eq_true rfl, Nat.le_of_ble_eq_true rfl⟩) hK hP hD hS hA hE [0, 1, 2, 3, 4] rfl rfl rfl rfl rfl (fun _ => rfl) rfl hl.1 rfl (Nat.le_of_ble_eq_true rfl) dX5_run_53 ⟨Nat.zero_le _, Nat.zero_le _⟩ (fun r u H locs hw hP hD hS => ?_)
            obtain ⟨hw, z15⟩ := hw
            cases hw
            replace hP : va_P D vwCl (wM cI h a1 a2 a3 a4 zs zb za zt zl zu y3 y4 y5 y6 zc) H := hP
            replace hD : va_D A (wM cI h a1 a2 a3 a4 zs zb za zt zl zu y3 y4 y5 y6 zc) := hD
            refine lv_if_ne (tgt := 65) hx hb dX5_run_56 (by decide) (fun c16 => ?_) (fun c16 => ?_)
            · replace hf := op_f c16 hf
              refine lv_aload_n hx hb dX5_run_65 rfl (lv_at hl 1 rfl) ?_
              obtain ⟨y18, h19, hf⟩ := op_b hf
              refine ck_VV (st := [.ref h]) (rest := []) (As := []) (C := RX5) (ci := 5) ⟨hx, hb, hml, hown, hts⟩ E0_ok (c_X5_goCommand l D cI cC cK cO h a1 a2 a3 a4 zs zb za zt zl zu y3 y4 y5 y6 zc  K _ h19) (cwV 0 hts gX5_run_X5_goCommand rfl rfl rfl hv_X5_goCommand ⟨Nat.le_of_ble_eq_true rfl, Nat.le_of_ble_eq_true rfl⟩) hK hP hD hS hA hE [0, 1, 2, 3, 4] rfl rfl rfl rfl rfl (fun _ => rfl) rfl hl.1 rfl (Nat.le_of_ble_eq_true rfl) dX5_run_66 ⟨Nat.zero_le _, Nat.zero_le _⟩ (fun u H locs hw hP hD hS => ?_)
              cases hw
              replace hP : va_P D vwCl (wM cI h a1 a2 a3 a4 y18 zb za zt zl zu y3 y4 y5 y6 zc) H := hP
              replace hD : va_D A (wM cI h a1 a2 a3 a4 y18 zb za zt zl zu y3 y4 y5 y6 zc) := hD
              refine lv_aload_n hx hb dX5_run_69 rfl (lv_at hl 1 rfl) ?_
              refine lv_dup hx hb dX5_run_70 rfl ?_
              refine va_get (D := D) (ci := 5) (v := .int zc) (C := RX5) (T := TX5) (N := 11) hx hb hts iX5 hown hK hP 0 rfl rfl 10 (by decide) w158 (fun _ h9 => h9) rfl dX5_run_71 ?_
              refine lv_iconst (v := 1) hx hb dX5_run_74 (by decide) ?_
              refine lv_iadd hx hb dX5_run_75 ?_
              refine va_put (D := D) (ci := 5) (v := .int (zc + 1)) (ty := .int) (C := RX5) (T := TX5) (N := 11) hx hb hts iX5 tyX5 tyX5_ok nmX5 hown hK hP hD hS 0 rfl rfl 10 (by decide) w158 (fun _ h9 => h9) rfl (by decide +kernel) rfl rfl (Nat.le_of_ble_eq_true rfl) dX5_run_76 (fun H locs hP hD hS => ?_)
              replace hP : va_P D vwCl (wM cI h a1 a2 a3 a4 y18 zb za zt zl zu y3 y4 y5 y6 (zc + 1)) H := hP
              replace hD : va_D A (wM cI h a1 a2 a3 a4 y18 zb za zt zl zu y3 y4 y5 y6 (zc + 1)) := hD
              refine lv_goto (tgt := 10) hx hb dX5_run_79 (by decide) ?_
              exact ih y18 y3 y4 y5 y6 (zc + 1)  hf _ _ _ hP hD hS (lv_sub hl [1] rfl)
            · replace hf := op_t c16 hf
              refine lv_iconst (v := 4) hx hb dX5_run_59 (by decide) ?_
              refine lv_iload_n hx hb dX5_run_60 rfl (lv_at hl 0 rfl) ?_
              refine lv_imul hx hb dX5_run_61 ?_
              refine lv_iconst (v := 3) hx hb dX5_run_62 (by decide) ?_
              refine lv_iadd hx hb dX5_run_63 ?_
              exact hret _ _ _ _ _ (zs, y3, y4, y5, y6, zc) dX5_run_64 (op_k hf) hP hS
          · replace hf := op_t c12 hf
            refine lv_iconst (v := 4) hx hb dX5_run_46 (by decide) ?_
            refine lv_iload_n hx hb dX5_run_47 rfl (lv_at hl 0 rfl) ?_
            refine lv_imul hx hb dX5_run_48 ?_
            refine lv_iconst (v := 2) hx hb dX5_run_49 (by decide) ?_
            refine lv_iadd hx hb dX5_run_50 ?_
            exact hret _ _ _ _ _ (zs, y3, y4, y5, y6, zc) dX5_run_51 (op_k hf) hP hS
        · replace hf := op_t c9 hf
          refine lv_iconst (v := 4) hx hb dX5_run_33 (by decide) ?_
          refine lv_iload_n hx hb dX5_run_34 rfl (lv_at hl 0 rfl) ?_
          refine lv_imul hx hb dX5_run_35 ?_
          refine lv_iconst (v := 1) hx hb dX5_run_36 (by decide) ?_
          refine lv_iadd hx hb dX5_run_37 ?_
          exact hret _ _ _ _ _ (zs, y3, y4, y5, y6, zc) dX5_run_38 (op_k hf) hP hS
  rw [f_X5_run] at hf
  refine lv_aload_n hx hb dX5_run_0 rfl (lv_at hl 0 rfl) ?_
  refine lv_iconst (v := 0) hx hb dX5_run_1 (by decide) ?_
  refine va_put (D := D) (ci := 5) (v := .int 0) (ty := .int) (C := RX5) (T := TX5) (N := 11) hx hb hts iX5 tyX5 tyX5_ok nmX5 hown hK hP hD hS 0 rfl rfl 6 (by decide) w127 (fun _ h9 => h9) rfl (by decide +kernel) rfl rfl (Nat.le_of_ble_eq_true rfl) dX5_run_2 (fun H locs hP hD hS => ?_)
  replace hP : va_P D vwCl (wM cI h a1 a2 a3 a4 zs zb za zt zl zu 0 zw zf zg zc) H := hP
  replace hD : va_D A (wM cI h a1 a2 a3 a4 zs zb za zt zl zu 0 zw zf zg zc) := hD
  refine lv_aload_n hx hb dX5_run_5 rfl (lv_at hl 0 rfl) ?_
  refine lv_iconst (v := 0) hx hb dX5_run_6 (by decide) ?_
  refine va_put (D := D) (ci := 5) (v := .int 0) (ty := .int) (C := RX5) (T := TX5) (N := 11) hx hb hts iX5 tyX5 tyX5_ok nmX5 hown hK hP hD hS 0 rfl rfl 10 (by decide) w158 (fun _ h9 => h9) rfl (by decide +kernel) rfl rfl (Nat.le_of_ble_eq_true rfl) dX5_run_7 (fun H locs hP hD hS => ?_)
  replace hP : va_P D vwCl (wM cI h a1 a2 a3 a4 zs zb za zt zl zu 0 zw zf zg 0) H := hP
  replace hD : va_D A (wM cI h a1 a2 a3 a4 zs zb za zt zl zu 0 zw zf zg 0) := hD
  exact L_10 K zs 0 zw zf zg 0  hf _ _ _ hP hD hS (lv_sub hl [0] rfl)
set_option maxHeartbeats 4000000 in
set_option maxRecDepth 100000 in
theorem c_X5_fault (l : Launch) (D : va_G) (cI cC cK cO : ClassId) (h : Nat) (a1 : Nat) (a2 : Nat) (a3 : Nat) (a4 : Nat) (zs : Nat → Int32) (zb : Nat → Int32) (za : Nat → Int32) (zt : Nat → Int32) (zl : Int32) (zu : Int32) (zp : Int32) (zw : Int32) (zf : Int32) (zg : Int32) (zc : Int32) (x1 : Int32) (K : Nat) (R : Int32 × (Nat → Int32) × (Nat → Int32) × Int32 × Int32 × Int32 × Int32 × Int32) (hf : f_X5_fault K zs za zt zl zp zw zf zg zc x1 = some R) : KI l D (TY cI cC cK cO) E0 yX5_fault wsX5_fault 8 [.ref h, .int x1] (wM cI h a1 a2 a3 a4 zs zb za zt zl zu zp zw zf zg zc) (fun (r : Int32) (u : (Nat → Int32) × (Nat → Int32) × Int32 × Int32 × Int32 × Int32 × Int32) => (r, u) = R) (fun u => (wM cI h a1 a2 a3 a4 (u.1) zb (u.2.1) zt zl zu (u.2.2.1) (u.2.2.2.1) (u.2.2.2.2.1) (u.2.2.2.2.2.1) (u.2.2.2.2.2.2))) := by
  refine KI.ofI (cc := cX5_fault) (maxL := 3) (C := RX5) (by decide) rfl rfl (Nat.le_of_ble_eq_true rfl) ?_
  intro p e s m args below meth c A Q hx hb hml hts hown hP hK hD hA hE hS hret ls hl
  replace hl : lv_has ls 3 [(0, .ref h), (1, .int x1)] := hl
  rw [f_X5_fault] at hf
  refine lv_iload_n hx hb dX5_fault_0 rfl (lv_at hl 1 rfl) ?_
  refine lv_iconst (v := 0) hx hb dX5_fault_1 (by decide) ?_
  refine lv_iconst (v := 1) hx hb dX5_fault_2 (by decide) ?_
  refine ck_SI (st := [.int 1, .int 0, .int x1]) (rest := []) (As := [.int x1, .int 0, .int 1]) ⟨hx, hb, hml, hown, hts⟩ E0_ok (c_X5_in l D cI cC cK cO  x1 0 1 _ rfl) (va_cwS 3 hts gX5_fault_X5_in rfl rfl rfl hs_X5_in ⟨Nat.le_of_ble_eq_true rfl, Nat.le_of_ble_eq_true rfl⟩) hK hP hD hS hA hE rfl hl.1 rfl (Nat.le_of_ble_eq_true rfl) dX5_fault_3 ⟨Nat.zero_le _, Nat.zero_le _⟩ (fun r H locs hw hP hS => ?_)
  obtain ⟨hw, z2⟩ := hw
  cases hw
  refine lv_if_ne (tgt := 11) hx hb dX5_fault_6 (by decide) (fun c3 => ?_) (fun c3 => ?_)
  · replace hf := op_f c3 hf
    refine lv_aload_n hx hb dX5_fault_11 rfl (lv_at hl 0 rfl) ?_
    obtain ⟨y5, h6, hf⟩ := op_b hf
    refine ck_VV (st := [.ref h]) (rest := []) (As := []) (C := RX5) (ci := 5) ⟨hx, hb, hml, hown, hts⟩ E0_ok (c_X5_layAside l D cI cC cK cO h a1 a2 a3 a4 zs zb za zt zl zu zp zw zf zg zc  K _ h6) (cwV 0 hts gX5_fault_X5_layAside rfl rfl rfl hv_X5_layAside ⟨Nat.le_of_ble_eq_true rfl, Nat.le_of_ble_eq_true rfl⟩) hK hP hD hS hA hE [0, 1, 2, 3, 4] rfl rfl rfl rfl rfl (fun _ => rfl) rfl hl.1 rfl (Nat.le_of_ble_eq_true rfl) dX5_fault_12 ⟨Nat.zero_le _, Nat.zero_le _⟩ (fun u H locs hw hP hD hS => ?_)
    cases hw
    replace hP : va_P D vwCl (wM cI h a1 a2 a3 a4 zs zb y5 zt zl zu zp zw zf zg zc) H := hP
    replace hD : va_D A (wM cI h a1 a2 a3 a4 zs zb y5 zt zl zu zp zw zf zg zc) := hD
    refine lv_aload_n hx hb dX5_fault_15 rfl (lv_at hl 0 rfl) ?_
    obtain ⟨⟨r8, y9, y10, y11, y12, y13, y14⟩, h15, hf⟩ := op_b hf
    refine ck_VI (st := [.ref h]) (rest := []) (As := []) (C := RX5) (ci := 5) ⟨hx, hb, hml, hown, hts⟩ E0_ok (c_X5_run l D cI cC cK cO h a1 a2 a3 a4 zs zb y5 zt zl zu zp zw zf zg zc  K _ h15) (cwV 0 hts gX5_fault_X5_run rfl rfl rfl hv_X5_run ⟨Nat.le_of_ble_eq_true rfl, Nat.le_of_ble_eq_true rfl⟩) hK hP hD hS hA hE [0, 1, 2, 3, 4] rfl rfl rfl rfl rfl (fun _ => rfl) rfl hl.1 rfl (Nat.le_of_ble_eq_true rfl) dX5_fault_16 ⟨Nat.zero_le _, Nat.zero_le _⟩ (fun r u H locs hw hP hD hS => ?_)
    cases hw
    replace hP : va_P D vwCl (wM cI h a1 a2 a3 a4 y9 zb y5 zt zl zu y10 y11 y12 y13 y14) H := hP
    replace hD : va_D A (wM cI h a1 a2 a3 a4 y9 zb y5 zt zl zu y10 y11 y12 y13 y14) := hD
    refine lv_istore_n (lv' := [(2, .int r8), (0, .ref h), (1, .int x1)]) hx hb dX5_fault_19 rfl hl (by decide) rfl (fun ls hl => ?_)
    refine lv_aload_n hx hb dX5_fault_20 rfl (lv_at hl 1 rfl) ?_
    obtain ⟨y18, h19, hf⟩ := op_b hf
    refine ck_VV (st := [.ref h]) (rest := []) (As := []) (C := RX5) (ci := 5) ⟨hx, hb, hml, hown, hts⟩ E0_ok (c_X5_layBack l D cI cC cK cO h a1 a2 a3 a4 y9 zb y5 zt zl zu y10 y11 y12 y13 y14  K _ h19) (cwV 0 hts gX5_fault_X5_layBack rfl rfl rfl hv_X5_layBack ⟨Nat.le_of_ble_eq_true rfl, Nat.le_of_ble_eq_true rfl⟩) hK hP hD hS hA hE [0, 1, 2, 3, 4] rfl rfl rfl rfl rfl (fun _ => rfl) rfl hl.1 rfl (Nat.le_of_ble_eq_true rfl) dX5_fault_21 ⟨Nat.zero_le _, Nat.zero_le _⟩ (fun u H locs hw hP hD hS => ?_)
    cases hw
    replace hP : va_P D vwCl (wM cI h a1 a2 a3 a4 y18 zb y5 zt zl zu y10 y11 y12 y13 y14) H := hP
    replace hD : va_D A (wM cI h a1 a2 a3 a4 y18 zb y5 zt zl zu y10 y11 y12 y13 y14) := hD
    refine lv_iload_n hx hb dX5_fault_24 rfl (lv_at hl 0 rfl) ?_
    refine lv_if_ge (tgt := 33) hx hb dX5_fault_25 (by decide) (fun c21 => ?_) (fun c21 => ?_)
    · replace hf := op_t c21 hf
      refine lv_iload_n hx hb dX5_fault_33 rfl (lv_at hl 2 rfl) ?_
      refine lv_if_ne (tgt := 43) hx hb dX5_fault_34 (by decide) (fun c22 => ?_) (fun c22 => ?_)
      · replace hf := op_f c22 hf
        refine lv_iload_n hx hb dX5_fault_43 rfl (lv_at hl 0 rfl) ?_
        refine lv_iconst (v := 4) hx hb dX5_fault_44 (by decide) ?_
        refine lv_irem hx hb dX5_fault_45 (by decide) ?_
        exact hret _ _ _ _ _ (y18, y5, y10, y11, y12, y13, y14) dX5_fault_46 (op_k hf) hP hS
      · replace hf := op_t c22 hf
        refine lv_iload_n hx hb dX5_fault_37 rfl (lv_at hl 0 rfl) ?_
        refine lv_iconst (v := 4) hx hb dX5_fault_38 (by decide) ?_
        refine lv_idiv hx hb dX5_fault_39 (by decide) ?_
        refine lv_goto (tgt := 46) hx hb dX5_fault_40 (by decide) ?_
        exact hret _ _ _ _ _ (y18, y5, y10, y11, y12, y13, y14) dX5_fault_46 (op_k hf) hP hS
    · replace hf := op_f c21 hf
      refine lv_bipush (v := (-4)) hx hb dX5_fault_28 (by decide) ?_
      refine lv_goto (tgt := 46) hx hb dX5_fault_30 (by decide) ?_
      exact hret _ _ _ _ _ (y18, y5, y10, y11, y12, y13, y14) dX5_fault_46 (op_k hf) hP hS
  · replace hf := op_t c3 hf
    refine lv_iconst (v := (-1)) hx hb dX5_fault_9 (by decide) ?_
    exact hret _ _ _ _ _ (zs, za, zp, zw, zf, zg, zc) dX5_fault_10 (op_k hf) hP hS
set_option maxHeartbeats 4000000 in
set_option maxRecDepth 100000 in
theorem c_X5_play (l : Launch) (D : va_G) (cI cC cK cO : ClassId) (h : Nat) (a1 : Nat) (a2 : Nat) (a3 : Nat) (a4 : Nat) (zs : Nat → Int32) (zb : Nat → Int32) (za : Nat → Int32) (zt : Nat → Int32) (zl : Int32) (zu : Int32) (zp : Int32) (zw : Int32) (zf : Int32) (zg : Int32) (zc : Int32) (K : Nat) (R : Int32 × (Nat → Int32) × (Nat → Int32) × (Nat → Int32) × Int32 × Int32 × Int32 × Int32 × Int32 × Int32) (hf : f_X5_play K zs zb za zt zl zu zw zf zg = some R) : KI l D (TY cI cC cK cO) E0 yX5_play wsX5_play 8 [.ref h] (wM cI h a1 a2 a3 a4 zs zb za zt zl zu zp zw zf zg zc) (fun (r : Int32) (u : (Nat → Int32) × (Nat → Int32) × (Nat → Int32) × Int32 × Int32 × Int32 × Int32 × Int32 × Int32) => (r, u) = R) (fun u => (wM cI h a1 a2 a3 a4 (u.1) (u.2.1) (u.2.2.1) zt zl (u.2.2.2.1) (u.2.2.2.2.1) (u.2.2.2.2.2.1) (u.2.2.2.2.2.2.1) (u.2.2.2.2.2.2.2.1) (u.2.2.2.2.2.2.2.2))) := by
  refine KI.ofI (cc := cX5_play) (maxL := 2) (C := RX5) (by decide) rfl rfl (Nat.le_of_ble_eq_true rfl) ?_
  intro p e s m args below meth c A Q hx hb hml hts hown hP hK hD hA hE hS hret ls hl
  replace hl : lv_has ls 2 [(0, .ref h)] := hl
  have w158 := hts (.fieldLink RX5 158 "BlockClerksModel" "commands" "I") (by decide +kernel)
  have iX5 : ∀ w ∈ wsX50, w ∈ wsX5_play := by decide +kernel
  rw [f_X5_play] at hf
  refine lv_aload_n hx hb dX5_play_0 rfl (lv_at hl 0 rfl) ?_
  obtain ⟨y2, h3, hf⟩ := op_b hf
  refine ck_VV (st := [.ref h]) (rest := []) (As := []) (C := RX5) (ci := 5) ⟨hx, hb, hml, hown, hts⟩ E0_ok (c_X5_layAside l D cI cC cK cO h a1 a2 a3 a4 zs zb za zt zl zu zp zw zf zg zc  K _ h3) (cwV 0 hts gX5_play_X5_layAside rfl rfl rfl hv_X5_layAside ⟨Nat.le_of_ble_eq_true rfl, Nat.le_of_ble_eq_true rfl⟩) hK hP hD hS hA hE [0, 1, 2, 3, 4] rfl rfl rfl rfl rfl (fun _ => rfl) rfl hl.1 rfl (Nat.le_of_ble_eq_true rfl) dX5_play_1 ⟨Nat.zero_le _, Nat.zero_le _⟩ (fun u H locs hw hP hD hS => ?_)
  cases hw
  replace hP : va_P D vwCl (wM cI h a1 a2 a3 a4 zs zb y2 zt zl zu zp zw zf zg zc) H := hP
  replace hD : va_D A (wM cI h a1 a2 a3 a4 zs zb y2 zt zl zu zp zw zf zg zc) := hD
  refine lv_aload_n hx hb dX5_play_4 rfl (lv_at hl 0 rfl) ?_
  obtain ⟨⟨r5, y6, y7, y8, y9, y10, y11⟩, h12, hf⟩ := op_b hf
  refine ck_VI (st := [.ref h]) (rest := []) (As := []) (C := RX5) (ci := 5) ⟨hx, hb, hml, hown, hts⟩ E0_ok (c_X5_run l D cI cC cK cO h a1 a2 a3 a4 zs zb y2 zt zl zu zp zw zf zg zc  K _ h12) (cwV 0 hts gX5_play_X5_run rfl rfl rfl hv_X5_run ⟨Nat.le_of_ble_eq_true rfl, Nat.le_of_ble_eq_true rfl⟩) hK hP hD hS hA hE [0, 1, 2, 3, 4] rfl rfl rfl rfl rfl (fun _ => rfl) rfl hl.1 rfl (Nat.le_of_ble_eq_true rfl) dX5_play_5 ⟨Nat.zero_le _, Nat.zero_le _⟩ (fun r u H locs hw hP hD hS => ?_)
  cases hw
  replace hP : va_P D vwCl (wM cI h a1 a2 a3 a4 y6 zb y2 zt zl zu y7 y8 y9 y10 y11) H := hP
  replace hD : va_D A (wM cI h a1 a2 a3 a4 y6 zb y2 zt zl zu y7 y8 y9 y10 y11) := hD
  refine lv_istore_n (lv' := [(1, .int r5), (0, .ref h)]) hx hb dX5_play_8 rfl hl (by decide) rfl (fun ls hl => ?_)
  refine lv_aload_n hx hb dX5_play_9 rfl (lv_at hl 1 rfl) ?_
  obtain ⟨y15, h16, hf⟩ := op_b hf
  refine ck_VV (st := [.ref h]) (rest := []) (As := []) (C := RX5) (ci := 5) ⟨hx, hb, hml, hown, hts⟩ E0_ok (c_X5_layBack l D cI cC cK cO h a1 a2 a3 a4 y6 zb y2 zt zl zu y7 y8 y9 y10 y11  K _ h16) (cwV 0 hts gX5_play_X5_layBack rfl rfl rfl hv_X5_layBack ⟨Nat.le_of_ble_eq_true rfl, Nat.le_of_ble_eq_true rfl⟩) hK hP hD hS hA hE [0, 1, 2, 3, 4] rfl rfl rfl rfl rfl (fun _ => rfl) rfl hl.1 rfl (Nat.le_of_ble_eq_true rfl) dX5_play_10 ⟨Nat.zero_le _, Nat.zero_le _⟩ (fun u H locs hw hP hD hS => ?_)
  cases hw
  replace hP : va_P D vwCl (wM cI h a1 a2 a3 a4 y15 zb y2 zt zl zu y7 y8 y9 y10 y11) H := hP
  replace hD : va_D A (wM cI h a1 a2 a3 a4 y15 zb y2 zt zl zu y7 y8 y9 y10 y11) := hD
  refine lv_iload_n hx hb dX5_play_13 rfl (lv_at hl 0 rfl) ?_
  refine lv_if_lt (tgt := 20) hx hb dX5_play_14 (by decide) (fun c18 => ?_) (fun c18 => ?_)
  · replace hf := op_t c18 hf
    refine lv_aload_n hx hb dX5_play_20 rfl (lv_at hl 1 rfl) ?_
    obtain ⟨⟨y20, y21⟩, h22, hf⟩ := op_b hf
    refine ck_VV (st := [.ref h]) (rest := []) (As := []) (C := RX5) (ci := 5) ⟨hx, hb, hml, hown, hts⟩ E0_ok (c_X5_record l D cI cC cK cO h a1 a2 a3 a4 y15 zb y2 zt zl zu y7 y8 y9 y10 y11  K _ h22) (cwV 0 hts gX5_play_X5_record rfl rfl rfl hv_X5_record ⟨Nat.le_of_ble_eq_true rfl, Nat.le_of_ble_eq_true rfl⟩) hK hP hD hS hA hE [0, 1, 2, 3, 4] rfl rfl rfl rfl rfl (fun _ => rfl) rfl hl.1 rfl (Nat.le_of_ble_eq_true rfl) dX5_play_21 ⟨Nat.zero_le _, Nat.zero_le _⟩ (fun u H locs hw hP hD hS => ?_)
    cases hw
    replace hP : va_P D vwCl (wM cI h a1 a2 a3 a4 y15 y20 y2 zt zl y21 y7 y8 y9 y10 y11) H := hP
    replace hD : va_D A (wM cI h a1 a2 a3 a4 y15 y20 y2 zt zl y21 y7 y8 y9 y10 y11) := hD
    refine lv_aload_n hx hb dX5_play_24 rfl (lv_at hl 1 rfl) ?_
    obtain ⟨⟨r24, y25, y26, y27, y28, y29, y30⟩, h31, hf⟩ := op_b hf
    refine ck_VI (st := [.ref h]) (rest := []) (As := []) (C := RX5) (ci := 5) ⟨hx, hb, hml, hown, hts⟩ E0_ok (c_X5_run l D cI cC cK cO h a1 a2 a3 a4 y15 y20 y2 zt zl y21 y7 y8 y9 y10 y11  K _ h31) (cwV 0 hts gX5_play_X5_run rfl rfl rfl hv_X5_run ⟨Nat.le_of_ble_eq_true rfl, Nat.le_of_ble_eq_true rfl⟩) hK hP hD hS hA hE [0, 1, 2, 3, 4] rfl rfl rfl rfl rfl (fun _ => rfl) rfl hl.1 rfl (Nat.le_of_ble_eq_true rfl) dX5_play_25 ⟨Nat.zero_le _, Nat.zero_le _⟩ (fun r u H locs hw hP hD hS => ?_)
    cases hw
    replace hP : va_P D vwCl (wM cI h a1 a2 a3 a4 y25 y20 y2 zt zl y21 y26 y27 y28 y29 y30) H := hP
    replace hD : va_D A (wM cI h a1 a2 a3 a4 y25 y20 y2 zt zl y21 y26 y27 y28 y29 y30) := hD
    refine lv_pop hx hb dX5_play_28 rfl ?_
    refine lv_aload_n hx hb dX5_play_29 rfl (lv_at hl 1 rfl) ?_
    refine va_get (D := D) (ci := 5) (v := .int y30) (C := RX5) (T := TX5) (N := 11) hx hb hts iX5 hown hK hP 0 rfl rfl 10 (by decide) w158 (fun _ h9 => h9) rfl dX5_play_30 ?_
    exact hret _ _ _ _ _ (y25, y20, y2, y21, y26, y27, y28, y29, y30) dX5_play_33 (op_k hf) hP hS
  · replace hf := op_f c18 hf
    refine lv_bipush (v := (-2)) hx hb dX5_play_17 (by decide) ?_
    exact hret _ _ _ _ _ (y15, zb, y2, zu, y7, y8, y9, y10, y11) dX5_play_19 (op_k hf) hP hS
