/-! laid by wip/whole/gen.py: walks of the reference's methods -/
set_option maxHeartbeats 4000000 in
set_option maxRecDepth 100000 in
theorem c_X5_kindAt (l : Launch) (D : va_G) (cI cC cK cO : ClassId) (h : Nat) (a1 : Nat) (a2 : Nat) (a3 : Nat) (a4 : Nat) (zs : Nat → Int32) (zb : Nat → Int32) (za : Nat → Int32) (zt : Nat → Int32) (zl : Int32) (zu : Int32) (zp : Int32) (zw : Int32) (zf : Int32) (zg : Int32) (zc : Int32) (R : Int32 × Int32) (hf : f_X5_kindAt zt zl zp = some R) : KI l D (TY cI cC cK cO) E0 yX5_kindAt wsX5_kindAt 2 [.ref h] (wM cI h a1 a2 a3 a4 zs zb za zt zl zu zp zw zf zg zc) (fun (r : Int32) (u : Int32) => (r, u) = R) (fun u => (wM cI h a1 a2 a3 a4 zs zb za zt zl zu u zw zf zg zc)) := by
  refine KI.ofI (cc := cX5_kindAt) (maxL := 1) (C := RX5) (by decide) rfl rfl (Nat.le_of_ble_eq_true rfl) ?_
  intro p e s m args below meth c A Q hx hb hml hts hown hP hK hD hA hE hS hret ls hl
  replace hl : lv_has ls 1 [(0, .ref h)] := hl
  rw [f_X5_kindAt] at hf
  refine lv_aload_n hx hb dX5_kindAt_0 rfl (lv_at hl 0 rfl) ?_
  refine lv_bipush (v := 99) hx hb dX5_kindAt_1 (by decide) ?_
  refine lv_bipush (v := 97) hx hb dX5_kindAt_3 (by decide) ?_
  refine lv_bipush (v := 114) hx hb dX5_kindAt_5 (by decide) ?_
  refine lv_bipush (v := 101) hx hb dX5_kindAt_7 (by decide) ?_
  refine lv_bipush (v := 102) hx hb dX5_kindAt_9 (by decide) ?_
  refine lv_bipush (v := 117) hx hb dX5_kindAt_11 (by decide) ?_
  refine lv_bipush (v := 108) hx hb dX5_kindAt_13 (by decide) ?_
  obtain ⟨⟨r1, y2⟩, h3, hf⟩ := op_b hf
  refine ck_VI (st := [.int 108, .int 117, .int 102, .int 101, .int 114, .int 97, .int 99, .ref h]) (rest := []) (As := [.int 99, .int 97, .int 114, .int 101, .int 102, .int 117, .int 108]) (C := RX5) (ci := 5) ⟨hx, hb, hml, hown, hts⟩ E0_ok (c_X5_sees l D cI cC cK cO h a1 a2 a3 a4 zs zb za zt zl zu zp zw zf zg zc 99 97 114 101 102 117 108 _ h3) (cwV 7 hts gX5_kindAt_X5_sees rfl rfl rfl hv_X5_sees ⟨Nat.le_of_ble_eq_true rfl, Nat.le_of_ble_eq_true rfl⟩) hK hP hD hS hA hE [0, 1, 2, 3, 4] rfl rfl rfl rfl rfl (fun _ => rfl) rfl hl.1 rfl (Nat.le_of_ble_eq_true rfl) dX5_kindAt_15 ⟨Nat.zero_le _, Nat.zero_le _⟩ (fun r u H locs hw hP hD hS => ?_)
  obtain ⟨hw, z4⟩ := hw
  cases hw
  replace hP : va_P D vwCl (wM cI h a1 a2 a3 a4 zs zb za zt zl zu y2 zw zf zg zc) H := hP
  replace hD : va_D A (wM cI h a1 a2 a3 a4 zs zb za zt zl zu y2 zw zf zg zc) := hD
  refine lv_if_eq (tgt := 23) hx hb dX5_kindAt_18 (by decide) (fun c5 => ?_) (fun c5 => ?_)
  · replace hf := op_t c5 hf
    refine lv_aload_n hx hb dX5_kindAt_23 rfl (lv_at hl 0 rfl) ?_
    refine lv_bipush (v := 108) hx hb dX5_kindAt_24 (by decide) ?_
    refine lv_bipush (v := 97) hx hb dX5_kindAt_26 (by decide) ?_
    refine lv_bipush (v := 122) hx hb dX5_kindAt_28 (by decide) ?_
    refine lv_bipush (v := 121) hx hb dX5_kindAt_30 (by decide) ?_
    refine lv_iconst (v := 0) hx hb dX5_kindAt_32 (by decide) ?_
    refine lv_iconst (v := 0) hx hb dX5_kindAt_33 (by decide) ?_
    refine lv_iconst (v := 0) hx hb dX5_kindAt_34 (by decide) ?_
    obtain ⟨⟨r6, y7⟩, h8, hf⟩ := op_b hf
    refine ck_VI (st := [.int 0, .int 0, .int 0, .int 121, .int 122, .int 97, .int 108, .ref h]) (rest := []) (As := [.int 108, .int 97, .int 122, .int 121, .int 0, .int 0, .int 0]) (C := RX5) (ci := 5) ⟨hx, hb, hml, hown, hts⟩ E0_ok (c_X5_sees l D cI cC cK cO h a1 a2 a3 a4 zs zb za zt zl zu y2 zw zf zg zc 108 97 122 121 0 0 0 _ h8) (cwV 7 hts gX5_kindAt_X5_sees rfl rfl rfl hv_X5_sees ⟨Nat.le_of_ble_eq_true rfl, Nat.le_of_ble_eq_true rfl⟩) hK hP hD hS hA hE [0, 1, 2, 3, 4] rfl rfl rfl rfl rfl (fun _ => rfl) rfl hl.1 rfl (Nat.le_of_ble_eq_true rfl) dX5_kindAt_35 ⟨Nat.zero_le _, Nat.zero_le _⟩ (fun r u H locs hw hP hD hS => ?_)
    obtain ⟨hw, z9⟩ := hw
    cases hw
    replace hP : va_P D vwCl (wM cI h a1 a2 a3 a4 zs zb za zt zl zu y7 zw zf zg zc) H := hP
    replace hD : va_D A (wM cI h a1 a2 a3 a4 zs zb za zt zl zu y7 zw zf zg zc) := hD
    refine lv_if_eq (tgt := 43) hx hb dX5_kindAt_38 (by decide) (fun c10 => ?_) (fun c10 => ?_)
    · replace hf := op_t c10 hf
      refine lv_aload_n hx hb dX5_kindAt_43 rfl (lv_at hl 0 rfl) ?_
      refine lv_bipush (v := 100) hx hb dX5_kindAt_44 (by decide) ?_
      refine lv_bipush (v := 114) hx hb dX5_kindAt_46 (by decide) ?_
      refine lv_bipush (v := 101) hx hb dX5_kindAt_48 (by decide) ?_
      refine lv_bipush (v := 97) hx hb dX5_kindAt_50 (by decide) ?_
      refine lv_bipush (v := 109) hx hb dX5_kindAt_52 (by decide) ?_
      refine lv_bipush (v := 121) hx hb dX5_kindAt_54 (by decide) ?_
      refine lv_iconst (v := 0) hx hb dX5_kindAt_56 (by decide) ?_
      obtain ⟨⟨r11, y12⟩, h13, hf⟩ := op_b hf
      refine ck_VI (st := [.int 0, .int 121, .int 109, .int 97, .int 101, .int 114, .int 100, .ref h]) (rest := []) (As := [.int 100, .int 114, .int 101, .int 97, .int 109, .int 121, .int 0]) (C := RX5) (ci := 5) ⟨hx, hb, hml, hown, hts⟩ E0_ok (c_X5_sees l D cI cC cK cO h a1 a2 a3 a4 zs zb za zt zl zu y7 zw zf zg zc 100 114 101 97 109 121 0 _ h13) (cwV 7 hts gX5_kindAt_X5_sees rfl rfl rfl hv_X5_sees ⟨Nat.le_of_ble_eq_true rfl, Nat.le_of_ble_eq_true rfl⟩) hK hP hD hS hA hE [0, 1, 2, 3, 4] rfl rfl rfl rfl rfl (fun _ => rfl) rfl hl.1 rfl (Nat.le_of_ble_eq_true rfl) dX5_kindAt_57 ⟨Nat.zero_le _, Nat.zero_le _⟩ (fun r u H locs hw hP hD hS => ?_)
      obtain ⟨hw, z14⟩ := hw
      cases hw
      replace hP : va_P D vwCl (wM cI h a1 a2 a3 a4 zs zb za zt zl zu y12 zw zf zg zc) H := hP
      replace hD : va_D A (wM cI h a1 a2 a3 a4 zs zb za zt zl zu y12 zw zf zg zc) := hD
      refine lv_if_eq (tgt := 67) hx hb dX5_kindAt_60 (by decide) (fun c15 => ?_) (fun c15 => ?_)
      · replace hf := op_t c15 hf
        refine lv_iconst (v := (-1)) hx hb dX5_kindAt_67 (by decide) ?_
        exact hret _ _ _ _ _ (y12) dX5_kindAt_68 (op_k hf) hP hS
      · replace hf := op_f c15 hf
        refine lv_iconst (v := 2) hx hb dX5_kindAt_63 (by decide) ?_
        refine lv_goto (tgt := 68) hx hb dX5_kindAt_64 (by decide) ?_
        exact hret _ _ _ _ _ (y12) dX5_kindAt_68 (op_k hf) hP hS
    · replace hf := op_f c10 hf
      refine lv_iconst (v := 1) hx hb dX5_kindAt_41 (by decide) ?_
      exact hret _ _ _ _ _ (y7) dX5_kindAt_42 (op_k hf) hP hS
  · replace hf := op_f c5 hf
    refine lv_iconst (v := 0) hx hb dX5_kindAt_21 (by decide) ?_
    exact hret _ _ _ _ _ (y2) dX5_kindAt_22 (op_k hf) hP hS
set_option maxHeartbeats 4000000 in
set_option maxRecDepth 100000 in
theorem c_X5_isForm (l : Launch) (D : va_G) (cI cC cK cO : ClassId) (h : Nat) (a1 : Nat) (a2 : Nat) (a3 : Nat) (a4 : Nat) (zs : Nat → Int32) (zb : Nat → Int32) (za : Nat → Int32) (zt : Nat → Int32) (zl : Int32) (zu : Int32) (zp : Int32) (zw : Int32) (zf : Int32) (zg : Int32) (zc : Int32) (K : Nat) (R : Int32 × Int32 × Int32 × Int32 × Int32) (hf : f_X5_isForm K zt zl zp = some R) : KI l D (TY cI cC cK cO) E0 yX5_isForm wsX5_isForm 3 [.ref h] (wM cI h a1 a2 a3 a4 zs zb za zt zl zu zp zw zf zg zc) (fun (r : Int32) (u : Int32 × Int32 × Int32 × Int32) => (r, u) = R ∧ (r = 0 ∨ r = 1)) (fun u => (wM cI h a1 a2 a3 a4 zs zb za zt zl zu (u.1) (u.2.1) (u.2.2.1) (u.2.2.2) zc)) := by
  refine KI.ofZ (cc := cX5_isForm) (maxL := 1) (C := RX5) (by decide) rfl rfl (Nat.le_of_ble_eq_true rfl) (fun _ _ h => h.2) ?_
  intro p e s m args below meth c A Q hx hb hml hts hown hP hK hD hA hE hS hret ls hl
  replace hl : lv_has ls 1 [(0, .ref h)] := hl
  have w143 := hts (.fieldLink RX5 143 "BlockClerksModel" "word" "I") (by decide +kernel)
  have w146 := hts (.fieldLink RX5 146 "BlockClerksModel" "first" "I") (by decide +kernel)
  have w149 := hts (.fieldLink RX5 149 "BlockClerksModel" "second" "I") (by decide +kernel)
  have iX5 : ∀ w ∈ wsX50, w ∈ wsX5_isForm := by decide +kernel
  rw [f_X5_isForm] at hf
  refine lv_aload_n hx hb dX5_isForm_0 rfl (lv_at hl 0 rfl) ?_
  refine lv_aload_n hx hb dX5_isForm_1 rfl (lv_at hl 0 rfl) ?_
  obtain ⟨⟨r1, y2⟩, h3, hf⟩ := op_b hf
  refine ck_VI (st := [.ref h, .ref h]) (rest := [.ref h]) (As := []) (C := RX5) (ci := 5) ⟨hx, hb, hml, hown, hts⟩ E0_ok (c_X5_wordAt l D cI cC cK cO h a1 a2 a3 a4 zs zb za zt zl zu zp zw zf zg zc  _ h3) (cwV 0 hts gX5_isForm_X5_wordAt rfl rfl rfl hv_X5_wordAt ⟨Nat.le_of_ble_eq_true rfl, Nat.le_of_ble_eq_true rfl⟩) hK hP hD hS hA hE [0, 1, 2, 3, 4] rfl rfl rfl rfl rfl (fun _ => rfl) rfl hl.1 rfl (Nat.le_of_ble_eq_true rfl) dX5_isForm_2 ⟨Nat.zero_le _, Nat.zero_le _⟩ (fun r u H locs hw hP hD hS => ?_)
  cases hw
  replace hP : va_P D vwCl (wM cI h a1 a2 a3 a4 zs zb za zt zl zu y2 zw zf zg zc) H := hP
  replace hD : va_D A (wM cI h a1 a2 a3 a4 zs zb za zt zl zu y2 zw zf zg zc) := hD
  refine va_put (D := D) (ci := 5) (v := .int r1) (ty := .int) (C := RX5) (T := TX5) (N := 11) hx hb hts iX5 tyX5 tyX5_ok nmX5 hown hK hP hD hS 0 rfl rfl 7 (by decide) w143 (fun _ h9 => h9) rfl (by decide +kernel) rfl rfl (Nat.le_of_ble_eq_true rfl) dX5_isForm_5 (fun H locs hP hD hS => ?_)
  replace hP : va_P D vwCl (wM cI h a1 a2 a3 a4 zs zb za zt zl zu y2 r1 zf zg zc) H := hP
  replace hD : va_D A (wM cI h a1 a2 a3 a4 zs zb za zt zl zu y2 r1 zf zg zc) := hD
  refine lv_aload_n hx hb dX5_isForm_8 rfl (lv_at hl 0 rfl) ?_
  refine lv_iconst (v := 0) hx hb dX5_isForm_9 (by decide) ?_
  refine va_put (D := D) (ci := 5) (v := .int 0) (ty := .int) (C := RX5) (T := TX5) (N := 11) hx hb hts iX5 tyX5 tyX5_ok nmX5 hown hK hP hD hS 0 rfl rfl 8 (by decide) w146 (fun _ h9 => h9) rfl (by decide +kernel) rfl rfl (Nat.le_of_ble_eq_true rfl) dX5_isForm_10 (fun H locs hP hD hS => ?_)
  replace hP : va_P D vwCl (wM cI h a1 a2 a3 a4 zs zb za zt zl zu y2 r1 0 zg zc) H := hP
  replace hD : va_D A (wM cI h a1 a2 a3 a4 zs zb za zt zl zu y2 r1 0 zg zc) := hD
  refine lv_aload_n hx hb dX5_isForm_13 rfl (lv_at hl 0 rfl) ?_
  refine lv_iconst (v := 1) hx hb dX5_isForm_14 (by decide) ?_
  refine va_put (D := D) (ci := 5) (v := .int 1) (ty := .int) (C := RX5) (T := TX5) (N := 11) hx hb hts iX5 tyX5 tyX5_ok nmX5 hown hK hP hD hS 0 rfl rfl 9 (by decide) w149 (fun _ h9 => h9) rfl (by decide +kernel) rfl rfl (Nat.le_of_ble_eq_true rfl) dX5_isForm_15 (fun H locs hP hD hS => ?_)
  replace hP : va_P D vwCl (wM cI h a1 a2 a3 a4 zs zb za zt zl zu y2 r1 0 1 zc) H := hP
  replace hD : va_D A (wM cI h a1 a2 a3 a4 zs zb za zt zl zu y2 r1 0 1 zc) := hD
  refine lv_aload_n hx hb dX5_isForm_18 rfl (lv_at hl 0 rfl) ?_
  refine va_get (D := D) (ci := 5) (v := .int r1) (C := RX5) (T := TX5) (N := 11) hx hb hts iX5 hown hK hP 0 rfl rfl 7 (by decide) w143 (fun _ h9 => h9) rfl dX5_isForm_19 ?_
  refine lv_if_ge (tgt := 27) hx hb dX5_isForm_22 (by decide) (fun c5 => ?_) (fun c5 => ?_)
  · replace hf := op_t c5 hf
    refine lv_aload_n hx hb dX5_isForm_27 rfl (lv_at hl 0 rfl) ?_
    refine va_get (D := D) (ci := 5) (v := .int r1) (C := RX5) (T := TX5) (N := 11) hx hb hts iX5 hown hK hP 0 rfl rfl 7 (by decide) w143 (fun _ h9 => h9) rfl dX5_isForm_28 ?_
    refine lv_if_ne (tgt := 45) hx hb dX5_isForm_31 (by decide) (fun c6 => ?_) (fun c6 => ?_)
    · replace hf := op_f c6 hf
      refine lv_aload_n hx hb dX5_isForm_45 rfl (lv_at hl 0 rfl) ?_
      refine va_get (D := D) (ci := 5) (v := .int r1) (C := RX5) (T := TX5) (N := 11) hx hb hts iX5 hown hK hP 0 rfl rfl 7 (by decide) w143 (fun _ h9 => h9) rfl dX5_isForm_46 ?_
      refine lv_iconst (v := 5) hx hb dX5_isForm_49 (by decide) ?_
      refine lv_icmp_ge (tgt := 61) hx hb dX5_isForm_50 (by decide) (fun c7 => ?_) (fun c7 => ?_)
      · replace hf := op_t c7 hf
        refine lv_aload_n hx hb dX5_isForm_61 rfl (lv_at hl 0 rfl) ?_
        refine va_get (D := D) (ci := 5) (v := .int 0) (C := RX5) (T := TX5) (N := 11) hx hb hts iX5 hown hK hP 0 rfl rfl 8 (by decide) w146 (fun _ h9 => h9) rfl dX5_isForm_62 ?_
        refine lv_if_lt (tgt := 103) hx hb dX5_isForm_65 (by decide) (fun c9 => absurd c9 (by decide)) (fun _ => ?_)
        refine lv_aload_n hx hb dX5_isForm_68 rfl (lv_at hl 0 rfl) ?_
        refine va_get (D := D) (ci := 5) (v := .int r1) (C := RX5) (T := TX5) (N := 11) hx hb hts iX5 hown hK hP 0 rfl rfl 7 (by decide) w143 (fun _ h9 => h9) rfl dX5_isForm_69 ?_
        refine lv_iconst (v := 1) hx hb dX5_isForm_72 (by decide) ?_
        refine lv_icmp_ne (tgt := 103) hx hb dX5_isForm_73 (by decide) (fun c8 => ?_) (fun c8 => ?_)
        · replace hf := op_f c8 hf
          refine lv_aload_n hx hb dX5_isForm_103 rfl (lv_at hl 0 rfl) ?_
          refine va_get (D := D) (ci := 5) (v := .int 0) (C := RX5) (T := TX5) (N := 11) hx hb hts iX5 hown hK hP 0 rfl rfl 8 (by decide) w146 (fun _ h9 => h9) rfl dX5_isForm_104 ?_
          refine lv_if_lt (tgt := 136) hx hb dX5_isForm_107 (by decide) (fun c9 => absurd c9 (by decide)) (fun _ => ?_)
          refine lv_aload_n hx hb dX5_isForm_110 rfl (lv_at hl 0 rfl) ?_
          refine va_get (D := D) (ci := 5) (v := .int 1) (C := RX5) (T := TX5) (N := 11) hx hb hts iX5 hown hK hP 0 rfl rfl 9 (by decide) w149 (fun _ h9 => h9) rfl dX5_isForm_111 ?_
          refine lv_if_lt (tgt := 136) hx hb dX5_isForm_114 (by decide) (fun c9 => absurd c9 (by decide)) (fun _ => ?_)
          refine lv_aload_n hx hb dX5_isForm_117 rfl (lv_at hl 0 rfl) ?_
          refine lv_bipush (v := 59) hx hb dX5_isForm_118 (by decide) ?_
          refine lv_iconst (v := 0) hx hb dX5_isForm_120 (by decide) ?_
          refine lv_iconst (v := 0) hx hb dX5_isForm_121 (by decide) ?_
          refine lv_iconst (v := 0) hx hb dX5_isForm_122 (by decide) ?_
          refine lv_iconst (v := 0) hx hb dX5_isForm_123 (by decide) ?_
          refine lv_iconst (v := 0) hx hb dX5_isForm_124 (by decide) ?_
          refine lv_iconst (v := 0) hx hb dX5_isForm_125 (by decide) ?_
          obtain ⟨⟨r9, y10⟩, h11, hf⟩ := op_b hf
          refine ck_VI (st := [.int 0, .int 0, .int 0, .int 0, .int 0, .int 0, .int 59, .ref h]) (rest := []) (As := [.int 59, .int 0, .int 0, .int 0, .int 0, .int 0, .int 0]) (C := RX5) (ci := 5) ⟨hx, hb, hml, hown, hts⟩ E0_ok (c_X5_sees l D cI cC cK cO h a1 a2 a3 a4 zs zb za zt zl zu y2 r1 0 1 zc 59 0 0 0 0 0 0 _ h11) (cwV 7 hts gX5_isForm_X5_sees rfl rfl rfl hv_X5_sees ⟨Nat.le_of_ble_eq_true rfl, Nat.le_of_ble_eq_true rfl⟩) hK hP hD hS hA hE [0, 1, 2, 3, 4] rfl rfl rfl rfl rfl (fun _ => rfl) rfl hl.1 rfl (Nat.le_of_ble_eq_true rfl) dX5_isForm_126 ⟨Nat.zero_le _, Nat.zero_le _⟩ (fun r u H locs hw hP hD hS => ?_)
          obtain ⟨hw, z12⟩ := hw
          cases hw
          replace hP : va_P D vwCl (wM cI h a1 a2 a3 a4 zs zb za zt zl zu y10 r1 0 1 zc) H := hP
          replace hD : va_D A (wM cI h a1 a2 a3 a4 zs zb za zt zl zu y10 r1 0 1 zc) := hD
          refine lv_if_eq (tgt := 136) hx hb dX5_isForm_129 (by decide) (fun c13 => ?_) (fun c13 => ?_)
          · replace hf := op_t c13 hf
            refine lv_iconst (v := 0) hx hb dX5_isForm_136 (by decide) ?_
            exact hret _ _ _ _ _ (y10, r1, 0, 1) dX5_isForm_137 ⟨(op_k hf), (Or.inl rfl)⟩ hP hS
          · replace hf := op_f c13 hf
            refine lv_iconst (v := 1) hx hb dX5_isForm_132 (by decide) ?_
            refine lv_goto (tgt := 137) hx hb dX5_isForm_133 (by decide) ?_
            exact hret _ _ _ _ _ (y10, r1, 0, 1) dX5_isForm_137 ⟨(op_k hf), (Or.inr rfl)⟩ hP hS
        · replace hf := op_t c8 hf
          refine lv_aload_n hx hb dX5_isForm_76 rfl (lv_at hl 0 rfl) ?_
          refine lv_aload_n hx hb dX5_isForm_77 rfl (lv_at hl 0 rfl) ?_
          refine lv_bipush (v := 32) hx hb dX5_isForm_78 (by decide) ?_
          refine lv_iconst (v := 0) hx hb dX5_isForm_80 (by decide) ?_
          refine lv_iconst (v := 0) hx hb dX5_isForm_81 (by decide) ?_
          refine lv_iconst (v := 0) hx hb dX5_isForm_82 (by decide) ?_
          refine lv_iconst (v := 0) hx hb dX5_isForm_83 (by decide) ?_
          refine lv_iconst (v := 0) hx hb dX5_isForm_84 (by decide) ?_
          refine lv_iconst (v := 0) hx hb dX5_isForm_85 (by decide) ?_
          obtain ⟨⟨r14, y15⟩, h16, hf⟩ := op_b hf
          refine ck_VI (st := [.int 0, .int 0, .int 0, .int 0, .int 0, .int 0, .int 32, .ref h, .ref h]) (rest := [.ref h]) (As := [.int 32, .int 0, .int 0, .int 0, .int 0, .int 0, .int 0]) (C := RX5) (ci := 5) ⟨hx, hb, hml, hown, hts⟩ E0_ok (c_X5_sees l D cI cC cK cO h a1 a2 a3 a4 zs zb za zt zl zu y2 r1 0 1 zc 32 0 0 0 0 0 0 _ h16) (cwV 7 hts gX5_isForm_X5_sees rfl rfl rfl hv_X5_sees ⟨Nat.le_of_ble_eq_true rfl, Nat.le_of_ble_eq_true rfl⟩) hK hP hD hS hA hE [0, 1, 2, 3, 4] rfl rfl rfl rfl rfl (fun _ => rfl) rfl hl.1 rfl (Nat.le_of_ble_eq_true rfl) dX5_isForm_86 ⟨Nat.zero_le _, Nat.zero_le _⟩ (fun r u H locs hw hP hD hS => ?_)
          obtain ⟨hw, z17⟩ := hw
          cases hw
          replace hP : va_P D vwCl (wM cI h a1 a2 a3 a4 zs zb za zt zl zu y15 r1 0 1 zc) H := hP
          replace hD : va_D A (wM cI h a1 a2 a3 a4 zs zb za zt zl zu y15 r1 0 1 zc) := hD
          refine lv_if_eq (tgt := 99) hx hb dX5_isForm_89 (by decide) (fun c18 => ?_) (fun c18 => ?_)
          · replace hf := op_t c18 hf
            refine lv_iconst (v := (-1)) hx hb dX5_isForm_99 (by decide) ?_
            refine va_put (D := D) (ci := 5) (v := .int (-1)) (ty := .int) (C := RX5) (T := TX5) (N := 11) hx hb hts iX5 tyX5 tyX5_ok nmX5 hown hK hP hD hS 0 rfl rfl 9 (by decide) w149 (fun _ h9 => h9) rfl (by decide +kernel) rfl rfl (Nat.le_of_ble_eq_true rfl) dX5_isForm_100 (fun H locs hP hD hS => ?_)
            replace hP : va_P D vwCl (wM cI h a1 a2 a3 a4 zs zb za zt zl zu y15 r1 0 (-1) zc) H := hP
            replace hD : va_D A (wM cI h a1 a2 a3 a4 zs zb za zt zl zu y15 r1 0 (-1) zc) := hD
            refine lv_aload_n hx hb dX5_isForm_103 rfl (lv_at hl 0 rfl) ?_
            refine va_get (D := D) (ci := 5) (v := .int 0) (C := RX5) (T := TX5) (N := 11) hx hb hts iX5 hown hK hP 0 rfl rfl 8 (by decide) w146 (fun _ h9 => h9) rfl dX5_isForm_104 ?_
            refine lv_if_lt (tgt := 136) hx hb dX5_isForm_107 (by decide) (fun c9 => absurd c9 (by decide)) (fun _ => ?_)
            refine lv_aload_n hx hb dX5_isForm_110 rfl (lv_at hl 0 rfl) ?_
            refine va_get (D := D) (ci := 5) (v := .int (-1)) (C := RX5) (T := TX5) (N := 11) hx hb hts iX5 hown hK hP 0 rfl rfl 9 (by decide) w149 (fun _ h9 => h9) rfl dX5_isForm_111 ?_
            refine lv_if_lt (tgt := 136) hx hb dX5_isForm_114 (by decide) (fun _ => ?_) (fun c9 => absurd c9 (by decide))
            refine lv_iconst (v := 0) hx hb dX5_isForm_136 (by decide) ?_
            exact hret _ _ _ _ _ (y15, r1, 0, (-1)) dX5_isForm_137 ⟨(op_k hf), (Or.inl rfl)⟩ hP hS
          · replace hf := op_f c18 hf
            refine lv_aload_n hx hb dX5_isForm_92 rfl (lv_at hl 0 rfl) ?_
            obtain ⟨⟨r19, y20⟩, h21, hf⟩ := op_b hf
            refine ck_VI (st := [.ref h, .ref h]) (rest := [.ref h]) (As := []) (C := RX5) (ci := 5) ⟨hx, hb, hml, hown, hts⟩ E0_ok (c_X5_number l D cI cC cK cO h a1 a2 a3 a4 zs zb za zt zl zu y15 r1 0 1 zc  K _ h21) (cwV 0 hts gX5_isForm_X5_number rfl rfl rfl hv_X5_number ⟨Nat.le_of_ble_eq_true rfl, Nat.le_of_ble_eq_true rfl⟩) hK hP hD hS hA hE [0, 1, 2, 3, 4] rfl rfl rfl rfl rfl (fun _ => rfl) rfl hl.1 rfl (Nat.le_of_ble_eq_true rfl) dX5_isForm_93 ⟨Nat.zero_le _, Nat.zero_le _⟩ (fun r u H locs hw hP hD hS => ?_)
            cases hw
            replace hP : va_P D vwCl (wM cI h a1 a2 a3 a4 zs zb za zt zl zu y20 r1 0 1 zc) H := hP
            replace hD : va_D A (wM cI h a1 a2 a3 a4 zs zb za zt zl zu y20 r1 0 1 zc) := hD
            refine lv_goto (tgt := 100) hx hb dX5_isForm_96 (by decide) ?_
            refine va_put (D := D) (ci := 5) (v := .int r19) (ty := .int) (C := RX5) (T := TX5) (N := 11) hx hb hts iX5 tyX5 tyX5_ok nmX5 hown hK hP hD hS 0 rfl rfl 9 (by decide) w149 (fun _ h9 => h9) rfl (by decide +kernel) rfl rfl (Nat.le_of_ble_eq_true rfl) dX5_isForm_100 (fun H locs hP hD hS => ?_)
            replace hP : va_P D vwCl (wM cI h a1 a2 a3 a4 zs zb za zt zl zu y20 r1 0 r19 zc) H := hP
            replace hD : va_D A (wM cI h a1 a2 a3 a4 zs zb za zt zl zu y20 r1 0 r19 zc) := hD
            refine lv_aload_n hx hb dX5_isForm_103 rfl (lv_at hl 0 rfl) ?_
            refine va_get (D := D) (ci := 5) (v := .int 0) (C := RX5) (T := TX5) (N := 11) hx hb hts iX5 hown hK hP 0 rfl rfl 8 (by decide) w146 (fun _ h9 => h9) rfl dX5_isForm_104 ?_
            refine lv_if_lt (tgt := 136) hx hb dX5_isForm_107 (by decide) (fun c9 => absurd c9 (by decide)) (fun _ => ?_)
            refine lv_aload_n hx hb dX5_isForm_110 rfl (lv_at hl 0 rfl) ?_
            refine va_get (D := D) (ci := 5) (v := .int r19) (C := RX5) (T := TX5) (N := 11) hx hb hts iX5 hown hK hP 0 rfl rfl 9 (by decide) w149 (fun _ h9 => h9) rfl dX5_isForm_111 ?_
            refine lv_if_lt (tgt := 136) hx hb dX5_isForm_114 (by decide) (fun c23 => ?_) (fun c23 => ?_)
            · replace hf := op_t c23 hf
              refine lv_iconst (v := 0) hx hb dX5_isForm_136 (by decide) ?_
              exact hret _ _ _ _ _ (y20, r1, 0, r19) dX5_isForm_137 ⟨(op_k hf), (Or.inl rfl)⟩ hP hS
            · replace hf := op_f c23 hf
              refine lv_aload_n hx hb dX5_isForm_117 rfl (lv_at hl 0 rfl) ?_
              refine lv_bipush (v := 59) hx hb dX5_isForm_118 (by decide) ?_
              refine lv_iconst (v := 0) hx hb dX5_isForm_120 (by decide) ?_
              refine lv_iconst (v := 0) hx hb dX5_isForm_121 (by decide) ?_
              refine lv_iconst (v := 0) hx hb dX5_isForm_122 (by decide) ?_
              refine lv_iconst (v := 0) hx hb dX5_isForm_123 (by decide) ?_
              refine lv_iconst (v := 0) hx hb dX5_isForm_124 (by decide) ?_
              refine lv_iconst (v := 0) hx hb dX5_isForm_125 (by decide) ?_
              obtain ⟨⟨r24, y25⟩, h26, hf⟩ := op_b hf
              refine ck_VI (st := [.int 0, .int 0, .int 0, .int 0, .int 0, .int 0, .int 59, .ref h]) (rest := []) (As := [.int 59, .int 0, .int 0, .int 0, .int 0, .int 0, .int 0]) (C := RX5) (ci := 5) ⟨hx, hb, hml, hown, hts⟩ E0_ok (c_X5_sees l D cI cC cK cO h a1 a2 a3 a4 zs zb za zt zl zu y20 r1 0 r19 zc 59 0 0 0 0 0 0 _ h26) (cwV 7 hts gX5_isForm_X5_sees rfl rfl rfl hv_X5_sees ⟨Nat.le_of_ble_eq_true rfl, Nat.le_of_ble_eq_true rfl⟩) hK hP hD hS hA hE [0, 1, 2, 3, 4] rfl rfl rfl rfl rfl (fun _ => rfl) rfl hl.1 rfl (Nat.le_of_ble_eq_true rfl) dX5_isForm_126 ⟨Nat.zero_le _, Nat.zero_le _⟩ (fun r u H locs hw hP hD hS => ?_)
              obtain ⟨hw, z27⟩ := hw
              cases hw
              replace hP : va_P D vwCl (wM cI h a1 a2 a3 a4 zs zb za zt zl zu y25 r1 0 r19 zc) H := hP
              replace hD : va_D A (wM cI h a1 a2 a3 a4 zs zb za zt zl zu y25 r1 0 r19 zc) := hD
              refine lv_if_eq (tgt := 136) hx hb dX5_isForm_129 (by decide) (fun c28 => ?_) (fun c28 => ?_)
              · replace hf := op_t c28 hf
                refine lv_iconst (v := 0) hx hb dX5_isForm_136 (by decide) ?_
                exact hret _ _ _ _ _ (y25, r1, 0, r19) dX5_isForm_137 ⟨(op_k hf), (Or.inl rfl)⟩ hP hS
              · replace hf := op_f c28 hf
                refine lv_iconst (v := 1) hx hb dX5_isForm_132 (by decide) ?_
                refine lv_goto (tgt := 137) hx hb dX5_isForm_133 (by decide) ?_
                exact hret _ _ _ _ _ (y25, r1, 0, r19) dX5_isForm_137 ⟨(op_k hf), (Or.inr rfl)⟩ hP hS
      · replace hf := op_f c7 hf
        refine lv_aload_n hx hb dX5_isForm_53 rfl (lv_at hl 0 rfl) ?_
        refine lv_aload_n hx hb dX5_isForm_54 rfl (lv_at hl 0 rfl) ?_
        obtain ⟨⟨r29, y30⟩, h31, hf⟩ := op_b hf
        refine ck_VI (st := [.ref h, .ref h]) (rest := [.ref h]) (As := []) (C := RX5) (ci := 5) ⟨hx, hb, hml, hown, hts⟩ E0_ok (c_X5_number l D cI cC cK cO h a1 a2 a3 a4 zs zb za zt zl zu y2 r1 0 1 zc  K _ h31) (cwV 0 hts gX5_isForm_X5_number rfl rfl rfl hv_X5_number ⟨Nat.le_of_ble_eq_true rfl, Nat.le_of_ble_eq_true rfl⟩) hK hP hD hS hA hE [0, 1, 2, 3, 4] rfl rfl rfl rfl rfl (fun _ => rfl) rfl hl.1 rfl (Nat.le_of_ble_eq_true rfl) dX5_isForm_55 ⟨Nat.zero_le _, Nat.zero_le _⟩ (fun r u H locs hw hP hD hS => ?_)
        cases hw
        replace hP : va_P D vwCl (wM cI h a1 a2 a3 a4 zs zb za zt zl zu y30 r1 0 1 zc) H := hP
        replace hD : va_D A (wM cI h a1 a2 a3 a4 zs zb za zt zl zu y30 r1 0 1 zc) := hD
        refine va_put (D := D) (ci := 5) (v := .int r29) (ty := .int) (C := RX5) (T := TX5) (N := 11) hx hb hts iX5 tyX5 tyX5_ok nmX5 hown hK hP hD hS 0 rfl rfl 8 (by decide) w146 (fun _ h9 => h9) rfl (by decide +kernel) rfl rfl (Nat.le_of_ble_eq_true rfl) dX5_isForm_58 (fun H locs hP hD hS => ?_)
        replace hP : va_P D vwCl (wM cI h a1 a2 a3 a4 zs zb za zt zl zu y30 r1 r29 1 zc) H := hP
        replace hD : va_D A (wM cI h a1 a2 a3 a4 zs zb za zt zl zu y30 r1 r29 1 zc) := hD
        refine lv_aload_n hx hb dX5_isForm_61 rfl (lv_at hl 0 rfl) ?_
        refine va_get (D := D) (ci := 5) (v := .int r29) (C := RX5) (T := TX5) (N := 11) hx hb hts iX5 hown hK hP 0 rfl rfl 8 (by decide) w146 (fun _ h9 => h9) rfl dX5_isForm_62 ?_
        refine lv_if_lt (tgt := 103) hx hb dX5_isForm_65 (by decide) (fun c33 => ?_) (fun c33 => ?_)
        · replace hf := op_t c33 hf
          refine lv_aload_n hx hb dX5_isForm_103 rfl (lv_at hl 0 rfl) ?_
          refine va_get (D := D) (ci := 5) (v := .int r29) (C := RX5) (T := TX5) (N := 11) hx hb hts iX5 hown hK hP 0 rfl rfl 8 (by decide) w146 (fun _ h9 => h9) rfl dX5_isForm_104 ?_
          refine lv_if_lt (tgt := 136) hx hb dX5_isForm_107 (by decide) (fun c34 => ?_) (fun c34 => ?_)
          · replace hf := op_t c34 hf
            refine lv_iconst (v := 0) hx hb dX5_isForm_136 (by decide) ?_
            exact hret _ _ _ _ _ (y30, r1, r29, 1) dX5_isForm_137 ⟨(op_k hf), (Or.inl rfl)⟩ hP hS
          · replace hf := op_f c34 hf
            refine lv_aload_n hx hb dX5_isForm_110 rfl (lv_at hl 0 rfl) ?_
            refine va_get (D := D) (ci := 5) (v := .int 1) (C := RX5) (T := TX5) (N := 11) hx hb hts iX5 hown hK hP 0 rfl rfl 9 (by decide) w149 (fun _ h9 => h9) rfl dX5_isForm_111 ?_
            refine lv_if_lt (tgt := 136) hx hb dX5_isForm_114 (by decide) (fun c9 => absurd c9 (by decide)) (fun _ => ?_)
            refine lv_aload_n hx hb dX5_isForm_117 rfl (lv_at hl 0 rfl) ?_
            refine lv_bipush (v := 59) hx hb dX5_isForm_118 (by decide) ?_
            refine lv_iconst (v := 0) hx hb dX5_isForm_120 (by decide) ?_
            refine lv_iconst (v := 0) hx hb dX5_isForm_121 (by decide) ?_
            refine lv_iconst (v := 0) hx hb dX5_isForm_122 (by decide) ?_
            refine lv_iconst (v := 0) hx hb dX5_isForm_123 (by decide) ?_
            refine lv_iconst (v := 0) hx hb dX5_isForm_124 (by decide) ?_
            refine lv_iconst (v := 0) hx hb dX5_isForm_125 (by decide) ?_
            obtain ⟨⟨r35, y36⟩, h37, hf⟩ := op_b hf
            refine ck_VI (st := [.int 0, .int 0, .int 0, .int 0, .int 0, .int 0, .int 59, .ref h]) (rest := []) (As := [.int 59, .int 0, .int 0, .int 0, .int 0, .int 0, .int 0]) (C := RX5) (ci := 5) ⟨hx, hb, hml, hown, hts⟩ E0_ok (c_X5_sees l D cI cC cK cO h a1 a2 a3 a4 zs zb za zt zl zu y30 r1 r29 1 zc 59 0 0 0 0 0 0 _ h37) (cwV 7 hts gX5_isForm_X5_sees rfl rfl rfl hv_X5_sees ⟨Nat.le_of_ble_eq_true rfl, Nat.le_of_ble_eq_true rfl⟩) hK hP hD hS hA hE [0, 1, 2, 3, 4] rfl rfl rfl rfl rfl (fun _ => rfl) rfl hl.1 rfl (Nat.le_of_ble_eq_true rfl) dX5_isForm_126 ⟨Nat.zero_le _, Nat.zero_le _⟩ (fun r u H locs hw hP hD hS => ?_)
            obtain ⟨hw, z38⟩ := hw
            cases hw
            replace hP : va_P D vwCl (wM cI h a1 a2 a3 a4 zs zb za zt zl zu y36 r1 r29 1 zc) H := hP
            replace hD : va_D A (wM cI h a1 a2 a3 a4 zs zb za zt zl zu y36 r1 r29 1 zc) := hD
            refine lv_if_eq (tgt := 136) hx hb dX5_isForm_129 (by decide) (fun c39 => ?_) (fun c39 => ?_)
            · replace hf := op_t c39 hf
              refine lv_iconst (v := 0) hx hb dX5_isForm_136 (by decide) ?_
              exact hret _ _ _ _ _ (y36, r1, r29, 1) dX5_isForm_137 ⟨(op_k hf), (Or.inl rfl)⟩ hP hS
            · replace hf := op_f c39 hf
              refine lv_iconst (v := 1) hx hb dX5_isForm_132 (by decide) ?_
              refine lv_goto (tgt := 137) hx hb dX5_isForm_133 (by decide) ?_
              exact hret _ _ _ _ _ (y36, r1, r29, 1) dX5_isForm_137 ⟨(op_k hf), (Or.inr rfl)⟩ hP hS
        · replace hf := op_f c33 hf
          refine lv_aload_n hx hb dX5_isForm_68 rfl (lv_at hl 0 rfl) ?_
          refine va_get (D := D) (ci := 5) (v := .int r1) (C := RX5) (T := TX5) (N := 11) hx hb hts iX5 hown hK hP 0 rfl rfl 7 (by decide) w143 (fun _ h9 => h9) rfl dX5_isForm_69 ?_
          refine lv_iconst (v := 1) hx hb dX5_isForm_72 (by decide) ?_
          refine lv_icmp_ne (tgt := 103) hx hb dX5_isForm_73 (by decide) (fun c40 => ?_) (fun c40 => ?_)
          · replace hf := op_f c40 hf
            refine lv_aload_n hx hb dX5_isForm_103 rfl (lv_at hl 0 rfl) ?_
            refine va_get (D := D) (ci := 5) (v := .int r29) (C := RX5) (T := TX5) (N := 11) hx hb hts iX5 hown hK hP 0 rfl rfl 8 (by decide) w146 (fun _ h9 => h9) rfl dX5_isForm_104 ?_
            refine lv_if_lt (tgt := 136) hx hb dX5_isForm_107 (by decide) (fun c41 => ?_) (fun c41 => ?_)
            · replace hf := op_t c41 hf
              refine lv_iconst (v := 0) hx hb dX5_isForm_136 (by decide) ?_
              exact hret _ _ _ _ _ (y30, r1, r29, 1) dX5_isForm_137 ⟨(op_k hf), (Or.inl rfl)⟩ hP hS
            · replace hf := op_f c41 hf
              refine lv_aload_n hx hb dX5_isForm_110 rfl (lv_at hl 0 rfl) ?_
              refine va_get (D := D) (ci := 5) (v := .int 1) (C := RX5) (T := TX5) (N := 11) hx hb hts iX5 hown hK hP 0 rfl rfl 9 (by decide) w149 (fun _ h9 => h9) rfl dX5_isForm_111 ?_
              refine lv_if_lt (tgt := 136) hx hb dX5_isForm_114 (by decide) (fun c9 => absurd c9 (by decide)) (fun _ => ?_)
              refine lv_aload_n hx hb dX5_isForm_117 rfl (lv_at hl 0 rfl) ?_
              refine lv_bipush (v := 59) hx hb dX5_isForm_118 (by decide) ?_
              refine lv_iconst (v := 0) hx hb dX5_isForm_120 (by decide) ?_
              refine lv_iconst (v := 0) hx hb dX5_isForm_121 (by decide) ?_
              refine lv_iconst (v := 0) hx hb dX5_isForm_122 (by decide) ?_
              refine lv_iconst (v := 0) hx hb dX5_isForm_123 (by decide) ?_
              refine lv_iconst (v := 0) hx hb dX5_isForm_124 (by decide) ?_
              refine lv_iconst (v := 0) hx hb dX5_isForm_125 (by decide) ?_
              obtain ⟨⟨r42, y43⟩, h44, hf⟩ := op_b hf
              refine ck_VI (st := [.int 0, .int 0, .int 0, .int 0, .int 0, .int 0, .int 59, .ref h]) (rest := []) (As := [.int 59, .int 0, .int 0, .int 0, .int 0, .int 0, .int 0]) (C := RX5) (ci := 5) ⟨hx, hb, hml, hown, hts⟩ E0_ok (c_X5_sees l D cI cC cK cO h a1 a2 a3 a4 zs zb za zt zl zu y30 r1 r29 1 zc 59 0 0 0 0 0 0 _ h44) (cwV 7 hts gX5_isForm_X5_sees rfl rfl rfl hv_X5_sees ⟨Nat.le_of_ble_eq_true rfl, Nat.le_of_ble_eq_true rfl⟩) hK hP hD hS hA hE [0, 1, 2, 3, 4] rfl rfl rfl rfl rfl (fun _ => rfl) rfl hl.1 rfl (Nat.le_of_ble_eq_true rfl) dX5_isForm_126 ⟨Nat.zero_le _, Nat.zero_le _⟩ (fun r u H locs hw hP hD hS => ?_)
              obtain ⟨hw, z45⟩ := hw
              cases hw
              replace hP : va_P D vwCl (wM cI h a1 a2 a3 a4 zs zb za zt zl zu y43 r1 r29 1 zc) H := hP
              replace hD : va_D A (wM cI h a1 a2 a3 a4 zs zb za zt zl zu y43 r1 r29 1 zc) := hD
              refine lv_if_eq (tgt := 136) hx hb dX5_isForm_129 (by decide) (fun c46 => ?_) (fun c46 => ?_)
              · replace hf := op_t c46 hf
                refine lv_iconst (v := 0) hx hb dX5_isForm_136 (by decide) ?_
                exact hret _ _ _ _ _ (y43, r1, r29, 1) dX5_isForm_137 ⟨(op_k hf), (Or.inl rfl)⟩ hP hS
              · replace hf := op_f c46 hf
                refine lv_iconst (v := 1) hx hb dX5_isForm_132 (by decide) ?_
                refine lv_goto (tgt := 137) hx hb dX5_isForm_133 (by decide) ?_
                exact hret _ _ _ _ _ (y43, r1, r29, 1) dX5_isForm_137 ⟨(op_k hf), (Or.inr rfl)⟩ hP hS
          · replace hf := op_t c40 hf
            refine lv_aload_n hx hb dX5_isForm_76 rfl (lv_at hl 0 rfl) ?_
            refine lv_aload_n hx hb dX5_isForm_77 rfl (lv_at hl 0 rfl) ?_
            refine lv_bipush (v := 32) hx hb dX5_isForm_78 (by decide) ?_
            refine lv_iconst (v := 0) hx hb dX5_isForm_80 (by decide) ?_
            refine lv_iconst (v := 0) hx hb dX5_isForm_81 (by decide) ?_
            refine lv_iconst (v := 0) hx hb dX5_isForm_82 (by decide) ?_
            refine lv_iconst (v := 0) hx hb dX5_isForm_83 (by decide) ?_
            refine lv_iconst (v := 0) hx hb dX5_isForm_84 (by decide) ?_
            refine lv_iconst (v := 0) hx hb dX5_isForm_85 (by decide) ?_
            obtain ⟨⟨r47, y48⟩, h49, hf⟩ := op_b hf
            refine ck_VI (st := [.int 0, .int 0, .int 0, .int 0, .int 0, .int 0, .int 32, .ref h, .ref h]) (rest := [.ref h]) (As := [.int 32, .int 0, .int 0, .int 0, .int 0, .int 0, .int 0]) (C := RX5) (ci := 5) ⟨hx, hb, hml, hown, hts⟩ E0_ok (c_X5_sees l D cI cC cK cO h a1 a2 a3 a4 zs zb za zt zl zu y30 r1 r29 1 zc 32 0 0 0 0 0 0 _ h49) (cwV 7 hts gX5_isForm_X5_sees rfl rfl rfl hv_X5_sees ⟨Nat.le_of_ble_eq_true rfl, Nat.le_of_ble_eq_true rfl⟩) hK hP hD hS hA hE [0, 1, 2, 3, 4] rfl rfl rfl rfl rfl (fun _ => rfl) rfl hl.1 rfl (Nat.le_of_ble_eq_true rfl) dX5_isForm_86 ⟨Nat.zero_le _, Nat.zero_le _⟩ (fun r u H locs hw hP hD hS => ?_)
            obtain ⟨hw, z50⟩ := hw
            cases hw
            replace hP : va_P D vwCl (wM cI h a1 a2 a3 a4 zs zb za zt zl zu y48 r1 r29 1 zc) H := hP
            replace hD : va_D A (wM cI h a1 a2 a3 a4 zs zb za zt zl zu y48 r1 r29 1 zc) := hD
            refine lv_if_eq (tgt := 99) hx hb dX5_isForm_89 (by decide) (fun c51 => ?_) (fun c51 => ?_)
            · replace hf := op_t c51 hf
              refine lv_iconst (v := (-1)) hx hb dX5_isForm_99 (by decide) ?_
              refine va_put (D := D) (ci := 5) (v := .int (-1)) (ty := .int) (C := RX5) (T := TX5) (N := 11) hx hb hts iX5 tyX5 tyX5_ok nmX5 hown hK hP hD hS 0 rfl rfl 9 (by decide) w149 (fun _ h9 => h9) rfl (by decide +kernel) rfl rfl (Nat.le_of_ble_eq_true rfl) dX5_isForm_100 (fun H locs hP hD hS => ?_)
              replace hP : va_P D vwCl (wM cI h a1 a2 a3 a4 zs zb za zt zl zu y48 r1 r29 (-1) zc) H := hP
              replace hD : va_D A (wM cI h a1 a2 a3 a4 zs zb za zt zl zu y48 r1 r29 (-1) zc) := hD
              refine lv_aload_n hx hb dX5_isForm_103 rfl (lv_at hl 0 rfl) ?_
              refine va_get (D := D) (ci := 5) (v := .int r29) (C := RX5) (T := TX5) (N := 11) hx hb hts iX5 hown hK hP 0 rfl rfl 8 (by decide) w146 (fun _ h9 => h9) rfl dX5_isForm_104 ?_
              refine lv_if_lt (tgt := 136) hx hb dX5_isForm_107 (by decide) (fun c52 => ?_) (fun c52 => ?_)
              · replace hf := op_t c52 hf
                refine lv_iconst (v := 0) hx hb dX5_isForm_136 (by decide) ?_
                exact hret _ _ _ _ _ (y48, r1, r29, (-1)) dX5_isForm_137 ⟨(op_k hf), (Or.inl rfl)⟩ hP hS
              · replace hf := op_f c52 hf
                refine lv_aload_n hx hb dX5_isForm_110 rfl (lv_at hl 0 rfl) ?_
                refine va_get (D := D) (ci := 5) (v := .int (-1)) (C := RX5) (T := TX5) (N := 11) hx hb hts iX5 hown hK hP 0 rfl rfl 9 (by decide) w149 (fun _ h9 => h9) rfl dX5_isForm_111 ?_
                refine lv_if_lt (tgt := 136) hx hb dX5_isForm_114 (by decide) (fun _ => ?_) (fun c9 => absurd c9 (by decide))
                refine lv_iconst (v := 0) hx hb dX5_isForm_136 (by decide) ?_
                exact hret _ _ _ _ _ (y48, r1, r29, (-1)) dX5_isForm_137 ⟨(op_k hf), (Or.inl rfl)⟩ hP hS
            · replace hf := op_f c51 hf
              refine lv_aload_n hx hb dX5_isForm_92 rfl (lv_at hl 0 rfl) ?_
              obtain ⟨⟨r53, y54⟩, h55, hf⟩ := op_b hf
              refine ck_VI (st := [.ref h, .ref h]) (rest := [.ref h]) (As := []) (C := RX5) (ci := 5) ⟨hx, hb, hml, hown, hts⟩ E0_ok (c_X5_number l D cI cC cK cO h a1 a2 a3 a4 zs zb za zt zl zu y48 r1 r29 1 zc  K _ h55) (cwV 0 hts gX5_isForm_X5_number rfl rfl rfl hv_X5_number ⟨Nat.le_of_ble_eq_true rfl, Nat.le_of_ble_eq_true rfl⟩) hK hP hD hS hA hE [0, 1, 2, 3, 4] rfl rfl rfl rfl rfl (fun _ => rfl) rfl hl.1 rfl (Nat.le_of_ble_eq_true rfl) dX5_isForm_93 ⟨Nat.zero_le _, Nat.zero_le _⟩ (fun r u H locs hw hP hD hS => ?_)
              cases hw
              replace hP : va_P D vwCl (wM cI h a1 a2 a3 a4 zs zb za zt zl zu y54 r1 r29 1 zc) H := hP
              replace hD : va_D A (wM cI h a1 a2 a3 a4 zs zb za zt zl zu y54 r1 r29 1 zc) := hD
              refine lv_goto (tgt := 100) hx hb dX5_isForm_96 (by decide) ?_
              refine va_put (D := D) (ci := 5) (v := .int r53) (ty := .int) (C := RX5) (T := TX5) (N := 11) hx hb hts iX5 tyX5 tyX5_ok nmX5 hown hK hP hD hS 0 rfl rfl 9 (by decide) w149 (fun _ h9 => h9) rfl (by decide +kernel) rfl rfl (Nat.le_of_ble_eq_true rfl) dX5_isForm_100 (fun H locs hP hD hS => ?_)
              replace hP : va_P D vwCl (wM cI h a1 a2 a3 a4 zs zb za zt zl zu y54 r1 r29 r53 zc) H := hP
              replace hD : va_D A (wM cI h a1 a2 a3 a4 zs zb za zt zl zu y54 r1 r29 r53 zc) := hD
              refine lv_aload_n hx hb dX5_isForm_103 rfl (lv_at hl 0 rfl) ?_
              refine va_get (D := D) (ci := 5) (v := .int r29) (C := RX5) (T := TX5) (N := 11) hx hb hts iX5 hown hK hP 0 rfl rfl 8 (by decide) w146 (fun _ h9 => h9) rfl dX5_isForm_104 ?_
              refine lv_if_lt (tgt := 136) hx hb dX5_isForm_107 (by decide) (fun c57 => ?_) (fun c57 => ?_)
              · replace hf := op_t c57 hf
                refine lv_iconst (v := 0) hx hb dX5_isForm_136 (by decide) ?_
                exact hret _ _ _ _ _ (y54, r1, r29, r53) dX5_isForm_137 ⟨(op_k hf), (Or.inl rfl)⟩ hP hS
              · replace hf := op_f c57 hf
                refine lv_aload_n hx hb dX5_isForm_110 rfl (lv_at hl 0 rfl) ?_
                refine va_get (D := D) (ci := 5) (v := .int r53) (C := RX5) (T := TX5) (N := 11) hx hb hts iX5 hown hK hP 0 rfl rfl 9 (by decide) w149 (fun _ h9 => h9) rfl dX5_isForm_111 ?_
                refine lv_if_lt (tgt := 136) hx hb dX5_isForm_114 (by decide) (fun c58 => ?_) (fun c58 => ?_)
                · replace hf := op_t c58 hf
                  refine lv_iconst (v := 0) hx hb dX5_isForm_136 (by decide) ?_
                  exact hret _ _ _ _ _ (y54, r1, r29, r53) dX5_isForm_137 ⟨(op_k hf), (Or.inl rfl)⟩ hP hS
                · replace hf := op_f c58 hf
                  refine lv_aload_n hx hb dX5_isForm_117 rfl (lv_at hl 0 rfl) ?_
                  refine lv_bipush (v := 59) hx hb dX5_isForm_118 (by decide) ?_
                  refine lv_iconst (v := 0) hx hb dX5_isForm_120 (by decide) ?_
                  refine lv_iconst (v := 0) hx hb dX5_isForm_121 (by decide) ?_
                  refine lv_iconst (v := 0) hx hb dX5_isForm_122 (by decide) ?_
                  refine lv_iconst (v := 0) hx hb dX5_isForm_123 (by decide) ?_
                  refine lv_iconst (v := 0) hx hb dX5_isForm_124 (by decide) ?_
                  refine lv_iconst (v := 0) hx hb dX5_isForm_125 (by decide) ?_
                  obtain ⟨⟨r59, y60⟩, h61, hf⟩ := op_b hf
                  refine ck_VI (st := [.int 0, .int 0, .int 0, .int 0, .int 0, .int 0, .int 59, .ref h]) (rest := []) (As := [.int 59, .int 0, .int 0, .int 0, .int 0, .int 0, .int 0]) (C := RX5) (ci := 5) ⟨hx, hb, hml, hown, hts⟩ E0_ok (c_X5_sees l D cI cC cK cO h a1 a2 a3 a4 zs zb za zt zl zu y54 r1 r29 r53 zc 59 0 0 0 0 0 0 _ h61) (cwV 7 hts gX5_isForm_X5_sees rfl rfl rfl hv_X5_sees ⟨Nat.le_of_ble_eq_true rfl, Nat.le_of_ble_eq_true rfl⟩) hK hP hD hS hA hE [0, 1, 2, 3, 4] rfl rfl rfl rfl rfl (fun _ => rfl) rfl hl.1 rfl (Nat.le_of_ble_eq_true rfl) dX5_isForm_126 ⟨Nat.zero_le _, Nat.zero_le _⟩ (fun r u H locs hw hP hD hS => ?_)
                  obtain ⟨hw, z62⟩ := hw
                  cases hw
                  replace hP : va_P D vwCl (wM cI h a1 a2 a3 a4 zs zb za zt zl zu y60 r1 r29 r53 zc) H := hP
                  replace hD : va_D A (wM cI h a1 a2 a3 a4 zs zb za zt zl zu y60 r1 r29 r53 zc) := hD
                  refine lv_if_eq (tgt := 136) hx hb dX5_isForm_129 (by decide) (fun c63 => ?_) (fun c63 => ?_)
                  · replace hf := op_t c63 hf
                    refine lv_iconst (v := 0) hx hb dX5_isForm_136 (by decide) ?_
                    exact hret _ _ _ _ _ (y60, r1, r29, r53) dX5_isForm_137 ⟨(op_k hf), (Or.inl rfl)⟩ hP hS
                  · replace hf := op_f c63 hf
                    refine lv_iconst (v := 1) hx hb dX5_isForm_132 (by decide) ?_
                    refine lv_goto (tgt := 137) hx hb dX5_isForm_133 (by decide) ?_
                    exact hret _ _ _ _ _ (y60, r1, r29, r53) dX5_isForm_137 ⟨(op_k hf), (Or.inr rfl)⟩ hP hS
    · replace hf := op_t c6 hf
      refine lv_aload_n hx hb dX5_isForm_34 rfl (lv_at hl 0 rfl) ?_
      refine lv_aload_n hx hb dX5_isForm_35 rfl (lv_at hl 0 rfl) ?_
      obtain ⟨⟨r64, y65⟩, h66, hf⟩ := op_b hf
      refine ck_VI (st := [.ref h, .ref h]) (rest := [.ref h]) (As := []) (C := RX5) (ci := 5) ⟨hx, hb, hml, hown, hts⟩ E0_ok (c_X5_kindAt l D cI cC cK cO h a1 a2 a3 a4 zs zb za zt zl zu y2 r1 0 1 zc  _ h66) (cwV 0 hts gX5_isForm_X5_kindAt rfl rfl rfl hv_X5_kindAt ⟨Nat.le_of_ble_eq_true rfl, Nat.le_of_ble_eq_true rfl⟩) hK hP hD hS hA hE [0, 1, 2, 3, 4] rfl rfl rfl rfl rfl (fun _ => rfl) rfl hl.1 rfl (Nat.le_of_ble_eq_true rfl) dX5_isForm_36 ⟨Nat.zero_le _, Nat.zero_le _⟩ (fun r u H locs hw hP hD hS => ?_)
      cases hw
      replace hP : va_P D vwCl (wM cI h a1 a2 a3 a4 zs zb za zt zl zu y65 r1 0 1 zc) H := hP
      replace hD : va_D A (wM cI h a1 a2 a3 a4 zs zb za zt zl zu y65 r1 0 1 zc) := hD
      refine va_put (D := D) (ci := 5) (v := .int r64) (ty := .int) (C := RX5) (T := TX5) (N := 11) hx hb hts iX5 tyX5 tyX5_ok nmX5 hown hK hP hD hS 0 rfl rfl 8 (by decide) w146 (fun _ h9 => h9) rfl (by decide +kernel) rfl rfl (Nat.le_of_ble_eq_true rfl) dX5_isForm_39 (fun H locs hP hD hS => ?_)
      replace hP : va_P D vwCl (wM cI h a1 a2 a3 a4 zs zb za zt zl zu y65 r1 r64 1 zc) H := hP
      replace hD : va_D A (wM cI h a1 a2 a3 a4 zs zb za zt zl zu y65 r1 r64 1 zc) := hD
      refine lv_goto (tgt := 61) hx hb dX5_isForm_42 (by decide) ?_
      refine lv_aload_n hx hb dX5_isForm_61 rfl (lv_at hl 0 rfl) ?_
      refine va_get (D := D) (ci := 5) (v := .int r64) (C := RX5) (T := TX5) (N := 11) hx hb hts iX5 hown hK hP 0 rfl rfl 8 (by decide) w146 (fun _ h9 => h9) rfl dX5_isForm_62 ?_
      refine lv_if_lt (tgt := 103) hx hb dX5_isForm_65 (by decide) (fun c68 => ?_) (fun c68 => ?_)
      · replace hf := op_t c68 hf
        refine lv_aload_n hx hb dX5_isForm_103 rfl (lv_at hl 0 rfl) ?_
        refine va_get (D := D) (ci := 5) (v := .int r64) (C := RX5) (T := TX5) (N := 11) hx hb hts iX5 hown hK hP 0 rfl rfl 8 (by decide) w146 (fun _ h9 => h9) rfl dX5_isForm_104 ?_
        refine lv_if_lt (tgt := 136) hx hb dX5_isForm_107 (by decide) (fun c69 => ?_) (fun c69 => ?_)
        · replace hf := op_t c69 hf
          refine lv_iconst (v := 0) hx hb dX5_isForm_136 (by decide) ?_
          exact hret _ _ _ _ _ (y65, r1, r64, 1) dX5_isForm_137 ⟨(op_k hf), (Or.inl rfl)⟩ hP hS
        · replace hf := op_f c69 hf
          refine lv_aload_n hx hb dX5_isForm_110 rfl (lv_at hl 0 rfl) ?_
          refine va_get (D := D) (ci := 5) (v := .int 1) (C := RX5) (T := TX5) (N := 11) hx hb hts iX5 hown hK hP 0 rfl rfl 9 (by decide) w149 (fun _ h9 => h9) rfl dX5_isForm_111 ?_
          refine lv_if_lt (tgt := 136) hx hb dX5_isForm_114 (by decide) (fun c9 => absurd c9 (by decide)) (fun _ => ?_)
          refine lv_aload_n hx hb dX5_isForm_117 rfl (lv_at hl 0 rfl) ?_
          refine lv_bipush (v := 59) hx hb dX5_isForm_118 (by decide) ?_
          refine lv_iconst (v := 0) hx hb dX5_isForm_120 (by decide) ?_
          refine lv_iconst (v := 0) hx hb dX5_isForm_121 (by decide) ?_
          refine lv_iconst (v := 0) hx hb dX5_isForm_122 (by decide) ?_
          refine lv_iconst (v := 0) hx hb dX5_isForm_123 (by decide) ?_
          refine lv_iconst (v := 0) hx hb dX5_isForm_124 (by decide) ?_
          refine lv_iconst (v := 0) hx hb dX5_isForm_125 (by decide) ?_
          obtain ⟨⟨r70, y71⟩, h72, hf⟩ := op_b hf
          refine ck_VI (st := [.int 0, .int 0, .int 0, .int 0, .int 0, .int 0, .int 59, .ref h]) (rest := []) (As := [.int 59, .int 0, .int 0, .int 0, .int 0, .int 0, .int 0]) (C := RX5) (ci := 5) ⟨hx, hb, hml, hown, hts⟩ E0_ok (c_X5_sees l D cI cC cK cO h a1 a2 a3 a4 zs zb za zt zl zu y65 r1 r64 1 zc 59 0 0 0 0 0 0 _ h72) (cwV 7 hts gX5_isForm_X5_sees rfl rfl rfl hv_X5_sees ⟨Nat.le_of_ble_eq_true rfl, Nat.le_of_ble_eq_true rfl⟩) hK hP hD hS hA hE [0, 1, 2, 3, 4] rfl rfl rfl rfl rfl (fun _ => rfl) rfl hl.1 rfl (Nat.le_of_ble_eq_true rfl) dX5_isForm_126 ⟨Nat.zero_le _, Nat.zero_le _⟩ (fun r u H locs hw hP hD hS => ?_)
          obtain ⟨hw, z73⟩ := hw
          cases hw
          replace hP : va_P D vwCl (wM cI h a1 a2 a3 a4 zs zb za zt zl zu y71 r1 r64 1 zc) H := hP
          replace hD : va_D A (wM cI h a1 a2 a3 a4 zs zb za zt zl zu y71 r1 r64 1 zc) := hD
          refine lv_if_eq (tgt := 136) hx hb dX5_isForm_129 (by decide) (fun c74 => ?_) (fun c74 => ?_)
          · replace hf := op_t c74 hf
            refine lv_iconst (v := 0) hx hb dX5_isForm_136 (by decide) ?_
            exact hret _ _ _ _ _ (y71, r1, r64, 1) dX5_isForm_137 ⟨(op_k hf), (Or.inl rfl)⟩ hP hS
          · replace hf := op_f c74 hf
            refine lv_iconst (v := 1) hx hb dX5_isForm_132 (by decide) ?_
            refine lv_goto (tgt := 137) hx hb dX5_isForm_133 (by decide) ?_
            exact hret _ _ _ _ _ (y71, r1, r64, 1) dX5_isForm_137 ⟨(op_k hf), (Or.inr rfl)⟩ hP hS
      · replace hf := op_f c68 hf
        refine lv_aload_n hx hb dX5_isForm_68 rfl (lv_at hl 0 rfl) ?_
        refine va_get (D := D) (ci := 5) (v := .int r1) (C := RX5) (T := TX5) (N := 11) hx hb hts iX5 hown hK hP 0 rfl rfl 7 (by decide) w143 (fun _ h9 => h9) rfl dX5_isForm_69 ?_
        refine lv_iconst (v := 1) hx hb dX5_isForm_72 (by decide) ?_
        refine lv_icmp_ne (tgt := 103) hx hb dX5_isForm_73 (by decide) (fun c75 => ?_) (fun c75 => ?_)
        · replace hf := op_f c75 hf
          refine lv_aload_n hx hb dX5_isForm_103 rfl (lv_at hl 0 rfl) ?_
          refine va_get (D := D) (ci := 5) (v := .int r64) (C := RX5) (T := TX5) (N := 11) hx hb hts iX5 hown hK hP 0 rfl rfl 8 (by decide) w146 (fun _ h9 => h9) rfl dX5_isForm_104 ?_
          refine lv_if_lt (tgt := 136) hx hb dX5_isForm_107 (by decide) (fun c76 => ?_) (fun c76 => ?_)
          · replace hf := op_t c76 hf
            refine lv_iconst (v := 0) hx hb dX5_isForm_136 (by decide) ?_
            exact hret _ _ _ _ _ (y65, r1, r64, 1) dX5_isForm_137 ⟨(op_k hf), (Or.inl rfl)⟩ hP hS
          · replace hf := op_f c76 hf
            refine lv_aload_n hx hb dX5_isForm_110 rfl (lv_at hl 0 rfl) ?_
            refine va_get (D := D) (ci := 5) (v := .int 1) (C := RX5) (T := TX5) (N := 11) hx hb hts iX5 hown hK hP 0 rfl rfl 9 (by decide) w149 (fun _ h9 => h9) rfl dX5_isForm_111 ?_
            refine lv_if_lt (tgt := 136) hx hb dX5_isForm_114 (by decide) (fun c9 => absurd c9 (by decide)) (fun _ => ?_)
            refine lv_aload_n hx hb dX5_isForm_117 rfl (lv_at hl 0 rfl) ?_
            refine lv_bipush (v := 59) hx hb dX5_isForm_118 (by decide) ?_
            refine lv_iconst (v := 0) hx hb dX5_isForm_120 (by decide) ?_
            refine lv_iconst (v := 0) hx hb dX5_isForm_121 (by decide) ?_
            refine lv_iconst (v := 0) hx hb dX5_isForm_122 (by decide) ?_
            refine lv_iconst (v := 0) hx hb dX5_isForm_123 (by decide) ?_
            refine lv_iconst (v := 0) hx hb dX5_isForm_124 (by decide) ?_
            refine lv_iconst (v := 0) hx hb dX5_isForm_125 (by decide) ?_
            obtain ⟨⟨r77, y78⟩, h79, hf⟩ := op_b hf
            refine ck_VI (st := [.int 0, .int 0, .int 0, .int 0, .int 0, .int 0, .int 59, .ref h]) (rest := []) (As := [.int 59, .int 0, .int 0, .int 0, .int 0, .int 0, .int 0]) (C := RX5) (ci := 5) ⟨hx, hb, hml, hown, hts⟩ E0_ok (c_X5_sees l D cI cC cK cO h a1 a2 a3 a4 zs zb za zt zl zu y65 r1 r64 1 zc 59 0 0 0 0 0 0 _ h79) (cwV 7 hts gX5_isForm_X5_sees rfl rfl rfl hv_X5_sees ⟨Nat.le_of_ble_eq_true rfl, Nat.le_of_ble_eq_true rfl⟩) hK hP hD hS hA hE [0, 1, 2, 3, 4] rfl rfl rfl rfl rfl (fun _ => rfl) rfl hl.1 rfl (Nat.le_of_ble_eq_true rfl) dX5_isForm_126 ⟨Nat.zero_le _, Nat.zero_le _⟩ (fun r u H locs hw hP hD hS => ?_)
            obtain ⟨hw, z80⟩ := hw
            cases hw
            replace hP : va_P D vwCl (wM cI h a1 a2 a3 a4 zs zb za zt zl zu y78 r1 r64 1 zc) H := hP
            replace hD : va_D A (wM cI h a1 a2 a3 a4 zs zb za zt zl zu y78 r1 r64 1 zc) := hD
            refine lv_if_eq (tgt := 136) hx hb dX5_isForm_129 (by decide) (fun c81 => ?_) (fun c81 => ?_)
            · replace hf := op_t c81 hf
              refine lv_iconst (v := 0) hx hb dX5_isForm_136 (by decide) ?_
              exact hret _ _ _ _ _ (y78, r1, r64, 1) dX5_isForm_137 ⟨(op_k hf), (Or.inl rfl)⟩ hP hS
            · replace hf := op_f c81 hf
              refine lv_iconst (v := 1) hx hb dX5_isForm_132 (by decide) ?_
              refine lv_goto (tgt := 137) hx hb dX5_isForm_133 (by decide) ?_
              exact hret _ _ _ _ _ (y78, r1, r64, 1) dX5_isForm_137 ⟨(op_k hf), (Or.inr rfl)⟩ hP hS
        · replace hf := op_t c75 hf
          refine lv_aload_n hx hb dX5_isForm_76 rfl (lv_at hl 0 rfl) ?_
          refine lv_aload_n hx hb dX5_isForm_77 rfl (lv_at hl 0 rfl) ?_
          refine lv_bipush (v := 32) hx hb dX5_isForm_78 (by decide) ?_
          refine lv_iconst (v := 0) hx hb dX5_isForm_80 (by decide) ?_
          refine lv_iconst (v := 0) hx hb dX5_isForm_81 (by decide) ?_
          refine lv_iconst (v := 0) hx hb dX5_isForm_82 (by decide) ?_
          refine lv_iconst (v := 0) hx hb dX5_isForm_83 (by decide) ?_
          refine lv_iconst (v := 0) hx hb dX5_isForm_84 (by decide) ?_
          refine lv_iconst (v := 0) hx hb dX5_isForm_85 (by decide) ?_
          obtain ⟨⟨r82, y83⟩, h84, hf⟩ := op_b hf
          refine ck_VI (st := [.int 0, .int 0, .int 0, .int 0, .int 0, .int 0, .int 32, .ref h, .ref h]) (rest := [.ref h]) (As := [.int 32, .int 0, .int 0, .int 0, .int 0, .int 0, .int 0]) (C := RX5) (ci := 5) ⟨hx, hb, hml, hown, hts⟩ E0_ok (c_X5_sees l D cI cC cK cO h a1 a2 a3 a4 zs zb za zt zl zu y65 r1 r64 1 zc 32 0 0 0 0 0 0 _ h84) (cwV 7 hts gX5_isForm_X5_sees rfl rfl rfl hv_X5_sees ⟨Nat.le_of_ble_eq_true rfl, Nat.le_of_ble_eq_true rfl⟩) hK hP hD hS hA hE [0, 1, 2, 3, 4] rfl rfl rfl rfl rfl (fun _ => rfl) rfl hl.1 rfl (Nat.le_of_ble_eq_true rfl) dX5_isForm_86 ⟨Nat.zero_le _, Nat.zero_le _⟩ (fun r u H locs hw hP hD hS => ?_)
          obtain ⟨hw, z85⟩ := hw
          cases hw
          replace hP : va_P D vwCl (wM cI h a1 a2 a3 a4 zs zb za zt zl zu y83 r1 r64 1 zc) H := hP
          replace hD : va_D A (wM cI h a1 a2 a3 a4 zs zb za zt zl zu y83 r1 r64 1 zc) := hD
          refine lv_if_eq (tgt := 99) hx hb dX5_isForm_89 (by decide) (fun c86 => ?_) (fun c86 => ?_)
          · replace hf := op_t c86 hf
            refine lv_iconst (v := (-1)) hx hb dX5_isForm_99 (by decide) ?_
            refine va_put (D := D) (ci := 5) (v := .int (-1)) (ty := .int) (C := RX5) (T := TX5) (N := 11) hx hb hts iX5 tyX5 tyX5_ok nmX5 hown hK hP hD hS 0 rfl rfl 9 (by decide) w149 (fun _ h9 => h9) rfl (by decide +kernel) rfl rfl (Nat.le_of_ble_eq_true rfl) dX5_isForm_100 (fun H locs hP hD hS => ?_)
            replace hP : va_P D vwCl (wM cI h a1 a2 a3 a4 zs zb za zt zl zu y83 r1 r64 (-1) zc) H := hP
            replace hD : va_D A (wM cI h a1 a2 a3 a4 zs zb za zt zl zu y83 r1 r64 (-1) zc) := hD
            refine lv_aload_n hx hb dX5_isForm_103 rfl (lv_at hl 0 rfl) ?_
            refine va_get (D := D) (ci := 5) (v := .int r64) (C := RX5) (T := TX5) (N := 11) hx hb hts iX5 hown hK hP 0 rfl rfl 8 (by decide) w146 (fun _ h9 => h9) rfl dX5_isForm_104 ?_
            refine lv_if_lt (tgt := 136) hx hb dX5_isForm_107 (by decide) (fun c87 => ?_) (fun c87 => ?_)
            · replace hf := op_t c87 hf
              refine lv_iconst (v := 0) hx hb dX5_isForm_136 (by decide) ?_
              exact hret _ _ _ _ _ (y83, r1, r64, (-1)) dX5_isForm_137 ⟨(op_k hf), (Or.inl rfl)⟩ hP hS
            · replace hf := op_f c87 hf
              refine lv_aload_n hx hb dX5_isForm_110 rfl (lv_at hl 0 rfl) ?_
              refine va_get (D := D) (ci := 5) (v := .int (-1)) (C := RX5) (T := TX5) (N := 11) hx hb hts iX5 hown hK hP 0 rfl rfl 9 (by decide) w149 (fun _ h9 => h9) rfl dX5_isForm_111 ?_
              refine lv_if_lt (tgt := 136) hx hb dX5_isForm_114 (by decide) (fun _ => ?_) (fun c9 => absurd c9 (by decide))
              refine lv_iconst (v := 0) hx hb dX5_isForm_136 (by decide) ?_
              exact hret _ _ _ _ _ (y83, r1, r64, (-1)) dX5_isForm_137 ⟨(op_k hf), (Or.inl rfl)⟩ hP hS
          · replace hf := op_f c86 hf
            refine lv_aload_n hx hb dX5_isForm_92 rfl (lv_at hl 0 rfl) ?_
            obtain ⟨⟨r88, y89⟩, h90, hf⟩ := op_b hf
            refine ck_VI (st := [.ref h, .ref h]) (rest := [.ref h]) (As := []) (C := RX5) (ci := 5) ⟨hx, hb, hml, hown, hts⟩ E0_ok (c_X5_number l D cI cC cK cO h a1 a2 a3 a4 zs zb za zt zl zu y83 r1 r64 1 zc  K _ h90) (cwV 0 hts gX5_isForm_X5_number rfl rfl rfl hv_X5_number ⟨Nat.le_of_ble_eq_true rfl, Nat.le_of_ble_eq_true rfl⟩) hK hP hD hS hA hE [0, 1, 2, 3, 4] rfl rfl rfl rfl rfl (fun _ => rfl) rfl hl.1 rfl (Nat.le_of_ble_eq_true rfl) dX5_isForm_93 ⟨Nat.zero_le _, Nat.zero_le _⟩ (fun r u H locs hw hP hD hS => ?_)
            cases hw
            replace hP : va_P D vwCl (wM cI h a1 a2 a3 a4 zs zb za zt zl zu y89 r1 r64 1 zc) H := hP
            replace hD : va_D A (wM cI h a1 a2 a3 a4 zs zb za zt zl zu y89 r1 r64 1 zc) := hD
            refine lv_goto (tgt := 100) hx hb dX5_isForm_96 (by decide) ?_
            refine va_put (D := D) (ci := 5) (v := .int r88) (ty := .int) (C := RX5) (T := TX5) (N := 11) hx hb hts iX5 tyX5 tyX5_ok nmX5 hown hK hP hD hS 0 rfl rfl 9 (by decide) w149 (fun _ h9 => h9) rfl (by decide +kernel) rfl rfl (Nat.le_of_ble_eq_true rfl) dX5_isForm_100 (fun H locs hP hD hS => ?_)
            replace hP : va_P D vwCl (wM cI h a1 a2 a3 a4 zs zb za zt zl zu y89 r1 r64 r88 zc) H := hP
            replace hD : va_D A (wM cI h a1 a2 a3 a4 zs zb za zt zl zu y89 r1 r64 r88 zc) := hD
            refine lv_aload_n hx hb dX5_isForm_103 rfl (lv_at hl 0 rfl) ?_
            refine va_get (D := D) (ci := 5) (v := .int r64) (C := RX5) (T := TX5) (N := 11) hx hb hts iX5 hown hK hP 0 rfl rfl 8 (by decide) w146 (fun _ h9 => h9) rfl dX5_isForm_104 ?_
            refine lv_if_lt (tgt := 136) hx hb dX5_isForm_107 (by decide) (fun c92 => ?_) (fun c92 => ?_)
            · replace hf := op_t c92 hf
              refine lv_iconst (v := 0) hx hb dX5_isForm_136 (by decide) ?_
              exact hret _ _ _ _ _ (y89, r1, r64, r88) dX5_isForm_137 ⟨(op_k hf), (Or.inl rfl)⟩ hP hS
            · replace hf := op_f c92 hf
              refine lv_aload_n hx hb dX5_isForm_110 rfl (lv_at hl 0 rfl) ?_
              refine va_get (D := D) (ci := 5) (v := .int r88) (C := RX5) (T := TX5) (N := 11) hx hb hts iX5 hown hK hP 0 rfl rfl 9 (by decide) w149 (fun _ h9 => h9) rfl dX5_isForm_111 ?_
              refine lv_if_lt (tgt := 136) hx hb dX5_isForm_114 (by decide) (fun c93 => ?_) (fun c93 => ?_)
              · replace hf := op_t c93 hf
                refine lv_iconst (v := 0) hx hb dX5_isForm_136 (by decide) ?_
                exact hret _ _ _ _ _ (y89, r1, r64, r88) dX5_isForm_137 ⟨(op_k hf), (Or.inl rfl)⟩ hP hS
              · replace hf := op_f c93 hf
                refine lv_aload_n hx hb dX5_isForm_117 rfl (lv_at hl 0 rfl) ?_
                refine lv_bipush (v := 59) hx hb dX5_isForm_118 (by decide) ?_
                refine lv_iconst (v := 0) hx hb dX5_isForm_120 (by decide) ?_
                refine lv_iconst (v := 0) hx hb dX5_isForm_121 (by decide) ?_
                refine lv_iconst (v := 0) hx hb dX5_isForm_122 (by decide) ?_
                refine lv_iconst (v := 0) hx hb dX5_isForm_123 (by decide) ?_
                refine lv_iconst (v := 0) hx hb dX5_isForm_124 (by decide) ?_
                refine lv_iconst (v := 0) hx hb dX5_isForm_125 (by decide) ?_
                obtain ⟨⟨r94, y95⟩, h96, hf⟩ := op_b hf
                refine ck_VI (st := [.int 0, .int 0, .int 0, .int 0, .int 0, .int 0, .int 59, .ref h]) (rest := []) (As := [.int 59, .int 0, .int 0, .int 0, .int 0, .int 0, .int 0]) (C := RX5) (ci := 5) ⟨hx, hb, hml, hown, hts⟩ E0_ok (c_X5_sees l D cI cC cK cO h a1 a2 a3 a4 zs zb za zt zl zu y89 r1 r64 r88 zc 59 0 0 0 0 0 0 _ h96) (cwV 7 hts gX5_isForm_X5_sees rfl rfl rfl hv_X5_sees ⟨Nat.le_of_ble_eq_true rfl, Nat.le_of_ble_eq_true rfl⟩) hK hP hD hS hA hE [0, 1, 2, 3, 4] rfl rfl rfl rfl rfl (fun _ => rfl) rfl hl.1 rfl (Nat.le_of_ble_eq_true rfl) dX5_isForm_126 ⟨Nat.zero_le _, Nat.zero_le _⟩ (fun r u H locs hw hP hD hS => ?_)
                obtain ⟨hw, z97⟩ := hw
                cases hw
                replace hP : va_P D vwCl (wM cI h a1 a2 a3 a4 zs zb za zt zl zu y95 r1 r64 r88 zc) H := hP
                replace hD : va_D A (wM cI h a1 a2 a3 a4 zs zb za zt zl zu y95 r1 r64 r88 zc) := hD
                refine lv_if_eq (tgt := 136) hx hb dX5_isForm_129 (by decide) (fun c98 => ?_) (fun c98 => ?_)
                · replace hf := op_t c98 hf
                  refine lv_iconst (v := 0) hx hb dX5_isForm_136 (by decide) ?_
                  exact hret _ _ _ _ _ (y95, r1, r64, r88) dX5_isForm_137 ⟨(op_k hf), (Or.inl rfl)⟩ hP hS
                · replace hf := op_f c98 hf
                  refine lv_iconst (v := 1) hx hb dX5_isForm_132 (by decide) ?_
                  refine lv_goto (tgt := 137) hx hb dX5_isForm_133 (by decide) ?_
                  exact hret _ _ _ _ _ (y95, r1, r64, r88) dX5_isForm_137 ⟨(op_k hf), (Or.inr rfl)⟩ hP hS
  · replace hf := op_f c5 hf
    refine lv_iconst (v := 0) hx hb dX5_isForm_25 (by decide) ?_
    exact hret _ _ _ _ _ (y2, r1, 0, 1) dX5_isForm_26 ⟨(op_k hf), (Or.inl rfl)⟩ hP hS
set_option maxHeartbeats 4000000 in
set_option maxRecDepth 100000 in
theorem c_X5_isRange (l : Launch) (D : va_G) (cI cC cK cO : ClassId) (h : Nat) (a1 : Nat) (a2 : Nat) (a3 : Nat) (a4 : Nat) (zs : Nat → Int32) (zb : Nat → Int32) (za : Nat → Int32) (zt : Nat → Int32) (zl : Int32) (zu : Int32) (zp : Int32) (zw : Int32) (zf : Int32) (zg : Int32) (zc : Int32) (R : Int32) (hf : f_X5_isRange zs zw zf zg = R) : KI l D (TY cI cC cK cO) E0 yX5_isRange wsX5_isRange 2 [.ref h] (wM cI h a1 a2 a3 a4 zs zb za zt zl zu zp zw zf zg zc) (fun (r : Int32) (u : Unit) => r = R ∧ (r = 0 ∨ r = 1)) (fun u => (wM cI h a1 a2 a3 a4 zs zb za zt zl zu zp zw zf zg zc)) := by
  refine KI.ofZ (cc := cX5_isRange) (maxL := 1) (C := RX5) (by decide) rfl rfl (Nat.le_of_ble_eq_true rfl) (fun _ _ h => h.2) ?_
  intro p e s m args below meth c A Q hx hb hml hts hown hP hK hD hA hE hS hret ls hl
  replace hl : lv_has ls 1 [(0, .ref h)] := hl
  have w143 := hts (.fieldLink RX5 143 "BlockClerksModel" "word" "I") (by decide +kernel)
  have w146 := hts (.fieldLink RX5 146 "BlockClerksModel" "first" "I") (by decide +kernel)
  have w149 := hts (.fieldLink RX5 149 "BlockClerksModel" "second" "I") (by decide +kernel)
  have iX5 : ∀ w ∈ wsX50, w ∈ wsX5_isRange := by decide +kernel
  rw [f_X5_isRange] at hf
  refine lv_aload_n hx hb dX5_isRange_0 rfl (lv_at hl 0 rfl) ?_
  refine va_get (D := D) (ci := 5) (v := .int zw) (C := RX5) (T := TX5) (N := 11) hx hb hts iX5 hown hK hP 0 rfl rfl 7 (by decide) w143 (fun _ h9 => h9) rfl dX5_isRange_1 ?_
  by_cases c1 : zw = 1
  · replace hf := op_t c1 hf
    refine sw_in (v := 1) (tgt := 36) hx hb dX5_isRange_4 c1 (by decide) (by decide) rfl (by decide) ?_
    refine lv_aload_n hx hb dX5_isRange_36 rfl (lv_at hl 0 rfl) ?_
    refine lv_aload_n hx hb dX5_isRange_37 rfl (lv_at hl 0 rfl) ?_
    refine va_get (D := D) (ci := 5) (v := .int zf) (C := RX5) (T := TX5) (N := 11) hx hb hts iX5 hown hK hP 0 rfl rfl 8 (by decide) w146 (fun _ h9 => h9) rfl dX5_isRange_38 ?_
    refine ck_VI (st := [.int zf, .ref h]) (rest := []) (As := [.int zf]) (C := RX5) (ci := 5) ⟨hx, hb, hml, hown, hts⟩ E0_ok (c_X5_isClerk l D cI cC cK cO h a1 a2 a3 a4 zs zb za zt zl zu zp zw zf zg zc zf _ rfl) (cwV 1 hts gX5_isRange_X5_isClerk rfl rfl rfl hv_X5_isClerk ⟨Nat.le_of_ble_eq_true rfl, Nat.le_of_ble_eq_true rfl⟩) hK hP hD hS hA hE [0, 1, 2, 3, 4] rfl rfl rfl rfl rfl (fun _ => rfl) rfl hl.1 rfl (Nat.le_of_ble_eq_true rfl) dX5_isRange_41 ⟨Nat.zero_le _, Nat.zero_le _⟩ (fun r u H locs hw hP hD hS => ?_)
    obtain ⟨hw, z3⟩ := hw
    cases hw
    replace hP : va_P D vwCl (wM cI h a1 a2 a3 a4 zs zb za zt zl zu zp zw zf zg zc) H := hP
    replace hD : va_D A (wM cI h a1 a2 a3 a4 zs zb za zt zl zu zp zw zf zg zc) := hD
    refine lv_if_eq (tgt := 64) hx hb dX5_isRange_44 (by decide) (fun c4 => ?_) (fun c4 => ?_)
    · replace hf := op_t c4 hf
      refine lv_iconst (v := 0) hx hb dX5_isRange_64 (by decide) ?_
      exact hret _ _ _ _ _ () dX5_isRange_65 ⟨hf, (Or.inl rfl)⟩ hP hS
    · replace hf := op_f c4 hf
      refine lv_aload_n hx hb dX5_isRange_47 rfl (lv_at hl 0 rfl) ?_
      refine va_get (D := D) (ci := 5) (v := .int zg) (C := RX5) (T := TX5) (N := 11) hx hb hts iX5 hown hK hP 0 rfl rfl 9 (by decide) w149 (fun _ h9 => h9) rfl dX5_isRange_48 ?_
      refine lv_iconst (v := 1) hx hb dX5_isRange_51 (by decide) ?_
      refine lv_bipush (v := 50) hx hb dX5_isRange_52 (by decide) ?_
      refine ck_SI (st := [.int 50, .int 1, .int zg]) (rest := []) (As := [.int zg, .int 1, .int 50]) ⟨hx, hb, hml, hown, hts⟩ E0_ok (c_X5_in l D cI cC cK cO  zg 1 50 _ rfl) (va_cwS 3 hts gX5_isRange_X5_in rfl rfl rfl hs_X5_in ⟨Nat.le_of_ble_eq_true rfl, Nat.le_of_ble_eq_true rfl⟩) hK hP hD hS hA hE rfl hl.1 rfl (Nat.le_of_ble_eq_true rfl) dX5_isRange_54 ⟨Nat.zero_le _, Nat.zero_le _⟩ (fun r H locs hw hP hS => ?_)
      obtain ⟨hw, z6⟩ := hw
      cases hw
      refine lv_if_eq (tgt := 64) hx hb dX5_isRange_57 (by decide) (fun c7 => ?_) (fun c7 => ?_)
      · replace hf := op_t c7 hf
        refine lv_iconst (v := 0) hx hb dX5_isRange_64 (by decide) ?_
        exact hret _ _ _ _ _ () dX5_isRange_65 ⟨hf, (Or.inl rfl)⟩ hP hS
      · replace hf := op_f c7 hf
        refine lv_iconst (v := 1) hx hb dX5_isRange_60 (by decide) ?_
        refine lv_goto (tgt := 65) hx hb dX5_isRange_61 (by decide) ?_
        exact hret _ _ _ _ _ () dX5_isRange_65 ⟨hf, (Or.inr rfl)⟩ hP hS
  replace hf := op_f c1 hf
  by_cases c8 : zw = 2
  · replace hf := op_t c8 hf
    refine sw_in (v := 2) (tgt := 66) hx hb dX5_isRange_4 c8 (by decide) (by decide) rfl (by decide) ?_
    refine lv_aload_n hx hb dX5_isRange_66 rfl (lv_at hl 0 rfl) ?_
    refine lv_aload_n hx hb dX5_isRange_67 rfl (lv_at hl 0 rfl) ?_
    refine va_get (D := D) (ci := 5) (v := .int zf) (C := RX5) (T := TX5) (N := 11) hx hb hts iX5 hown hK hP 0 rfl rfl 8 (by decide) w146 (fun _ h9 => h9) rfl dX5_isRange_68 ?_
    refine ck_VI (st := [.int zf, .ref h]) (rest := []) (As := [.int zf]) (C := RX5) (ci := 5) ⟨hx, hb, hml, hown, hts⟩ E0_ok (c_X5_isClerk l D cI cC cK cO h a1 a2 a3 a4 zs zb za zt zl zu zp zw zf zg zc zf _ rfl) (cwV 1 hts gX5_isRange_X5_isClerk rfl rfl rfl hv_X5_isClerk ⟨Nat.le_of_ble_eq_true rfl, Nat.le_of_ble_eq_true rfl⟩) hK hP hD hS hA hE [0, 1, 2, 3, 4] rfl rfl rfl rfl rfl (fun _ => rfl) rfl hl.1 rfl (Nat.le_of_ble_eq_true rfl) dX5_isRange_71 ⟨Nat.zero_le _, Nat.zero_le _⟩ (fun r u H locs hw hP hD hS => ?_)
    obtain ⟨hw, z10⟩ := hw
    cases hw
    replace hP : va_P D vwCl (wM cI h a1 a2 a3 a4 zs zb za zt zl zu zp zw zf zg zc) H := hP
    replace hD : va_D A (wM cI h a1 a2 a3 a4 zs zb za zt zl zu zp zw zf zg zc) := hD
    exact hret _ _ _ _ _ () dX5_isRange_74 ⟨hf, z10⟩ hP hS
  replace hf := op_f c8 hf
  by_cases c11 : zw = 3
  · replace hf := op_t c11 hf
    refine sw_in (v := 3) (tgt := 66) hx hb dX5_isRange_4 c11 (by decide) (by decide) rfl (by decide) ?_
    refine lv_aload_n hx hb dX5_isRange_66 rfl (lv_at hl 0 rfl) ?_
    refine lv_aload_n hx hb dX5_isRange_67 rfl (lv_at hl 0 rfl) ?_
    refine va_get (D := D) (ci := 5) (v := .int zf) (C := RX5) (T := TX5) (N := 11) hx hb hts iX5 hown hK hP 0 rfl rfl 8 (by decide) w146 (fun _ h9 => h9) rfl dX5_isRange_68 ?_
    refine ck_VI (st := [.int zf, .ref h]) (rest := []) (As := [.int zf]) (C := RX5) (ci := 5) ⟨hx, hb, hml, hown, hts⟩ E0_ok (c_X5_isClerk l D cI cC cK cO h a1 a2 a3 a4 zs zb za zt zl zu zp zw zf zg zc zf _ rfl) (cwV 1 hts gX5_isRange_X5_isClerk rfl rfl rfl hv_X5_isClerk ⟨Nat.le_of_ble_eq_true rfl, Nat.le_of_ble_eq_true rfl⟩) hK hP hD hS hA hE [0, 1, 2, 3, 4] rfl rfl rfl rfl rfl (fun _ => rfl) rfl hl.1 rfl (Nat.le_of_ble_eq_true rfl) dX5_isRange_71 ⟨Nat.zero_le _, Nat.zero_le _⟩ (fun r u H locs hw hP hD hS => ?_)
    obtain ⟨hw, z13⟩ := hw
    cases hw
    replace hP : va_P D vwCl (wM cI h a1 a2 a3 a4 zs zb za zt zl zu zp zw zf zg zc) H := hP
    replace hD : va_D A (wM cI h a1 a2 a3 a4 zs zb za zt zl zu zp zw zf zg zc) := hD
    exact hret _ _ _ _ _ () dX5_isRange_74 ⟨hf, z13⟩ hP hS
  replace hf := op_f c11 hf
  by_cases c14 : zw = 4
  · replace hf := op_t c14 hf
    refine sw_in (v := 4) (tgt := 75) hx hb dX5_isRange_4 c14 (by decide) (by decide) rfl (by decide) ?_
    refine lv_aload_n hx hb dX5_isRange_75 rfl (lv_at hl 0 rfl) ?_
    refine va_get (D := D) (ci := 5) (v := .int zf) (C := RX5) (T := TX5) (N := 11) hx hb hts iX5 hown hK hP 0 rfl rfl 8 (by decide) w146 (fun _ h9 => h9) rfl dX5_isRange_76 ?_
    refine ck_SI (st := [.int zf]) (rest := []) (As := [.int zf]) ⟨hx, hb, hml, hown, hts⟩ E0_ok (c_X5_isNumber l D cI cC cK cO  zf _ rfl) (va_cwS 1 hts gX5_isRange_X5_isNumber rfl rfl rfl hs_X5_isNumber ⟨Nat.le_of_ble_eq_true rfl, Nat.le_of_ble_eq_true rfl⟩) hK hP hD hS hA hE rfl hl.1 rfl (Nat.le_of_ble_eq_true rfl) dX5_isRange_79 ⟨Nat.zero_le _, Nat.zero_le _⟩ (fun r H locs hw hP hS => ?_)
    obtain ⟨hw, z16⟩ := hw
    cases hw
    exact hret _ _ _ _ _ () dX5_isRange_82 ⟨hf, z16⟩ hP hS
  replace hf := op_f c14 hf
  refine lv_tableOut (tgt := 83) hx hb dX5_isRange_4 (sw_o_1_4 c1 c8 c11 c14) (by decide) ?_
  refine lv_iconst (v := 1) hx hb dX5_isRange_83 (by decide) ?_
  exact hret _ _ _ _ _ () dX5_isRange_84 ⟨hf, (Or.inr rfl)⟩ hP hS
