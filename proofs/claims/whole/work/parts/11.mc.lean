/-! laid by wip/whole/gen.py: walks of the reference's methods -/
set_option maxHeartbeats 4000000 in
set_option maxRecDepth 100000 in
theorem c_X5_forget (l : Launch) (D : va_G) (cI cC cK cO : ClassId) (h : Nat) (a1 : Nat) (a2 : Nat) (a3 : Nat) (a4 : Nat) (zs : Nat → Int32) (zb : Nat → Int32) (za : Nat → Int32) (zt : Nat → Int32) (zl : Int32) (zu : Int32) (zp : Int32) (zw : Int32) (zf : Int32) (zg : Int32) (zc : Int32) (x1 : Int32) (K : Nat) (R : Int32 × (Nat → Int32) × (Nat → Int32) × Int32) (hf : f_X5_forget K zs zb zu x1 = some R) : KI l D (TY cI cC cK cO) E0 yX5_forget wsX5_forget 3 [.ref h, .int x1] (wM cI h a1 a2 a3 a4 zs zb za zt zl zu zp zw zf zg zc) (fun (r : Int32) (u : (Nat → Int32) × (Nat → Int32) × Int32) => (r, u) = R) (fun u => (wM cI h a1 a2 a3 a4 (u.1) (u.2.1) za zt zl (u.2.2) zp zw zf zg zc)) := by
  refine KI.ofI (cc := cX5_forget) (maxL := 2) (C := RX5) (by decide) rfl rfl (Nat.le_of_ble_eq_true rfl) ?_
  intro p e s m args below meth c A Q hx hb hml hts hown hP hK hD hA hE hS hret ls hl
  replace hl : lv_has ls 2 [(0, .ref h), (1, .int x1)] := hl
  rw [f_X5_forget] at hf
  refine lv_aload_n hx hb dX5_forget_0 rfl (lv_at hl 0 rfl) ?_
  refine lv_iload_n hx hb dX5_forget_1 rfl (lv_at hl 1 rfl) ?_
  refine ck_VI (st := [.int x1, .ref h]) (rest := []) (As := [.int x1]) (C := RX5) (ci := 5) ⟨hx, hb, hml, hown, hts⟩ E0_ok (c_X5_isClerk l D cI cC cK cO h a1 a2 a3 a4 zs zb za zt zl zu zp zw zf zg zc x1 _ rfl) (cwV 1 hts gX5_forget_X5_isClerk rfl rfl rfl hv_X5_isClerk ⟨Nat.le_of_ble_eq_true rfl, Nat.le_of_ble_eq_true rfl⟩) hK hP hD hS hA hE [0, 1, 2, 3, 4] rfl rfl rfl rfl rfl (fun _ => rfl) rfl hl.1 rfl (Nat.le_of_ble_eq_true rfl) dX5_forget_2 ⟨Nat.zero_le _, Nat.zero_le _⟩ (fun r u H locs hw hP hD hS => ?_)
  obtain ⟨hw, z2⟩ := hw
  cases hw
  replace hP : va_P D vwCl (wM cI h a1 a2 a3 a4 zs zb za zt zl zu zp zw zf zg zc) H := hP
  replace hD : va_D A (wM cI h a1 a2 a3 a4 zs zb za zt zl zu zp zw zf zg zc) := hD
  refine lv_if_ne (tgt := 10) hx hb dX5_forget_5 (by decide) (fun c3 => ?_) (fun c3 => ?_)
  · replace hf := op_f c3 hf
    refine lv_aload_n hx hb dX5_forget_10 rfl (lv_at hl 0 rfl) ?_
    refine lv_iload_n hx hb dX5_forget_11 rfl (lv_at hl 1 rfl) ?_
    obtain ⟨r4, h5, hf⟩ := op_b hf
    refine ck_VI (st := [.int x1, .ref h]) (rest := []) (As := [.int x1]) (C := RX5) (ci := 5) ⟨hx, hb, hml, hown, hts⟩ E0_ok (c_X5_holds l D cI cC cK cO h a1 a2 a3 a4 zs zb za zt zl zu zp zw zf zg zc x1 _ h5) (cwV 1 hts gX5_forget_X5_holds rfl rfl rfl hv_X5_holds ⟨Nat.le_of_ble_eq_true rfl, Nat.le_of_ble_eq_true rfl⟩) hK hP hD hS hA hE [0, 1, 2, 3, 4] rfl rfl rfl rfl rfl (fun _ => rfl) rfl hl.1 rfl (Nat.le_of_ble_eq_true rfl) dX5_forget_12 ⟨Nat.zero_le _, Nat.zero_le _⟩ (fun r u H locs hw hP hD hS => ?_)
    cases hw
    replace hP : va_P D vwCl (wM cI h a1 a2 a3 a4 zs zb za zt zl zu zp zw zf zg zc) H := hP
    replace hD : va_D A (wM cI h a1 a2 a3 a4 zs zb za zt zl zu zp zw zf zg zc) := hD
    refine lv_if_ne (tgt := 21) hx hb dX5_forget_15 (by decide) (fun c7 => ?_) (fun c7 => ?_)
    · replace hf := op_f c7 hf
      refine lv_aload_n hx hb dX5_forget_21 rfl (lv_at hl 0 rfl) ?_
      obtain ⟨⟨y9, y10⟩, h11, hf⟩ := op_b hf
      refine ck_VV (st := [.ref h]) (rest := []) (As := []) (C := RX5) (ci := 5) ⟨hx, hb, hml, hown, hts⟩ E0_ok (c_X5_record l D cI cC cK cO h a1 a2 a3 a4 zs zb za zt zl zu zp zw zf zg zc  K _ h11) (cwV 0 hts gX5_forget_X5_record rfl rfl rfl hv_X5_record ⟨Nat.le_of_ble_eq_true rfl, Nat.le_of_ble_eq_true rfl⟩) hK hP hD hS hA hE [0, 1, 2, 3, 4] rfl rfl rfl rfl rfl (fun _ => rfl) rfl hl.1 rfl (Nat.le_of_ble_eq_true rfl) dX5_forget_22 ⟨Nat.zero_le _, Nat.zero_le _⟩ (fun u H locs hw hP hD hS => ?_)
      cases hw
      replace hP : va_P D vwCl (wM cI h a1 a2 a3 a4 zs y9 za zt zl y10 zp zw zf zg zc) H := hP
      replace hD : va_D A (wM cI h a1 a2 a3 a4 zs y9 za zt zl y10 zp zw zf zg zc) := hD
      refine lv_aload_n hx hb dX5_forget_25 rfl (lv_at hl 0 rfl) ?_
      refine lv_iload_n hx hb dX5_forget_26 rfl (lv_at hl 1 rfl) ?_
      obtain ⟨⟨r13, y14⟩, h15, hf⟩ := op_b hf
      refine ck_VI (st := [.int x1, .ref h]) (rest := []) (As := [.int x1]) (C := RX5) (ci := 5) ⟨hx, hb, hml, hown, hts⟩ E0_ok (c_X5_goForget l D cI cC cK cO h a1 a2 a3 a4 zs y9 za zt zl y10 zp zw zf zg zc x1 K _ h15) (cwV 1 hts gX5_forget_X5_goForget rfl rfl rfl hv_X5_goForget ⟨Nat.le_of_ble_eq_true rfl, Nat.le_of_ble_eq_true rfl⟩) hK hP hD hS hA hE [0, 1, 2, 3, 4] rfl rfl rfl rfl rfl (fun _ => rfl) rfl hl.1 rfl (Nat.le_of_ble_eq_true rfl) dX5_forget_27 ⟨Nat.zero_le _, Nat.zero_le _⟩ (fun r u H locs hw hP hD hS => ?_)
      cases hw
      replace hP : va_P D vwCl (wM cI h a1 a2 a3 a4 y14 y9 za zt zl y10 zp zw zf zg zc) H := hP
      replace hD : va_D A (wM cI h a1 a2 a3 a4 y14 y9 za zt zl y10 zp zw zf zg zc) := hD
      exact hret _ _ _ _ _ (y14, y9, y10) dX5_forget_30 (op_k hf) hP hS
    · replace hf := op_t c7 hf
      refine lv_bipush (v := (-2)) hx hb dX5_forget_18 (by decide) ?_
      exact hret _ _ _ _ _ (zs, zb, zu) dX5_forget_20 (op_k hf) hP hS
  · replace hf := op_t c3 hf
    refine lv_iconst (v := (-1)) hx hb dX5_forget_8 (by decide) ?_
    exact hret _ _ _ _ _ (zs, zb, zu) dX5_forget_9 (op_k hf) hP hS
set_option maxHeartbeats 4000000 in
set_option maxRecDepth 100000 in
theorem c_X5_goBack (l : Launch) (D : va_G) (cI cC cK cO : ClassId) (h : Nat) (a1 : Nat) (a2 : Nat) (a3 : Nat) (a4 : Nat) (zs : Nat → Int32) (zb : Nat → Int32) (za : Nat → Int32) (zt : Nat → Int32) (zl : Int32) (zu : Int32) (zp : Int32) (zw : Int32) (zf : Int32) (zg : Int32) (zc : Int32) (x1 : Int32) (K : Nat) (R : Int32 × (Nat → Int32)) (hf : f_X5_goBack K zs x1 = some R) : KI l D (TY cI cC cK cO) E0 yX5_goBack wsX5_goBack 2 [.ref h, .int x1] (wM cI h a1 a2 a3 a4 zs zb za zt zl zu zp zw zf zg zc) (fun (r : Int32) (u : (Nat → Int32)) => (r, u) = R) (fun u => (wM cI h a1 a2 a3 a4 u zb za zt zl zu zp zw zf zg zc)) := by
  refine KI.ofI (cc := cX5_goBack) (maxL := 4) (C := RX5) (by decide) rfl rfl (Nat.le_of_ble_eq_true rfl) ?_
  intro p e s m args below meth c A Q hx hb hml hts hown hP hK hD hA hE hS hret ls hl
  replace hl : lv_has ls 4 [(0, .ref h), (1, .int x1)] := hl
  have w7 := hts (.fieldLink RX5 7 "BlockClerksModel" "s" "[I") (by decide +kernel)
  have iX5 : ∀ w ∈ wsX50, w ∈ wsX5_goBack := by decide +kernel
  have L_11 : ∀ (n : Nat) (zs : Nat → Int32) (x1 : Int32) (x2 : Int32) (x3 : Int32) (hf : f_X5_goBack_11 x2 x3 n zs = some R) (H : Heap) (locs : List Loc) (ls : Array Slot), va_P D vwCl (wM cI h a1 a2 a3 a4 zs zb za zt zl zu zp zw zf zg zc) H → va_D A (wM cI h a1 a2 a3 a4 zs zb za zt zl zu zp zw zf zg zc) → va_S A s.heap H locs → lv_has ls 4 [(0, .ref h), (1, .int x1), (2, .int x2), (3, .int x3)] → W p l e (rm 2) s m args below meth c H locs 0 0 Q (F0 m 11 ls []) := by
    intro n
    induction n with
    | zero =>
      intro zs x1 x2 x3 hf
      cases hf
    | succ n ih =>
      intro zs x1 x2 x3 hf H locs ls hP hD hS hl
      rw [f_X5_goBack_11] at hf
      refine lv_aload_n hx hb dX5_goBack_11 rfl (lv_at hl 0 rfl) ?_
      refine va_get (D := D) (ci := 5) (v := .ref a1) (C := RX5) (T := TX5) (N := 11) hx hb hts iX5 hown hK hP 0 rfl rfl 0 (by decide) w7 (fun _ h9 => h9) rfl dX5_goBack_12 ?_
      refine lv_iload_n hx hb dX5_goBack_15 rfl (lv_at hl 2 rfl) ?_
      refine lv_iconst (v := 1) hx hb dX5_goBack_16 (by decide) ?_
      refine lv_iadd hx hb dX5_goBack_17 ?_
      obtain ⟨q6, hf⟩ := op_x hf
      refine ck_iald (j := (x2 + 1).toNatClampNeg) hx hb hK hP 1 0 rfl rfl q6 rfl dX5_goBack_18 ?_
      refine lv_aload_n hx hb dX5_goBack_19 rfl (lv_at hl 0 rfl) ?_
      refine va_get (D := D) (ci := 5) (v := .ref a1) (C := RX5) (T := TX5) (N := 11) hx hb hts iX5 hown hK hP 0 rfl rfl 0 (by decide) w7 (fun _ h9 => h9) rfl dX5_goBack_20 ?_
      refine lv_iload_n hx hb dX5_goBack_23 rfl (lv_at hl 2 rfl) ?_
      refine lv_iconst (v := 2) hx hb dX5_goBack_24 (by decide) ?_
      refine lv_iadd hx hb dX5_goBack_25 ?_
      obtain ⟨q7, hf⟩ := op_x hf
      refine ck_iald (j := (x2 + 2).toNatClampNeg) hx hb hK hP 1 0 rfl rfl q7 rfl dX5_goBack_26 ?_
      refine lv_icmp_gt (tgt := 109) hx hb dX5_goBack_27 (by decide) (fun c8 => ?_) (fun c8 => ?_)
      · replace hf := op_t c8 hf
        refine lv_iload_n hx hb dX5_goBack_109 rfl (lv_at hl 3 rfl) ?_
        exact hret _ _ _ _ _ (zs) dX5_goBack_110 (op_k hf) hP hS
      · replace hf := op_f c8 hf
        refine lv_aload_n hx hb dX5_goBack_30 rfl (lv_at hl 0 rfl) ?_
        refine va_get (D := D) (ci := 5) (v := .ref a1) (C := RX5) (T := TX5) (N := 11) hx hb hts iX5 hown hK hP 0 rfl rfl 0 (by decide) w7 (fun _ h9 => h9) rfl dX5_goBack_31 ?_
        refine lv_iconst (v := 1) hx hb dX5_goBack_34 (by decide) ?_
        refine ck_iald (j := 1) hx hb hK hP 1 0 rfl rfl (in_lit (by decide)) (by decide) dX5_goBack_35 ?_
        refine lv_iconst (v := 1) hx hb dX5_goBack_36 (by decide) ?_
        refine lv_icmp_ne (tgt := 81) hx hb dX5_goBack_37 (by decide) (fun c9 => ?_) (fun c9 => ?_)
        · replace hf := op_f c9 hf
          refine lv_aload_n hx hb dX5_goBack_81 rfl (lv_at hl 0 rfl) ?_
          refine lv_aload_n hx hb dX5_goBack_82 rfl (lv_at hl 0 rfl) ?_
          refine va_get (D := D) (ci := 5) (v := .ref a1) (C := RX5) (T := TX5) (N := 11) hx hb hts iX5 hown hK hP 0 rfl rfl 0 (by decide) w7 (fun _ h9 => h9) rfl dX5_goBack_83 ?_
          refine lv_iload_n hx hb dX5_goBack_86 rfl (lv_at hl 2 rfl) ?_
          refine lv_iconst (v := 1) hx hb dX5_goBack_87 (by decide) ?_
          refine lv_iadd hx hb dX5_goBack_88 ?_
          obtain ⟨q10, hf⟩ := op_x hf
          refine ck_iald (j := (x2 + 1).toNatClampNeg) hx hb hK hP 1 0 rfl rfl q10 rfl dX5_goBack_89 ?_
          refine lv_iconst (v := 1) hx hb dX5_goBack_90 (by decide) ?_
          obtain ⟨y12, h13, hf⟩ := op_b hf
          refine ck_VV (st := [.int 1, .int (zs (x2 + 1).toNatClampNeg), .ref h]) (rest := []) (As := [.int (zs (x2 + 1).toNatClampNeg), .int 1]) (C := RX5) (ci := 5) ⟨hx, hb, hml, hown, hts⟩ E0_ok (c_X5_makeHole l D cI cC cK cO h a1 a2 a3 a4 zs zb za zt zl zu zp zw zf zg zc (zs (x2 + 1).toNatClampNeg) 1 _ h13) (cwV 2 hts gX5_goBack_X5_makeHole rfl rfl rfl hv_X5_makeHole ⟨Nat.le_of_ble_eq_true rfl, Nat.le_of_ble_eq_true rfl⟩) hK hP hD hS hA hE [0, 1, 2, 3, 4] rfl rfl rfl rfl rfl (fun _ => rfl) rfl hl.1 rfl (Nat.le_of_ble_eq_true rfl) dX5_goBack_91 ⟨Nat.zero_le _, Nat.zero_le _⟩ (fun u H locs hw hP hD hS => ?_)
          cases hw
          replace hP : va_P D vwCl (wM cI h a1 a2 a3 a4 y12 zb za zt zl zu zp zw zf zg zc) H := hP
          replace hD : va_D A (wM cI h a1 a2 a3 a4 y12 zb za zt zl zu zp zw zf zg zc) := hD
          refine lv_aload_n hx hb dX5_goBack_94 rfl (lv_at hl 0 rfl) ?_
          refine va_get (D := D) (ci := 5) (v := .ref a1) (C := RX5) (T := TX5) (N := 11) hx hb hts iX5 hown hK hP 0 rfl rfl 0 (by decide) w7 (fun _ h9 => h9) rfl dX5_goBack_95 ?_
          refine lv_iload_n hx hb dX5_goBack_98 rfl (lv_at hl 2 rfl) ?_
          refine lv_iconst (v := 1) hx hb dX5_goBack_99 (by decide) ?_
          refine lv_iadd hx hb dX5_goBack_100 ?_
          refine lv_dup2_11 hx hb dX5_goBack_101 rfl rfl ?_
          obtain ⟨q15, hf⟩ := op_x hf
          refine ck_iald (j := (x2 + 1).toNatClampNeg) hx hb hK hP 1 0 rfl rfl q15 rfl dX5_goBack_102 ?_
          refine lv_iconst (v := 1) hx hb dX5_goBack_103 (by decide) ?_
          refine lv_iadd hx hb dX5_goBack_104 ?_
          obtain ⟨q16, hf⟩ := op_x hf
          obtain ⟨y17, e18, hf⟩ := nb_o hf
          refine ck_iast (f' := y17) hx hb hK hP hD hS 1 0 rfl rfl q16 dX5_goBack_105 e18 (fun H locs hP hD hS => ?_)
          replace hP : va_P D vwCl (wM cI h a1 a2 a3 a4 y17 zb za zt zl zu zp zw zf zg zc) H := hP
          replace hD : va_D A (wM cI h a1 a2 a3 a4 y17 zb za zt zl zu zp zw zf zg zc) := hD
          refine lv_goto (tgt := 11) hx hb dX5_goBack_106 (by decide) ?_
          exact ih y17 x1 x2 x3 hf _ _ _ hP hD hS (lv_sub hl [0, 1, 2, 3] rfl)
        · replace hf := op_t c9 hf
          refine lv_aload_n hx hb dX5_goBack_40 rfl (lv_at hl 0 rfl) ?_
          refine va_get (D := D) (ci := 5) (v := .ref a1) (C := RX5) (T := TX5) (N := 11) hx hb hts iX5 hown hK hP 0 rfl rfl 0 (by decide) w7 (fun _ h9 => h9) rfl dX5_goBack_41 ?_
          refine lv_aload_n hx hb dX5_goBack_44 rfl (lv_at hl 0 rfl) ?_
          refine va_get (D := D) (ci := 5) (v := .ref a1) (C := RX5) (T := TX5) (N := 11) hx hb hts iX5 hown hK hP 0 rfl rfl 0 (by decide) w7 (fun _ h9 => h9) rfl dX5_goBack_45 ?_
          refine lv_iload_n hx hb dX5_goBack_48 rfl (lv_at hl 2 rfl) ?_
          refine lv_iconst (v := 1) hx hb dX5_goBack_49 (by decide) ?_
          refine lv_iadd hx hb dX5_goBack_50 ?_
          obtain ⟨q19, hf⟩ := op_x hf
          refine ck_iald (j := (x2 + 1).toNatClampNeg) hx hb hK hP 1 0 rfl rfl q19 rfl dX5_goBack_51 ?_
          refine ck_SI (st := [.int (zs (x2 + 1).toNatClampNeg), .ref a1]) (rest := [.ref a1]) (As := [.int (zs (x2 + 1).toNatClampNeg)]) ⟨hx, hb, hml, hown, hts⟩ E0_ok (c_X5_n l D cI cC cK cO  (zs (x2 + 1).toNatClampNeg) _ rfl) (va_cwS 1 hts gX5_goBack_X5_n rfl rfl rfl hs_X5_n ⟨Nat.le_of_ble_eq_true rfl, Nat.le_of_ble_eq_true rfl⟩) hK hP hD hS hA hE rfl hl.1 rfl (Nat.le_of_ble_eq_true rfl) dX5_goBack_52 ⟨Nat.zero_le _, Nat.zero_le _⟩ (fun r H locs hw hP hS => ?_)
          cases hw
          refine lv_iconst (v := 0) hx hb dX5_goBack_55 (by decide) ?_
          refine lv_iadd hx hb dX5_goBack_56 ?_
          refine lv_iconst (v := 3) hx hb dX5_goBack_57 (by decide) ?_
          obtain ⟨q22, hf⟩ := op_x hf
          obtain ⟨y23, e24, hf⟩ := nb_o hf
          refine ck_iast (f' := y23) hx hb hK hP hD hS 1 0 rfl rfl q22 dX5_goBack_58 e24 (fun H locs hP hD hS => ?_)
          replace hP : va_P D vwCl (wM cI h a1 a2 a3 a4 y23 zb za zt zl zu zp zw zf zg zc) H := hP
          replace hD : va_D A (wM cI h a1 a2 a3 a4 y23 zb za zt zl zu zp zw zf zg zc) := hD
          refine lv_aload_n hx hb dX5_goBack_59 rfl (lv_at hl 0 rfl) ?_
          refine va_get (D := D) (ci := 5) (v := .ref a1) (C := RX5) (T := TX5) (N := 11) hx hb hts iX5 hown hK hP 0 rfl rfl 0 (by decide) w7 (fun _ h9 => h9) rfl dX5_goBack_60 ?_
          refine lv_aload_n hx hb dX5_goBack_63 rfl (lv_at hl 0 rfl) ?_
          refine va_get (D := D) (ci := 5) (v := .ref a1) (C := RX5) (T := TX5) (N := 11) hx hb hts iX5 hown hK hP 0 rfl rfl 0 (by decide) w7 (fun _ h9 => h9) rfl dX5_goBack_64 ?_
          refine lv_iload_n hx hb dX5_goBack_67 rfl (lv_at hl 2 rfl) ?_
          refine lv_iconst (v := 1) hx hb dX5_goBack_68 (by decide) ?_
          refine lv_iadd hx hb dX5_goBack_69 ?_
          obtain ⟨q25, hf⟩ := op_x hf
          refine ck_iald (j := (x2 + 1).toNatClampNeg) hx hb hK hP 1 0 rfl rfl q25 rfl dX5_goBack_70 ?_
          refine ck_SI (st := [.int (y23 (x2 + 1).toNatClampNeg), .ref a1]) (rest := [.ref a1]) (As := [.int (y23 (x2 + 1).toNatClampNeg)]) ⟨hx, hb, hml, hown, hts⟩ E0_ok (c_X5_n l D cI cC cK cO  (y23 (x2 + 1).toNatClampNeg) _ rfl) (va_cwS 1 hts gX5_goBack_X5_n rfl rfl rfl hs_X5_n ⟨Nat.le_of_ble_eq_true rfl, Nat.le_of_ble_eq_true rfl⟩) hK hP hD hS hA hE rfl hl.1 rfl (Nat.le_of_ble_eq_true rfl) dX5_goBack_71 ⟨Nat.zero_le _, Nat.zero_le _⟩ (fun r H locs hw hP hS => ?_)
          cases hw
          refine lv_iconst (v := 1) hx hb dX5_goBack_74 (by decide) ?_
          refine lv_iadd hx hb dX5_goBack_75 ?_
          refine lv_iconst (v := (-1)) hx hb dX5_goBack_76 (by decide) ?_
          obtain ⟨q28, hf⟩ := op_x hf
          obtain ⟨y29, e30, hf⟩ := nb_o hf
          refine ck_iast (f' := y29) hx hb hK hP hD hS 1 0 rfl rfl q28 dX5_goBack_77 e30 (fun H locs hP hD hS => ?_)
          replace hP : va_P D vwCl (wM cI h a1 a2 a3 a4 y29 zb za zt zl zu zp zw zf zg zc) H := hP
          replace hD : va_D A (wM cI h a1 a2 a3 a4 y29 zb za zt zl zu zp zw zf zg zc) := hD
          refine lv_goto (tgt := 94) hx hb dX5_goBack_78 (by decide) ?_
          refine lv_aload_n hx hb dX5_goBack_94 rfl (lv_at hl 0 rfl) ?_
          refine va_get (D := D) (ci := 5) (v := .ref a1) (C := RX5) (T := TX5) (N := 11) hx hb hts iX5 hown hK hP 0 rfl rfl 0 (by decide) w7 (fun _ h9 => h9) rfl dX5_goBack_95 ?_
          refine lv_iload_n hx hb dX5_goBack_98 rfl (lv_at hl 2 rfl) ?_
          refine lv_iconst (v := 1) hx hb dX5_goBack_99 (by decide) ?_
          refine lv_iadd hx hb dX5_goBack_100 ?_
          refine lv_dup2_11 hx hb dX5_goBack_101 rfl rfl ?_
          obtain ⟨q31, hf⟩ := op_x hf
          refine ck_iald (j := (x2 + 1).toNatClampNeg) hx hb hK hP 1 0 rfl rfl q31 rfl dX5_goBack_102 ?_
          refine lv_iconst (v := 1) hx hb dX5_goBack_103 (by decide) ?_
          refine lv_iadd hx hb dX5_goBack_104 ?_
          obtain ⟨q32, hf⟩ := op_x hf
          obtain ⟨y33, e34, hf⟩ := nb_o hf
          refine ck_iast (f' := y33) hx hb hK hP hD hS 1 0 rfl rfl q32 dX5_goBack_105 e34 (fun H locs hP hD hS => ?_)
          replace hP : va_P D vwCl (wM cI h a1 a2 a3 a4 y33 zb za zt zl zu zp zw zf zg zc) H := hP
          replace hD : va_D A (wM cI h a1 a2 a3 a4 y33 zb za zt zl zu zp zw zf zg zc) := hD
          refine lv_goto (tgt := 11) hx hb dX5_goBack_106 (by decide) ?_
          exact ih y33 x1 x2 x3 hf _ _ _ hP hD hS (lv_sub hl [0, 1, 2, 3] rfl)
  rw [f_X5_goBack] at hf
  refine lv_iload_n hx hb dX5_goBack_0 rfl (lv_at hl 1 rfl) ?_
  refine ck_SI (st := [.int x1]) (rest := []) (As := [.int x1]) ⟨hx, hb, hml, hown, hts⟩ E0_ok (c_X5_c l D cI cC cK cO  x1 _ rfl) (va_cwS 1 hts gX5_goBack_X5_c rfl rfl rfl hs_X5_c ⟨Nat.le_of_ble_eq_true rfl, Nat.le_of_ble_eq_true rfl⟩) hK hP hD hS hA hE rfl hl.1 rfl (Nat.le_of_ble_eq_true rfl) dX5_goBack_1 ⟨Nat.zero_le _, Nat.zero_le _⟩ (fun r H locs hw hP hS => ?_)
  cases hw
  refine lv_istore_n (lv' := [(2, .int (f_X5_c x1)), (0, .ref h), (1, .int x1)]) hx hb dX5_goBack_4 rfl hl (by decide) rfl (fun ls hl => ?_)
  refine lv_aload_n hx hb dX5_goBack_5 rfl (lv_at hl 1 rfl) ?_
  refine lv_iload_n hx hb dX5_goBack_6 rfl (lv_at hl 2 rfl) ?_
  obtain ⟨r3, h4, hf⟩ := op_b hf
  refine ck_VI (st := [.int x1, .ref h]) (rest := []) (As := [.int x1]) (C := RX5) (ci := 5) ⟨hx, hb, hml, hown, hts⟩ E0_ok (c_X5_holds l D cI cC cK cO h a1 a2 a3 a4 zs zb za zt zl zu zp zw zf zg zc x1 _ h4) (cwV 1 hts gX5_goBack_X5_holds rfl rfl rfl hv_X5_holds ⟨Nat.le_of_ble_eq_true rfl, Nat.le_of_ble_eq_true rfl⟩) hK hP hD hS hA hE [0, 1, 2, 3, 4] rfl rfl rfl rfl rfl (fun _ => rfl) rfl hl.1 rfl (Nat.le_of_ble_eq_true rfl) dX5_goBack_7 ⟨Nat.zero_le _, Nat.zero_le _⟩ (fun r u H locs hw hP hD hS => ?_)
  cases hw
  replace hP : va_P D vwCl (wM cI h a1 a2 a3 a4 zs zb za zt zl zu zp zw zf zg zc) H := hP
  replace hD : va_D A (wM cI h a1 a2 a3 a4 zs zb za zt zl zu zp zw zf zg zc) := hD
  refine lv_istore_n (lv' := [(3, .int r3), (2, .int (f_X5_c x1)), (0, .ref h), (1, .int x1)]) hx hb dX5_goBack_10 rfl hl (by decide) rfl (fun ls hl => ?_)
  exact L_11 K zs x1 (f_X5_c x1) r3 hf _ _ _ hP hD hS (lv_sub hl [2, 3, 1, 0] rfl)
set_option maxHeartbeats 4000000 in
set_option maxRecDepth 100000 in
theorem c_X5_giveBack (l : Launch) (D : va_G) (cI cC cK cO : ClassId) (h : Nat) (a1 : Nat) (a2 : Nat) (a3 : Nat) (a4 : Nat) (zs : Nat → Int32) (zb : Nat → Int32) (za : Nat → Int32) (zt : Nat → Int32) (zl : Int32) (zu : Int32) (zp : Int32) (zw : Int32) (zf : Int32) (zg : Int32) (zc : Int32) (x1 : Int32) (K : Nat) (R : Int32 × (Nat → Int32) × (Nat → Int32) × Int32) (hf : f_X5_giveBack K zs zb zu x1 = some R) : KI l D (TY cI cC cK cO) E0 yX5_giveBack wsX5_giveBack 3 [.ref h, .int x1] (wM cI h a1 a2 a3 a4 zs zb za zt zl zu zp zw zf zg zc) (fun (r : Int32) (u : (Nat → Int32) × (Nat → Int32) × Int32) => (r, u) = R) (fun u => (wM cI h a1 a2 a3 a4 (u.1) (u.2.1) za zt zl (u.2.2) zp zw zf zg zc)) := by
  refine KI.ofI (cc := cX5_giveBack) (maxL := 2) (C := RX5) (by decide) rfl rfl (Nat.le_of_ble_eq_true rfl) ?_
  intro p e s m args below meth c A Q hx hb hml hts hown hP hK hD hA hE hS hret ls hl
  replace hl : lv_has ls 2 [(0, .ref h), (1, .int x1)] := hl
  rw [f_X5_giveBack] at hf
  refine lv_aload_n hx hb dX5_giveBack_0 rfl (lv_at hl 0 rfl) ?_
  refine lv_iload_n hx hb dX5_giveBack_1 rfl (lv_at hl 1 rfl) ?_
  refine ck_VI (st := [.int x1, .ref h]) (rest := []) (As := [.int x1]) (C := RX5) (ci := 5) ⟨hx, hb, hml, hown, hts⟩ E0_ok (c_X5_isClerk l D cI cC cK cO h a1 a2 a3 a4 zs zb za zt zl zu zp zw zf zg zc x1 _ rfl) (cwV 1 hts gX5_giveBack_X5_isClerk rfl rfl rfl hv_X5_isClerk ⟨Nat.le_of_ble_eq_true rfl, Nat.le_of_ble_eq_true rfl⟩) hK hP hD hS hA hE [0, 1, 2, 3, 4] rfl rfl rfl rfl rfl (fun _ => rfl) rfl hl.1 rfl (Nat.le_of_ble_eq_true rfl) dX5_giveBack_2 ⟨Nat.zero_le _, Nat.zero_le _⟩ (fun r u H locs hw hP hD hS => ?_)
  obtain ⟨hw, z2⟩ := hw
  cases hw
  replace hP : va_P D vwCl (wM cI h a1 a2 a3 a4 zs zb za zt zl zu zp zw zf zg zc) H := hP
  replace hD : va_D A (wM cI h a1 a2 a3 a4 zs zb za zt zl zu zp zw zf zg zc) := hD
  refine lv_if_ne (tgt := 10) hx hb dX5_giveBack_5 (by decide) (fun c3 => ?_) (fun c3 => ?_)
  · replace hf := op_f c3 hf
    refine lv_aload_n hx hb dX5_giveBack_10 rfl (lv_at hl 0 rfl) ?_
    refine lv_iload_n hx hb dX5_giveBack_11 rfl (lv_at hl 1 rfl) ?_
    obtain ⟨r4, h5, hf⟩ := op_b hf
    refine ck_VI (st := [.int x1, .ref h]) (rest := []) (As := [.int x1]) (C := RX5) (ci := 5) ⟨hx, hb, hml, hown, hts⟩ E0_ok (c_X5_holds l D cI cC cK cO h a1 a2 a3 a4 zs zb za zt zl zu zp zw zf zg zc x1 _ h5) (cwV 1 hts gX5_giveBack_X5_holds rfl rfl rfl hv_X5_holds ⟨Nat.le_of_ble_eq_true rfl, Nat.le_of_ble_eq_true rfl⟩) hK hP hD hS hA hE [0, 1, 2, 3, 4] rfl rfl rfl rfl rfl (fun _ => rfl) rfl hl.1 rfl (Nat.le_of_ble_eq_true rfl) dX5_giveBack_12 ⟨Nat.zero_le _, Nat.zero_le _⟩ (fun r u H locs hw hP hD hS => ?_)
    cases hw
    replace hP : va_P D vwCl (wM cI h a1 a2 a3 a4 zs zb za zt zl zu zp zw zf zg zc) H := hP
    replace hD : va_D A (wM cI h a1 a2 a3 a4 zs zb za zt zl zu zp zw zf zg zc) := hD
    refine lv_if_ne (tgt := 21) hx hb dX5_giveBack_15 (by decide) (fun c7 => ?_) (fun c7 => ?_)
    · replace hf := op_f c7 hf
      refine lv_aload_n hx hb dX5_giveBack_21 rfl (lv_at hl 0 rfl) ?_
      obtain ⟨⟨y9, y10⟩, h11, hf⟩ := op_b hf
      refine ck_VV (st := [.ref h]) (rest := []) (As := []) (C := RX5) (ci := 5) ⟨hx, hb, hml, hown, hts⟩ E0_ok (c_X5_record l D cI cC cK cO h a1 a2 a3 a4 zs zb za zt zl zu zp zw zf zg zc  K _ h11) (cwV 0 hts gX5_giveBack_X5_record rfl rfl rfl hv_X5_record ⟨Nat.le_of_ble_eq_true rfl, Nat.le_of_ble_eq_true rfl⟩) hK hP hD hS hA hE [0, 1, 2, 3, 4] rfl rfl rfl rfl rfl (fun _ => rfl) rfl hl.1 rfl (Nat.le_of_ble_eq_true rfl) dX5_giveBack_22 ⟨Nat.zero_le _, Nat.zero_le _⟩ (fun u H locs hw hP hD hS => ?_)
      cases hw
      replace hP : va_P D vwCl (wM cI h a1 a2 a3 a4 zs y9 za zt zl y10 zp zw zf zg zc) H := hP
      replace hD : va_D A (wM cI h a1 a2 a3 a4 zs y9 za zt zl y10 zp zw zf zg zc) := hD
      refine lv_aload_n hx hb dX5_giveBack_25 rfl (lv_at hl 0 rfl) ?_
      refine lv_iload_n hx hb dX5_giveBack_26 rfl (lv_at hl 1 rfl) ?_
      obtain ⟨⟨r13, y14⟩, h15, hf⟩ := op_b hf
      refine ck_VI (st := [.int x1, .ref h]) (rest := []) (As := [.int x1]) (C := RX5) (ci := 5) ⟨hx, hb, hml, hown, hts⟩ E0_ok (c_X5_goBack l D cI cC cK cO h a1 a2 a3 a4 zs y9 za zt zl y10 zp zw zf zg zc x1 K _ h15) (cwV 1 hts gX5_giveBack_X5_goBack rfl rfl rfl hv_X5_goBack ⟨Nat.le_of_ble_eq_true rfl, Nat.le_of_ble_eq_true rfl⟩) hK hP hD hS hA hE [0, 1, 2, 3, 4] rfl rfl rfl rfl rfl (fun _ => rfl) rfl hl.1 rfl (Nat.le_of_ble_eq_true rfl) dX5_giveBack_27 ⟨Nat.zero_le _, Nat.zero_le _⟩ (fun r u H locs hw hP hD hS => ?_)
      cases hw
      replace hP : va_P D vwCl (wM cI h a1 a2 a3 a4 y14 y9 za zt zl y10 zp zw zf zg zc) H := hP
      replace hD : va_D A (wM cI h a1 a2 a3 a4 y14 y9 za zt zl y10 zp zw zf zg zc) := hD
      exact hret _ _ _ _ _ (y14, y9, y10) dX5_giveBack_30 (op_k hf) hP hS
    · replace hf := op_t c7 hf
      refine lv_bipush (v := (-2)) hx hb dX5_giveBack_18 (by decide) ?_
      exact hret _ _ _ _ _ (zs, zb, zu) dX5_giveBack_20 (op_k hf) hP hS
  · replace hf := op_t c3 hf
    refine lv_iconst (v := (-1)) hx hb dX5_giveBack_8 (by decide) ?_
    exact hret _ _ _ _ _ (zs, zb, zu) dX5_giveBack_9 (op_k hf) hP hS
set_option maxHeartbeats 4000000 in
set_option maxRecDepth 100000 in
theorem c_X5_makeVoid (l : Launch) (D : va_G) (cI cC cK cO : ClassId) (h : Nat) (a1 : Nat) (a2 : Nat) (a3 : Nat) (a4 : Nat) (zs : Nat → Int32) (zb : Nat → Int32) (za : Nat → Int32) (zt : Nat → Int32) (zl : Int32) (zu : Int32) (zp : Int32) (zw : Int32) (zf : Int32) (zg : Int32) (zc : Int32) (x1 : Int32) (K : Nat) (R : Int32 × (Nat → Int32) × (Nat → Int32) × Int32) (hf : f_X5_makeVoid K zs zb zu x1 = some R) : KI l D (TY cI cC cK cO) E0 yX5_makeVoid wsX5_makeVoid 2 [.ref h, .int x1] (wM cI h a1 a2 a3 a4 zs zb za zt zl zu zp zw zf zg zc) (fun (r : Int32) (u : (Nat → Int32) × (Nat → Int32) × Int32) => (r, u) = R) (fun u => (wM cI h a1 a2 a3 a4 (u.1) (u.2.1) za zt zl (u.2.2) zp zw zf zg zc)) := by
  refine KI.ofI (cc := cX5_makeVoid) (maxL := 2) (C := RX5) (by decide) rfl rfl (Nat.le_of_ble_eq_true rfl) ?_
  intro p e s m args below meth c A Q hx hb hml hts hown hP hK hD hA hE hS hret ls hl
  replace hl : lv_has ls 2 [(0, .ref h), (1, .int x1)] := hl
  have w7 := hts (.fieldLink RX5 7 "BlockClerksModel" "s" "[I") (by decide +kernel)
  have iX5 : ∀ w ∈ wsX50, w ∈ wsX5_makeVoid := by decide +kernel
  rw [f_X5_makeVoid] at hf
  refine lv_iload_n hx hb dX5_makeVoid_0 rfl (lv_at hl 1 rfl) ?_
  refine ck_SI (st := [.int x1]) (rest := []) (As := [.int x1]) ⟨hx, hb, hml, hown, hts⟩ E0_ok (c_X5_isNumber l D cI cC cK cO  x1 _ rfl) (va_cwS 1 hts gX5_makeVoid_X5_isNumber rfl rfl rfl hs_X5_isNumber ⟨Nat.le_of_ble_eq_true rfl, Nat.le_of_ble_eq_true rfl⟩) hK hP hD hS hA hE rfl hl.1 rfl (Nat.le_of_ble_eq_true rfl) dX5_makeVoid_1 ⟨Nat.zero_le _, Nat.zero_le _⟩ (fun r H locs hw hP hS => ?_)
  obtain ⟨hw, z2⟩ := hw
  cases hw
  refine lv_if_ne (tgt := 9) hx hb dX5_makeVoid_4 (by decide) (fun c3 => ?_) (fun c3 => ?_)
  · replace hf := op_f c3 hf
    refine lv_aload_n hx hb dX5_makeVoid_9 rfl (lv_at hl 0 rfl) ?_
    refine va_get (D := D) (ci := 5) (v := .ref a1) (C := RX5) (T := TX5) (N := 11) hx hb hts iX5 hown hK hP 0 rfl rfl 0 (by decide) w7 (fun _ h9 => h9) rfl dX5_makeVoid_10 ?_
    refine lv_iload_n hx hb dX5_makeVoid_13 rfl (lv_at hl 1 rfl) ?_
    refine ck_SI (st := [.int x1, .ref a1]) (rest := [.ref a1]) (As := [.int x1]) ⟨hx, hb, hml, hown, hts⟩ E0_ok (c_X5_n l D cI cC cK cO  x1 _ rfl) (va_cwS 1 hts gX5_makeVoid_X5_n rfl rfl rfl hs_X5_n ⟨Nat.le_of_ble_eq_true rfl, Nat.le_of_ble_eq_true rfl⟩) hK hP hD hS hA hE rfl hl.1 rfl (Nat.le_of_ble_eq_true rfl) dX5_makeVoid_14 ⟨Nat.zero_le _, Nat.zero_le _⟩ (fun r H locs hw hP hS => ?_)
    cases hw
    refine lv_iconst (v := 0) hx hb dX5_makeVoid_17 (by decide) ?_
    refine lv_iadd hx hb dX5_makeVoid_18 ?_
    obtain ⟨q6, hf⟩ := op_x hf
    refine ck_iald (j := ((f_X5_n x1) + 0).toNatClampNeg) hx hb hK hP 1 0 rfl rfl q6 rfl dX5_makeVoid_19 ?_
    refine lv_iconst (v := 2) hx hb dX5_makeVoid_20 (by decide) ?_
    refine lv_icmp_eq (tgt := 27) hx hb dX5_makeVoid_21 (by decide) (fun c7 => ?_) (fun c7 => ?_)
    · replace hf := op_t c7 hf
      refine lv_aload_n hx hb dX5_makeVoid_27 rfl (lv_at hl 0 rfl) ?_
      obtain ⟨⟨y9, y10⟩, h11, hf⟩ := op_b hf
      refine ck_VV (st := [.ref h]) (rest := []) (As := []) (C := RX5) (ci := 5) ⟨hx, hb, hml, hown, hts⟩ E0_ok (c_X5_record l D cI cC cK cO h a1 a2 a3 a4 zs zb za zt zl zu zp zw zf zg zc  K _ h11) (cwV 0 hts gX5_makeVoid_X5_record rfl rfl rfl hv_X5_record ⟨Nat.le_of_ble_eq_true rfl, Nat.le_of_ble_eq_true rfl⟩) hK hP hD hS hA hE [0, 1, 2, 3, 4] rfl rfl rfl rfl rfl (fun _ => rfl) rfl hl.1 rfl (Nat.le_of_ble_eq_true rfl) dX5_makeVoid_28 ⟨Nat.zero_le _, Nat.zero_le _⟩ (fun u H locs hw hP hD hS => ?_)
      cases hw
      replace hP : va_P D vwCl (wM cI h a1 a2 a3 a4 zs y9 za zt zl y10 zp zw zf zg zc) H := hP
      replace hD : va_D A (wM cI h a1 a2 a3 a4 zs y9 za zt zl y10 zp zw zf zg zc) := hD
      refine lv_aload_n hx hb dX5_makeVoid_31 rfl (lv_at hl 0 rfl) ?_
      refine lv_iload_n hx hb dX5_makeVoid_32 rfl (lv_at hl 1 rfl) ?_
      refine lv_iconst (v := 2) hx hb dX5_makeVoid_33 (by decide) ?_
      obtain ⟨y14, h15, hf⟩ := op_b hf
      refine ck_VV (st := [.int 2, .int x1, .ref h]) (rest := []) (As := [.int x1, .int 2]) (C := RX5) (ci := 5) ⟨hx, hb, hml, hown, hts⟩ E0_ok (c_X5_makeHole l D cI cC cK cO h a1 a2 a3 a4 zs y9 za zt zl y10 zp zw zf zg zc x1 2 _ h15) (cwV 2 hts gX5_makeVoid_X5_makeHole rfl rfl rfl hv_X5_makeHole ⟨Nat.le_of_ble_eq_true rfl, Nat.le_of_ble_eq_true rfl⟩) hK hP hD hS hA hE [0, 1, 2, 3, 4] rfl rfl rfl rfl rfl (fun _ => rfl) rfl hl.1 rfl (Nat.le_of_ble_eq_true rfl) dX5_makeVoid_34 ⟨Nat.zero_le _, Nat.zero_le _⟩ (fun u H locs hw hP hD hS => ?_)
      cases hw
      replace hP : va_P D vwCl (wM cI h a1 a2 a3 a4 y14 y9 za zt zl y10 zp zw zf zg zc) H := hP
      replace hD : va_D A (wM cI h a1 a2 a3 a4 y14 y9 za zt zl y10 zp zw zf zg zc) := hD
      refine lv_aload_n hx hb dX5_makeVoid_37 rfl (lv_at hl 0 rfl) ?_
      refine va_get (D := D) (ci := 5) (v := .ref a1) (C := RX5) (T := TX5) (N := 11) hx hb hts iX5 hown hK hP 0 rfl rfl 0 (by decide) w7 (fun _ h9 => h9) rfl dX5_makeVoid_38 ?_
      refine lv_iload_n hx hb dX5_makeVoid_41 rfl (lv_at hl 1 rfl) ?_
      refine ck_SI (st := [.int x1, .ref a1]) (rest := [.ref a1]) (As := [.int x1]) ⟨hx, hb, hml, hown, hts⟩ E0_ok (c_X5_n l D cI cC cK cO  x1 _ rfl) (va_cwS 1 hts gX5_makeVoid_X5_n rfl rfl rfl hs_X5_n ⟨Nat.le_of_ble_eq_true rfl, Nat.le_of_ble_eq_true rfl⟩) hK hP hD hS hA hE rfl hl.1 rfl (Nat.le_of_ble_eq_true rfl) dX5_makeVoid_42 ⟨Nat.zero_le _, Nat.zero_le _⟩ (fun r H locs hw hP hS => ?_)
      cases hw
      refine lv_iconst (v := 1) hx hb dX5_makeVoid_45 (by decide) ?_
      refine lv_iadd hx hb dX5_makeVoid_46 ?_
      obtain ⟨q19, hf⟩ := op_x hf
      refine ck_iald (j := ((f_X5_n x1) + 1).toNatClampNeg) hx hb hK hP 1 0 rfl rfl q19 rfl dX5_makeVoid_47 ?_
      exact hret _ _ _ _ _ (y14, y9, y10) dX5_makeVoid_48 (op_k hf) hP hS
    · replace hf := op_f c7 hf
      refine lv_bipush (v := (-2)) hx hb dX5_makeVoid_24 (by decide) ?_
      exact hret _ _ _ _ _ (zs, zb, zu) dX5_makeVoid_26 (op_k hf) hP hS
  · replace hf := op_t c3 hf
    refine lv_iconst (v := (-1)) hx hb dX5_makeVoid_7 (by decide) ?_
    exact hret _ _ _ _ _ (zs, zb, zu) dX5_makeVoid_8 (op_k hf) hP hS
set_option maxHeartbeats 4000000 in
set_option maxRecDepth 100000 in
theorem c_X5_goClose (l : Launch) (D : va_G) (cI cC cK cO : ClassId) (h : Nat) (a1 : Nat) (a2 : Nat) (a3 : Nat) (a4 : Nat) (zs : Nat → Int32) (zb : Nat → Int32) (za : Nat → Int32) (zt : Nat → Int32) (zl : Int32) (zu : Int32) (zp : Int32) (zw : Int32) (zf : Int32) (zg : Int32) (zc : Int32) (K : Nat) (R : Int32 × (Nat → Int32)) (hf : f_X5_goClose K zs = some R) : KI l D (TY cI cC cK cO) E0 yX5_goClose wsX5_goClose 2 [.ref h] (wM cI h a1 a2 a3 a4 zs zb za zt zl zu zp zw zf zg zc) (fun (r : Int32) (u : (Nat → Int32)) => (r, u) = R) (fun u => (wM cI h a1 a2 a3 a4 u zb za zt zl zu zp zw zf zg zc)) := by
  refine KI.ofI (cc := cX5_goClose) (maxL := 3) (C := RX5) (by decide) rfl rfl (Nat.le_of_ble_eq_true rfl) ?_
  intro p e s m args below meth c A Q hx hb hml hts hown hP hK hD hA hE hS hret ls hl
  replace hl : lv_has ls 3 [(0, .ref h)] := hl
  have w7 := hts (.fieldLink RX5 7 "BlockClerksModel" "s" "[I") (by decide +kernel)
  have iX5 : ∀ w ∈ wsX50, w ∈ wsX5_goClose := by decide +kernel
  have L_58 : ∀ (n : Nat) (zs : Nat → Int32) (x1 : Int32) (x2 : Int32) (hf : f_X5_goClose_58 x1 n x2 zs = some R) (H : Heap) (locs : List Loc) (ls : Array Slot), va_P D vwCl (wM cI h a1 a2 a3 a4 zs zb za zt zl zu zp zw zf zg zc) H → va_D A (wM cI h a1 a2 a3 a4 zs zb za zt zl zu zp zw zf zg zc) → va_S A s.heap H locs → lv_has ls 3 [(0, .ref h), (1, .int x1), (2, .int x2)] → W p l e (rm 2) s m args below meth c H locs 0 0 Q (F0 m 58 ls []) := by
    intro n
    induction n with
    | zero =>
      intro zs x1 x2 hf
      cases hf
    | succ n ih =>
      intro zs x1 x2 hf H locs ls hP hD hS hl
      rw [f_X5_goClose_58] at hf
      refine lv_iload_n hx hb dX5_goClose_58 rfl (lv_at hl 2 rfl) ?_
      refine lv_aload_n hx hb dX5_goClose_59 rfl (lv_at hl 0 rfl) ?_
      refine va_get (D := D) (ci := 5) (v := .ref a1) (C := RX5) (T := TX5) (N := 11) hx hb hts iX5 hown hK hP 0 rfl rfl 0 (by decide) w7 (fun _ h9 => h9) rfl dX5_goClose_60 ?_
      refine lv_iconst (v := 3) hx hb dX5_goClose_63 (by decide) ?_
      refine ck_iald (j := 3) hx hb hK hP 1 0 rfl rfl (in_lit (by decide)) (by decide) dX5_goClose_64 ?_
      refine lv_icmp_ge (tgt := 98) hx hb dX5_goClose_65 (by decide) (fun c18 => ?_) (fun c18 => ?_)
      · replace hf := op_t c18 hf
        refine lv_aload_n hx hb dX5_goClose_98 rfl (lv_at hl 0 rfl) ?_
        refine va_get (D := D) (ci := 5) (v := .ref a1) (C := RX5) (T := TX5) (N := 11) hx hb hts iX5 hown hK hP 0 rfl rfl 0 (by decide) w7 (fun _ h9 => h9) rfl dX5_goClose_99 ?_
        refine lv_iconst (v := 4) hx hb dX5_goClose_102 (by decide) ?_
        refine lv_dup2_11 hx hb dX5_goClose_103 rfl rfl ?_
        refine ck_iald (j := 4) hx hb hK hP 1 0 rfl rfl (in_lit (by decide)) (by decide) dX5_goClose_104 ?_
        refine lv_iconst (v := 1) hx hb dX5_goClose_105 (by decide) ?_
        refine lv_iadd hx hb dX5_goClose_106 ?_
        obtain ⟨y19, e20, hf⟩ := nb_o hf
        refine ck_iast (f' := y19) hx hb hK hP hD hS 1 0 rfl rfl (in_lit (by decide)) dX5_goClose_107 (by rw [e20, show (4 : Int32).toNatClampNeg = 4 from by decide]) (fun H locs hP hD hS => ?_)
        replace hP : va_P D vwCl (wM cI h a1 a2 a3 a4 y19 zb za zt zl zu zp zw zf zg zc) H := hP
        replace hD : va_D A (wM cI h a1 a2 a3 a4 y19 zb za zt zl zu zp zw zf zg zc) := hD
        refine lv_iload_n hx hb dX5_goClose_108 rfl (lv_at hl 1 rfl) ?_
        exact hret _ _ _ _ _ (y19) dX5_goClose_109 (op_k hf) hP hS
      · replace hf := op_f c18 hf
        refine lv_aload_n hx hb dX5_goClose_68 rfl (lv_at hl 0 rfl) ?_
        refine va_get (D := D) (ci := 5) (v := .ref a1) (C := RX5) (T := TX5) (N := 11) hx hb hts iX5 hown hK hP 0 rfl rfl 0 (by decide) w7 (fun _ h9 => h9) rfl dX5_goClose_69 ?_
        refine lv_iload_n hx hb dX5_goClose_72 rfl (lv_at hl 2 rfl) ?_
        refine ck_SI (st := [.int x2, .ref a1]) (rest := [.ref a1]) (As := [.int x2]) ⟨hx, hb, hml, hown, hts⟩ E0_ok (c_X5_c l D cI cC cK cO  x2 _ rfl) (va_cwS 1 hts gX5_goClose_X5_c rfl rfl rfl hs_X5_c ⟨Nat.le_of_ble_eq_true rfl, Nat.le_of_ble_eq_true rfl⟩) hK hP hD hS hA hE rfl hl.1 rfl (Nat.le_of_ble_eq_true rfl) dX5_goClose_73 ⟨Nat.zero_le _, Nat.zero_le _⟩ (fun r H locs hw hP hS => ?_)
        cases hw
        refine lv_iconst (v := 1) hx hb dX5_goClose_76 (by decide) ?_
        refine lv_iadd hx hb dX5_goClose_77 ?_
        refine lv_aload_n hx hb dX5_goClose_78 rfl (lv_at hl 0 rfl) ?_
        refine va_get (D := D) (ci := 5) (v := .ref a1) (C := RX5) (T := TX5) (N := 11) hx hb hts iX5 hown hK hP 0 rfl rfl 0 (by decide) w7 (fun _ h9 => h9) rfl dX5_goClose_79 ?_
        refine lv_iload_n hx hb dX5_goClose_82 rfl (lv_at hl 2 rfl) ?_
        refine ck_SI (st := [.int x2, .ref a1, .int ((f_X5_c x2) + 1), .ref a1]) (rest := [.ref a1, .int ((f_X5_c x2) + 1), .ref a1]) (As := [.int x2]) ⟨hx, hb, hml, hown, hts⟩ E0_ok (c_X5_c l D cI cC cK cO  x2 _ rfl) (va_cwS 1 hts gX5_goClose_X5_c rfl rfl rfl hs_X5_c ⟨Nat.le_of_ble_eq_true rfl, Nat.le_of_ble_eq_true rfl⟩) hK hP hD hS hA hE rfl hl.1 rfl (Nat.le_of_ble_eq_true rfl) dX5_goClose_83 ⟨Nat.zero_le _, Nat.zero_le _⟩ (fun r H locs hw hP hS => ?_)
        cases hw
        refine lv_iconst (v := 2) hx hb dX5_goClose_86 (by decide) ?_
        refine lv_iadd hx hb dX5_goClose_87 ?_
        obtain ⟨q25, hf⟩ := op_x hf
        refine ck_iald (j := ((f_X5_c x2) + 2).toNatClampNeg) hx hb hK hP 1 0 rfl rfl q25 rfl dX5_goClose_88 ?_
        refine lv_iconst (v := 1) hx hb dX5_goClose_89 (by decide) ?_
        refine lv_iadd hx hb dX5_goClose_90 ?_
        obtain ⟨q26, hf⟩ := op_x hf
        obtain ⟨y27, e28, hf⟩ := nb_o hf
        refine ck_iast (f' := y27) hx hb hK hP hD hS 1 0 rfl rfl q26 dX5_goClose_91 e28 (fun H locs hP hD hS => ?_)
        replace hP : va_P D vwCl (wM cI h a1 a2 a3 a4 y27 zb za zt zl zu zp zw zf zg zc) H := hP
        replace hD : va_D A (wM cI h a1 a2 a3 a4 y27 zb za zt zl zu zp zw zf zg zc) := hD
        refine lv_iinc (v := (x2 + 1)) (lv' := [(2, .int (x2 + 1)), (0, .ref h), (1, .int x1)]) hx hb dX5_goClose_92 hl (k := 2) rfl rfl (by decide) rfl (fun ls hl => ?_)
        refine lv_goto (tgt := 58) hx hb dX5_goClose_95 (by decide) ?_
        exact ih y27 x1 (x2 + 1) hf _ _ _ hP hD hS (lv_sub hl [1, 2, 0] rfl)
  have L_4 : ∀ (n : Nat) (zs : Nat → Int32) (x1 : Int32) (x2 : Int32) (hf : f_X5_goClose_4 K n x1 x2 zs = some R) (H : Heap) (locs : List Loc) (ls : Array Slot), va_P D vwCl (wM cI h a1 a2 a3 a4 zs zb za zt zl zu zp zw zf zg zc) H → va_D A (wM cI h a1 a2 a3 a4 zs zb za zt zl zu zp zw zf zg zc) → va_S A s.heap H locs → lv_has ls 3 [(0, .ref h), (1, .int x1), (2, .int x2)] → W p l e (rm 2) s m args below meth c H locs 0 0 Q (F0 m 4 ls []) := by
    intro n
    induction n with
    | zero =>
      intro zs x1 x2 hf
      cases hf
    | succ n ih =>
      intro zs x1 x2 hf H locs ls hP hD hS hl
      rw [f_X5_goClose_4] at hf
      refine lv_iload_n hx hb dX5_goClose_4 rfl (lv_at hl 2 rfl) ?_
      refine lv_sipush (v := 600) hx hb dX5_goClose_5 (by decide) ?_
      refine lv_icmp_gt (tgt := 56) hx hb dX5_goClose_8 (by decide) (fun c1 => ?_) (fun c1 => ?_)
      · replace hf := op_t c1 hf
        refine lv_iconst (v := 0) hx hb dX5_goClose_56 (by decide) ?_
        refine lv_istore_n (lv' := [(2, .int 0), (0, .ref h), (1, .int x1)]) hx hb dX5_goClose_57 rfl hl (by decide) rfl (fun ls hl => ?_)
        exact L_58 K zs x1 0 hf _ _ _ hP hD hS (lv_sub hl [1, 2, 0] rfl)
      · replace hf := op_f c1 hf
        refine lv_aload_n hx hb dX5_goClose_11 rfl (lv_at hl 0 rfl) ?_
        refine va_get (D := D) (ci := 5) (v := .ref a1) (C := RX5) (T := TX5) (N := 11) hx hb hts iX5 hown hK hP 0 rfl rfl 0 (by decide) w7 (fun _ h9 => h9) rfl dX5_goClose_12 ?_
        refine lv_iload_n hx hb dX5_goClose_15 rfl (lv_at hl 2 rfl) ?_
        refine ck_SI (st := [.int x2, .ref a1]) (rest := [.ref a1]) (As := [.int x2]) ⟨hx, hb, hml, hown, hts⟩ E0_ok (c_X5_n l D cI cC cK cO  x2 _ rfl) (va_cwS 1 hts gX5_goClose_X5_n rfl rfl rfl hs_X5_n ⟨Nat.le_of_ble_eq_true rfl, Nat.le_of_ble_eq_true rfl⟩) hK hP hD hS hA hE rfl hl.1 rfl (Nat.le_of_ble_eq_true rfl) dX5_goClose_16 ⟨Nat.zero_le _, Nat.zero_le _⟩ (fun r H locs hw hP hS => ?_)
        cases hw
        refine lv_iconst (v := 0) hx hb dX5_goClose_19 (by decide) ?_
        refine lv_iadd hx hb dX5_goClose_20 ?_
        obtain ⟨q4, hf⟩ := op_x hf
        refine ck_iald (j := ((f_X5_n x2) + 0).toNatClampNeg) hx hb hK hP 1 0 rfl rfl q4 rfl dX5_goClose_21 ?_
        refine lv_iconst (v := 1) hx hb dX5_goClose_22 (by decide) ?_
        refine lv_icmp_eq (tgt := 41) hx hb dX5_goClose_23 (by decide) (fun c5 => ?_) (fun c5 => ?_)
        · replace hf := op_t c5 hf
          refine lv_aload_n hx hb dX5_goClose_41 rfl (lv_at hl 0 rfl) ?_
          refine lv_iload_n hx hb dX5_goClose_42 rfl (lv_at hl 2 rfl) ?_
          refine lv_iconst (v := 3) hx hb dX5_goClose_43 (by decide) ?_
          obtain ⟨y7, h8, hf⟩ := op_b hf
          refine ck_VV (st := [.int 3, .int x2, .ref h]) (rest := []) (As := [.int x2, .int 3]) (C := RX5) (ci := 5) ⟨hx, hb, hml, hown, hts⟩ E0_ok (c_X5_makeHole l D cI cC cK cO h a1 a2 a3 a4 zs zb za zt zl zu zp zw zf zg zc x2 3 _ h8) (cwV 2 hts gX5_goClose_X5_makeHole rfl rfl rfl hv_X5_makeHole ⟨Nat.le_of_ble_eq_true rfl, Nat.le_of_ble_eq_true rfl⟩) hK hP hD hS hA hE [0, 1, 2, 3, 4] rfl rfl rfl rfl rfl (fun _ => rfl) rfl hl.1 rfl (Nat.le_of_ble_eq_true rfl) dX5_goClose_44 ⟨Nat.zero_le _, Nat.zero_le _⟩ (fun u H locs hw hP hD hS => ?_)
          cases hw
          replace hP : va_P D vwCl (wM cI h a1 a2 a3 a4 y7 zb za zt zl zu zp zw zf zg zc) H := hP
          replace hD : va_D A (wM cI h a1 a2 a3 a4 y7 zb za zt zl zu zp zw zf zg zc) := hD
          refine lv_iinc (v := (x1 + 1)) (lv' := [(1, .int (x1 + 1)), (0, .ref h), (2, .int x2)]) hx hb dX5_goClose_47 hl (k := 1) rfl rfl (by decide) rfl (fun ls hl => ?_)
          refine lv_iinc (v := (x2 + 1)) (lv' := [(2, .int (x2 + 1)), (1, .int (x1 + 1)), (0, .ref h)]) hx hb dX5_goClose_50 hl (k := 2) rfl rfl (by decide) rfl (fun ls hl => ?_)
          refine lv_goto (tgt := 4) hx hb dX5_goClose_53 (by decide) ?_
          exact ih y7 (x1 + 1) (x2 + 1) hf _ _ _ hP hD hS (lv_sub hl [2, 1, 0] rfl)
        · replace hf := op_f c5 hf
          refine lv_aload_n hx hb dX5_goClose_26 rfl (lv_at hl 0 rfl) ?_
          refine va_get (D := D) (ci := 5) (v := .ref a1) (C := RX5) (T := TX5) (N := 11) hx hb hts iX5 hown hK hP 0 rfl rfl 0 (by decide) w7 (fun _ h9 => h9) rfl dX5_goClose_27 ?_
          refine lv_iload_n hx hb dX5_goClose_30 rfl (lv_at hl 2 rfl) ?_
          refine ck_SI (st := [.int x2, .ref a1]) (rest := [.ref a1]) (As := [.int x2]) ⟨hx, hb, hml, hown, hts⟩ E0_ok (c_X5_n l D cI cC cK cO  x2 _ rfl) (va_cwS 1 hts gX5_goClose_X5_n rfl rfl rfl hs_X5_n ⟨Nat.le_of_ble_eq_true rfl, Nat.le_of_ble_eq_true rfl⟩) hK hP hD hS hA hE rfl hl.1 rfl (Nat.le_of_ble_eq_true rfl) dX5_goClose_31 ⟨Nat.zero_le _, Nat.zero_le _⟩ (fun r H locs hw hP hS => ?_)
          cases hw
          refine lv_iconst (v := 0) hx hb dX5_goClose_34 (by decide) ?_
          refine lv_iadd hx hb dX5_goClose_35 ?_
          obtain ⟨q12, hf⟩ := op_x hf
          refine ck_iald (j := ((f_X5_n x2) + 0).toNatClampNeg) hx hb hK hP 1 0 rfl rfl q12 rfl dX5_goClose_36 ?_
          refine lv_iconst (v := 3) hx hb dX5_goClose_37 (by decide) ?_
          refine lv_icmp_ne (tgt := 50) hx hb dX5_goClose_38 (by decide) (fun c13 => ?_) (fun c13 => ?_)
          · replace hf := op_f c13 hf
            refine lv_iinc (v := (x2 + 1)) (lv' := [(2, .int (x2 + 1)), (0, .ref h), (1, .int x1)]) hx hb dX5_goClose_50 hl (k := 2) rfl rfl (by decide) rfl (fun ls hl => ?_)
            refine lv_goto (tgt := 4) hx hb dX5_goClose_53 (by decide) ?_
            exact ih zs x1 (x2 + 1) hf _ _ _ hP hD hS (lv_sub hl [1, 2, 0] rfl)
          · replace hf := op_t c13 hf
            refine lv_aload_n hx hb dX5_goClose_41 rfl (lv_at hl 0 rfl) ?_
            refine lv_iload_n hx hb dX5_goClose_42 rfl (lv_at hl 2 rfl) ?_
            refine lv_iconst (v := 3) hx hb dX5_goClose_43 (by decide) ?_
            obtain ⟨y15, h16, hf⟩ := op_b hf
            refine ck_VV (st := [.int 3, .int x2, .ref h]) (rest := []) (As := [.int x2, .int 3]) (C := RX5) (ci := 5) ⟨hx, hb, hml, hown, hts⟩ E0_ok (c_X5_makeHole l D cI cC cK cO h a1 a2 a3 a4 zs zb za zt zl zu zp zw zf zg zc x2 3 _ h16) (cwV 2 hts gX5_goClose_X5_makeHole rfl rfl rfl hv_X5_makeHole ⟨Nat.le_of_ble_eq_true rfl, Nat.le_of_ble_eq_true rfl⟩) hK hP hD hS hA hE [0, 1, 2, 3, 4] rfl rfl rfl rfl rfl (fun _ => rfl) rfl hl.1 rfl (Nat.le_of_ble_eq_true rfl) dX5_goClose_44 ⟨Nat.zero_le _, Nat.zero_le _⟩ (fun u H locs hw hP hD hS => ?_)
            cases hw
            replace hP : va_P D vwCl (wM cI h a1 a2 a3 a4 y15 zb za zt zl zu zp zw zf zg zc) H := hP
            replace hD : va_D A (wM cI h a1 a2 a3 a4 y15 zb za zt zl zu zp zw zf zg zc) := hD
            refine lv_iinc (v := (x1 + 1)) (lv' := [(1, .int (x1 + 1)), (0, .ref h), (2, .int x2)]) hx hb dX5_goClose_47 hl (k := 1) rfl rfl (by decide) rfl (fun ls hl => ?_)
            refine lv_iinc (v := (x2 + 1)) (lv' := [(2, .int (x2 + 1)), (1, .int (x1 + 1)), (0, .ref h)]) hx hb dX5_goClose_50 hl (k := 2) rfl rfl (by decide) rfl (fun ls hl => ?_)
            refine lv_goto (tgt := 4) hx hb dX5_goClose_53 (by decide) ?_
            exact ih y15 (x1 + 1) (x2 + 1) hf _ _ _ hP hD hS (lv_sub hl [2, 1, 0] rfl)
  rw [f_X5_goClose] at hf
  refine lv_iconst (v := 0) hx hb dX5_goClose_0 (by decide) ?_
  refine lv_istore_n (lv' := [(1, .int 0), (0, .ref h)]) hx hb dX5_goClose_1 rfl hl (by decide) rfl (fun ls hl => ?_)
  refine lv_iconst (v := 1) hx hb dX5_goClose_2 (by decide) ?_
  refine lv_istore_n (lv' := [(2, .int 1), (1, .int 0), (0, .ref h)]) hx hb dX5_goClose_3 rfl hl (by decide) rfl (fun ls hl => ?_)
  exact L_4 K zs 0 1 hf _ _ _ hP hD hS (lv_sub hl [2, 1, 0] rfl)
set_option maxHeartbeats 4000000 in
set_option maxRecDepth 100000 in
theorem c_X5_close (l : Launch) (D : va_G) (cI cC cK cO : ClassId) (h : Nat) (a1 : Nat) (a2 : Nat) (a3 : Nat) (a4 : Nat) (zs : Nat → Int32) (zb : Nat → Int32) (za : Nat → Int32) (zt : Nat → Int32) (zl : Int32) (zu : Int32) (zp : Int32) (zw : Int32) (zf : Int32) (zg : Int32) (zc : Int32) (K : Nat) (R : Int32 × (Nat → Int32) × (Nat → Int32) × Int32) (hf : f_X5_close K zs zb zu = some R) : KI l D (TY cI cC cK cO) E0 yX5_close wsX5_close 3 [.ref h] (wM cI h a1 a2 a3 a4 zs zb za zt zl zu zp zw zf zg zc) (fun (r : Int32) (u : (Nat → Int32) × (Nat → Int32) × Int32) => (r, u) = R) (fun u => (wM cI h a1 a2 a3 a4 (u.1) (u.2.1) za zt zl (u.2.2) zp zw zf zg zc)) := by
  refine KI.ofI (cc := cX5_close) (maxL := 1) (C := RX5) (by decide) rfl rfl (Nat.le_of_ble_eq_true rfl) ?_
  intro p e s m args below meth c A Q hx hb hml hts hown hP hK hD hA hE hS hret ls hl
  replace hl : lv_has ls 1 [(0, .ref h)] := hl
  rw [f_X5_close] at hf
  refine lv_aload_n hx hb dX5_close_0 rfl (lv_at hl 0 rfl) ?_
  obtain ⟨⟨y2, y3⟩, h4, hf⟩ := op_b hf
  refine ck_VV (st := [.ref h]) (rest := []) (As := []) (C := RX5) (ci := 5) ⟨hx, hb, hml, hown, hts⟩ E0_ok (c_X5_record l D cI cC cK cO h a1 a2 a3 a4 zs zb za zt zl zu zp zw zf zg zc  K _ h4) (cwV 0 hts gX5_close_X5_record rfl rfl rfl hv_X5_record ⟨Nat.le_of_ble_eq_true rfl, Nat.le_of_ble_eq_true rfl⟩) hK hP hD hS hA hE [0, 1, 2, 3, 4] rfl rfl rfl rfl rfl (fun _ => rfl) rfl hl.1 rfl (Nat.le_of_ble_eq_true rfl) dX5_close_1 ⟨Nat.zero_le _, Nat.zero_le _⟩ (fun u H locs hw hP hD hS => ?_)
  cases hw
  replace hP : va_P D vwCl (wM cI h a1 a2 a3 a4 zs y2 za zt zl y3 zp zw zf zg zc) H := hP
  replace hD : va_D A (wM cI h a1 a2 a3 a4 zs y2 za zt zl y3 zp zw zf zg zc) := hD
  refine lv_aload_n hx hb dX5_close_4 rfl (lv_at hl 0 rfl) ?_
  obtain ⟨⟨r6, y7⟩, h8, hf⟩ := op_b hf
  refine ck_VI (st := [.ref h]) (rest := []) (As := []) (C := RX5) (ci := 5) ⟨hx, hb, hml, hown, hts⟩ E0_ok (c_X5_goClose l D cI cC cK cO h a1 a2 a3 a4 zs y2 za zt zl y3 zp zw zf zg zc  K _ h8) (cwV 0 hts gX5_close_X5_goClose rfl rfl rfl hv_X5_goClose ⟨Nat.le_of_ble_eq_true rfl, Nat.le_of_ble_eq_true rfl⟩) hK hP hD hS hA hE [0, 1, 2, 3, 4] rfl rfl rfl rfl rfl (fun _ => rfl) rfl hl.1 rfl (Nat.le_of_ble_eq_true rfl) dX5_close_5 ⟨Nat.zero_le _, Nat.zero_le _⟩ (fun r u H locs hw hP hD hS => ?_)
  cases hw
  replace hP : va_P D vwCl (wM cI h a1 a2 a3 a4 y7 y2 za zt zl y3 zp zw zf zg zc) H := hP
  replace hD : va_D A (wM cI h a1 a2 a3 a4 y7 y2 za zt zl y3 zp zw zf zg zc) := hD
  exact hret _ _ _ _ _ (y7, y2, y3) dX5_close_8 (op_k hf) hP hS
set_option maxHeartbeats 4000000 in
set_option maxRecDepth 100000 in
theorem c_X5_set (l : Launch) (D : va_G) (cI cC cK cO : ClassId) (h : Nat) (a1 : Nat) (a2 : Nat) (a3 : Nat) (a4 : Nat) (zs : Nat → Int32) (zb : Nat → Int32) (za : Nat → Int32) (zt : Nat → Int32) (zl : Int32) (zu : Int32) (zp : Int32) (zw : Int32) (zf : Int32) (zg : Int32) (zc : Int32) (x1 : Int32) (x2 : Int32) (K : Nat) (R : Int32 × (Nat → Int32) × (Nat → Int32) × Int32) (hf : f_X5_set K zs zb zu x1 x2 = some R) : KI l D (TY cI cC cK cO) E0 yX5_set wsX5_set 1 [.ref h, .int x1, .int x2] (wM cI h a1 a2 a3 a4 zs zb za zt zl zu zp zw zf zg zc) (fun (r : Int32) (u : (Nat → Int32) × (Nat → Int32) × Int32) => (r, u) = R) (fun u => (wM cI h a1 a2 a3 a4 (u.1) (u.2.1) za zt zl (u.2.2) zp zw zf zg zc)) := by
  refine KI.ofI (cc := cX5_set) (maxL := 5) (C := RX5) (by decide) rfl rfl (Nat.le_of_ble_eq_true rfl) ?_
  intro p e s m args below meth c A Q hx hb hml hts hown hP hK hD hA hE hS hret ls hl
  replace hl : lv_has ls 5 [(0, .ref h), (1, .int x1), (2, .int x2)] := hl
  have w7 := hts (.fieldLink RX5 7 "BlockClerksModel" "s" "[I") (by decide +kernel)
  have iX5 : ∀ w ∈ wsX50, w ∈ wsX5_set := by decide +kernel
  rw [f_X5_set] at hf
  refine lv_iload_n hx hb dX5_set_0 rfl (lv_at hl 1 rfl) ?_
  refine lv_if_ne (tgt := 14) hx hb dX5_set_1 (by decide) (fun c1 => ?_) (fun c1 => ?_)
  · replace hf := op_f c1 hf
    refine lv_iload_n hx hb dX5_set_14 rfl (lv_at hl 1 rfl) ?_
    refine lv_iconst (v := 1) hx hb dX5_set_15 (by decide) ?_
    refine lv_icmp_ne (tgt := 28) hx hb dX5_set_16 (by decide) (fun c2 => ?_) (fun c2 => ?_)
    · replace hf := op_f c2 hf
      refine lv_iload_n hx hb dX5_set_28 rfl (lv_at hl 1 rfl) ?_
      refine lv_iconst (v := 2) hx hb dX5_set_29 (by decide) ?_
      refine lv_icmp_ne (tgt := 47) hx hb dX5_set_30 (by decide) (fun c3 => ?_) (fun c3 => ?_)
      · replace hf := op_f c3 hf
        refine lv_iconst (v := 0) hx hb dX5_set_47 (by decide) ?_
        refine lv_istore_n (lv' := [(3, .int 0), (0, .ref h), (1, .int x1), (2, .int x2)]) hx hb dX5_set_48 rfl hl (by decide) rfl (fun ls hl => ?_)
        refine lv_iload_n hx hb dX5_set_49 rfl (lv_at hl 0 rfl) ?_
        refine lv_if_ne (tgt := 55) hx hb dX5_set_50 (by decide) (fun c9 => absurd c9 (by decide)) (fun _ => ?_)
        refine lv_iconst (v := (-1)) hx hb dX5_set_53 (by decide) ?_
        exact hret _ _ _ _ _ (zs, zb, zu) dX5_set_54 (op_k hf) hP hS
      · replace hf := op_t c3 hf
        refine lv_iload_n hx hb dX5_set_33 rfl (lv_at hl 2 rfl) ?_
        refine lv_iconst (v := 2) hx hb dX5_set_34 (by decide) ?_
        refine lv_bipush (v := 10) hx hb dX5_set_35 (by decide) ?_
        refine ck_SI (st := [.int 10, .int 2, .int x2]) (rest := []) (As := [.int x2, .int 2, .int 10]) ⟨hx, hb, hml, hown, hts⟩ E0_ok (c_X5_in l D cI cC cK cO  x2 2 10 _ rfl) (va_cwS 3 hts gX5_set_X5_in rfl rfl rfl hs_X5_in ⟨Nat.le_of_ble_eq_true rfl, Nat.le_of_ble_eq_true rfl⟩) hK hP hD hS hA hE rfl hl.1 rfl (Nat.le_of_ble_eq_true rfl) dX5_set_37 ⟨Nat.zero_le _, Nat.zero_le _⟩ (fun r H locs hw hP hS => ?_)
        obtain ⟨hw, z5⟩ := hw
        cases hw
        refine lv_if_eq (tgt := 47) hx hb dX5_set_40 (by decide) (fun c6 => ?_) (fun c6 => ?_)
        · replace hf := op_t c6 hf
          refine lv_iconst (v := 0) hx hb dX5_set_47 (by decide) ?_
          refine lv_istore_n (lv' := [(3, .int 0), (0, .ref h), (1, .int x1), (2, .int x2)]) hx hb dX5_set_48 rfl hl (by decide) rfl (fun ls hl => ?_)
          refine lv_iload_n hx hb dX5_set_49 rfl (lv_at hl 0 rfl) ?_
          refine lv_if_ne (tgt := 55) hx hb dX5_set_50 (by decide) (fun c9 => absurd c9 (by decide)) (fun _ => ?_)
          refine lv_iconst (v := (-1)) hx hb dX5_set_53 (by decide) ?_
          exact hret _ _ _ _ _ (zs, zb, zu) dX5_set_54 (op_k hf) hP hS
        · replace hf := op_f c6 hf
          refine lv_iconst (v := 1) hx hb dX5_set_43 (by decide) ?_
          refine lv_goto (tgt := 48) hx hb dX5_set_44 (by decide) ?_
          refine lv_istore_n (lv' := [(3, .int 1), (0, .ref h), (1, .int x1), (2, .int x2)]) hx hb dX5_set_48 rfl hl (by decide) rfl (fun ls hl => ?_)
          refine lv_iload_n hx hb dX5_set_49 rfl (lv_at hl 0 rfl) ?_
          refine lv_if_ne (tgt := 55) hx hb dX5_set_50 (by decide) (fun _ => ?_) (fun c9 => absurd c9 (by decide))
          refine lv_aload_n hx hb dX5_set_55 rfl (lv_at hl 1 rfl) ?_
          obtain ⟨⟨y8, y9⟩, h10, hf⟩ := op_b hf
          refine ck_VV (st := [.ref h]) (rest := []) (As := []) (C := RX5) (ci := 5) ⟨hx, hb, hml, hown, hts⟩ E0_ok (c_X5_record l D cI cC cK cO h a1 a2 a3 a4 zs zb za zt zl zu zp zw zf zg zc  K _ h10) (cwV 0 hts gX5_set_X5_record rfl rfl rfl hv_X5_record ⟨Nat.le_of_ble_eq_true rfl, Nat.le_of_ble_eq_true rfl⟩) hK hP hD hS hA hE [0, 1, 2, 3, 4] rfl rfl rfl rfl rfl (fun _ => rfl) rfl hl.1 rfl (Nat.le_of_ble_eq_true rfl) dX5_set_56 ⟨Nat.zero_le _, Nat.zero_le _⟩ (fun u H locs hw hP hD hS => ?_)
          cases hw
          replace hP : va_P D vwCl (wM cI h a1 a2 a3 a4 zs y8 za zt zl y9 zp zw zf zg zc) H := hP
          replace hD : va_D A (wM cI h a1 a2 a3 a4 zs y8 za zt zl y9 zp zw zf zg zc) := hD
          refine lv_aload_n hx hb dX5_set_59 rfl (lv_at hl 1 rfl) ?_
          refine va_get (D := D) (ci := 5) (v := .ref a1) (C := RX5) (T := TX5) (N := 11) hx hb hts iX5 hown hK hP 0 rfl rfl 0 (by decide) w7 (fun _ h9 => h9) rfl dX5_set_60 ?_
          refine lv_iload_n hx hb dX5_set_63 rfl (lv_at hl 2 rfl) ?_
          obtain ⟨q12, hf⟩ := op_x hf
          refine ck_iald (j := (x1).toNatClampNeg) hx hb hK hP 1 0 rfl rfl q12 rfl dX5_set_64 ?_
          refine lv_istore (lv' := [(4, .int (zs (x1).toNatClampNeg)), (3, .int 1), (0, .ref h), (1, .int x1), (2, .int x2)]) hx hb dX5_set_65 hl (by decide) rfl (fun ls hl => ?_)
          refine lv_aload_n hx hb dX5_set_67 rfl (lv_at hl 2 rfl) ?_
          refine va_get (D := D) (ci := 5) (v := .ref a1) (C := RX5) (T := TX5) (N := 11) hx hb hts iX5 hown hK hP 0 rfl rfl 0 (by decide) w7 (fun _ h9 => h9) rfl dX5_set_68 ?_
          refine lv_iload_n hx hb dX5_set_71 rfl (lv_at hl 3 rfl) ?_
          refine lv_iload_n hx hb dX5_set_72 rfl (lv_at hl 4 rfl) ?_
          obtain ⟨q13, hf⟩ := op_x hf
          obtain ⟨y14, e15, hf⟩ := nb_o hf
          refine ck_iast (f' := y14) hx hb hK hP hD hS 1 0 rfl rfl q13 dX5_set_73 e15 (fun H locs hP hD hS => ?_)
          replace hP : va_P D vwCl (wM cI h a1 a2 a3 a4 y14 y8 za zt zl y9 zp zw zf zg zc) H := hP
          replace hD : va_D A (wM cI h a1 a2 a3 a4 y14 y8 za zt zl y9 zp zw zf zg zc) := hD
          refine lv_iload hx hb dX5_set_74 (lv_at hl 0 rfl) ?_
          exact hret _ _ _ _ _ (y14, y8, y9) dX5_set_76 (op_k hf) hP hS
    · replace hf := op_t c2 hf
      refine lv_iload_n hx hb dX5_set_19 rfl (lv_at hl 2 rfl) ?_
      refine lv_iconst (v := 0) hx hb dX5_set_20 (by decide) ?_
      refine lv_iconst (v := 1) hx hb dX5_set_21 (by decide) ?_
      refine ck_SI (st := [.int 1, .int 0, .int x2]) (rest := []) (As := [.int x2, .int 0, .int 1]) ⟨hx, hb, hml, hown, hts⟩ E0_ok (c_X5_in l D cI cC cK cO  x2 0 1 _ rfl) (va_cwS 3 hts gX5_set_X5_in rfl rfl rfl hs_X5_in ⟨Nat.le_of_ble_eq_true rfl, Nat.le_of_ble_eq_true rfl⟩) hK hP hD hS hA hE rfl hl.1 rfl (Nat.le_of_ble_eq_true rfl) dX5_set_22 ⟨Nat.zero_le _, Nat.zero_le _⟩ (fun r H locs hw hP hS => ?_)
      obtain ⟨hw, z17⟩ := hw
      cases hw
      refine lv_goto (tgt := 48) hx hb dX5_set_25 (by decide) ?_
      refine lv_istore_n (lv' := [(3, .int (f_X5_in x2 0 1)), (0, .ref h), (1, .int x1), (2, .int x2)]) hx hb dX5_set_48 rfl hl (by decide) rfl (fun ls hl => ?_)
      refine lv_iload_n hx hb dX5_set_49 rfl (lv_at hl 0 rfl) ?_
      refine lv_if_ne (tgt := 55) hx hb dX5_set_50 (by decide) (fun c18 => ?_) (fun c18 => ?_)
      · replace hf := op_f c18 hf
        refine lv_aload_n hx hb dX5_set_55 rfl (lv_at hl 1 rfl) ?_
        obtain ⟨⟨y20, y21⟩, h22, hf⟩ := op_b hf
        refine ck_VV (st := [.ref h]) (rest := []) (As := []) (C := RX5) (ci := 5) ⟨hx, hb, hml, hown, hts⟩ E0_ok (c_X5_record l D cI cC cK cO h a1 a2 a3 a4 zs zb za zt zl zu zp zw zf zg zc  K _ h22) (cwV 0 hts gX5_set_X5_record rfl rfl rfl hv_X5_record ⟨Nat.le_of_ble_eq_true rfl, Nat.le_of_ble_eq_true rfl⟩) hK hP hD hS hA hE [0, 1, 2, 3, 4] rfl rfl rfl rfl rfl (fun _ => rfl) rfl hl.1 rfl (Nat.le_of_ble_eq_true rfl) dX5_set_56 ⟨Nat.zero_le _, Nat.zero_le _⟩ (fun u H locs hw hP hD hS => ?_)
        cases hw
        replace hP : va_P D vwCl (wM cI h a1 a2 a3 a4 zs y20 za zt zl y21 zp zw zf zg zc) H := hP
        replace hD : va_D A (wM cI h a1 a2 a3 a4 zs y20 za zt zl y21 zp zw zf zg zc) := hD
        refine lv_aload_n hx hb dX5_set_59 rfl (lv_at hl 1 rfl) ?_
        refine va_get (D := D) (ci := 5) (v := .ref a1) (C := RX5) (T := TX5) (N := 11) hx hb hts iX5 hown hK hP 0 rfl rfl 0 (by decide) w7 (fun _ h9 => h9) rfl dX5_set_60 ?_
        refine lv_iload_n hx hb dX5_set_63 rfl (lv_at hl 2 rfl) ?_
        obtain ⟨q24, hf⟩ := op_x hf
        refine ck_iald (j := (x1).toNatClampNeg) hx hb hK hP 1 0 rfl rfl q24 rfl dX5_set_64 ?_
        refine lv_istore (lv' := [(4, .int (zs (x1).toNatClampNeg)), (3, .int (f_X5_in x2 0 1)), (0, .ref h), (1, .int x1), (2, .int x2)]) hx hb dX5_set_65 hl (by decide) rfl (fun ls hl => ?_)
        refine lv_aload_n hx hb dX5_set_67 rfl (lv_at hl 2 rfl) ?_
        refine va_get (D := D) (ci := 5) (v := .ref a1) (C := RX5) (T := TX5) (N := 11) hx hb hts iX5 hown hK hP 0 rfl rfl 0 (by decide) w7 (fun _ h9 => h9) rfl dX5_set_68 ?_
        refine lv_iload_n hx hb dX5_set_71 rfl (lv_at hl 3 rfl) ?_
        refine lv_iload_n hx hb dX5_set_72 rfl (lv_at hl 4 rfl) ?_
        obtain ⟨q25, hf⟩ := op_x hf
        obtain ⟨y26, e27, hf⟩ := nb_o hf
        refine ck_iast (f' := y26) hx hb hK hP hD hS 1 0 rfl rfl q25 dX5_set_73 e27 (fun H locs hP hD hS => ?_)
        replace hP : va_P D vwCl (wM cI h a1 a2 a3 a4 y26 y20 za zt zl y21 zp zw zf zg zc) H := hP
        replace hD : va_D A (wM cI h a1 a2 a3 a4 y26 y20 za zt zl y21 zp zw zf zg zc) := hD
        refine lv_iload hx hb dX5_set_74 (lv_at hl 0 rfl) ?_
        exact hret _ _ _ _ _ (y26, y20, y21) dX5_set_76 (op_k hf) hP hS
      · replace hf := op_t c18 hf
        refine lv_iconst (v := (-1)) hx hb dX5_set_53 (by decide) ?_
        exact hret _ _ _ _ _ (zs, zb, zu) dX5_set_54 (op_k hf) hP hS
  · replace hf := op_t c1 hf
    refine lv_iload_n hx hb dX5_set_4 rfl (lv_at hl 2 rfl) ?_
    refine lv_iconst (v := 1) hx hb dX5_set_5 (by decide) ?_
    refine lv_bipush (v := 50) hx hb dX5_set_6 (by decide) ?_
    refine ck_SI (st := [.int 50, .int 1, .int x2]) (rest := []) (As := [.int x2, .int 1, .int 50]) ⟨hx, hb, hml, hown, hts⟩ E0_ok (c_X5_in l D cI cC cK cO  x2 1 50 _ rfl) (va_cwS 3 hts gX5_set_X5_in rfl rfl rfl hs_X5_in ⟨Nat.le_of_ble_eq_true rfl, Nat.le_of_ble_eq_true rfl⟩) hK hP hD hS hA hE rfl hl.1 rfl (Nat.le_of_ble_eq_true rfl) dX5_set_8 ⟨Nat.zero_le _, Nat.zero_le _⟩ (fun r H locs hw hP hS => ?_)
    obtain ⟨hw, z29⟩ := hw
    cases hw
    refine lv_goto (tgt := 48) hx hb dX5_set_11 (by decide) ?_
    refine lv_istore_n (lv' := [(3, .int (f_X5_in x2 1 50)), (0, .ref h), (1, .int x1), (2, .int x2)]) hx hb dX5_set_48 rfl hl (by decide) rfl (fun ls hl => ?_)
    refine lv_iload_n hx hb dX5_set_49 rfl (lv_at hl 0 rfl) ?_
    refine lv_if_ne (tgt := 55) hx hb dX5_set_50 (by decide) (fun c30 => ?_) (fun c30 => ?_)
    · replace hf := op_f c30 hf
      refine lv_aload_n hx hb dX5_set_55 rfl (lv_at hl 1 rfl) ?_
      obtain ⟨⟨y32, y33⟩, h34, hf⟩ := op_b hf
      refine ck_VV (st := [.ref h]) (rest := []) (As := []) (C := RX5) (ci := 5) ⟨hx, hb, hml, hown, hts⟩ E0_ok (c_X5_record l D cI cC cK cO h a1 a2 a3 a4 zs zb za zt zl zu zp zw zf zg zc  K _ h34) (cwV 0 hts gX5_set_X5_record rfl rfl rfl hv_X5_record ⟨Nat.le_of_ble_eq_true rfl, Nat.le_of_ble_eq_true rfl⟩) hK hP hD hS hA hE [0, 1, 2, 3, 4] rfl rfl rfl rfl rfl (fun _ => rfl) rfl hl.1 rfl (Nat.le_of_ble_eq_true rfl) dX5_set_56 ⟨Nat.zero_le _, Nat.zero_le _⟩ (fun u H locs hw hP hD hS => ?_)
      cases hw
      replace hP : va_P D vwCl (wM cI h a1 a2 a3 a4 zs y32 za zt zl y33 zp zw zf zg zc) H := hP
      replace hD : va_D A (wM cI h a1 a2 a3 a4 zs y32 za zt zl y33 zp zw zf zg zc) := hD
      refine lv_aload_n hx hb dX5_set_59 rfl (lv_at hl 1 rfl) ?_
      refine va_get (D := D) (ci := 5) (v := .ref a1) (C := RX5) (T := TX5) (N := 11) hx hb hts iX5 hown hK hP 0 rfl rfl 0 (by decide) w7 (fun _ h9 => h9) rfl dX5_set_60 ?_
      refine lv_iload_n hx hb dX5_set_63 rfl (lv_at hl 2 rfl) ?_
      obtain ⟨q36, hf⟩ := op_x hf
      refine ck_iald (j := (x1).toNatClampNeg) hx hb hK hP 1 0 rfl rfl q36 rfl dX5_set_64 ?_
      refine lv_istore (lv' := [(4, .int (zs (x1).toNatClampNeg)), (3, .int (f_X5_in x2 1 50)), (0, .ref h), (1, .int x1), (2, .int x2)]) hx hb dX5_set_65 hl (by decide) rfl (fun ls hl => ?_)
      refine lv_aload_n hx hb dX5_set_67 rfl (lv_at hl 2 rfl) ?_
      refine va_get (D := D) (ci := 5) (v := .ref a1) (C := RX5) (T := TX5) (N := 11) hx hb hts iX5 hown hK hP 0 rfl rfl 0 (by decide) w7 (fun _ h9 => h9) rfl dX5_set_68 ?_
      refine lv_iload_n hx hb dX5_set_71 rfl (lv_at hl 3 rfl) ?_
      refine lv_iload_n hx hb dX5_set_72 rfl (lv_at hl 4 rfl) ?_
      obtain ⟨q37, hf⟩ := op_x hf
      obtain ⟨y38, e39, hf⟩ := nb_o hf
      refine ck_iast (f' := y38) hx hb hK hP hD hS 1 0 rfl rfl q37 dX5_set_73 e39 (fun H locs hP hD hS => ?_)
      replace hP : va_P D vwCl (wM cI h a1 a2 a3 a4 y38 y32 za zt zl y33 zp zw zf zg zc) H := hP
      replace hD : va_D A (wM cI h a1 a2 a3 a4 y38 y32 za zt zl y33 zp zw zf zg zc) := hD
      refine lv_iload hx hb dX5_set_74 (lv_at hl 0 rfl) ?_
      exact hret _ _ _ _ _ (y38, y32, y33) dX5_set_76 (op_k hf) hP hS
    · replace hf := op_t c30 hf
      refine lv_iconst (v := (-1)) hx hb dX5_set_53 (by decide) ?_
      exact hret _ _ _ _ _ (zs, zb, zu) dX5_set_54 (op_k hf) hP hS
