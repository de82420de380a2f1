set_option maxHeartbeats 4000000 in
set_option maxRecDepth 100000 in
theorem c_X5_init (l : Launch) (D : va_G) (cI cC cK cO : ClassId) (h : Nat) : KC l D (TY cI cC cK cO) (E0) yX5_init wsX5_init 2 4 18398 h [(h, .inr (5, [.null, .null, .null, .null, .int 0, .int 0, .int 0, .int 0, .int 0, .int 0, .int 0]))] (fun (u : Nat × Nat × Nat × Nat) => True) (fun u => wM cI h u.1 u.2.1 u.2.2.1 u.2.2.2 (zsI 601) (fun _ => 0) (fun _ => 0) (fun _ => 0) 0 0 0 0 0 0 0) := by
  refine KC.of (cc := cX5_init) (maxL := 2) (C := RX5) (by decide) rfl rfl (by decide) rfl ?_
  intro p e s m args below meth c A Q hx hb hml hts hown hin hP hK hD hA hE hS hret ls hl
  have wd0 := hts (.methodLink RX5 1 objectInit) (by decide +kernel)
  have wd1 := hts (.instanceMethod objectInit) (by decide +kernel)
  have wd2 := hts (.code objectInit ⟨#[0xb1]⟩ 1 none) (by decide +kernel)
  have wd3 := hts (.arrayClass .int) (by decide +kernel)
  have wd4 := hts (.fieldLink RX5 7 "BlockClerksModel" "s" "[I") (by decide +kernel)
  have wd5 := hts (.fieldLink RX5 13 "BlockClerksModel" "before" "[I") (by decide +kernel)
  have wd6 := hts (.fieldLink RX5 16 "BlockClerksModel" "aside" "[I") (by decide +kernel)
  have wd7 := hts (.fieldLink RX5 19 "BlockClerksModel" "text" "[I") (by decide +kernel)
  have iX5 : ∀ w ∈ wsX50, w ∈ wsX5_init := by decide +kernel
  refine lv_aload_n hx hb dX5_init_0 rfl (lv_at hl 0 rfl) ?_
  refine W.objInit hx hb hown wd0 wd1 wd2 rfl (by rw [hml]; exact hl.1) rfl dX5_init_1 (Nat.le_of_ble_eq_true rfl) (Nat.le_of_ble_eq_true rfl) ?_
  refine W.eq (g2 := F0 m 4 ls []) rfl ?_
  refine lv_aload_n hx hb dX5_init_4 rfl (lv_at hl 0 rfl) ?_
  refine lv_sipush (v := 3053) hx hb dX5_init_5 (by decide) ?_
  refine va_newa (atype := .int) (ty := .int) (N' := 3053) (a0 := (3053, .inl (fun _ => 0))) hx hb wd3 rfl hK hP hD hS hA (fun cA => rfl) (by decide) (by decide) (Nat.le_of_ble_eq_true rfl) (Nat.le_of_ble_eq_true rfl) (Nat.le_of_ble_eq_true rfl) dX5_init_8 (fun q1 cA H hK9 hP hD hS => ?_)
  have eA := ty_oneI hK9
  subst eA
  clear hK9
  replace hP : va_P D vwCl [(h, .inr (5, [.null, .null, .null, .null, .int 0, .int 0, .int 0, .int 0, .int 0, .int 0, .int 0])), (q1, .inl (cI, 3053, .inl (fun _ => 0)))] H := hP
  replace hD : va_D A [(h, .inr (5, [.null, .null, .null, .null, .int 0, .int 0, .int 0, .int 0, .int 0, .int 0, .int 0])), (q1, .inl (cI, 3053, .inl (fun _ => 0)))] := hD
  refine va_putF (D := D) (ci := 5) (v := .ref q1) (ty := .array .int) (C := RX5) (T := TX5) (N := 11) hx hb hts iX5 tyX5 tyX5_ok nmX5 hown hK hP hD hS 0 rfl rfl 0 (by decide) wd4 (fun _ h9 => h9) rfl hin rfl (by decide +kernel) rfl rfl (Nat.le_of_ble_eq_true rfl) dX5_init_10 (fun H locs hP hD hS => ?_)
  replace hP : va_P D vwCl [(h, .inr (5, [.ref q1, .null, .null, .null, .int 0, .int 0, .int 0, .int 0, .int 0, .int 0, .int 0])), (q1, .inl (cI, 3053, .inl (fun _ => 0)))] H := hP
  replace hD : va_D A [(h, .inr (5, [.ref q1, .null, .null, .null, .int 0, .int 0, .int 0, .int 0, .int 0, .int 0, .int 0])), (q1, .inl (cI, 3053, .inl (fun _ => 0)))] := hD
  refine lv_aload_n hx hb dX5_init_13 rfl (lv_at hl 0 rfl) ?_
  refine lv_sipush (v := 12212) hx hb dX5_init_14 (by decide) ?_
  refine va_newa (atype := .int) (ty := .int) (N' := 12212) (a0 := (12212, .inl (fun _ => 0))) hx hb wd3 rfl hK hP hD hS hA (fun cA => rfl) (by decide) (by decide) (Nat.le_of_ble_eq_true rfl) (Nat.le_of_ble_eq_true rfl) (Nat.le_of_ble_eq_true rfl) dX5_init_17 (fun q2 cA H hK9 hP hD hS => ?_)
  have eA := ty_oneI hK9
  subst eA
  clear hK9
  replace hP : va_P D vwCl [(h, .inr (5, [.ref q1, .null, .null, .null, .int 0, .int 0, .int 0, .int 0, .int 0, .int 0, .int 0])), (q1, .inl (cI, 3053, .inl (fun _ => 0))), (q2, .inl (cI, 12212, .inl (fun _ => 0)))] H := hP
  replace hD : va_D A [(h, .inr (5, [.ref q1, .null, .null, .null, .int 0, .int 0, .int 0, .int 0, .int 0, .int 0, .int 0])), (q1, .inl (cI, 3053, .inl (fun _ => 0))), (q2, .inl (cI, 12212, .inl (fun _ => 0)))] := hD
  refine va_putF (D := D) (ci := 5) (v := .ref q2) (ty := .array .int) (C := RX5) (T := TX5) (N := 11) hx hb hts iX5 tyX5 tyX5_ok nmX5 hown hK hP hD hS 0 rfl rfl 1 (by decide) wd5 (fun _ h9 => h9) rfl hin rfl (by decide +kernel) rfl rfl (Nat.le_of_ble_eq_true rfl) dX5_init_19 (fun H locs hP hD hS => ?_)
  replace hP : va_P D vwCl [(h, .inr (5, [.ref q1, .ref q2, .null, .null, .int 0, .int 0, .int 0, .int 0, .int 0, .int 0, .int 0])), (q1, .inl (cI, 3053, .inl (fun _ => 0))), (q2, .inl (cI, 12212, .inl (fun _ => 0)))] H := hP
  replace hD : va_D A [(h, .inr (5, [.ref q1, .ref q2, .null, .null, .int 0, .int 0, .int 0, .int 0, .int 0, .int 0, .int 0])), (q1, .inl (cI, 3053, .inl (fun _ => 0))), (q2, .inl (cI, 12212, .inl (fun _ => 0)))] := hD
  refine lv_aload_n hx hb dX5_init_22 rfl (lv_at hl 0 rfl) ?_
  refine lv_sipush (v := 3053) hx hb dX5_init_23 (by decide) ?_
  refine va_newa (atype := .int) (ty := .int) (N' := 3053) (a0 := (3053, .inl (fun _ => 0))) hx hb wd3 rfl hK hP hD hS hA (fun cA => rfl) (by decide) (by decide) (Nat.le_of_ble_eq_true rfl) (Nat.le_of_ble_eq_true rfl) (Nat.le_of_ble_eq_true rfl) dX5_init_26 (fun q3 cA H hK9 hP hD hS => ?_)
  have eA := ty_oneI hK9
  subst eA
  clear hK9
  replace hP : va_P D vwCl [(h, .inr (5, [.ref q1, .ref q2, .null, .null, .int 0, .int 0, .int 0, .int 0, .int 0, .int 0, .int 0])), (q1, .inl (cI, 3053, .inl (fun _ => 0))), (q2, .inl (cI, 12212, .inl (fun _ => 0))), (q3, .inl (cI, 3053, .inl (fun _ => 0)))] H := hP
  replace hD : va_D A [(h, .inr (5, [.ref q1, .ref q2, .null, .null, .int 0, .int 0, .int 0, .int 0, .int 0, .int 0, .int 0])), (q1, .inl (cI, 3053, .inl (fun _ => 0))), (q2, .inl (cI, 12212, .inl (fun _ => 0))), (q3, .inl (cI, 3053, .inl (fun _ => 0)))] := hD
  refine va_putF (D := D) (ci := 5) (v := .ref q3) (ty := .array .int) (C := RX5) (T := TX5) (N := 11) hx hb hts iX5 tyX5 tyX5_ok nmX5 hown hK hP hD hS 0 rfl rfl 2 (by decide) wd6 (fun _ h9 => h9) rfl hin rfl (by decide +kernel) rfl rfl (Nat.le_of_ble_eq_true rfl) dX5_init_28 (fun H locs hP hD hS => ?_)
  replace hP : va_P D vwCl [(h, .inr (5, [.ref q1, .ref q2, .ref q3, .null, .int 0, .int 0, .int 0, .int 0, .int 0, .int 0, .int 0])), (q1, .inl (cI, 3053, .inl (fun _ => 0))), (q2, .inl (cI, 12212, .inl (fun _ => 0))), (q3, .inl (cI, 3053, .inl (fun _ => 0)))] H := hP
  replace hD : va_D A [(h, .inr (5, [.ref q1, .ref q2, .ref q3, .null, .int 0, .int 0, .int 0, .int 0, .int 0, .int 0, .int 0])), (q1, .inl (cI, 3053, .inl (fun _ => 0))), (q2, .inl (cI, 12212, .inl (fun _ => 0))), (q3, .inl (cI, 3053, .inl (fun _ => 0)))] := hD
  refine lv_aload_n hx hb dX5_init_31 rfl (lv_at hl 0 rfl) ?_
  refine lv_bipush (v := 80) hx hb dX5_init_32 (by decide) ?_
  refine va_newa (atype := .int) (ty := .int) (N' := 80) (a0 := (80, .inl (fun _ => 0))) hx hb wd3 rfl hK hP hD hS hA (fun cA => rfl) (by decide) (by decide) (Nat.le_of_ble_eq_true rfl) (Nat.le_of_ble_eq_true rfl) (Nat.le_of_ble_eq_true rfl) dX5_init_34 (fun q4 cA H hK9 hP hD hS => ?_)
  have eA := ty_oneI hK9
  subst eA
  clear hK9
  replace hP : va_P D vwCl [(h, .inr (5, [.ref q1, .ref q2, .ref q3, .null, .int 0, .int 0, .int 0, .int 0, .int 0, .int 0, .int 0])), (q1, .inl (cI, 3053, .inl (fun _ => 0))), (q2, .inl (cI, 12212, .inl (fun _ => 0))), (q3, .inl (cI, 3053, .inl (fun _ => 0))), (q4, .inl (cI, 80, .inl (fun _ => 0)))] H := hP
  replace hD : va_D A [(h, .inr (5, [.ref q1, .ref q2, .ref q3, .null, .int 0, .int 0, .int 0, .int 0, .int 0, .int 0, .int 0])), (q1, .inl (cI, 3053, .inl (fun _ => 0))), (q2, .inl (cI, 12212, .inl (fun _ => 0))), (q3, .inl (cI, 3053, .inl (fun _ => 0))), (q4, .inl (cI, 80, .inl (fun _ => 0)))] := hD
  refine va_putF (D := D) (ci := 5) (v := .ref q4) (ty := .array .int) (C := RX5) (T := TX5) (N := 11) hx hb hts iX5 tyX5 tyX5_ok nmX5 hown hK hP hD hS 0 rfl rfl 3 (by decide) wd7 (fun _ h9 => h9) rfl hin rfl (by decide +kernel) rfl rfl (Nat.le_of_ble_eq_true rfl) dX5_init_36 (fun H locs hP hD hS => ?_)
  replace hP : va_P D vwCl [(h, .inr (5, [.ref q1, .ref q2, .ref q3, .ref q4, .int 0, .int 0, .int 0, .int 0, .int 0, .int 0, .int 0])), (q1, .inl (cI, 3053, .inl (fun _ => 0))), (q2, .inl (cI, 12212, .inl (fun _ => 0))), (q3, .inl (cI, 3053, .inl (fun _ => 0))), (q4, .inl (cI, 80, .inl (fun _ => 0)))] H := hP
  replace hD : va_D A [(h, .inr (5, [.ref q1, .ref q2, .ref q3, .ref q4, .int 0, .int 0, .int 0, .int 0, .int 0, .int 0, .int 0])), (q1, .inl (cI, 3053, .inl (fun _ => 0))), (q2, .inl (cI, 12212, .inl (fun _ => 0))), (q3, .inl (cI, 3053, .inl (fun _ => 0))), (q4, .inl (cI, 80, .inl (fun _ => 0)))] := hD
  refine lv_aload_n hx hb dX5_init_39 rfl (lv_at hl 0 rfl) ?_
  refine va_get (D := D) (ci := 5) (v := .ref q1) (C := RX5) (T := TX5) (N := 11) hx hb hts iX5 hown hK hP 0 rfl rfl 0 (by decide) wd4 (fun _ h9 => h9) rfl dX5_init_40 ?_
  refine lv_iconst (v := 0) hx hb dX5_init_43 (by decide) ?_
  refine lv_bipush (v := 10) hx hb dX5_init_44 (by decide) ?_
  refine ck_iast (f' := upd (fun _ => 0) 0 10) hx hb hK hP hD hS 1 0 rfl rfl (in_lit (by decide)) dX5_init_46 (by rw [show (0 : Int32).toNatClampNeg = 0 from by decide]) (fun H locs hP hD hS => ?_)
  replace hP : va_P D vwCl [(h, .inr (5, [.ref q1, .ref q2, .ref q3, .ref q4, .int 0, .int 0, .int 0, .int 0, .int 0, .int 0, .int 0])), (q1, .inl (cI, 3053, .inl (upd (fun _ => 0) 0 10))), (q2, .inl (cI, 12212, .inl (fun _ => 0))), (q3, .inl (cI, 3053, .inl (fun _ => 0))), (q4, .inl (cI, 80, .inl (fun _ => 0)))] H := hP
  replace hD : va_D A [(h, .inr (5, [.ref q1, .ref q2, .ref q3, .ref q4, .int 0, .int 0, .int 0, .int 0, .int 0, .int 0, .int 0])), (q1, .inl (cI, 3053, .inl (upd (fun _ => 0) 0 10))), (q2, .inl (cI, 12212, .inl (fun _ => 0))), (q3, .inl (cI, 3053, .inl (fun _ => 0))), (q4, .inl (cI, 80, .inl (fun _ => 0)))] := hD
  refine lv_aload_n hx hb dX5_init_47 rfl (lv_at hl 0 rfl) ?_
  refine va_get (D := D) (ci := 5) (v := .ref q1) (C := RX5) (T := TX5) (N := 11) hx hb hts iX5 hown hK hP 0 rfl rfl 0 (by decide) wd4 (fun _ h9 => h9) rfl dX5_init_48 ?_
  refine lv_iconst (v := 1) hx hb dX5_init_51 (by decide) ?_
  refine lv_iconst (v := 1) hx hb dX5_init_52 (by decide) ?_
  refine ck_iast (f' := upd (upd (fun _ => 0) 0 10) 1 1) hx hb hK hP hD hS 1 0 rfl rfl (in_lit (by decide)) dX5_init_53 (by rw [show (1 : Int32).toNatClampNeg = 1 from by decide]) (fun H locs hP hD hS => ?_)
  replace hP : va_P D vwCl [(h, .inr (5, [.ref q1, .ref q2, .ref q3, .ref q4, .int 0, .int 0, .int 0, .int 0, .int 0, .int 0, .int 0])), (q1, .inl (cI, 3053, .inl (upd (upd (fun _ => 0) 0 10) 1 1))), (q2, .inl (cI, 12212, .inl (fun _ => 0))), (q3, .inl (cI, 3053, .inl (fun _ => 0))), (q4, .inl (cI, 80, .inl (fun _ => 0)))] H := hP
  replace hD : va_D A [(h, .inr (5, [.ref q1, .ref q2, .ref q3, .ref q4, .int 0, .int 0, .int 0, .int 0, .int 0, .int 0, .int 0])), (q1, .inl (cI, 3053, .inl (upd (upd (fun _ => 0) 0 10) 1 1))), (q2, .inl (cI, 12212, .inl (fun _ => 0))), (q3, .inl (cI, 3053, .inl (fun _ => 0))), (q4, .inl (cI, 80, .inl (fun _ => 0)))] := hD
  refine lv_aload_n hx hb dX5_init_54 rfl (lv_at hl 0 rfl) ?_
  refine va_get (D := D) (ci := 5) (v := .ref q1) (C := RX5) (T := TX5) (N := 11) hx hb hts iX5 hown hK hP 0 rfl rfl 0 (by decide) wd4 (fun _ h9 => h9) rfl dX5_init_55 ?_
  refine lv_iconst (v := 2) hx hb dX5_init_58 (by decide) ?_
  refine lv_iconst (v := 4) hx hb dX5_init_59 (by decide) ?_
  refine ck_iast (f' := upd (upd (upd (fun _ => 0) 0 10) 1 1) 2 4) hx hb hK hP hD hS 1 0 rfl rfl (in_lit (by decide)) dX5_init_60 (by rw [show (2 : Int32).toNatClampNeg = 2 from by decide]) (fun H locs hP hD hS => ?_)
  replace hP : va_P D vwCl [(h, .inr (5, [.ref q1, .ref q2, .ref q3, .ref q4, .int 0, .int 0, .int 0, .int 0, .int 0, .int 0, .int 0])), (q1, .inl (cI, 3053, .inl (upd (upd (upd (fun _ => 0) 0 10) 1 1) 2 4))), (q2, .inl (cI, 12212, .inl (fun _ => 0))), (q3, .inl (cI, 3053, .inl (fun _ => 0))), (q4, .inl (cI, 80, .inl (fun _ => 0)))] H := hP
  replace hD : va_D A [(h, .inr (5, [.ref q1, .ref q2, .ref q3, .ref q4, .int 0, .int 0, .int 0, .int 0, .int 0, .int 0, .int 0])), (q1, .inl (cI, 3053, .inl (upd (upd (upd (fun _ => 0) 0 10) 1 1) 2 4))), (q2, .inl (cI, 12212, .inl (fun _ => 0))), (q3, .inl (cI, 3053, .inl (fun _ => 0))), (q4, .inl (cI, 80, .inl (fun _ => 0)))] := hD
  refine lv_iconst (v := 1) hx hb dX5_init_61 (by decide) ?_
  refine lv_istore_n (lv' := [(1, .int 1), (0, .ref h)]) hx hb dX5_init_62 rfl hl (by decide) rfl (fun ls hl => ?_)
  have L : ∀ (n i : Nat), i + n = 601 → 1 ≤ i → ∀ (z : Nat → Int32), (∀ j, j < 3053 → z j = zsI i j) → ∀ (H : Heap) (locs : List Loc) (ls : Array Slot), va_P D vwCl (wM cI h q1 q2 q3 q4 z (fun _ => 0) (fun _ => 0) (fun _ => 0) 0 0 0 0 0 0 0) H → va_D A (wM cI h q1 q2 q3 q4 z (fun _ => 0) (fun _ => 0) (fun _ => 0) 0 0 0 0 0 0 0) → va_S A s.heap H locs → lv_has ls 2 [(0, .ref h), (1, .int (nI i))] → W p l e (rmC 2 4 18398) s m args below meth c H locs 4 18398 Q (F0 m 63 ls []) := by
    intro n
    induction n with
    | zero =>
      intro i hi h1 z hj H locs ls hP hD hS hl
      have hi6 : i = 601 := by omega
      subst hi6
      refine lv_iload_n hx hb dX5_init_63 rfl (lv_at hl 1 rfl) ?_
      refine lv_sipush (v := 600) hx hb dX5_init_64 (by decide) ?_
      refine lv_icmp_gt (tgt := 100) hx hb dX5_init_67 (by decide) (fun c9 => ?_) (fun c9 => absurd (by decide) c9)
      have hP1 := P_cong hP 1 q1 rfl (cell_i (g := zsI 601) (fun j h => hj j h))
      have hD1 := D_cong hD 1 q1 (e1 := .inl (cI, 3053, .inl (zsI 601))) rfl
      exact hret _ _ _ _ (q1, q2, q3, q4) dX5_init_100 trivial hP1 hD1 hS
    | succ n ih =>
      intro i hi h1 z hj H locs ls hP hD hS hl
      have e1 : (f_X5_n (nI i) + 1) = nI (48 + 5 * i + 1) := by show (48 + 5 * nI i) + 1 = _; rw [show (5 : Int32) = nI 5 from rfl, show (48 : Int32) = nI 48 from rfl, pk_mul, nI_add, nI_1]
      have e2 : (f_X5_n (nI i) + 2) = nI (48 + 5 * i + 2) := by show (48 + 5 * nI i) + 2 = _; rw [show (5 : Int32) = nI 5 from rfl, show (48 : Int32) = nI 48 from rfl, show (2 : Int32) = nI 2 from rfl, pk_mul, nI_add, nI_add]
      refine lv_iload_n hx hb dX5_init_63 rfl (lv_at hl 1 rfl) ?_
      refine lv_sipush (v := 600) hx hb dX5_init_64 (by decide) ?_
      refine lv_icmp_gt (tgt := 100) hx hb dX5_init_67 (by decide) (fun c9 => absurd c9 (nI_nlt (a := 600) (b := i) (by omega) (by omega))) (fun c9 => ?_)
      refine lv_aload_n hx hb dX5_init_70 rfl (lv_at hl 0 rfl) ?_
      refine va_get (D := D) (ci := 5) (v := .ref q1) (C := RX5) (T := TX5) (N := 11) hx hb hts iX5 hown hK hP 0 rfl rfl 0 (by decide) wd4 (fun _ h9 => h9) rfl dX5_init_71 ?_
      refine lv_iload_n hx hb dX5_init_74 rfl (lv_at hl 1 rfl) ?_
      refine ck_SI (st := [.int (nI i), .ref q1]) (rest := [.ref q1]) (As := [.int (nI i)]) ⟨hx, hb, hml, hown, hts⟩ E0_ok (c_X5_n l D cI cC cK cO  (nI i) _ rfl) (va_cwS 1 hts gX5_init_X5_n rfl rfl rfl hs_X5_n ⟨Nat.le_of_ble_eq_true rfl, Nat.le_of_ble_eq_true rfl⟩) hK hP hD hS hA hE rfl hl.1 rfl (Nat.le_of_ble_eq_true rfl) dX5_init_75 ⟨Nat.le_of_ble_eq_true rfl, Nat.le_of_ble_eq_true rfl⟩ (fun r H locs hw hP hS => ?_)
      cases hw
      refine lv_iconst (v := 1) hx hb dX5_init_78 (by decide) ?_
      refine lv_iadd hx hb dX5_init_79 ?_
      rw [e1]
      refine lv_iconst (v := (-1)) hx hb dX5_init_80 (by decide) ?_
      refine ck_iast (f' := (upd z (48 + 5 * i + 1) (-1))) hx hb hK hP hD hS 1 0 rfl rfl (vp_in_nI (by omega) (by omega)) dX5_init_81 (by rw [nI_clamp (by omega)]) (fun H locs hP hD hS => ?_)
      replace hP : va_P D vwCl (wM cI h q1 q2 q3 q4 (upd z (48 + 5 * i + 1) (-1)) (fun _ => 0) (fun _ => 0) (fun _ => 0) 0 0 0 0 0 0 0) H := hP
      replace hD : va_D A (wM cI h q1 q2 q3 q4 (upd z (48 + 5 * i + 1) (-1)) (fun _ => 0) (fun _ => 0) (fun _ => 0) 0 0 0 0 0 0 0) := hD
      refine lv_aload_n hx hb dX5_init_82 rfl (lv_at hl 0 rfl) ?_
      refine va_get (D := D) (ci := 5) (v := .ref q1) (C := RX5) (T := TX5) (N := 11) hx hb hts iX5 hown hK hP 0 rfl rfl 0 (by decide) wd4 (fun _ h9 => h9) rfl dX5_init_83 ?_
      refine lv_iload_n hx hb dX5_init_86 rfl (lv_at hl 1 rfl) ?_
      refine ck_SI (st := [.int (nI i), .ref q1]) (rest := [.ref q1]) (As := [.int (nI i)]) ⟨hx, hb, hml, hown, hts⟩ E0_ok (c_X5_n l D cI cC cK cO  (nI i) _ rfl) (va_cwS 1 hts gX5_init_X5_n rfl rfl rfl hs_X5_n ⟨Nat.le_of_ble_eq_true rfl, Nat.le_of_ble_eq_true rfl⟩) hK hP hD hS hA hE rfl hl.1 rfl (Nat.le_of_ble_eq_true rfl) dX5_init_87 ⟨Nat.le_of_ble_eq_true rfl, Nat.le_of_ble_eq_true rfl⟩ (fun r H locs hw hP hS => ?_)
      cases hw
      refine lv_iconst (v := 2) hx hb dX5_init_90 (by decide) ?_
      refine lv_iadd hx hb dX5_init_91 ?_
      rw [e2]
      refine lv_iconst (v := (-1)) hx hb dX5_init_92 (by decide) ?_
      refine ck_iast (f' := (upd (upd z (48 + 5 * i + 1) (-1)) (48 + 5 * i + 2) (-1))) hx hb hK hP hD hS 1 0 rfl rfl (vp_in_nI (by omega) (by omega)) dX5_init_93 (by rw [nI_clamp (by omega)]) (fun H locs hP hD hS => ?_)
      replace hP : va_P D vwCl (wM cI h q1 q2 q3 q4 (upd (upd z (48 + 5 * i + 1) (-1)) (48 + 5 * i + 2) (-1)) (fun _ => 0) (fun _ => 0) (fun _ => 0) 0 0 0 0 0 0 0) H := hP
      replace hD : va_D A (wM cI h q1 q2 q3 q4 (upd (upd z (48 + 5 * i + 1) (-1)) (48 + 5 * i + 2) (-1)) (fun _ => 0) (fun _ => 0) (fun _ => 0) 0 0 0 0 0 0 0) := hD
      refine lv_iinc (v := nI (i + 1)) (lv' := [(1, .int (nI (i + 1))), (0, .ref h)]) hx hb dX5_init_94 hl (k := 1) rfl (nI_1 i) (by decide) rfl (fun ls hl => ?_)
      refine lv_goto (tgt := 63) hx hb dX5_init_97 (by decide) ?_
      refine ih (i + 1) (by omega) (by omega) (upd (upd z (48 + 5 * i + 1) (-1)) (48 + 5 * i + 2) (-1)) (fun j hjl => ?_) _ _ _ hP hD hS (lv_sub hl [1, 0] rfl)
      have := hj j hjl
      simp only [upd]
      unfold zsI at this ⊢
      by_cases g1 : j = 48 + 5 * i + 2
      · rw [if_pos g1, if_neg (by omega), if_neg (by omega), if_neg (by omega), if_pos (by omega)]
      · rw [if_neg g1]
        by_cases g2 : j = 48 + 5 * i + 1
        · rw [if_pos g2, if_neg (by omega), if_neg (by omega), if_neg (by omega), if_pos (by omega)]
        · rw [if_neg g2, this]
          by_cases a0 : j = 0
          · simp [a0]
          · by_cases a1 : j = 1
            · simp [a1]
            · by_cases a2 : j = 2
              · simp [a2]
              · simp only [if_neg a0, if_neg a1, if_neg a2]
                by_cases g3 : 53 ≤ j ∧ j < 48 + 5 * i ∧ ((j - 48) % 5 = 1 ∨ (j - 48) % 5 = 2)
                · rw [if_pos g3, if_pos (by omega)]
                · rw [if_neg g3, if_neg (by omega)]
  exact L 600 1 rfl (Nat.le_refl 1) _ (fun j h => by unfold zsI; simp only [upd]; by_cases a2 : j = 2 <;> by_cases a1 : j = 1 <;> by_cases a0 : j = 0 <;> simp [a0, a1, a2] <;> omega) _ _ _ hP hD hS (lv_sub hl [1, 0] rfl)
