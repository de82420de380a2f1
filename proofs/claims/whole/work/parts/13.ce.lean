/-! laid by wip/whole/gen.py: walks of the class's clerks, numbers, offices -/
set_option maxHeartbeats 4000000 in
set_option maxRecDepth 100000 in
theorem c_X2_takeBack (l : Launch) (D : va_G) (cI cC cK cO : ClassId) (tL tM : Nat) (adK adV : Nat → Nat) (o : Nat → Nat) (ns : Nat → Int32) (no : Nat → Int32) (nr : Nat → Int32) (nt : Nat → Int32) (nd : Nat → Int32) (ni : Nat → Int32) (nm : Int32) (nf : Int32) (cl : Nat → Nat → Int32) (cc : Int32) (cs : Nat → Int32) (ct : Int32) (x1 : Int32) (K : Nat) (R : Int32 × (Nat → Int32) × (Nat → Int32) × (Nat → Int32) × Int32 × (Nat → Nat → Int32)) (hf : f_X2_takeBack K ns no nr nf cl cc cs x1 = some R) : KI l D (TY cI cC cK cO) (gE tL tM adK adV) yX2_takeBack wsX2_takeBack 2 [.ref (o 0), .int x1] (wO cI cK o ns no nr nt nd ni nm nf cl cc cs ct) (fun (r : Int32) (u : (Nat → Int32) × (Nat → Int32) × (Nat → Int32) × Int32 × (Nat → Nat → Int32)) => (r, u) = R) (fun u => (wO cI cK o (u.1) (u.2.1) (u.2.2.1) nt nd ni nm (u.2.2.2.1) (u.2.2.2.2) cc cs ct)) := by
  refine KI.ofI (cc := cX2_takeBack) (maxL := 4) (C := RX2) (by decide) rfl rfl (Nat.le_of_ble_eq_true rfl) ?_
  intro p e s m args below meth c A Q hx hb hml hts hown hP hK hD hA hE hS hret ls hl
  replace hl : lv_has ls 4 [(0, .ref (o 0)), (1, .int x1)] := hl
  have w106 := hts (.fieldLink RX2 106 "BlockClerks$Clerk" "low" "I") (by decide +kernel)
  have w112 := hts (.fieldLink RX2 112 "BlockClerks$Clerk" "high" "I") (by decide +kernel)
  have w12 := hts (.fieldLink RX2 12 "BlockClerks$Office" "numbers" "LBlockClerks$Numbers;") (by decide +kernel)
  have w20 := hts (.fieldLink RX2 20 "BlockClerks$Office" "clerks" "[LBlockClerks$Clerk;") (by decide +kernel)
  have w28 := hts (.fieldLink RX2 28 "BlockClerks$Office" "settings" "[I") (by decide +kernel)
  have iX0 : ∀ w ∈ wsX00, w ∈ wsX2_takeBack := by decide +kernel
  have iX2 : ∀ w ∈ wsX20, w ∈ wsX2_takeBack := by decide +kernel
  rw [f_X2_takeBack] at hf
  refine lv_aload_n hx hb dX2_takeBack_0 rfl (lv_at hl 0 rfl) ?_
  refine lv_iload_n hx hb dX2_takeBack_1 rfl (lv_at hl 1 rfl) ?_
  refine ck_VI (st := [.int x1, .ref (o 0)]) (rest := []) (As := [.int x1]) (C := RX2) (ci := 2) ⟨hx, hb, hml, hown, hts⟩ (gE_ok tL tM adK adV) (c_X2_isClerk l D cI cC cK cO tL tM adK adV o ns no nr nt nd ni nm nf cl cc cs ct x1 _ rfl) (cwV 1 hts gX2_takeBack_X2_isClerk rfl rfl rfl hv_X2_isClerk ⟨Nat.le_of_ble_eq_true rfl, Nat.le_of_ble_eq_true rfl⟩) hK hP hD hS hA hE [0, 1, 2, 3, 4, 5, 6, 7, 8, 9, 10, 11, 12, 13, 14, 15] rfl rfl rfl rfl rfl (fun _ => rfl) rfl hl.1 rfl (Nat.le_of_ble_eq_true rfl) dX2_takeBack_2 ⟨Nat.zero_le _, Nat.zero_le _⟩ (fun r u H locs hw hP hD hS => ?_)
  obtain ⟨hw, z2⟩ := hw
  cases hw
  replace hP : va_P D vwCl (wO cI cK o ns no nr nt nd ni nm nf cl cc cs ct) H := hP
  replace hD : va_D A (wO cI cK o ns no nr nt nd ni nm nf cl cc cs ct) := hD
  refine lv_if_ne (tgt := 10) hx hb dX2_takeBack_5 (by decide) (fun c3 => ?_) (fun c3 => ?_)
  · replace hf := op_f c3 hf
    refine lv_aload_n hx hb dX2_takeBack_10 rfl (lv_at hl 0 rfl) ?_
    refine va_get (D := D) (ci := 2) (v := .ref (o 9)) (C := RX2) (T := TX2) (N := 5) hx hb hts iX2 hown hK hP 0 rfl rfl 1 (by decide) w20 (fun _ h9 => h9) rfl dX2_takeBack_11 ?_
    refine lv_iload_n hx hb dX2_takeBack_14 rfl (lv_at hl 1 rfl) ?_
    obtain ⟨q4, hf⟩ := op_x hf
    refine ck_aald (j := (x1).toNatClampNeg) (v := o (10 + (x1).toNatClampNeg)) hx hb hK hP 9 2 rfl rfl q4 rfl rfl dX2_takeBack_15 ?_
    refine lv_astore_n (lv' := [(2, .ref (o (10 + (x1).toNatClampNeg))), (0, .ref (o 0)), (1, .int x1)]) hx hb dX2_takeBack_16 rfl hl (by decide) rfl (fun ls hl => ?_)
    refine lv_aload_n hx hb dX2_takeBack_17 rfl (lv_at hl 0 rfl) ?_
    refine ck_VI (st := [.ref (o (10 + (x1).toNatClampNeg))]) (rest := []) (As := []) (C := RX0) (ci := 0) ⟨hx, hb, hml, hown, hts⟩ (gE_ok tL tM adK adV) (c_X0_held l D cI cC cK cO tL tM adK adV (o (10 + (x1).toNatClampNeg)) (cl (x1).toNatClampNeg)  _ rfl) (cwV 0 hts gX2_takeBack_X0_held rfl rfl rfl hv_X0_held ⟨Nat.le_of_ble_eq_true rfl, Nat.le_of_ble_eq_true rfl⟩) hK hP hD hS hA hE [10 + (x1).toNatClampNeg] (pl_O (in_lt q4)) rfl rfl rfl rfl (fun _ => rfl) rfl hl.1 rfl (Nat.le_of_ble_eq_true rfl) dX2_takeBack_18 ⟨Nat.zero_le _, Nat.zero_le _⟩ (fun r u H locs hw hP hD hS => ?_)
    cases hw
    replace hP := st_OP0 (in_lt q4) hP
    replace hD := st_OD0 (in_lt q4) hD
    refine lv_istore_n (lv' := [(3, .int (f_X0_held (cl (x1).toNatClampNeg))), (2, .ref (o (10 + (x1).toNatClampNeg))), (0, .ref (o 0)), (1, .int x1)]) hx hb dX2_takeBack_21 rfl hl (by decide) rfl (fun ls hl => ?_)
    refine lv_iload_n hx hb dX2_takeBack_22 rfl (lv_at hl 0 rfl) ?_
    refine lv_if_gt (tgt := 29) hx hb dX2_takeBack_23 (by decide) (fun c7 => ?_) (fun c7 => ?_)
    · replace hf := op_t c7 hf
      refine lv_aload_n hx hb dX2_takeBack_29 rfl (lv_at hl 2 rfl) ?_
      refine va_get (D := D) (ci := 2) (v := .ref (o 8)) (C := RX2) (T := TX2) (N := 5) hx hb hts iX2 hown hK hP 0 rfl rfl 3 (by decide) w28 (fun _ h9 => h9) rfl dX2_takeBack_30 ?_
      refine lv_iconst (v := 1) hx hb dX2_takeBack_33 (by decide) ?_
      refine ck_iald (j := 1) hx hb hK hP 8 0 rfl rfl (in_lit (by decide)) (by decide) dX2_takeBack_34 ?_
      refine lv_iconst (v := 1) hx hb dX2_takeBack_35 (by decide) ?_
      refine lv_icmp_ne (tgt := 60) hx hb dX2_takeBack_36 (by decide) (fun c8 => ?_) (fun c8 => ?_)
      · replace hf := op_f c8 hf
        refine lv_aload_n hx hb dX2_takeBack_60 rfl (lv_at hl 2 rfl) ?_
        refine va_get (D := D) (ci := 2) (v := .ref (o 1)) (C := RX2) (T := TX2) (N := 5) hx hb hts iX2 hown hK hP 0 rfl rfl 0 (by decide) w12 (fun _ h9 => h9) rfl dX2_takeBack_61 ?_
        refine lv_aload_n hx hb dX2_takeBack_64 rfl (lv_at hl 1 rfl) ?_
        refine va_get (D := D) (ci := 0) (v := .int (cl (x1).toNatClampNeg 1)) (C := RX0) (T := TX0) (N := 7) hx hb hts iX0 hown hK hP (10 + (x1).toNatClampNeg) (lk_O (in_lt q4)) rfl 1 (by decide) w106 (fun _ h9 => h9) rfl dX2_takeBack_65 ?_
        refine lv_aload_n hx hb dX2_takeBack_68 rfl (lv_at hl 1 rfl) ?_
        refine va_get (D := D) (ci := 0) (v := .int (cl (x1).toNatClampNeg 2)) (C := RX0) (T := TX0) (N := 7) hx hb hts iX0 hown hK hP (10 + (x1).toNatClampNeg) (lk_O (in_lt q4)) rfl 2 (by decide) w112 (fun _ h9 => h9) rfl dX2_takeBack_69 ?_
        refine lv_iconst (v := 4) hx hb dX2_takeBack_72 (by decide) ?_
        refine lv_iload_n hx hb dX2_takeBack_73 rfl (lv_at hl 3 rfl) ?_
        refine lv_iconst (v := 1) hx hb dX2_takeBack_74 (by decide) ?_
        obtain ⟨⟨y10, y11, y12, y13⟩, h14, hf⟩ := op_b hf
        refine ck_VV (st := [.int 1, .int x1, .int 4, .int (cl (x1).toNatClampNeg 2), .int (cl (x1).toNatClampNeg 1), .ref (o 1)]) (rest := []) (As := [.int (cl (x1).toNatClampNeg 1), .int (cl (x1).toNatClampNeg 2), .int 4, .int x1, .int 1]) (C := RX1) (ci := 1) ⟨hx, hb, hml, hown, hts⟩ (gE_ok tL tM adK adV) (c_X1_put l D cI cC cK cO tL tM adK adV (o 1) (o 2) (o 3) (o 4) (o 5) (o 6) (o 7) ns no nr nt nd ni nm nf (cl (x1).toNatClampNeg 1) (cl (x1).toNatClampNeg 2) 4 x1 1 K _ h14) (cwV 5 hts gX2_takeBack_X1_put rfl rfl rfl hv_X1_put ⟨Nat.le_of_ble_eq_true rfl, Nat.le_of_ble_eq_true rfl⟩) hK hP hD hS hA hE [1, 2, 3, 4, 5, 6, 7] rfl rfl rfl rfl rfl (fun _ => rfl) rfl hl.1 rfl (Nat.le_of_ble_eq_true rfl) dX2_takeBack_75 ⟨Nat.zero_le _, Nat.zero_le _⟩ (fun u H locs hw hP hD hS => ?_)
        cases hw
        replace hP : va_P D vwCl (wO cI cK o y10 y11 y12 nt nd ni nm y13 cl cc cs ct) H := hP
        replace hD : va_D A (wO cI cK o y10 y11 y12 nt nd ni nm y13 cl cc cs ct) := hD
        refine lv_aload_n hx hb dX2_takeBack_78 rfl (lv_at hl 1 rfl) ?_
        obtain ⟨y17, h18, hf⟩ := op_b hf
        refine ck_VV (st := [.ref (o (10 + (x1).toNatClampNeg))]) (rest := []) (As := []) (C := RX0) (ci := 0) ⟨hx, hb, hml, hown, hts⟩ (gE_ok tL tM adK adV) (c_X0_drop l D cI cC cK cO tL tM adK adV (o (10 + (x1).toNatClampNeg)) (cl (x1).toNatClampNeg)  _ h18) (cwV 0 hts gX2_takeBack_X0_drop rfl rfl rfl hv_X0_drop ⟨Nat.le_of_ble_eq_true rfl, Nat.le_of_ble_eq_true rfl⟩) hK hP hD hS hA hE [10 + (x1).toNatClampNeg] (pl_O (in_lt q4)) rfl rfl rfl rfl (fun _ => rfl) rfl hl.1 rfl (Nat.le_of_ble_eq_true rfl) dX2_takeBack_79 ⟨Nat.zero_le _, Nat.zero_le _⟩ (fun u H locs hw hP hD hS => ?_)
        cases hw
        obtain ⟨y20, e21, hf⟩ := nb_o hf
        replace hP := st_OP (in_lt q4) e21 hP
        replace hD := st_OD (in_lt q4) e21 hD
        refine lv_iload_n hx hb dX2_takeBack_82 rfl (lv_at hl 0 rfl) ?_
        exact hret _ _ _ _ _ (y10, y11, y12, y13, y20) dX2_takeBack_83 (op_k hf) hP hS
      · replace hf := op_t c8 hf
        refine lv_aload_n hx hb dX2_takeBack_39 rfl (lv_at hl 2 rfl) ?_
        refine va_get (D := D) (ci := 2) (v := .ref (o 1)) (C := RX2) (T := TX2) (N := 5) hx hb hts iX2 hown hK hP 0 rfl rfl 0 (by decide) w12 (fun _ h9 => h9) rfl dX2_takeBack_40 ?_
        refine lv_aload_n hx hb dX2_takeBack_43 rfl (lv_at hl 1 rfl) ?_
        refine va_get (D := D) (ci := 0) (v := .int (cl (x1).toNatClampNeg 1)) (C := RX0) (T := TX0) (N := 7) hx hb hts iX0 hown hK hP (10 + (x1).toNatClampNeg) (lk_O (in_lt q4)) rfl 1 (by decide) w106 (fun _ h9 => h9) rfl dX2_takeBack_44 ?_
        refine lv_aload_n hx hb dX2_takeBack_47 rfl (lv_at hl 1 rfl) ?_
        refine va_get (D := D) (ci := 0) (v := .int (cl (x1).toNatClampNeg 2)) (C := RX0) (T := TX0) (N := 7) hx hb hts iX0 hown hK hP (10 + (x1).toNatClampNeg) (lk_O (in_lt q4)) rfl 2 (by decide) w112 (fun _ h9 => h9) rfl dX2_takeBack_48 ?_
        refine lv_iconst (v := 3) hx hb dX2_takeBack_51 (by decide) ?_
        refine lv_iconst (v := (-1)) hx hb dX2_takeBack_52 (by decide) ?_
        refine lv_iconst (v := (-1)) hx hb dX2_takeBack_53 (by decide) ?_
        obtain ⟨⟨y23, y24, y25, y26⟩, h27, hf⟩ := op_b hf
        refine ck_VV (st := [.int (-1), .int (-1), .int 3, .int (cl (x1).toNatClampNeg 2), .int (cl (x1).toNatClampNeg 1), .ref (o 1)]) (rest := []) (As := [.int (cl (x1).toNatClampNeg 1), .int (cl (x1).toNatClampNeg 2), .int 3, .int (-1), .int (-1)]) (C := RX1) (ci := 1) ⟨hx, hb, hml, hown, hts⟩ (gE_ok tL tM adK adV) (c_X1_put l D cI cC cK cO tL tM adK adV (o 1) (o 2) (o 3) (o 4) (o 5) (o 6) (o 7) ns no nr nt nd ni nm nf (cl (x1).toNatClampNeg 1) (cl (x1).toNatClampNeg 2) 3 (-1) (-1) K _ h27) (cwV 5 hts gX2_takeBack_X1_put rfl rfl rfl hv_X1_put ⟨Nat.le_of_ble_eq_true rfl, Nat.le_of_ble_eq_true rfl⟩) hK hP hD hS hA hE [1, 2, 3, 4, 5, 6, 7] rfl rfl rfl rfl rfl (fun _ => rfl) rfl hl.1 rfl (Nat.le_of_ble_eq_true rfl) dX2_takeBack_54 ⟨Nat.zero_le _, Nat.zero_le _⟩ (fun u H locs hw hP hD hS => ?_)
        cases hw
        replace hP : va_P D vwCl (wO cI cK o y23 y24 y25 nt nd ni nm y26 cl cc cs ct) H := hP
        replace hD : va_D A (wO cI cK o y23 y24 y25 nt nd ni nm y26 cl cc cs ct) := hD
        refine lv_goto (tgt := 78) hx hb dX2_takeBack_57 (by decide) ?_
        refine lv_aload_n hx hb dX2_takeBack_78 rfl (lv_at hl 1 rfl) ?_
        obtain ⟨y30, h31, hf⟩ := op_b hf
        refine ck_VV (st := [.ref (o (10 + (x1).toNatClampNeg))]) (rest := []) (As := []) (C := RX0) (ci := 0) ⟨hx, hb, hml, hown, hts⟩ (gE_ok tL tM adK adV) (c_X0_drop l D cI cC cK cO tL tM adK adV (o (10 + (x1).toNatClampNeg)) (cl (x1).toNatClampNeg)  _ h31) (cwV 0 hts gX2_takeBack_X0_drop rfl rfl rfl hv_X0_drop ⟨Nat.le_of_ble_eq_true rfl, Nat.le_of_ble_eq_true rfl⟩) hK hP hD hS hA hE [10 + (x1).toNatClampNeg] (pl_O (in_lt q4)) rfl rfl rfl rfl (fun _ => rfl) rfl hl.1 rfl (Nat.le_of_ble_eq_true rfl) dX2_takeBack_79 ⟨Nat.zero_le _, Nat.zero_le _⟩ (fun u H locs hw hP hD hS => ?_)
        cases hw
        obtain ⟨y33, e34, hf⟩ := nb_o hf
        replace hP := st_OP (in_lt q4) e34 hP
        replace hD := st_OD (in_lt q4) e34 hD
        refine lv_iload_n hx hb dX2_takeBack_82 rfl (lv_at hl 0 rfl) ?_
        exact hret _ _ _ _ _ (y23, y24, y25, y26, y33) dX2_takeBack_83 (op_k hf) hP hS
    · replace hf := op_f c7 hf
      refine lv_bipush (v := (-2)) hx hb dX2_takeBack_26 (by decide) ?_
      exact hret _ _ _ _ _ (ns, no, nr, nf, cl) dX2_takeBack_28 (op_k hf) hP hS
  · replace hf := op_t c3 hf
    refine lv_iconst (v := (-1)) hx hb dX2_takeBack_8 (by decide) ?_
    exact hret _ _ _ _ _ (ns, no, nr, nf, cl) dX2_takeBack_9 (op_k hf) hP hS
set_option maxHeartbeats 4000000 in
set_option maxRecDepth 100000 in
theorem c_X2_cancel (l : Launch) (D : va_G) (cI cC cK cO : ClassId) (tL tM : Nat) (adK adV : Nat → Nat) (o : Nat → Nat) (ns : Nat → Int32) (no : Nat → Int32) (nr : Nat → Int32) (nt : Nat → Int32) (nd : Nat → Int32) (ni : Nat → Int32) (nm : Int32) (nf : Int32) (cl : Nat → Nat → Int32) (cc : Int32) (cs : Nat → Int32) (ct : Int32) (x1 : Int32) (K : Nat) (R : Int32 × (Nat → Int32) × (Nat → Int32) × (Nat → Int32) × Int32) (hf : f_X2_cancel K ns no nr nf x1 = some R) : KI l D (TY cI cC cK cO) (gE tL tM adK adV) yX2_cancel wsX2_cancel 2 [.ref (o 0), .int x1] (wO cI cK o ns no nr nt nd ni nm nf cl cc cs ct) (fun (r : Int32) (u : (Nat → Int32) × (Nat → Int32) × (Nat → Int32) × Int32) => (r, u) = R) (fun u => (wO cI cK o (u.1) (u.2.1) (u.2.2.1) nt nd ni nm (u.2.2.2) cl cc cs ct)) := by
  refine KI.ofI (cc := cX2_cancel) (maxL := 2) (C := RX2) (by decide) rfl rfl (Nat.le_of_ble_eq_true rfl) ?_
  intro p e s m args below meth c A Q hx hb hml hts hown hP hK hD hA hE hS hret ls hl
  replace hl : lv_has ls 2 [(0, .ref (o 0)), (1, .int x1)] := hl
  have w118 := hts (.fieldLink RX2 118 "BlockClerks$Numbers" "state" "[I") (by decide +kernel)
  have w12 := hts (.fieldLink RX2 12 "BlockClerks$Office" "numbers" "LBlockClerks$Numbers;") (by decide +kernel)
  have w121 := hts (.fieldLink RX2 121 "BlockClerks$Numbers" "owner" "[I") (by decide +kernel)
  have iX1 : ∀ w ∈ wsX10, w ∈ wsX2_cancel := by decide +kernel
  have iX2 : ∀ w ∈ wsX20, w ∈ wsX2_cancel := by decide +kernel
  rw [f_X2_cancel] at hf
  refine lv_iload_n hx hb dX2_cancel_0 rfl (lv_at hl 1 rfl) ?_
  refine ck_SI (st := [.int x1]) (rest := []) (As := [.int x1]) ⟨hx, hb, hml, hown, hts⟩ (gE_ok tL tM adK adV) (c_X1_isNumber l D cI cC cK cO tL tM adK adV  x1 _ rfl) (va_cwS 1 hts gX2_cancel_X1_isNumber rfl rfl rfl hs_X1_isNumber ⟨Nat.le_of_ble_eq_true rfl, Nat.le_of_ble_eq_true rfl⟩) hK hP hD hS hA hE rfl hl.1 rfl (Nat.le_of_ble_eq_true rfl) dX2_cancel_1 ⟨Nat.zero_le _, Nat.zero_le _⟩ (fun r H locs hw hP hS => ?_)
  obtain ⟨hw, z2⟩ := hw
  cases hw
  refine lv_if_ne (tgt := 9) hx hb dX2_cancel_4 (by decide) (fun c3 => ?_) (fun c3 => ?_)
  · replace hf := op_f c3 hf
    refine lv_aload_n hx hb dX2_cancel_9 rfl (lv_at hl 0 rfl) ?_
    refine va_get (D := D) (ci := 2) (v := .ref (o 1)) (C := RX2) (T := TX2) (N := 5) hx hb hts iX2 hown hK hP 0 rfl rfl 0 (by decide) w12 (fun _ h9 => h9) rfl dX2_cancel_10 ?_
    refine va_get (D := D) (ci := 1) (v := .ref (o 2)) (C := RX1) (T := TX1) (N := 8) hx hb hts iX1 hown hK hP 1 rfl rfl 0 (by decide) w118 (fun _ h9 => h9) rfl dX2_cancel_13 ?_
    refine lv_iload_n hx hb dX2_cancel_16 rfl (lv_at hl 1 rfl) ?_
    obtain ⟨q4, hf⟩ := op_x hf
    refine ck_iald (j := (x1).toNatClampNeg) hx hb hK hP 2 0 rfl rfl q4 rfl dX2_cancel_17 ?_
    refine lv_iconst (v := 2) hx hb dX2_cancel_18 (by decide) ?_
    refine lv_icmp_eq (tgt := 25) hx hb dX2_cancel_19 (by decide) (fun c5 => ?_) (fun c5 => ?_)
    · replace hf := op_t c5 hf
      refine lv_aload_n hx hb dX2_cancel_25 rfl (lv_at hl 0 rfl) ?_
      refine va_get (D := D) (ci := 2) (v := .ref (o 1)) (C := RX2) (T := TX2) (N := 5) hx hb hts iX2 hown hK hP 0 rfl rfl 0 (by decide) w12 (fun _ h9 => h9) rfl dX2_cancel_26 ?_
      refine lv_iload_n hx hb dX2_cancel_29 rfl (lv_at hl 1 rfl) ?_
      refine lv_iload_n hx hb dX2_cancel_30 rfl (lv_at hl 1 rfl) ?_
      refine lv_iconst (v := 4) hx hb dX2_cancel_31 (by decide) ?_
      refine lv_aload_n hx hb dX2_cancel_32 rfl (lv_at hl 0 rfl) ?_
      refine va_get (D := D) (ci := 2) (v := .ref (o 1)) (C := RX2) (T := TX2) (N := 5) hx hb hts iX2 hown hK hP 0 rfl rfl 0 (by decide) w12 (fun _ h9 => h9) rfl dX2_cancel_33 ?_
      refine va_get (D := D) (ci := 1) (v := .ref (o 3)) (C := RX1) (T := TX1) (N := 8) hx hb hts iX1 hown hK hP 1 rfl rfl 1 (by decide) w121 (fun _ h9 => h9) rfl dX2_cancel_36 ?_
      refine lv_iload_n hx hb dX2_cancel_39 rfl (lv_at hl 1 rfl) ?_
      obtain ⟨q6, hf⟩ := op_x hf
      refine ck_iald (j := (x1).toNatClampNeg) hx hb hK hP 3 0 rfl rfl q6 rfl dX2_cancel_40 ?_
      refine lv_iconst (v := 2) hx hb dX2_cancel_41 (by decide) ?_
      obtain ⟨⟨y8, y9, y10, y11⟩, h12, hf⟩ := op_b hf
      refine ck_VV (st := [.int 2, .int (no (x1).toNatClampNeg), .int 4, .int x1, .int x1, .ref (o 1)]) (rest := []) (As := [.int x1, .int x1, .int 4, .int (no (x1).toNatClampNeg), .int 2]) (C := RX1) (ci := 1) ⟨hx, hb, hml, hown, hts⟩ (gE_ok tL tM adK adV) (c_X1_put l D cI cC cK cO tL tM adK adV (o 1) (o 2) (o 3) (o 4) (o 5) (o 6) (o 7) ns no nr nt nd ni nm nf x1 x1 4 (no (x1).toNatClampNeg) 2 K _ h12) (cwV 5 hts gX2_cancel_X1_put rfl rfl rfl hv_X1_put ⟨Nat.le_of_ble_eq_true rfl, Nat.le_of_ble_eq_true rfl⟩) hK hP hD hS hA hE [1, 2, 3, 4, 5, 6, 7] rfl rfl rfl rfl rfl (fun _ => rfl) rfl hl.1 rfl (Nat.le_of_ble_eq_true rfl) dX2_cancel_42 ⟨Nat.zero_le _, Nat.zero_le _⟩ (fun u H locs hw hP hD hS => ?_)
      cases hw
      replace hP : va_P D vwCl (wO cI cK o y8 y9 y10 nt nd ni nm y11 cl cc cs ct) H := hP
      replace hD : va_D A (wO cI cK o y8 y9 y10 nt nd ni nm y11 cl cc cs ct) := hD
      refine lv_aload_n hx hb dX2_cancel_45 rfl (lv_at hl 0 rfl) ?_
      refine va_get (D := D) (ci := 2) (v := .ref (o 1)) (C := RX2) (T := TX2) (N := 5) hx hb hts iX2 hown hK hP 0 rfl rfl 0 (by decide) w12 (fun _ h9 => h9) rfl dX2_cancel_46 ?_
      refine va_get (D := D) (ci := 1) (v := .ref (o 3)) (C := RX1) (T := TX1) (N := 8) hx hb hts iX1 hown hK hP 1 rfl rfl 1 (by decide) w121 (fun _ h9 => h9) rfl dX2_cancel_49 ?_
      refine lv_iload_n hx hb dX2_cancel_52 rfl (lv_at hl 1 rfl) ?_
      obtain ⟨q14, hf⟩ := op_x hf
      refine ck_iald (j := (x1).toNatClampNeg) hx hb hK hP 3 0 rfl rfl q14 rfl dX2_cancel_53 ?_
      exact hret _ _ _ _ _ (y8, y9, y10, y11) dX2_cancel_54 (op_k hf) hP hS
    · replace hf := op_f c5 hf
      refine lv_bipush (v := (-2)) hx hb dX2_cancel_22 (by decide) ?_
      exact hret _ _ _ _ _ (ns, no, nr, nf) dX2_cancel_24 (op_k hf) hP hS
  · replace hf := op_t c3 hf
    refine lv_iconst (v := (-1)) hx hb dX2_cancel_7 (by decide) ?_
    exact hret _ _ _ _ _ (ns, no, nr, nf) dX2_cancel_8 (op_k hf) hP hS
set_option maxHeartbeats 4000000 in
set_option maxRecDepth 100000 in
theorem c_X2_endDay (l : Launch) (D : va_G) (cI cC cK cO : ClassId) (tL tM : Nat) (adK adV : Nat → Nat) (o : Nat → Nat) (ns : Nat → Int32) (no : Nat → Int32) (nr : Nat → Int32) (nt : Nat → Int32) (nd : Nat → Int32) (ni : Nat → Int32) (nm : Int32) (nf : Int32) (cl : Nat → Nat → Int32) (cc : Int32) (cs : Nat → Int32) (ct : Int32) (K : Nat) (R : Int32 × (Nat → Int32) × (Nat → Int32) × (Nat → Int32) × Int32 × (Nat → Nat → Int32) × Int32) (hf : f_X2_endDay K ns no nr nf cl ct = some R) : KI l D (TY cI cC cK cO) (gE tL tM adK adV) yX2_endDay wsX2_endDay 3 [.ref (o 0)] (wO cI cK o ns no nr nt nd ni nm nf cl cc cs ct) (fun (r : Int32) (u : (Nat → Int32) × (Nat → Int32) × (Nat → Int32) × Int32 × (Nat → Nat → Int32) × Int32) => (r, u) = R) (fun u => (wO cI cK o (u.1) (u.2.1) (u.2.2.1) nt nd ni nm (u.2.2.2.1) (u.2.2.2.2.1) cc cs (u.2.2.2.2.2))) := by
  refine KI.ofI (cc := cX2_endDay) (maxL := 3) (C := RX2) (by decide) rfl rfl (Nat.le_of_ble_eq_true rfl) ?_
  intro p e s m args below meth c A Q hx hb hml hts hown hP hK hD hA hE hS hret ls hl
  replace hl : lv_has ls 3 [(0, .ref (o 0))] := hl
  have w12 := hts (.fieldLink RX2 12 "BlockClerks$Office" "numbers" "LBlockClerks$Numbers;") (by decide +kernel)
  have w20 := hts (.fieldLink RX2 20 "BlockClerks$Office" "clerks" "[LBlockClerks$Clerk;") (by decide +kernel)
  have w32 := hts (.fieldLink RX2 32 "BlockClerks$Office" "today" "I") (by decide +kernel)
  have iX2 : ∀ w ∈ wsX20, w ∈ wsX2_endDay := by decide +kernel
  rw [f_X2_endDay] at hf
  refine lv_aload_n hx hb dX2_endDay_0 rfl (lv_at hl 0 rfl) ?_
  refine va_get (D := D) (ci := 2) (v := .ref (o 1)) (C := RX2) (T := TX2) (N := 5) hx hb hts iX2 hown hK hP 0 rfl rfl 0 (by decide) w12 (fun _ h9 => h9) rfl dX2_endDay_1 ?_
  obtain ⟨⟨r1, y2, y3, y4, y5⟩, h6, hf⟩ := op_b hf
  refine ck_VI (st := [.ref (o 1)]) (rest := []) (As := []) (C := RX1) (ci := 1) ⟨hx, hb, hml, hown, hts⟩ (gE_ok tL tM adK adV) (c_X1_closeAll l D cI cC cK cO tL tM adK adV (o 1) (o 2) (o 3) (o 4) (o 5) (o 6) (o 7) ns no nr nt nd ni nm nf  K _ h6) (cwV 0 hts gX2_endDay_X1_closeAll rfl rfl rfl hv_X1_closeAll ⟨Nat.le_of_ble_eq_true rfl, Nat.le_of_ble_eq_true rfl⟩) hK hP hD hS hA hE [1, 2, 3, 4, 5, 6, 7] rfl rfl rfl rfl rfl (fun _ => rfl) rfl hl.1 rfl (Nat.le_of_ble_eq_true rfl) dX2_endDay_4 ⟨Nat.zero_le _, Nat.zero_le _⟩ (fun r u H locs hw hP hD hS => ?_)
  cases hw
  replace hP : va_P D vwCl (wO cI cK o y2 y3 y4 nt nd ni nm y5 cl cc cs ct) H := hP
  replace hD : va_D A (wO cI cK o y2 y3 y4 nt nd ni nm y5 cl cc cs ct) := hD
  refine lv_istore_n (lv' := [(1, .int r1), (0, .ref (o 0))]) hx hb dX2_endDay_7 rfl hl (by decide) rfl (fun ls hl => ?_)
  refine lv_iconst (v := 0) hx hb dX2_endDay_8 (by decide) ?_
  refine lv_istore_n (lv' := [(2, .int 0), (1, .int r1), (0, .ref (o 0))]) hx hb dX2_endDay_9 rfl hl (by decide) rfl (fun ls hl => ?_)
  refine lv_iload_n hx hb dX2_endDay_10 rfl (lv_at hl 0 rfl) ?_
  refine lv_aload_n hx hb dX2_endDay_11 rfl (lv_at hl 2 rfl) ?_
  refine va_get (D := D) (ci := 2) (v := .ref (o 9)) (C := RX2) (T := TX2) (N := 5) hx hb hts iX2 hown hK hP 0 rfl rfl 1 (by decide) w20 (fun _ h9 => h9) rfl dX2_endDay_12 ?_
  refine va_alen (D := D) hx hb hK hP 9 2 rfl rfl (v := 6) rfl dX2_endDay_15 ?_
  refine lv_icmp_ge (tgt := 34) hx hb dX2_endDay_16 (by decide) (fun c9 => absurd c9 (by decide)) (fun _ => ?_)
  refine lv_aload_n hx hb dX2_endDay_19 rfl (lv_at hl 2 rfl) ?_
  refine va_get (D := D) (ci := 2) (v := .ref (o 9)) (C := RX2) (T := TX2) (N := 5) hx hb hts iX2 hown hK hP 0 rfl rfl 1 (by decide) w20 (fun _ h9 => h9) rfl dX2_endDay_20 ?_
  refine lv_iload_n hx hb dX2_endDay_23 rfl (lv_at hl 0 rfl) ?_
  refine ck_aald (j := 0) (v := o (10 + 0)) hx hb hK hP 9 2 rfl rfl (in_lit (by decide)) (by decide) rfl dX2_endDay_24 ?_
  obtain ⟨y9, h10, hf⟩ := op_b hf
  refine ck_VV (st := [.ref (o (10 + 0))]) (rest := []) (As := []) (C := RX0) (ci := 0) ⟨hx, hb, hml, hown, hts⟩ (gE_ok tL tM adK adV) (c_X0_drop l D cI cC cK cO tL tM adK adV (o (10 + 0)) (cl 0)  _ h10) (cwV 0 hts gX2_endDay_X0_drop rfl rfl rfl hv_X0_drop ⟨Nat.le_of_ble_eq_true rfl, Nat.le_of_ble_eq_true rfl⟩) hK hP hD hS hA hE [10 + 0] (pl_O (by decide)) rfl rfl rfl rfl (fun _ => rfl) rfl hl.1 rfl (Nat.le_of_ble_eq_true rfl) dX2_endDay_25 ⟨Nat.zero_le _, Nat.zero_le _⟩ (fun u H locs hw hP hD hS => ?_)
  cases hw
  obtain ⟨y12, e13, hf⟩ := nb_o hf
  replace hP := st_OP (by decide) e13 hP
  replace hD := st_OD (by decide) e13 hD
  refine lv_iinc (v := 1) (lv' := [(2, .int 1), (1, .int r1), (0, .ref (o 0))]) hx hb dX2_endDay_28 hl (k := 0) rfl (by decide) (by decide) rfl (fun ls hl => ?_)
  refine lv_goto (tgt := 10) hx hb dX2_endDay_31 (by decide) ?_
  refine lv_iload_n hx hb dX2_endDay_10 rfl (lv_at hl 0 rfl) ?_
  refine lv_aload_n hx hb dX2_endDay_11 rfl (lv_at hl 2 rfl) ?_
  refine va_get (D := D) (ci := 2) (v := .ref (o 9)) (C := RX2) (T := TX2) (N := 5) hx hb hts iX2 hown hK hP 0 rfl rfl 1 (by decide) w20 (fun _ h9 => h9) rfl dX2_endDay_12 ?_
  refine va_alen (D := D) hx hb hK hP 9 2 rfl rfl (v := 6) rfl dX2_endDay_15 ?_
  refine lv_icmp_ge (tgt := 34) hx hb dX2_endDay_16 (by decide) (fun c9 => absurd c9 (by decide)) (fun _ => ?_)
  refine lv_aload_n hx hb dX2_endDay_19 rfl (lv_at hl 2 rfl) ?_
  refine va_get (D := D) (ci := 2) (v := .ref (o 9)) (C := RX2) (T := TX2) (N := 5) hx hb hts iX2 hown hK hP 0 rfl rfl 1 (by decide) w20 (fun _ h9 => h9) rfl dX2_endDay_20 ?_
  refine lv_iload_n hx hb dX2_endDay_23 rfl (lv_at hl 0 rfl) ?_
  refine ck_aald (j := 1) (v := o (10 + 1)) hx hb hK hP 9 2 rfl rfl (in_lit (by decide)) (by decide) rfl dX2_endDay_24 ?_
  obtain ⟨y15, h16, hf⟩ := op_b hf
  refine ck_VV (st := [.ref (o (10 + 1))]) (rest := []) (As := []) (C := RX0) (ci := 0) ⟨hx, hb, hml, hown, hts⟩ (gE_ok tL tM adK adV) (c_X0_drop l D cI cC cK cO tL tM adK adV (o (10 + 1)) (y12 1)  _ h16) (cwV 0 hts gX2_endDay_X0_drop rfl rfl rfl hv_X0_drop ⟨Nat.le_of_ble_eq_true rfl, Nat.le_of_ble_eq_true rfl⟩) hK hP hD hS hA hE [10 + 1] (pl_O (by decide)) rfl rfl rfl rfl (fun _ => rfl) rfl hl.1 rfl (Nat.le_of_ble_eq_true rfl) dX2_endDay_25 ⟨Nat.zero_le _, Nat.zero_le _⟩ (fun u H locs hw hP hD hS => ?_)
  cases hw
  obtain ⟨y18, e19, hf⟩ := nb_o hf
  replace hP := st_OP (by decide) e19 hP
  replace hD := st_OD (by decide) e19 hD
  refine lv_iinc (v := 2) (lv' := [(2, .int 2), (1, .int r1), (0, .ref (o 0))]) hx hb dX2_endDay_28 hl (k := 0) rfl (by decide) (by decide) rfl (fun ls hl => ?_)
  refine lv_goto (tgt := 10) hx hb dX2_endDay_31 (by decide) ?_
  refine lv_iload_n hx hb dX2_endDay_10 rfl (lv_at hl 0 rfl) ?_
  refine lv_aload_n hx hb dX2_endDay_11 rfl (lv_at hl 2 rfl) ?_
  refine va_get (D := D) (ci := 2) (v := .ref (o 9)) (C := RX2) (T := TX2) (N := 5) hx hb hts iX2 hown hK hP 0 rfl rfl 1 (by decide) w20 (fun _ h9 => h9) rfl dX2_endDay_12 ?_
  refine va_alen (D := D) hx hb hK hP 9 2 rfl rfl (v := 6) rfl dX2_endDay_15 ?_
  refine lv_icmp_ge (tgt := 34) hx hb dX2_endDay_16 (by decide) (fun c9 => absurd c9 (by decide)) (fun _ => ?_)
  refine lv_aload_n hx hb dX2_endDay_19 rfl (lv_at hl 2 rfl) ?_
  refine va_get (D := D) (ci := 2) (v := .ref (o 9)) (C := RX2) (T := TX2) (N := 5) hx hb hts iX2 hown hK hP 0 rfl rfl 1 (by decide) w20 (fun _ h9 => h9) rfl dX2_endDay_20 ?_
  refine lv_iload_n hx hb dX2_endDay_23 rfl (lv_at hl 0 rfl) ?_
  refine ck_aald (j := 2) (v := o (10 + 2)) hx hb hK hP 9 2 rfl rfl (in_lit (by decide)) (by decide) rfl dX2_endDay_24 ?_
  obtain ⟨y21, h22, hf⟩ := op_b hf
  refine ck_VV (st := [.ref (o (10 + 2))]) (rest := []) (As := []) (C := RX0) (ci := 0) ⟨hx, hb, hml, hown, hts⟩ (gE_ok tL tM adK adV) (c_X0_drop l D cI cC cK cO tL tM adK adV (o (10 + 2)) (y18 2)  _ h22) (cwV 0 hts gX2_endDay_X0_drop rfl rfl rfl hv_X0_drop ⟨Nat.le_of_ble_eq_true rfl, Nat.le_of_ble_eq_true rfl⟩) hK hP hD hS hA hE [10 + 2] (pl_O (by decide)) rfl rfl rfl rfl (fun _ => rfl) rfl hl.1 rfl (Nat.le_of_ble_eq_true rfl) dX2_endDay_25 ⟨Nat.zero_le _, Nat.zero_le _⟩ (fun u H locs hw hP hD hS => ?_)
  cases hw
  obtain ⟨y24, e25, hf⟩ := nb_o hf
  replace hP := st_OP (by decide) e25 hP
  replace hD := st_OD (by decide) e25 hD
  refine lv_iinc (v := 3) (lv' := [(2, .int 3), (1, .int r1), (0, .ref (o 0))]) hx hb dX2_endDay_28 hl (k := 0) rfl (by decide) (by decide) rfl (fun ls hl => ?_)
  refine lv_goto (tgt := 10) hx hb dX2_endDay_31 (by decide) ?_
  refine lv_iload_n hx hb dX2_endDay_10 rfl (lv_at hl 0 rfl) ?_
  refine lv_aload_n hx hb dX2_endDay_11 rfl (lv_at hl 2 rfl) ?_
  refine va_get (D := D) (ci := 2) (v := .ref (o 9)) (C := RX2) (T := TX2) (N := 5) hx hb hts iX2 hown hK hP 0 rfl rfl 1 (by decide) w20 (fun _ h9 => h9) rfl dX2_endDay_12 ?_
  refine va_alen (D := D) hx hb hK hP 9 2 rfl rfl (v := 6) rfl dX2_endDay_15 ?_
  refine lv_icmp_ge (tgt := 34) hx hb dX2_endDay_16 (by decide) (fun c9 => absurd c9 (by decide)) (fun _ => ?_)
  refine lv_aload_n hx hb dX2_endDay_19 rfl (lv_at hl 2 rfl) ?_
  refine va_get (D := D) (ci := 2) (v := .ref (o 9)) (C := RX2) (T := TX2) (N := 5) hx hb hts iX2 hown hK hP 0 rfl rfl 1 (by decide) w20 (fun _ h9 => h9) rfl dX2_endDay_20 ?_
  refine lv_iload_n hx hb dX2_endDay_23 rfl (lv_at hl 0 rfl) ?_
  refine ck_aald (j := 3) (v := o (10 + 3)) hx hb hK hP 9 2 rfl rfl (in_lit (by decide)) (by decide) rfl dX2_endDay_24 ?_
  obtain ⟨y27, h28, hf⟩ := op_b hf
  refine ck_VV (st := [.ref (o (10 + 3))]) (rest := []) (As := []) (C := RX0) (ci := 0) ⟨hx, hb, hml, hown, hts⟩ (gE_ok tL tM adK adV) (c_X0_drop l D cI cC cK cO tL tM adK adV (o (10 + 3)) (y24 3)  _ h28) (cwV 0 hts gX2_endDay_X0_drop rfl rfl rfl hv_X0_drop ⟨Nat.le_of_ble_eq_true rfl, Nat.le_of_ble_eq_true rfl⟩) hK hP hD hS hA hE [10 + 3] (pl_O (by decide)) rfl rfl rfl rfl (fun _ => rfl) rfl hl.1 rfl (Nat.le_of_ble_eq_true rfl) dX2_endDay_25 ⟨Nat.zero_le _, Nat.zero_le _⟩ (fun u H locs hw hP hD hS => ?_)
  cases hw
  obtain ⟨y30, e31, hf⟩ := nb_o hf
  replace hP := st_OP (by decide) e31 hP
  replace hD := st_OD (by decide) e31 hD
  refine lv_iinc (v := 4) (lv' := [(2, .int 4), (1, .int r1), (0, .ref (o 0))]) hx hb dX2_endDay_28 hl (k := 0) rfl (by decide) (by decide) rfl (fun ls hl => ?_)
  refine lv_goto (tgt := 10) hx hb dX2_endDay_31 (by decide) ?_
  refine lv_iload_n hx hb dX2_endDay_10 rfl (lv_at hl 0 rfl) ?_
  refine lv_aload_n hx hb dX2_endDay_11 rfl (lv_at hl 2 rfl) ?_
  refine va_get (D := D) (ci := 2) (v := .ref (o 9)) (C := RX2) (T := TX2) (N := 5) hx hb hts iX2 hown hK hP 0 rfl rfl 1 (by decide) w20 (fun _ h9 => h9) rfl dX2_endDay_12 ?_
  refine va_alen (D := D) hx hb hK hP 9 2 rfl rfl (v := 6) rfl dX2_endDay_15 ?_
  refine lv_icmp_ge (tgt := 34) hx hb dX2_endDay_16 (by decide) (fun c9 => absurd c9 (by decide)) (fun _ => ?_)
  refine lv_aload_n hx hb dX2_endDay_19 rfl (lv_at hl 2 rfl) ?_
  refine va_get (D := D) (ci := 2) (v := .ref (o 9)) (C := RX2) (T := TX2) (N := 5) hx hb hts iX2 hown hK hP 0 rfl rfl 1 (by decide) w20 (fun _ h9 => h9) rfl dX2_endDay_20 ?_
  refine lv_iload_n hx hb dX2_endDay_23 rfl (lv_at hl 0 rfl) ?_
  refine ck_aald (j := 4) (v := o (10 + 4)) hx hb hK hP 9 2 rfl rfl (in_lit (by decide)) (by decide) rfl dX2_endDay_24 ?_
  obtain ⟨y33, h34, hf⟩ := op_b hf
  refine ck_VV (st := [.ref (o (10 + 4))]) (rest := []) (As := []) (C := RX0) (ci := 0) ⟨hx, hb, hml, hown, hts⟩ (gE_ok tL tM adK adV) (c_X0_drop l D cI cC cK cO tL tM adK adV (o (10 + 4)) (y30 4)  _ h34) (cwV 0 hts gX2_endDay_X0_drop rfl rfl rfl hv_X0_drop ⟨Nat.le_of_ble_eq_true rfl, Nat.le_of_ble_eq_true rfl⟩) hK hP hD hS hA hE [10 + 4] (pl_O (by decide)) rfl rfl rfl rfl (fun _ => rfl) rfl hl.1 rfl (Nat.le_of_ble_eq_true rfl) dX2_endDay_25 ⟨Nat.zero_le _, Nat.zero_le _⟩ (fun u H locs hw hP hD hS => ?_)
  cases hw
  obtain ⟨y36, e37, hf⟩ := nb_o hf
  replace hP := st_OP (by decide) e37 hP
  replace hD := st_OD (by decide) e37 hD
  refine lv_iinc (v := 5) (lv' := [(2, .int 5), (1, .int r1), (0, .ref (o 0))]) hx hb dX2_endDay_28 hl (k := 0) rfl (by decide) (by decide) rfl (fun ls hl => ?_)
  refine lv_goto (tgt := 10) hx hb dX2_endDay_31 (by decide) ?_
  refine lv_iload_n hx hb dX2_endDay_10 rfl (lv_at hl 0 rfl) ?_
  refine lv_aload_n hx hb dX2_endDay_11 rfl (lv_at hl 2 rfl) ?_
  refine va_get (D := D) (ci := 2) (v := .ref (o 9)) (C := RX2) (T := TX2) (N := 5) hx hb hts iX2 hown hK hP 0 rfl rfl 1 (by decide) w20 (fun _ h9 => h9) rfl dX2_endDay_12 ?_
  refine va_alen (D := D) hx hb hK hP 9 2 rfl rfl (v := 6) rfl dX2_endDay_15 ?_
  refine lv_icmp_ge (tgt := 34) hx hb dX2_endDay_16 (by decide) (fun c9 => absurd c9 (by decide)) (fun _ => ?_)
  refine lv_aload_n hx hb dX2_endDay_19 rfl (lv_at hl 2 rfl) ?_
  refine va_get (D := D) (ci := 2) (v := .ref (o 9)) (C := RX2) (T := TX2) (N := 5) hx hb hts iX2 hown hK hP 0 rfl rfl 1 (by decide) w20 (fun _ h9 => h9) rfl dX2_endDay_20 ?_
  refine lv_iload_n hx hb dX2_endDay_23 rfl (lv_at hl 0 rfl) ?_
  refine ck_aald (j := 5) (v := o (10 + 5)) hx hb hK hP 9 2 rfl rfl (in_lit (by decide)) (by decide) rfl dX2_endDay_24 ?_
  obtain ⟨y39, h40, hf⟩ := op_b hf
  refine ck_VV (st := [.ref (o (10 + 5))]) (rest := []) (As := []) (C := RX0) (ci := 0) ⟨hx, hb, hml, hown, hts⟩ (gE_ok tL tM adK adV) (c_X0_drop l D cI cC cK cO tL tM adK adV (o (10 + 5)) (y36 5)  _ h40) (cwV 0 hts gX2_endDay_X0_drop rfl rfl rfl hv_X0_drop ⟨Nat.le_of_ble_eq_true rfl, Nat.le_of_ble_eq_true rfl⟩) hK hP hD hS hA hE [10 + 5] (pl_O (by decide)) rfl rfl rfl rfl (fun _ => rfl) rfl hl.1 rfl (Nat.le_of_ble_eq_true rfl) dX2_endDay_25 ⟨Nat.zero_le _, Nat.zero_le _⟩ (fun u H locs hw hP hD hS => ?_)
  cases hw
  obtain ⟨y42, e43, hf⟩ := nb_o hf
  replace hP := st_OP (by decide) e43 hP
  replace hD := st_OD (by decide) e43 hD
  refine lv_iinc (v := 6) (lv' := [(2, .int 6), (1, .int r1), (0, .ref (o 0))]) hx hb dX2_endDay_28 hl (k := 0) rfl (by decide) (by decide) rfl (fun ls hl => ?_)
  refine lv_goto (tgt := 10) hx hb dX2_endDay_31 (by decide) ?_
  refine lv_iload_n hx hb dX2_endDay_10 rfl (lv_at hl 0 rfl) ?_
  refine lv_aload_n hx hb dX2_endDay_11 rfl (lv_at hl 2 rfl) ?_
  refine va_get (D := D) (ci := 2) (v := .ref (o 9)) (C := RX2) (T := TX2) (N := 5) hx hb hts iX2 hown hK hP 0 rfl rfl 1 (by decide) w20 (fun _ h9 => h9) rfl dX2_endDay_12 ?_
  refine va_alen (D := D) hx hb hK hP 9 2 rfl rfl (v := 6) rfl dX2_endDay_15 ?_
  refine lv_icmp_ge (tgt := 34) hx hb dX2_endDay_16 (by decide) (fun _ => ?_) (fun c9 => absurd c9 (by decide))
  refine lv_aload_n hx hb dX2_endDay_34 rfl (lv_at hl 2 rfl) ?_
  refine lv_dup hx hb dX2_endDay_35 rfl ?_
  refine va_get (D := D) (ci := 2) (v := .int ct) (C := RX2) (T := TX2) (N := 5) hx hb hts iX2 hown hK hP 0 rfl rfl 4 (by decide) w32 (fun _ h9 => h9) rfl dX2_endDay_36 ?_
  refine lv_iconst (v := 1) hx hb dX2_endDay_39 (by decide) ?_
  refine lv_iadd hx hb dX2_endDay_40 ?_
  refine va_put (D := D) (ci := 2) (v := .int (ct + 1)) (ty := .int) (C := RX2) (T := TX2) (N := 5) hx hb hts iX2 tyX2 tyX2_ok nmX2 hown hK hP hD hS 0 rfl rfl 4 (by decide) w32 (fun _ h9 => h9) rfl (by decide +kernel) rfl rfl (Nat.le_of_ble_eq_true rfl) dX2_endDay_41 (fun H locs hP hD hS => ?_)
  replace hP : va_P D vwCl (wO cI cK o y2 y3 y4 nt nd ni nm y5 y42 cc cs (ct + 1)) H := hP
  replace hD : va_D A (wO cI cK o y2 y3 y4 nt nd ni nm y5 y42 cc cs (ct + 1)) := hD
  refine lv_iload_n hx hb dX2_endDay_44 rfl (lv_at hl 1 rfl) ?_
  exact hret _ _ _ _ _ (y2, y3, y4, y5, y42, (ct + 1)) dX2_endDay_45 (op_k hf) hP hS
set_option maxHeartbeats 4000000 in
set_option maxRecDepth 100000 in
theorem c_X2_change (l : Launch) (D : va_G) (cI cC cK cO : ClassId) (tL tM : Nat) (adK adV : Nat → Nat) (o : Nat → Nat) (ns : Nat → Int32) (no : Nat → Int32) (nr : Nat → Int32) (nt : Nat → Int32) (nd : Nat → Int32) (ni : Nat → Int32) (nm : Int32) (nf : Int32) (cl : Nat → Nat → Int32) (cc : Int32) (cs : Nat → Int32) (ct : Int32) (x1 : Int32) (x2 : Int32) (R : Int32 × (Nat → Int32)) (hf : f_X2_change cs x1 x2 = some R) : KI l D (TY cI cC cK cO) (gE tL tM adK adV) yX2_change wsX2_change 0 [.ref (o 0), .int x1, .int x2] (wO cI cK o ns no nr nt nd ni nm nf cl cc cs ct) (fun (r : Int32) (u : (Nat → Int32)) => (r, u) = R) (fun u => (wO cI cK o ns no nr nt nd ni nm nf cl cc u ct)) := by
  refine KI.ofI (cc := cX2_change) (maxL := 4) (C := RX2) (by decide) rfl rfl (Nat.le_of_ble_eq_true rfl) ?_
  intro p e s m args below meth c A Q hx hb hml hts hown hP hK hD hA hE hS hret ls hl
  replace hl : lv_has ls 4 [(0, .ref (o 0)), (1, .int x1), (2, .int x2)] := hl
  have w127 := hts (.fieldLink RX2 127 "BlockClerks$Office" "LEAST" "[I") (by decide +kernel)
  have w130 := hts (.fieldLink RX2 130 "BlockClerks$Office" "MOST" "[I") (by decide +kernel)
  have w28 := hts (.fieldLink RX2 28 "BlockClerks$Office" "settings" "[I") (by decide +kernel)
  have iX2 : ∀ w ∈ wsX20, w ∈ wsX2_change := by decide +kernel
  rw [f_X2_change] at hf
  refine lv_iload_n hx hb dX2_change_0 rfl (lv_at hl 1 rfl) ?_
  refine lv_if_lt (tgt := 27) hx hb dX2_change_1 (by decide) (fun c1 => ?_) (fun c1 => ?_)
  · replace hf := op_t c1 hf
    refine lv_iconst (v := (-1)) hx hb dX2_change_27 (by decide) ?_
    exact hret _ _ _ _ _ (cs) dX2_change_28 (op_k hf) hP hS
  · replace hf := op_f c1 hf
    refine lv_iload_n hx hb dX2_change_4 rfl (lv_at hl 1 rfl) ?_
    refine lv_iconst (v := 3) hx hb dX2_change_5 (by decide) ?_
    refine lv_icmp_ge (tgt := 27) hx hb dX2_change_6 (by decide) (fun c2 => ?_) (fun c2 => ?_)
    · replace hf := op_t c2 hf
      refine lv_iconst (v := (-1)) hx hb dX2_change_27 (by decide) ?_
      exact hret _ _ _ _ _ (cs) dX2_change_28 (op_k hf) hP hS
    · replace hf := op_f c2 hf
      refine lv_iload_n hx hb dX2_change_9 rfl (lv_at hl 2 rfl) ?_
      refine va_gets hx hb hE.2.1.1 hS hown w127 (fun _ h9 => h9) dX2_change_10 ?_
      refine lv_iload_n hx hb dX2_change_13 rfl (lv_at hl 1 rfl) ?_
      obtain ⟨q3, hf⟩ := op_x hf
      refine ck_tald (j := (x1).toNatClampNeg) hx hb hE.2.1.2.1 hS q3 rfl dX2_change_14 ?_
      refine lv_icmp_lt (tgt := 27) hx hb dX2_change_15 (by decide) (fun c4 => ?_) (fun c4 => ?_)
      · replace hf := op_t c4 hf
        refine lv_iconst (v := (-1)) hx hb dX2_change_27 (by decide) ?_
        exact hret _ _ _ _ _ (cs) dX2_change_28 (op_k hf) hP hS
      · replace hf := op_f c4 hf
        refine lv_iload_n hx hb dX2_change_18 rfl (lv_at hl 2 rfl) ?_
        refine va_gets hx hb hE.2.1.2.2.1 hS hown w130 (fun _ h9 => h9) dX2_change_19 ?_
        refine lv_iload_n hx hb dX2_change_22 rfl (lv_at hl 1 rfl) ?_
        obtain ⟨q5, hf⟩ := op_x hf
        refine ck_tald (j := (x1).toNatClampNeg) hx hb hE.2.1.2.2.2.1 hS q5 rfl dX2_change_23 ?_
        refine lv_icmp_le (tgt := 29) hx hb dX2_change_24 (by decide) (fun c6 => ?_) (fun c6 => ?_)
        · replace hf := op_t c6 hf
          refine lv_aload_n hx hb dX2_change_29 rfl (lv_at hl 0 rfl) ?_
          refine va_get (D := D) (ci := 2) (v := .ref (o 8)) (C := RX2) (T := TX2) (N := 5) hx hb hts iX2 hown hK hP 0 rfl rfl 3 (by decide) w28 (fun _ h9 => h9) rfl dX2_change_30 ?_
          refine lv_iload_n hx hb dX2_change_33 rfl (lv_at hl 1 rfl) ?_
          obtain ⟨q7, hf⟩ := op_x hf
          refine ck_iald (j := (x1).toNatClampNeg) hx hb hK hP 8 0 rfl rfl q7 rfl dX2_change_34 ?_
          refine lv_istore_n (lv' := [(3, .int (cs (x1).toNatClampNeg)), (0, .ref (o 0)), (1, .int x1), (2, .int x2)]) hx hb dX2_change_35 rfl hl (by decide) rfl (fun ls hl => ?_)
          refine lv_aload_n hx hb dX2_change_36 rfl (lv_at hl 1 rfl) ?_
          refine va_get (D := D) (ci := 2) (v := .ref (o 8)) (C := RX2) (T := TX2) (N := 5) hx hb hts iX2 hown hK hP 0 rfl rfl 3 (by decide) w28 (fun _ h9 => h9) rfl dX2_change_37 ?_
          refine lv_iload_n hx hb dX2_change_40 rfl (lv_at hl 2 rfl) ?_
          refine lv_iload_n hx hb dX2_change_41 rfl (lv_at hl 3 rfl) ?_
          obtain ⟨q8, hf⟩ := op_x hf
          obtain ⟨y9, e10, hf⟩ := nb_o hf
          refine ck_iast (f' := y9) hx hb hK hP hD hS 8 0 rfl rfl q8 dX2_change_42 e10 (fun H locs hP hD hS => ?_)
          replace hP : va_P D vwCl (wO cI cK o ns no nr nt nd ni nm nf cl cc y9 ct) H := hP
          replace hD : va_D A (wO cI cK o ns no nr nt nd ni nm nf cl cc y9 ct) := hD
          refine lv_iload_n hx hb dX2_change_43 rfl (lv_at hl 0 rfl) ?_
          exact hret _ _ _ _ _ (y9) dX2_change_44 (op_k hf) hP hS
        · replace hf := op_f c6 hf
          refine lv_iconst (v := (-1)) hx hb dX2_change_27 (by decide) ?_
          exact hret _ _ _ _ _ (cs) dX2_change_28 (op_k hf) hP hS
set_option maxHeartbeats 4000000 in
set_option maxRecDepth 100000 in
theorem c_X2_tellOfClerk (l : Launch) (D : va_G) (cI cC cK cO : ClassId) (tL tM : Nat) (adK adV : Nat → Nat) (o : Nat → Nat) (ns : Nat → Int32) (no : Nat → Int32) (nr : Nat → Int32) (nt : Nat → Int32) (nd : Nat → Int32) (ni : Nat → Int32) (nm : Int32) (nf : Int32) (cl : Nat → Nat → Int32) (cc : Int32) (cs : Nat → Int32) (ct : Int32) (x1 : Int32) (x2 : Int32) (K : Nat) (R : Int32) (hf : f_X2_tellOfClerk K ns no nr cl cc x1 x2 = some R) : KI l D (TY cI cC cK cO) (gE tL tM adK adV) yX2_tellOfClerk wsX2_tellOfClerk 1 [.ref (o 0), .int x1, .int x2] (wO cI cK o ns no nr nt nd ni nm nf cl cc cs ct) (fun (r : Int32) (u : Unit) => r = R) (fun u => (wO cI cK o ns no nr nt nd ni nm nf cl cc cs ct)) := by
  refine KI.ofI (cc := cX2_tellOfClerk) (maxL := 5) (C := RX2) (by decide) rfl rfl (Nat.le_of_ble_eq_true rfl) ?_
  intro p e s m args below meth c A Q hx hb hml hts hown hP hK hD hA hE hS hret ls hl
  replace hl : lv_has ls 5 [(0, .ref (o 0)), (1, .int x1), (2, .int x2)] := hl
  have hh11951 := hts (.initialized RX4) (by decide +kernel)
  have hh25028 := hts (.static yX4_orNotFound) (by decide +kernel)
  have w106 := hts (.fieldLink RX2 106 "BlockClerks$Clerk" "low" "I") (by decide +kernel)
  have w112 := hts (.fieldLink RX2 112 "BlockClerks$Clerk" "high" "I") (by decide +kernel)
  have w12 := hts (.fieldLink RX2 12 "BlockClerks$Office" "numbers" "LBlockClerks$Numbers;") (by decide +kernel)
  have w133 := hts (.fieldLink RX2 133 "BlockClerks$Clerk" "mark" "I") (by decide +kernel)
  have w136 := hts (.fieldLink RX2 136 "BlockClerks$Clerk" "given" "I") (by decide +kernel)
  have w145 := hts (.fieldLink RX2 145 "BlockClerks$Clerk" "blocks" "I") (by decide +kernel)
  have w148 := hts (.fieldLink RX2 148 "BlockClerks$Clerk" "latest" "I") (by decide +kernel)
  have w20 := hts (.fieldLink RX2 20 "BlockClerks$Office" "clerks" "[LBlockClerks$Clerk;") (by decide +kernel)
  have w49 := hts (.fieldLink RX2 49 "BlockClerks$Clerk" "kind" "I") (by decide +kernel)
  have iX0 : ∀ w ∈ wsX00, w ∈ wsX2_tellOfClerk := by decide +kernel
  have iX2 : ∀ w ∈ wsX20, w ∈ wsX2_tellOfClerk := by decide +kernel
  rw [f_X2_tellOfClerk] at hf
  refine lv_aload_n hx hb dX2_tellOfClerk_0 rfl (lv_at hl 0 rfl) ?_
  refine lv_iload_n hx hb dX2_tellOfClerk_1 rfl (lv_at hl 1 rfl) ?_
  refine ck_VI (st := [.int x1, .ref (o 0)]) (rest := []) (As := [.int x1]) (C := RX2) (ci := 2) ⟨hx, hb, hml, hown, hts⟩ (gE_ok tL tM adK adV) (c_X2_isClerk l D cI cC cK cO tL tM adK adV o ns no nr nt nd ni nm nf cl cc cs ct x1 _ rfl) (cwV 1 hts gX2_tellOfClerk_X2_isClerk rfl rfl rfl hv_X2_isClerk ⟨Nat.le_of_ble_eq_true rfl, Nat.le_of_ble_eq_true rfl⟩) hK hP hD hS hA hE [0, 1, 2, 3, 4, 5, 6, 7, 8, 9, 10, 11, 12, 13, 14, 15] rfl rfl rfl rfl rfl (fun _ => rfl) rfl hl.1 rfl (Nat.le_of_ble_eq_true rfl) dX2_tellOfClerk_2 ⟨Nat.zero_le _, Nat.zero_le _⟩ (fun r u H locs hw hP hD hS => ?_)
  obtain ⟨hw, z2⟩ := hw
  cases hw
  replace hP : va_P D vwCl (wO cI cK o ns no nr nt nd ni nm nf cl cc cs ct) H := hP
  replace hD : va_D A (wO cI cK o ns no nr nt nd ni nm nf cl cc cs ct) := hD
  refine lv_if_ne (tgt := 10) hx hb dX2_tellOfClerk_5 (by decide) (fun c3 => ?_) (fun c3 => ?_)
  · replace hf := op_f c3 hf
    refine lv_aload_n hx hb dX2_tellOfClerk_10 rfl (lv_at hl 0 rfl) ?_
    refine va_get (D := D) (ci := 2) (v := .ref (o 9)) (C := RX2) (T := TX2) (N := 5) hx hb hts iX2 hown hK hP 0 rfl rfl 1 (by decide) w20 (fun _ h9 => h9) rfl dX2_tellOfClerk_11 ?_
    refine lv_iload_n hx hb dX2_tellOfClerk_14 rfl (lv_at hl 1 rfl) ?_
    obtain ⟨q4, hf⟩ := op_x hf
    refine ck_aald (j := (x1).toNatClampNeg) (v := o (10 + (x1).toNatClampNeg)) hx hb hK hP 9 2 rfl rfl q4 rfl rfl dX2_tellOfClerk_15 ?_
    refine lv_astore_n (lv' := [(3, .ref (o (10 + (x1).toNatClampNeg))), (0, .ref (o 0)), (1, .int x1), (2, .int x2)]) hx hb dX2_tellOfClerk_16 rfl hl (by decide) rfl (fun ls hl => ?_)
    refine lv_aload_n hx hb dX2_tellOfClerk_17 rfl (lv_at hl 0 rfl) ?_
    refine ck_VI (st := [.ref (o (10 + (x1).toNatClampNeg))]) (rest := []) (As := []) (C := RX0) (ci := 0) ⟨hx, hb, hml, hown, hts⟩ (gE_ok tL tM adK adV) (c_X0_held l D cI cC cK cO tL tM adK adV (o (10 + (x1).toNatClampNeg)) (cl (x1).toNatClampNeg)  _ rfl) (cwV 0 hts gX2_tellOfClerk_X0_held rfl rfl rfl hv_X0_held ⟨Nat.le_of_ble_eq_true rfl, Nat.le_of_ble_eq_true rfl⟩) hK hP hD hS hA hE [10 + (x1).toNatClampNeg] (pl_O (in_lt q4)) rfl rfl rfl rfl (fun _ => rfl) rfl hl.1 rfl (Nat.le_of_ble_eq_true rfl) dX2_tellOfClerk_18 ⟨Nat.zero_le _, Nat.zero_le _⟩ (fun r u H locs hw hP hD hS => ?_)
    cases hw
    replace hP := st_OP0 (in_lt q4) hP
    replace hD := st_OD0 (in_lt q4) hD
    refine lv_if_le (tgt := 28) hx hb dX2_tellOfClerk_21 (by decide) (fun c7 => ?_) (fun c7 => ?_)
    · replace hf := op_t c7 hf
      refine lv_iconst (v := 0) hx hb dX2_tellOfClerk_28 (by decide) ?_
      refine lv_istore (lv' := [(4, .int 0), (3, .ref (o (10 + (x1).toNatClampNeg))), (0, .ref (o 0)), (1, .int x1), (2, .int x2)]) hx hb dX2_tellOfClerk_29 hl (by decide) rfl (fun ls hl => ?_)
      refine lv_iload_n hx hb dX2_tellOfClerk_31 rfl (lv_at hl 4 rfl) ?_
      by_cases c8 : x2 = 0
      · replace hf := op_t c8 hf
        refine sw_in (v := 0) (tgt := 88) hx hb dX2_tellOfClerk_32 c8 (by decide) (by decide) rfl (by decide) ?_
        refine lv_aload_n hx hb dX2_tellOfClerk_88 rfl (lv_at hl 1 rfl) ?_
        refine va_get (D := D) (ci := 0) (v := .int (cl (x1).toNatClampNeg 0)) (C := RX0) (T := TX0) (N := 7) hx hb hts iX0 hown hK hP (10 + (x1).toNatClampNeg) (lk_O (in_lt q4)) rfl 0 (by decide) w49 (fun _ h9 => h9) rfl dX2_tellOfClerk_89 ?_
        exact hret _ _ _ _ _ () dX2_tellOfClerk_92 (op_k hf) hP hS
      replace hf := op_f c8 hf
      by_cases c9 : x2 = 1
      · replace hf := op_t c9 hf
        refine sw_in (v := 1) (tgt := 93) hx hb dX2_tellOfClerk_32 c9 (by decide) (by decide) rfl (by decide) ?_
        refine lv_aload_n hx hb dX2_tellOfClerk_93 rfl (lv_at hl 1 rfl) ?_
        refine ck_VI (st := [.ref (o (10 + (x1).toNatClampNeg))]) (rest := []) (As := []) (C := RX0) (ci := 0) ⟨hx, hb, hml, hown, hts⟩ (gE_ok tL tM adK adV) (c_X0_held l D cI cC cK cO tL tM adK adV (o (10 + (x1).toNatClampNeg)) (cl (x1).toNatClampNeg)  _ rfl) (cwV 0 hts gX2_tellOfClerk_X0_held rfl rfl rfl hv_X0_held ⟨Nat.le_of_ble_eq_true rfl, Nat.le_of_ble_eq_true rfl⟩) hK hP hD hS hA hE [10 + (x1).toNatClampNeg] (pl_O (in_lt q4)) rfl rfl rfl rfl (fun _ => rfl) rfl hl.1 rfl (Nat.le_of_ble_eq_true rfl) dX2_tellOfClerk_94 ⟨Nat.zero_le _, Nat.zero_le _⟩ (fun r u H locs hw hP hD hS => ?_)
        cases hw
        replace hP := st_OP0 (in_lt q4) hP
        replace hD := st_OD0 (in_lt q4) hD
        exact hret _ _ _ _ _ () dX2_tellOfClerk_97 (op_k hf) hP hS
      replace hf := op_f c9 hf
      by_cases c12 : x2 = 2
      · replace hf := op_t c12 hf
        refine sw_in (v := 2) (tgt := 98) hx hb dX2_tellOfClerk_32 c12 (by decide) (by decide) rfl (by decide) ?_
        refine lv_iload hx hb dX2_tellOfClerk_98 (lv_at hl 0 rfl) ?_
        refine lv_if_eq (tgt := 110) hx hb dX2_tellOfClerk_100 (by decide) (fun _ => ?_) (fun c9 => absurd c9 (by decide))
        refine lv_bipush (v := (-4)) hx hb dX2_tellOfClerk_110 (by decide) ?_
        exact hret _ _ _ _ _ () dX2_tellOfClerk_112 (op_k hf) hP hS
      replace hf := op_f c12 hf
      by_cases c13 : x2 = 3
      · replace hf := op_t c13 hf
        refine sw_in (v := 3) (tgt := 113) hx hb dX2_tellOfClerk_32 c13 (by decide) (by decide) rfl (by decide) ?_
        refine lv_iload hx hb dX2_tellOfClerk_113 (lv_at hl 0 rfl) ?_
        refine lv_if_eq (tgt := 125) hx hb dX2_tellOfClerk_115 (by decide) (fun _ => ?_) (fun c9 => absurd c9 (by decide))
        refine lv_bipush (v := (-4)) hx hb dX2_tellOfClerk_125 (by decide) ?_
        exact hret _ _ _ _ _ () dX2_tellOfClerk_127 (op_k hf) hP hS
      replace hf := op_f c13 hf
      by_cases c14 : x2 = 4
      · replace hf := op_t c14 hf
        refine sw_in (v := 4) (tgt := 128) hx hb dX2_tellOfClerk_32 c14 (by decide) (by decide) rfl (by decide) ?_
        refine lv_iload hx hb dX2_tellOfClerk_128 (lv_at hl 0 rfl) ?_
        refine lv_if_eq (tgt := 140) hx hb dX2_tellOfClerk_130 (by decide) (fun _ => ?_) (fun c9 => absurd c9 (by decide))
        refine lv_bipush (v := (-4)) hx hb dX2_tellOfClerk_140 (by decide) ?_
        exact hret _ _ _ _ _ () dX2_tellOfClerk_142 (op_k hf) hP hS
      replace hf := op_f c14 hf
      by_cases c15 : x2 = 5
      · replace hf := op_t c15 hf
        refine sw_in (v := 5) (tgt := 143) hx hb dX2_tellOfClerk_32 c15 (by decide) (by decide) rfl (by decide) ?_
        refine lv_aload_n hx hb dX2_tellOfClerk_143 rfl (lv_at hl 1 rfl) ?_
        refine va_get (D := D) (ci := 0) (v := .int (cl (x1).toNatClampNeg 4)) (C := RX0) (T := TX0) (N := 7) hx hb hts iX0 hown hK hP (10 + (x1).toNatClampNeg) (lk_O (in_lt q4)) rfl 4 (by decide) w136 (fun _ h9 => h9) rfl dX2_tellOfClerk_144 ?_
        exact hret _ _ _ _ _ () dX2_tellOfClerk_147 (op_k hf) hP hS
      replace hf := op_f c15 hf
      by_cases c16 : x2 = 6
      · replace hf := op_t c16 hf
        refine sw_in (v := 6) (tgt := 148) hx hb dX2_tellOfClerk_32 c16 (by decide) (by decide) rfl (by decide) ?_
        refine lv_aload_n hx hb dX2_tellOfClerk_148 rfl (lv_at hl 2 rfl) ?_
        refine va_get (D := D) (ci := 2) (v := .ref (o 1)) (C := RX2) (T := TX2) (N := 5) hx hb hts iX2 hown hK hP 0 rfl rfl 0 (by decide) w12 (fun _ h9 => h9) rfl dX2_tellOfClerk_149 ?_
        refine lv_iload_n hx hb dX2_tellOfClerk_152 rfl (lv_at hl 3 rfl) ?_
        obtain ⟨r17, h18, hf⟩ := op_b hf
        refine ck_VI (st := [.int x1, .ref (o 1)]) (rest := []) (As := [.int x1]) (C := RX1) (ci := 1) ⟨hx, hb, hml, hown, hts⟩ (gE_ok tL tM adK adV) (c_X1_holesOf l D cI cC cK cO tL tM adK adV (o 1) (o 2) (o 3) (o 4) (o 5) (o 6) (o 7) ns no nr nt nd ni nm nf x1 K _ h18) (cwV 1 hts gX2_tellOfClerk_X1_holesOf rfl rfl rfl hv_X1_holesOf ⟨Nat.le_of_ble_eq_true rfl, Nat.le_of_ble_eq_true rfl⟩) hK hP hD hS hA hE [1, 2, 3, 4, 5, 6, 7] rfl rfl rfl rfl rfl (fun _ => rfl) rfl hl.1 rfl (Nat.le_of_ble_eq_true rfl) dX2_tellOfClerk_153 ⟨Nat.zero_le _, Nat.zero_le _⟩ (fun r u H locs hw hP hD hS => ?_)
        cases hw
        replace hP : va_P D vwCl (wO cI cK o ns no nr nt nd ni nm nf cl cc cs ct) H := hP
        replace hD : va_D A (wO cI cK o ns no nr nt nd ni nm nf cl cc cs ct) := hD
        exact hret _ _ _ _ _ () dX2_tellOfClerk_156 (op_k hf) hP hS
      replace hf := op_f c16 hf
      by_cases c20 : x2 = 7
      · replace hf := op_t c20 hf
        refine sw_in (v := 7) (tgt := 157) hx hb dX2_tellOfClerk_32 c20 (by decide) (by decide) rfl (by decide) ?_
        refine lv_aload_n hx hb dX2_tellOfClerk_157 rfl (lv_at hl 2 rfl) ?_
        refine va_get (D := D) (ci := 2) (v := .ref (o 1)) (C := RX2) (T := TX2) (N := 5) hx hb hts iX2 hown hK hP 0 rfl rfl 0 (by decide) w12 (fun _ h9 => h9) rfl dX2_tellOfClerk_158 ?_
        refine lv_iload_n hx hb dX2_tellOfClerk_161 rfl (lv_at hl 3 rfl) ?_
        obtain ⟨r21, h22, hf⟩ := op_b hf
        refine ck_VI (st := [.int x1, .ref (o 1)]) (rest := []) (As := [.int x1]) (C := RX1) (ci := 1) ⟨hx, hb, hml, hown, hts⟩ (gE_ok tL tM adK adV) (c_X1_forgottenOf l D cI cC cK cO tL tM adK adV (o 1) (o 2) (o 3) (o 4) (o 5) (o 6) (o 7) ns no nr nt nd ni nm nf x1 K _ h22) (cwV 1 hts gX2_tellOfClerk_X1_forgottenOf rfl rfl rfl hv_X1_forgottenOf ⟨Nat.le_of_ble_eq_true rfl, Nat.le_of_ble_eq_true rfl⟩) hK hP hD hS hA hE [1, 2, 3, 4, 5, 6, 7] rfl rfl rfl rfl rfl (fun _ => rfl) rfl hl.1 rfl (Nat.le_of_ble_eq_true rfl) dX2_tellOfClerk_162 ⟨Nat.zero_le _, Nat.zero_le _⟩ (fun r u H locs hw hP hD hS => ?_)
        cases hw
        replace hP : va_P D vwCl (wO cI cK o ns no nr nt nd ni nm nf cl cc cs ct) H := hP
        replace hD : va_D A (wO cI cK o ns no nr nt nd ni nm nf cl cc cs ct) := hD
        exact hret _ _ _ _ _ () dX2_tellOfClerk_165 (op_k hf) hP hS
      replace hf := op_f c20 hf
      by_cases c24 : x2 = 8
      · replace hf := op_t c24 hf
        refine sw_in (v := 8) (tgt := 166) hx hb dX2_tellOfClerk_32 c24 (by decide) (by decide) rfl (by decide) ?_
        refine lv_aload_n hx hb dX2_tellOfClerk_166 rfl (lv_at hl 1 rfl) ?_
        refine va_get (D := D) (ci := 0) (v := .int (cl (x1).toNatClampNeg 5)) (C := RX0) (T := TX0) (N := 7) hx hb hts iX0 hown hK hP (10 + (x1).toNatClampNeg) (lk_O (in_lt q4)) rfl 5 (by decide) w145 (fun _ h9 => h9) rfl dX2_tellOfClerk_167 ?_
        exact hret _ _ _ _ _ () dX2_tellOfClerk_170 (op_k hf) hP hS
      replace hf := op_f c24 hf
      by_cases c25 : x2 = 9
      · replace hf := op_t c25 hf
        refine sw_in (v := 9) (tgt := 171) hx hb dX2_tellOfClerk_32 c25 (by decide) (by decide) rfl (by decide) ?_
        refine lv_aload_n hx hb dX2_tellOfClerk_171 rfl (lv_at hl 1 rfl) ?_
        refine va_get (D := D) (ci := 0) (v := .int (cl (x1).toNatClampNeg 6)) (C := RX0) (T := TX0) (N := 7) hx hb hts iX0 hown hK hP (10 + (x1).toNatClampNeg) (lk_O (in_lt q4)) rfl 6 (by decide) w148 (fun _ h9 => h9) rfl dX2_tellOfClerk_172 ?_
        refine ck_NI (st := [.int (cl (x1).toNatClampNeg 6)]) (rest := []) (As := [.int (cl (x1).toNatClampNeg 6)]) ⟨hx, hb, hml, hown, hts⟩ (gE_ok tL tM adK adV) (c_X4_orNotFound l D cI cC cK cO tL tM adK adV  (cl (x1).toNatClampNeg 6) _ rfl) ⟨va_cnB 1 hts gX2_tellOfClerk_X4_orNotFound_n151 rfl rfl rfl hE.1.2.1 hh11951 hs_X4_orNotFound ⟨Nat.le_of_ble_eq_true rfl, Nat.le_of_ble_eq_true rfl⟩, hh25028, trivial⟩ hK hP hD hS hA hE rfl hl.1 rfl (Nat.le_of_ble_eq_true rfl) dX2_tellOfClerk_175 ⟨Nat.zero_le _, Nat.zero_le _⟩ (fun r H locs hw hP hS => ?_)
        cases hw
        exact hret _ _ _ _ _ () dX2_tellOfClerk_178 (op_k hf) hP hS
      replace hf := op_f c25 hf
      refine lv_tableOut (tgt := 179) hx hb dX2_tellOfClerk_32 (sw_o_0_10 c8 c9 c12 c13 c14 c15 c16 c20 c24 c25) (by decide) ?_
      refine lv_iconst (v := (-1)) hx hb dX2_tellOfClerk_179 (by decide) ?_
      exact hret _ _ _ _ _ () dX2_tellOfClerk_180 (op_k hf) hP hS
    · replace hf := op_f c7 hf
      refine lv_iconst (v := 1) hx hb dX2_tellOfClerk_24 (by decide) ?_
      refine lv_goto (tgt := 29) hx hb dX2_tellOfClerk_25 (by decide) ?_
      refine lv_istore (lv' := [(4, .int 1), (3, .ref (o (10 + (x1).toNatClampNeg))), (0, .ref (o 0)), (1, .int x1), (2, .int x2)]) hx hb dX2_tellOfClerk_29 hl (by decide) rfl (fun ls hl => ?_)
      refine lv_iload_n hx hb dX2_tellOfClerk_31 rfl (lv_at hl 4 rfl) ?_
      by_cases c28 : x2 = 0
      · replace hf := op_t c28 hf
        refine sw_in (v := 0) (tgt := 88) hx hb dX2_tellOfClerk_32 c28 (by decide) (by decide) rfl (by decide) ?_
        refine lv_aload_n hx hb dX2_tellOfClerk_88 rfl (lv_at hl 1 rfl) ?_
        refine va_get (D := D) (ci := 0) (v := .int (cl (x1).toNatClampNeg 0)) (C := RX0) (T := TX0) (N := 7) hx hb hts iX0 hown hK hP (10 + (x1).toNatClampNeg) (lk_O (in_lt q4)) rfl 0 (by decide) w49 (fun _ h9 => h9) rfl dX2_tellOfClerk_89 ?_
        exact hret _ _ _ _ _ () dX2_tellOfClerk_92 (op_k hf) hP hS
      replace hf := op_f c28 hf
      by_cases c29 : x2 = 1
      · replace hf := op_t c29 hf
        refine sw_in (v := 1) (tgt := 93) hx hb dX2_tellOfClerk_32 c29 (by decide) (by decide) rfl (by decide) ?_
        refine lv_aload_n hx hb dX2_tellOfClerk_93 rfl (lv_at hl 1 rfl) ?_
        refine ck_VI (st := [.ref (o (10 + (x1).toNatClampNeg))]) (rest := []) (As := []) (C := RX0) (ci := 0) ⟨hx, hb, hml, hown, hts⟩ (gE_ok tL tM adK adV) (c_X0_held l D cI cC cK cO tL tM adK adV (o (10 + (x1).toNatClampNeg)) (cl (x1).toNatClampNeg)  _ rfl) (cwV 0 hts gX2_tellOfClerk_X0_held rfl rfl rfl hv_X0_held ⟨Nat.le_of_ble_eq_true rfl, Nat.le_of_ble_eq_true rfl⟩) hK hP hD hS hA hE [10 + (x1).toNatClampNeg] (pl_O (in_lt q4)) rfl rfl rfl rfl (fun _ => rfl) rfl hl.1 rfl (Nat.le_of_ble_eq_true rfl) dX2_tellOfClerk_94 ⟨Nat.zero_le _, Nat.zero_le _⟩ (fun r u H locs hw hP hD hS => ?_)
        cases hw
        replace hP := st_OP0 (in_lt q4) hP
        replace hD := st_OD0 (in_lt q4) hD
        exact hret _ _ _ _ _ () dX2_tellOfClerk_97 (op_k hf) hP hS
      replace hf := op_f c29 hf
      by_cases c32 : x2 = 2
      · replace hf := op_t c32 hf
        refine sw_in (v := 2) (tgt := 98) hx hb dX2_tellOfClerk_32 c32 (by decide) (by decide) rfl (by decide) ?_
        refine lv_iload hx hb dX2_tellOfClerk_98 (lv_at hl 0 rfl) ?_
        refine lv_if_eq (tgt := 110) hx hb dX2_tellOfClerk_100 (by decide) (fun c9 => absurd c9 (by decide)) (fun _ => ?_)
        refine lv_aload_n hx hb dX2_tellOfClerk_103 rfl (lv_at hl 1 rfl) ?_
        refine va_get (D := D) (ci := 0) (v := .int (cl (x1).toNatClampNeg 1)) (C := RX0) (T := TX0) (N := 7) hx hb hts iX0 hown hK hP (10 + (x1).toNatClampNeg) (lk_O (in_lt q4)) rfl 1 (by decide) w106 (fun _ h9 => h9) rfl dX2_tellOfClerk_104 ?_
        refine lv_goto (tgt := 112) hx hb dX2_tellOfClerk_107 (by decide) ?_
        exact hret _ _ _ _ _ () dX2_tellOfClerk_112 (op_k hf) hP hS
      replace hf := op_f c32 hf
      by_cases c33 : x2 = 3
      · replace hf := op_t c33 hf
        refine sw_in (v := 3) (tgt := 113) hx hb dX2_tellOfClerk_32 c33 (by decide) (by decide) rfl (by decide) ?_
        refine lv_iload hx hb dX2_tellOfClerk_113 (lv_at hl 0 rfl) ?_
        refine lv_if_eq (tgt := 125) hx hb dX2_tellOfClerk_115 (by decide) (fun c9 => absurd c9 (by decide)) (fun _ => ?_)
        refine lv_aload_n hx hb dX2_tellOfClerk_118 rfl (lv_at hl 1 rfl) ?_
        refine va_get (D := D) (ci := 0) (v := .int (cl (x1).toNatClampNeg 2)) (C := RX0) (T := TX0) (N := 7) hx hb hts iX0 hown hK hP (10 + (x1).toNatClampNeg) (lk_O (in_lt q4)) rfl 2 (by decide) w112 (fun _ h9 => h9) rfl dX2_tellOfClerk_119 ?_
        refine lv_goto (tgt := 127) hx hb dX2_tellOfClerk_122 (by decide) ?_
        exact hret _ _ _ _ _ () dX2_tellOfClerk_127 (op_k hf) hP hS
      replace hf := op_f c33 hf
      by_cases c34 : x2 = 4
      · replace hf := op_t c34 hf
        refine sw_in (v := 4) (tgt := 128) hx hb dX2_tellOfClerk_32 c34 (by decide) (by decide) rfl (by decide) ?_
        refine lv_iload hx hb dX2_tellOfClerk_128 (lv_at hl 0 rfl) ?_
        refine lv_if_eq (tgt := 140) hx hb dX2_tellOfClerk_130 (by decide) (fun c9 => absurd c9 (by decide)) (fun _ => ?_)
        refine lv_aload_n hx hb dX2_tellOfClerk_133 rfl (lv_at hl 1 rfl) ?_
        refine va_get (D := D) (ci := 0) (v := .int (cl (x1).toNatClampNeg 3)) (C := RX0) (T := TX0) (N := 7) hx hb hts iX0 hown hK hP (10 + (x1).toNatClampNeg) (lk_O (in_lt q4)) rfl 3 (by decide) w133 (fun _ h9 => h9) rfl dX2_tellOfClerk_134 ?_
        refine lv_goto (tgt := 142) hx hb dX2_tellOfClerk_137 (by decide) ?_
        exact hret _ _ _ _ _ () dX2_tellOfClerk_142 (op_k hf) hP hS
      replace hf := op_f c34 hf
      by_cases c35 : x2 = 5
      · replace hf := op_t c35 hf
        refine sw_in (v := 5) (tgt := 143) hx hb dX2_tellOfClerk_32 c35 (by decide) (by decide) rfl (by decide) ?_
        refine lv_aload_n hx hb dX2_tellOfClerk_143 rfl (lv_at hl 1 rfl) ?_
        refine va_get (D := D) (ci := 0) (v := .int (cl (x1).toNatClampNeg 4)) (C := RX0) (T := TX0) (N := 7) hx hb hts iX0 hown hK hP (10 + (x1).toNatClampNeg) (lk_O (in_lt q4)) rfl 4 (by decide) w136 (fun _ h9 => h9) rfl dX2_tellOfClerk_144 ?_
        exact hret _ _ _ _ _ () dX2_tellOfClerk_147 (op_k hf) hP hS
      replace hf := op_f c35 hf
      by_cases c36 : x2 = 6
      · replace hf := op_t c36 hf
        refine sw_in (v := 6) (tgt := 148) hx hb dX2_tellOfClerk_32 c36 (by decide) (by decide) rfl (by decide) ?_
        refine lv_aload_n hx hb dX2_tellOfClerk_148 rfl (lv_at hl 2 rfl) ?_
        refine va_get (D := D) (ci := 2) (v := .ref (o 1)) (C := RX2) (T := TX2) (N := 5) hx hb hts iX2 hown hK hP 0 rfl rfl 0 (by decide) w12 (fun _ h9 => h9) rfl dX2_tellOfClerk_149 ?_
        refine lv_iload_n hx hb dX2_tellOfClerk_152 rfl (lv_at hl 3 rfl) ?_
        obtain ⟨r37, h38, hf⟩ := op_b hf
        refine ck_VI (st := [.int x1, .ref (o 1)]) (rest := []) (As := [.int x1]) (C := RX1) (ci := 1) ⟨hx, hb, hml, hown, hts⟩ (gE_ok tL tM adK adV) (c_X1_holesOf l D cI cC cK cO tL tM adK adV (o 1) (o 2) (o 3) (o 4) (o 5) (o 6) (o 7) ns no nr nt nd ni nm nf x1 K _ h38) (cwV 1 hts gX2_tellOfClerk_X1_holesOf rfl rfl rfl hv_X1_holesOf ⟨Nat.le_of_ble_eq_true rfl, Nat.le_of_ble_eq_true rfl⟩) hK hP hD hS hA hE [1, 2, 3, 4, 5, 6, 7] rfl rfl rfl rfl rfl (fun _ => rfl) rfl hl.1 rfl (Nat.le_of_ble_eq_true rfl) dX2_tellOfClerk_153 ⟨Nat.zero_le _, Nat.zero_le _⟩ (fun r u H locs hw hP hD hS => ?_)
        cases hw
        replace hP : va_P D vwCl (wO cI cK o ns no nr nt nd ni nm nf cl cc cs ct) H := hP
        replace hD : va_D A (wO cI cK o ns no nr nt nd ni nm nf cl cc cs ct) := hD
        exact hret _ _ _ _ _ () dX2_tellOfClerk_156 (op_k hf) hP hS
      replace hf := op_f c36 hf
      by_cases c40 : x2 = 7
      · replace hf := op_t c40 hf
        refine sw_in (v := 7) (tgt := 157) hx hb dX2_tellOfClerk_32 c40 (by decide) (by decide) rfl (by decide) ?_
        refine lv_aload_n hx hb dX2_tellOfClerk_157 rfl (lv_at hl 2 rfl) ?_
        refine va_get (D := D) (ci := 2) (v := .ref (o 1)) (C := RX2) (T := TX2) (N := 5) hx hb hts iX2 hown hK hP 0 rfl rfl 0 (by decide) w12 (fun _ h9 => h9) rfl dX2_tellOfClerk_158 ?_
        refine lv_iload_n hx hb dX2_tellOfClerk_161 rfl (lv_at hl 3 rfl) ?_
        obtain ⟨r41, h42, hf⟩ := op_b hf
        refine ck_VI (st := [.int x1, .ref (o 1)]) (rest := []) (As := [.int x1]) (C := RX1) (ci := 1) ⟨hx, hb, hml, hown, hts⟩ (gE_ok tL tM adK adV) (c_X1_forgottenOf l D cI cC cK cO tL tM adK adV (o 1) (o 2) (o 3) (o 4) (o 5) (o 6) (o 7) ns no nr nt nd ni nm nf x1 K _ h42) (cwV 1 hts gX2_tellOfClerk_X1_forgottenOf rfl rfl rfl hv_X1_forgottenOf ⟨Nat.le_of_ble_eq_true rfl, Nat.le_of_ble_eq_true rfl⟩) hK hP hD hS hA hE [1, 2, 3, 4, 5, 6, 7] rfl rfl rfl rfl rfl (fun _ => rfl) rfl hl.1 rfl (Nat.le_of_ble_eq_true rfl) dX2_tellOfClerk_162 ⟨Nat.zero_le _, Nat.zero_le _⟩ (fun r u H locs hw hP hD hS => ?_)
        cases hw
        replace hP : va_P D vwCl (wO cI cK o ns no nr nt nd ni nm nf cl cc cs ct) H := hP
        replace hD : va_D A (wO cI cK o ns no nr nt nd ni nm nf cl cc cs ct) := hD
        exact hret _ _ _ _ _ () dX2_tellOfClerk_165 (op_k hf) hP hS
      replace hf := op_f c40 hf
      by_cases c44 : x2 = 8
      · replace hf := op_t c44 hf
        refine sw_in (v := 8) (tgt := 166) hx hb dX2_tellOfClerk_32 c44 (by decide) (by decide) rfl (by decide) ?_
        refine lv_aload_n hx hb dX2_tellOfClerk_166 rfl (lv_at hl 1 rfl) ?_
        refine va_get (D := D) (ci := 0) (v := .int (cl (x1).toNatClampNeg 5)) (C := RX0) (T := TX0) (N := 7) hx hb hts iX0 hown hK hP (10 + (x1).toNatClampNeg) (lk_O (in_lt q4)) rfl 5 (by decide) w145 (fun _ h9 => h9) rfl dX2_tellOfClerk_167 ?_
        exact hret _ _ _ _ _ () dX2_tellOfClerk_170 (op_k hf) hP hS
      replace hf := op_f c44 hf
      by_cases c45 : x2 = 9
      · replace hf := op_t c45 hf
        refine sw_in (v := 9) (tgt := 171) hx hb dX2_tellOfClerk_32 c45 (by decide) (by decide) rfl (by decide) ?_
        refine lv_aload_n hx hb dX2_tellOfClerk_171 rfl (lv_at hl 1 rfl) ?_
        refine va_get (D := D) (ci := 0) (v := .int (cl (x1).toNatClampNeg 6)) (C := RX0) (T := TX0) (N := 7) hx hb hts iX0 hown hK hP (10 + (x1).toNatClampNeg) (lk_O (in_lt q4)) rfl 6 (by decide) w148 (fun _ h9 => h9) rfl dX2_tellOfClerk_172 ?_
        refine ck_NI (st := [.int (cl (x1).toNatClampNeg 6)]) (rest := []) (As := [.int (cl (x1).toNatClampNeg 6)]) ⟨hx, hb, hml, hown, hts⟩ (gE_ok tL tM adK adV) (c_X4_orNotFound l D cI cC cK cO tL tM adK adV  (cl (x1).toNatClampNeg 6) _ rfl) ⟨va_cnB 1 hts gX2_tellOfClerk_X4_orNotFound_n151 rfl rfl rfl hE.1.2.1 hh11951 hs_X4_orNotFound ⟨Nat.le_of_ble_eq_true rfl, Nat.le_of_ble_eq_true rfl⟩, hh25028, trivial⟩ hK hP hD hS hA hE rfl hl.1 rfl (Nat.le_of_ble_eq_true rfl) dX2_tellOfClerk_175 ⟨Nat.zero_le _, Nat.zero_le _⟩ (fun r H locs hw hP hS => ?_)
        cases hw
        exact hret _ _ _ _ _ () dX2_tellOfClerk_178 (op_k hf) hP hS
      replace hf := op_f c45 hf
      refine lv_tableOut (tgt := 179) hx hb dX2_tellOfClerk_32 (sw_o_0_10 c28 c29 c32 c33 c34 c35 c36 c40 c44 c45) (by decide) ?_
      refine lv_iconst (v := (-1)) hx hb dX2_tellOfClerk_179 (by decide) ?_
      exact hret _ _ _ _ _ () dX2_tellOfClerk_180 (op_k hf) hP hS
  · replace hf := op_t c3 hf
    refine lv_iconst (v := (-1)) hx hb dX2_tellOfClerk_8 (by decide) ?_
    exact hret _ _ _ _ _ () dX2_tellOfClerk_9 (op_k hf) hP hS
