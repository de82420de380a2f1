/-! laid by wip/whole/gen.py: walks of the class's clerks, numbers, offices -/
set_option maxHeartbeats 4000000 in
set_option maxRecDepth 100000 in
theorem c_X2_settingAt (l : Launch) (D : va_G) (cI cC cK cO : ClassId) (tL tM : Nat) (adK adV : Nat → Nat) (o : Nat → Nat) (ns : Nat → Int32) (no : Nat → Int32) (nr : Nat → Int32) (nt : Nat → Int32) (nd : Nat → Int32) (ni : Nat → Int32) (nm : Int32) (nf : Int32) (cl : Nat → Nat → Int32) (cc : Int32) (cs : Nat → Int32) (ct : Int32) (x1 : Int32) (R : Int32) (hf : f_X2_settingAt cs x1 = some R) : KI l D (TY cI cC cK cO) (gE tL tM adK adV) yX2_settingAt wsX2_settingAt 0 [.ref (o 0), .int x1] (wO cI cK o ns no nr nt nd ni nm nf cl cc cs ct) (fun (r : Int32) (u : Unit) => r = R) (fun u => (wO cI cK o ns no nr nt nd ni nm nf cl cc cs ct)) := by
  refine KI.ofI (cc := cX2_settingAt) (maxL := 3) (C := RX2) (by decide) rfl rfl (Nat.le_of_ble_eq_true rfl) ?_
  intro p e s m args below meth c A Q hx hb hml hts hown hP hK hD hA hE hS hret ls hl
  replace hl : lv_has ls 3 [(0, .ref (o 0)), (1, .int x1)] := hl
  have w28 := hts (.fieldLink RX2 28 "BlockClerks$Office" "settings" "[I") (by decide +kernel)
  have iX2 : ∀ w ∈ wsX20, w ∈ wsX2_settingAt := by decide +kernel
  rw [f_X2_settingAt] at hf
  refine lv_iload_n hx hb dX2_settingAt_0 rfl (lv_at hl 1 rfl) ?_
  refine lv_bipush (v := 20) hx hb dX2_settingAt_1 (by decide) ?_
  refine lv_icmp_lt (tgt := 16) hx hb dX2_settingAt_3 (by decide) (fun c1 => ?_) (fun c1 => ?_)
  · replace hf := op_t c1 hf
    refine lv_iconst (v := 0) hx hb dX2_settingAt_16 (by decide) ?_
    refine lv_istore_n (lv' := [(2, .int 0), (0, .ref (o 0)), (1, .int x1)]) hx hb dX2_settingAt_17 rfl hl (by decide) rfl (fun ls hl => ?_)
    refine lv_iload_n hx hb dX2_settingAt_18 rfl (lv_at hl 0 rfl) ?_
    refine lv_if_eq (tgt := 34) hx hb dX2_settingAt_19 (by decide) (fun _ => ?_) (fun c9 => absurd c9 (by decide))
    refine lv_iconst (v := (-1)) hx hb dX2_settingAt_34 (by decide) ?_
    exact hret _ _ _ _ _ () dX2_settingAt_35 (op_k hf) hP hS
  · replace hf := op_f c1 hf
    refine lv_iload_n hx hb dX2_settingAt_6 rfl (lv_at hl 1 rfl) ?_
    refine lv_bipush (v := 23) hx hb dX2_settingAt_7 (by decide) ?_
    refine lv_icmp_ge (tgt := 16) hx hb dX2_settingAt_9 (by decide) (fun c2 => ?_) (fun c2 => ?_)
    · replace hf := op_t c2 hf
      refine lv_iconst (v := 0) hx hb dX2_settingAt_16 (by decide) ?_
      refine lv_istore_n (lv' := [(2, .int 0), (0, .ref (o 0)), (1, .int x1)]) hx hb dX2_settingAt_17 rfl hl (by decide) rfl (fun ls hl => ?_)
      refine lv_iload_n hx hb dX2_settingAt_18 rfl (lv_at hl 0 rfl) ?_
      refine lv_if_eq (tgt := 34) hx hb dX2_settingAt_19 (by decide) (fun _ => ?_) (fun c9 => absurd c9 (by decide))
      refine lv_iconst (v := (-1)) hx hb dX2_settingAt_34 (by decide) ?_
      exact hret _ _ _ _ _ () dX2_settingAt_35 (op_k hf) hP hS
    · replace hf := op_f c2 hf
      refine lv_iconst (v := 1) hx hb dX2_settingAt_12 (by decide) ?_
      refine lv_goto (tgt := 17) hx hb dX2_settingAt_13 (by decide) ?_
      refine lv_istore_n (lv' := [(2, .int 1), (0, .ref (o 0)), (1, .int x1)]) hx hb dX2_settingAt_17 rfl hl (by decide) rfl (fun ls hl => ?_)
      refine lv_iload_n hx hb dX2_settingAt_18 rfl (lv_at hl 0 rfl) ?_
      refine lv_if_eq (tgt := 34) hx hb dX2_settingAt_19 (by decide) (fun c9 => absurd c9 (by decide)) (fun _ => ?_)
      refine lv_aload_n hx hb dX2_settingAt_22 rfl (lv_at hl 1 rfl) ?_
      refine va_get (D := D) (ci := 2) (v := .ref (o 8)) (C := RX2) (T := TX2) (N := 5) hx hb hts iX2 hown hK hP 0 rfl rfl 3 (by decide) w28 (fun _ h9 => h9) rfl dX2_settingAt_23 ?_
      refine lv_iload_n hx hb dX2_settingAt_26 rfl (lv_at hl 2 rfl) ?_
      refine lv_bipush (v := 20) hx hb dX2_settingAt_27 (by decide) ?_
      refine lv_isub hx hb dX2_settingAt_29 ?_
      obtain ⟨q3, hf⟩ := op_x hf
      refine ck_iald (j := (x1 - 20).toNatClampNeg) hx hb hK hP 8 0 rfl rfl q3 rfl dX2_settingAt_30 ?_
      refine lv_goto (tgt := 35) hx hb dX2_settingAt_31 (by decide) ?_
      exact hret _ _ _ _ _ () dX2_settingAt_35 (op_k hf) hP hS
set_option maxHeartbeats 4000000 in
set_option maxRecDepth 100000 in
theorem c_X2_tally (l : Launch) (D : va_G) (cI cC cK cO : ClassId) (tL tM : Nat) (adK adV : Nat → Nat) (o : Nat → Nat) (ns : Nat → Int32) (no : Nat → Int32) (nr : Nat → Int32) (nt : Nat → Int32) (nd : Nat → Int32) (ni : Nat → Int32) (nm : Int32) (nf : Int32) (cl : Nat → Nat → Int32) (cc : Int32) (cs : Nat → Int32) (ct : Int32) (x1 : Int32) (K : Nat) (R : Int32) (hf : f_X2_tally K ns no nr ni nm nf cc cs ct x1 = some R) : KI l D (TY cI cC cK cO) (gE tL tM adK adV) yX2_tally wsX2_tally 3 [.ref (o 0), .int x1] (wO cI cK o ns no nr nt nd ni nm nf cl cc cs ct) (fun (r : Int32) (u : Unit) => r = R) (fun u => (wO cI cK o ns no nr nt nd ni nm nf cl cc cs ct)) := by
  refine KI.ofI (cc := cX2_tally) (maxL := 2) (C := RX2) (by decide) rfl rfl (Nat.le_of_ble_eq_true rfl) ?_
  intro p e s m args below meth c A Q hx hb hml hts hown hP hK hD hA hE hS hret ls hl
  replace hl : lv_has ls 2 [(0, .ref (o 0)), (1, .int x1)] := hl
  have w12 := hts (.fieldLink RX2 12 "BlockClerks$Office" "numbers" "LBlockClerks$Numbers;") (by decide +kernel)
  have w154 := hts (.fieldLink RX2 154 "BlockClerks$Numbers" "turns" "I") (by decide +kernel)
  have w24 := hts (.fieldLink RX2 24 "BlockClerks$Office" "clerkCount" "I") (by decide +kernel)
  have w32 := hts (.fieldLink RX2 32 "BlockClerks$Office" "today" "I") (by decide +kernel)
  have w82 := hts (.fieldLink RX2 82 "BlockClerks$Numbers" "firstNew" "I") (by decide +kernel)
  have iX1 : ∀ w ∈ wsX10, w ∈ wsX2_tally := by decide +kernel
  have iX2 : ∀ w ∈ wsX20, w ∈ wsX2_tally := by decide +kernel
  rw [f_X2_tally] at hf
  refine lv_iload_n hx hb dX2_tally_0 rfl (lv_at hl 1 rfl) ?_
  by_cases c1 : x1 = 0
  · replace hf := op_t c1 hf
    refine sw_in (v := 0) (tgt := 56) hx hb dX2_tally_1 c1 (by decide) (by decide) rfl (by decide) ?_
    refine lv_aload_n hx hb dX2_tally_56 rfl (lv_at hl 0 rfl) ?_
    refine va_get (D := D) (ci := 2) (v := .int cc) (C := RX2) (T := TX2) (N := 5) hx hb hts iX2 hown hK hP 0 rfl rfl 2 (by decide) w24 (fun _ h9 => h9) rfl dX2_tally_57 ?_
    exact hret _ _ _ _ _ () dX2_tally_60 (op_k hf) hP hS
  replace hf := op_f c1 hf
  by_cases c2 : x1 = 1
  · replace hf := op_t c2 hf
    refine sw_in (v := 1) (tgt := 61) hx hb dX2_tally_1 c2 (by decide) (by decide) rfl (by decide) ?_
    refine lv_aload_n hx hb dX2_tally_61 rfl (lv_at hl 0 rfl) ?_
    refine va_get (D := D) (ci := 2) (v := .int ct) (C := RX2) (T := TX2) (N := 5) hx hb hts iX2 hown hK hP 0 rfl rfl 4 (by decide) w32 (fun _ h9 => h9) rfl dX2_tally_62 ?_
    exact hret _ _ _ _ _ () dX2_tally_65 (op_k hf) hP hS
  replace hf := op_f c2 hf
  by_cases c3 : x1 = 2
  · replace hf := op_t c3 hf
    refine sw_in (v := 2) (tgt := 66) hx hb dX2_tally_1 c3 (by decide) (by decide) rfl (by decide) ?_
    refine lv_aload_n hx hb dX2_tally_66 rfl (lv_at hl 0 rfl) ?_
    refine va_get (D := D) (ci := 2) (v := .ref (o 1)) (C := RX2) (T := TX2) (N := 5) hx hb hts iX2 hown hK hP 0 rfl rfl 0 (by decide) w12 (fun _ h9 => h9) rfl dX2_tally_67 ?_
    refine va_get (D := D) (ci := 1) (v := .int nm) (C := RX1) (T := TX1) (N := 8) hx hb hts iX1 hown hK hP 1 rfl rfl 6 (by decide) w154 (fun _ h9 => h9) rfl dX2_tally_70 ?_
    exact hret _ _ _ _ _ () dX2_tally_73 (op_k hf) hP hS
  replace hf := op_f c3 hf
  by_cases c4 : x1 = 3
  · replace hf := op_t c4 hf
    refine sw_in (v := 3) (tgt := 74) hx hb dX2_tally_1 c4 (by decide) (by decide) rfl (by decide) ?_
    refine lv_aload_n hx hb dX2_tally_74 rfl (lv_at hl 0 rfl) ?_
    refine va_get (D := D) (ci := 2) (v := .ref (o 1)) (C := RX2) (T := TX2) (N := 5) hx hb hts iX2 hown hK hP 0 rfl rfl 0 (by decide) w12 (fun _ h9 => h9) rfl dX2_tally_75 ?_
    refine lv_iconst (v := 1) hx hb dX2_tally_78 (by decide) ?_
    refine lv_sipush (v := 600) hx hb dX2_tally_79 (by decide) ?_
    refine lv_iconst (v := 1) hx hb dX2_tally_82 (by decide) ?_
    obtain ⟨r5, h6, hf⟩ := op_b hf
    refine ck_VI (st := [.int 1, .int 600, .int 1, .ref (o 1)]) (rest := []) (As := [.int 1, .int 600, .int 1]) (C := RX1) (ci := 1) ⟨hx, hb, hml, hown, hts⟩ (gE_ok tL tM adK adV) (c_X1_inState l D cI cC cK cO tL tM adK adV (o 1) (o 2) (o 3) (o 4) (o 5) (o 6) (o 7) ns no nr nt nd ni nm nf 1 600 1 K _ h6) (cwV 3 hts gX2_tally_X1_inState rfl rfl rfl hv_X1_inState ⟨Nat.le_of_ble_eq_true rfl, Nat.le_of_ble_eq_true rfl⟩) hK hP hD hS hA hE [1, 2, 3, 4, 5, 6, 7] rfl rfl rfl rfl rfl (fun _ => rfl) rfl hl.1 rfl (Nat.le_of_ble_eq_true rfl) dX2_tally_83 ⟨Nat.zero_le _, Nat.zero_le _⟩ (fun r u H locs hw hP hD hS => ?_)
    cases hw
    replace hP : va_P D vwCl (wO cI cK o ns no nr nt nd ni nm nf cl cc cs ct) H := hP
    replace hD : va_D A (wO cI cK o ns no nr nt nd ni nm nf cl cc cs ct) := hD
    exact hret _ _ _ _ _ () dX2_tally_86 (op_k hf) hP hS
  replace hf := op_f c4 hf
  by_cases c8 : x1 = 4
  · replace hf := op_t c8 hf
    refine sw_in (v := 4) (tgt := 87) hx hb dX2_tally_1 c8 (by decide) (by decide) rfl (by decide) ?_
    refine lv_aload_n hx hb dX2_tally_87 rfl (lv_at hl 0 rfl) ?_
    refine va_get (D := D) (ci := 2) (v := .ref (o 1)) (C := RX2) (T := TX2) (N := 5) hx hb hts iX2 hown hK hP 0 rfl rfl 0 (by decide) w12 (fun _ h9 => h9) rfl dX2_tally_88 ?_
    refine lv_iconst (v := 1) hx hb dX2_tally_91 (by decide) ?_
    refine lv_sipush (v := 600) hx hb dX2_tally_92 (by decide) ?_
    refine lv_iconst (v := 3) hx hb dX2_tally_95 (by decide) ?_
    obtain ⟨r9, h10, hf⟩ := op_b hf
    refine ck_VI (st := [.int 3, .int 600, .int 1, .ref (o 1)]) (rest := []) (As := [.int 1, .int 600, .int 3]) (C := RX1) (ci := 1) ⟨hx, hb, hml, hown, hts⟩ (gE_ok tL tM adK adV) (c_X1_inState l D cI cC cK cO tL tM adK adV (o 1) (o 2) (o 3) (o 4) (o 5) (o 6) (o 7) ns no nr nt nd ni nm nf 1 600 3 K _ h10) (cwV 3 hts gX2_tally_X1_inState rfl rfl rfl hv_X1_inState ⟨Nat.le_of_ble_eq_true rfl, Nat.le_of_ble_eq_true rfl⟩) hK hP hD hS hA hE [1, 2, 3, 4, 5, 6, 7] rfl rfl rfl rfl rfl (fun _ => rfl) rfl hl.1 rfl (Nat.le_of_ble_eq_true rfl) dX2_tally_96 ⟨Nat.zero_le _, Nat.zero_le _⟩ (fun r u H locs hw hP hD hS => ?_)
    cases hw
    replace hP : va_P D vwCl (wO cI cK o ns no nr nt nd ni nm nf cl cc cs ct) H := hP
    replace hD : va_D A (wO cI cK o ns no nr nt nd ni nm nf cl cc cs ct) := hD
    exact hret _ _ _ _ _ () dX2_tally_99 (op_k hf) hP hS
  replace hf := op_f c8 hf
  by_cases c12 : x1 = 5
  · replace hf := op_t c12 hf
    refine sw_in (v := 5) (tgt := 100) hx hb dX2_tally_1 c12 (by decide) (by decide) rfl (by decide) ?_
    refine lv_aload_n hx hb dX2_tally_100 rfl (lv_at hl 0 rfl) ?_
    refine va_get (D := D) (ci := 2) (v := .ref (o 1)) (C := RX2) (T := TX2) (N := 5) hx hb hts iX2 hown hK hP 0 rfl rfl 0 (by decide) w12 (fun _ h9 => h9) rfl dX2_tally_101 ?_
    refine lv_iconst (v := 1) hx hb dX2_tally_104 (by decide) ?_
    refine lv_sipush (v := 600) hx hb dX2_tally_105 (by decide) ?_
    refine lv_iconst (v := 4) hx hb dX2_tally_108 (by decide) ?_
    obtain ⟨r13, h14, hf⟩ := op_b hf
    refine ck_VI (st := [.int 4, .int 600, .int 1, .ref (o 1)]) (rest := []) (As := [.int 1, .int 600, .int 4]) (C := RX1) (ci := 1) ⟨hx, hb, hml, hown, hts⟩ (gE_ok tL tM adK adV) (c_X1_inState l D cI cC cK cO tL tM adK adV (o 1) (o 2) (o 3) (o 4) (o 5) (o 6) (o 7) ns no nr nt nd ni nm nf 1 600 4 K _ h14) (cwV 3 hts gX2_tally_X1_inState rfl rfl rfl hv_X1_inState ⟨Nat.le_of_ble_eq_true rfl, Nat.le_of_ble_eq_true rfl⟩) hK hP hD hS hA hE [1, 2, 3, 4, 5, 6, 7] rfl rfl rfl rfl rfl (fun _ => rfl) rfl hl.1 rfl (Nat.le_of_ble_eq_true rfl) dX2_tally_109 ⟨Nat.zero_le _, Nat.zero_le _⟩ (fun r u H locs hw hP hD hS => ?_)
    cases hw
    replace hP : va_P D vwCl (wO cI cK o ns no nr nt nd ni nm nf cl cc cs ct) H := hP
    replace hD : va_D A (wO cI cK o ns no nr nt nd ni nm nf cl cc cs ct) := hD
    exact hret _ _ _ _ _ () dX2_tally_112 (op_k hf) hP hS
  replace hf := op_f c12 hf
  by_cases c16 : x1 = 6
  · replace hf := op_t c16 hf
    refine sw_in (v := 6) (tgt := 113) hx hb dX2_tally_1 c16 (by decide) (by decide) rfl (by decide) ?_
    refine lv_aload_n hx hb dX2_tally_113 rfl (lv_at hl 0 rfl) ?_
    refine va_get (D := D) (ci := 2) (v := .ref (o 1)) (C := RX2) (T := TX2) (N := 5) hx hb hts iX2 hown hK hP 0 rfl rfl 0 (by decide) w12 (fun _ h9 => h9) rfl dX2_tally_114 ?_
    refine va_get (D := D) (ci := 1) (v := .int nf) (C := RX1) (T := TX1) (N := 8) hx hb hts iX1 hown hK hP 1 rfl rfl 7 (by decide) w82 (fun _ h9 => h9) rfl dX2_tally_117 ?_
    exact hret _ _ _ _ _ () dX2_tally_120 (op_k hf) hP hS
  replace hf := op_f c16 hf
  by_cases c17 : x1 = 7
  · replace hf := op_t c17 hf
    refine sw_in (v := 7) (tgt := 121) hx hb dX2_tally_1 c17 (by decide) (by decide) rfl (by decide) ?_
    refine lv_aload_n hx hb dX2_tally_121 rfl (lv_at hl 0 rfl) ?_
    refine va_get (D := D) (ci := 2) (v := .ref (o 1)) (C := RX2) (T := TX2) (N := 5) hx hb hts iX2 hown hK hP 0 rfl rfl 0 (by decide) w12 (fun _ h9 => h9) rfl dX2_tally_122 ?_
    obtain ⟨r18, h19, hf⟩ := op_b hf
    refine ck_VI (st := [.ref (o 1)]) (rest := []) (As := []) (C := RX1) (ci := 1) ⟨hx, hb, hml, hown, hts⟩ (gE_ok tL tM adK adV) (c_X1_lateOnes l D cI cC cK cO tL tM adK adV (o 1) (o 2) (o 3) (o 4) (o 5) (o 6) (o 7) ns no nr nt nd ni nm nf  K _ h19) (cwV 0 hts gX2_tally_X1_lateOnes rfl rfl rfl hv_X1_lateOnes ⟨Nat.le_of_ble_eq_true rfl, Nat.le_of_ble_eq_true rfl⟩) hK hP hD hS hA hE [1, 2, 3, 4, 5, 6, 7] rfl rfl rfl rfl rfl (fun _ => rfl) rfl hl.1 rfl (Nat.le_of_ble_eq_true rfl) dX2_tally_125 ⟨Nat.zero_le _, Nat.zero_le _⟩ (fun r u H locs hw hP hD hS => ?_)
    cases hw
    replace hP : va_P D vwCl (wO cI cK o ns no nr nt nd ni nm nf cl cc cs ct) H := hP
    replace hD : va_D A (wO cI cK o ns no nr nt nd ni nm nf cl cc cs ct) := hD
    exact hret _ _ _ _ _ () dX2_tally_128 (op_k hf) hP hS
  replace hf := op_f c17 hf
  by_cases c21 : x1 = 8
  · replace hf := op_t c21 hf
    refine sw_in (v := 8) (tgt := 129) hx hb dX2_tally_1 c21 (by decide) (by decide) rfl (by decide) ?_
    refine lv_aload_n hx hb dX2_tally_129 rfl (lv_at hl 0 rfl) ?_
    refine va_get (D := D) (ci := 2) (v := .ref (o 1)) (C := RX2) (T := TX2) (N := 5) hx hb hts iX2 hown hK hP 0 rfl rfl 0 (by decide) w12 (fun _ h9 => h9) rfl dX2_tally_130 ?_
    obtain ⟨r22, h23, hf⟩ := op_b hf
    refine ck_VI (st := [.ref (o 1)]) (rest := []) (As := []) (C := RX1) (ci := 1) ⟨hx, hb, hml, hown, hts⟩ (gE_ok tL tM adK adV) (c_X1_givenWithoutGap l D cI cC cK cO tL tM adK adV (o 1) (o 2) (o 3) (o 4) (o 5) (o 6) (o 7) ns no nr nt nd ni nm nf  K _ h23) (cwV 0 hts gX2_tally_X1_givenWithoutGap rfl rfl rfl hv_X1_givenWithoutGap ⟨Nat.le_of_ble_eq_true rfl, Nat.le_of_ble_eq_true rfl⟩) hK hP hD hS hA hE [1, 2, 3, 4, 5, 6, 7] rfl rfl rfl rfl rfl (fun _ => rfl) rfl hl.1 rfl (Nat.le_of_ble_eq_true rfl) dX2_tally_133 ⟨Nat.zero_le _, Nat.zero_le _⟩ (fun r u H locs hw hP hD hS => ?_)
    cases hw
    replace hP : va_P D vwCl (wO cI cK o ns no nr nt nd ni nm nf cl cc cs ct) H := hP
    replace hD : va_D A (wO cI cK o ns no nr nt nd ni nm nf cl cc cs ct) := hD
    exact hret _ _ _ _ _ () dX2_tally_136 (op_k hf) hP hS
  replace hf := op_f c21 hf
  by_cases c25 : x1 = 9
  · replace hf := op_t c25 hf
    refine sw_in (v := 9) (tgt := 137) hx hb dX2_tally_1 c25 (by decide) (by decide) rfl (by decide) ?_
    refine lv_aload_n hx hb dX2_tally_137 rfl (lv_at hl 0 rfl) ?_
    refine va_get (D := D) (ci := 2) (v := .ref (o 1)) (C := RX2) (T := TX2) (N := 5) hx hb hts iX2 hown hK hP 0 rfl rfl 0 (by decide) w12 (fun _ h9 => h9) rfl dX2_tally_138 ?_
    refine lv_iconst (v := 4) hx hb dX2_tally_141 (by decide) ?_
    obtain ⟨r26, h27, hf⟩ := op_b hf
    refine ck_VI (st := [.int 4, .ref (o 1)]) (rest := []) (As := [.int 4]) (C := RX1) (ci := 1) ⟨hx, hb, hml, hown, hts⟩ (gE_ok tL tM adK adV) (c_X1_rows l D cI cC cK cO tL tM adK adV (o 1) (o 2) (o 3) (o 4) (o 5) (o 6) (o 7) ns no nr nt nd ni nm nf 4 K _ h27) (cwV 1 hts gX2_tally_X1_rows rfl rfl rfl hv_X1_rows ⟨Nat.le_of_ble_eq_true rfl, Nat.le_of_ble_eq_true rfl⟩) hK hP hD hS hA hE [1, 2, 3, 4, 5, 6, 7] rfl rfl rfl rfl rfl (fun _ => rfl) rfl hl.1 rfl (Nat.le_of_ble_eq_true rfl) dX2_tally_142 ⟨Nat.zero_le _, Nat.zero_le _⟩ (fun r u H locs hw hP hD hS => ?_)
    cases hw
    replace hP : va_P D vwCl (wO cI cK o ns no nr nt nd ni nm nf cl cc cs ct) H := hP
    replace hD : va_D A (wO cI cK o ns no nr nt nd ni nm nf cl cc cs ct) := hD
    exact hret _ _ _ _ _ () dX2_tally_145 (op_k hf) hP hS
  replace hf := op_f c25 hf
  refine lv_tableOut (tgt := 146) hx hb dX2_tally_1 (sw_o_0_10 c1 c2 c3 c4 c8 c12 c16 c17 c21 c25) (by decide) ?_
  refine lv_aload_n hx hb dX2_tally_146 rfl (lv_at hl 0 rfl) ?_
  refine lv_iload_n hx hb dX2_tally_147 rfl (lv_at hl 1 rfl) ?_
  obtain ⟨r29, h30, hf⟩ := op_b hf
  refine ck_VI (st := [.int x1, .ref (o 0)]) (rest := []) (As := [.int x1]) (C := RX2) (ci := 2) ⟨hx, hb, hml, hown, hts⟩ (gE_ok tL tM adK adV) (c_X2_settingAt l D cI cC cK cO tL tM adK adV o ns no nr nt nd ni nm nf cl cc cs ct x1 _ h30) (cwV 1 hts gX2_tally_X2_settingAt rfl rfl rfl hv_X2_settingAt ⟨Nat.le_of_ble_eq_true rfl, Nat.le_of_ble_eq_true rfl⟩) hK hP hD hS hA hE [0, 1, 2, 3, 4, 5, 6, 7, 8, 9, 10, 11, 12, 13, 14, 15] rfl rfl rfl rfl rfl (fun _ => rfl) rfl hl.1 rfl (Nat.le_of_ble_eq_true rfl) dX2_tally_148 ⟨Nat.zero_le _, Nat.zero_le _⟩ (fun r u H locs hw hP hD hS => ?_)
  cases hw
  replace hP : va_P D vwCl (wO cI cK o ns no nr nt nd ni nm nf cl cc cs ct) H := hP
  replace hD : va_D A (wO cI cK o ns no nr nt nd ni nm nf cl cc cs ct) := hD
  exact hret _ _ _ _ _ () dX2_tally_151 (op_k hf) hP hS
set_option maxHeartbeats 4000000 in
set_option maxRecDepth 100000 in
theorem c_X2_upcoming (l : Launch) (D : va_G) (cI cC cK cO : ClassId) (tL tM : Nat) (adK adV : Nat → Nat) (o : Nat → Nat) (ns : Nat → Int32) (no : Nat → Int32) (nr : Nat → Int32) (nt : Nat → Int32) (nd : Nat → Int32) (ni : Nat → Int32) (nm : Int32) (nf : Int32) (cl : Nat → Nat → Int32) (cc : Int32) (cs : Nat → Int32) (ct : Int32) (x1 : Int32) (K : Nat) (R : Int32) (hf : f_X2_upcoming K ns nf cl cc cs x1 = some R) : KI l D (TY cI cC cK cO) (gE tL tM adK adV) yX2_upcoming wsX2_upcoming 2 [.ref (o 0), .int x1] (wO cI cK o ns no nr nt nd ni nm nf cl cc cs ct) (fun (r : Int32) (u : Unit) => r = R) (fun u => (wO cI cK o ns no nr nt nd ni nm nf cl cc cs ct)) := by
  refine KI.ofI (cc := cX2_upcoming) (maxL := 3) (C := RX2) (by decide) rfl rfl (Nat.le_of_ble_eq_true rfl) ?_
  intro p e s m args below meth c A Q hx hb hml hts hown hP hK hD hA hE hS hret ls hl
  replace hl : lv_has ls 3 [(0, .ref (o 0)), (1, .int x1)] := hl
  have w106 := hts (.fieldLink RX2 106 "BlockClerks$Clerk" "low" "I") (by decide +kernel)
  have w20 := hts (.fieldLink RX2 20 "BlockClerks$Office" "clerks" "[LBlockClerks$Clerk;") (by decide +kernel)
  have iX0 : ∀ w ∈ wsX00, w ∈ wsX2_upcoming := by decide +kernel
  have iX2 : ∀ w ∈ wsX20, w ∈ wsX2_upcoming := by decide +kernel
  rw [f_X2_upcoming] at hf
  refine lv_aload_n hx hb dX2_upcoming_0 rfl (lv_at hl 0 rfl) ?_
  refine lv_iload_n hx hb dX2_upcoming_1 rfl (lv_at hl 1 rfl) ?_
  refine ck_VI (st := [.int x1, .ref (o 0)]) (rest := []) (As := [.int x1]) (C := RX2) (ci := 2) ⟨hx, hb, hml, hown, hts⟩ (gE_ok tL tM adK adV) (c_X2_isClerk l D cI cC cK cO tL tM adK adV o ns no nr nt nd ni nm nf cl cc cs ct x1 _ rfl) (cwV 1 hts gX2_upcoming_X2_isClerk rfl rfl rfl hv_X2_isClerk ⟨Nat.le_of_ble_eq_true rfl, Nat.le_of_ble_eq_true rfl⟩) hK hP hD hS hA hE [0, 1, 2, 3, 4, 5, 6, 7, 8, 9, 10, 11, 12, 13, 14, 15] rfl rfl rfl rfl rfl (fun _ => rfl) rfl hl.1 rfl (Nat.le_of_ble_eq_true rfl) dX2_upcoming_2 ⟨Nat.zero_le _, Nat.zero_le _⟩ (fun r u H locs hw hP hD hS => ?_)
  obtain ⟨hw, z2⟩ := hw
  cases hw
  replace hP : va_P D vwCl (wO cI cK o ns no nr nt nd ni nm nf cl cc cs ct) H := hP
  replace hD : va_D A (wO cI cK o ns no nr nt nd ni nm nf cl cc cs ct) := hD
  refine lv_if_ne (tgt := 10) hx hb dX2_upcoming_5 (by decide) (fun c3 => ?_) (fun c3 => ?_)
  · replace hf := op_f c3 hf
    refine lv_aload_n hx hb dX2_upcoming_10 rfl (lv_at hl 0 rfl) ?_
    refine va_get (D := D) (ci := 2) (v := .ref (o 9)) (C := RX2) (T := TX2) (N := 5) hx hb hts iX2 hown hK hP 0 rfl rfl 1 (by decide) w20 (fun _ h9 => h9) rfl dX2_upcoming_11 ?_
    refine lv_iload_n hx hb dX2_upcoming_14 rfl (lv_at hl 1 rfl) ?_
    obtain ⟨q4, hf⟩ := op_x hf
    refine ck_aald (j := (x1).toNatClampNeg) (v := o (10 + (x1).toNatClampNeg)) hx hb hK hP 9 2 rfl rfl q4 rfl rfl dX2_upcoming_15 ?_
    refine ck_VI (st := [.ref (o (10 + (x1).toNatClampNeg))]) (rest := []) (As := []) (C := RX0) (ci := 0) ⟨hx, hb, hml, hown, hts⟩ (gE_ok tL tM adK adV) (c_X0_held l D cI cC cK cO tL tM adK adV (o (10 + (x1).toNatClampNeg)) (cl (x1).toNatClampNeg)  _ rfl) (cwV 0 hts gX2_upcoming_X0_held rfl rfl rfl hv_X0_held ⟨Nat.le_of_ble_eq_true rfl, Nat.le_of_ble_eq_true rfl⟩) hK hP hD hS hA hE [10 + (x1).toNatClampNeg] (pl_O (in_lt q4)) rfl rfl rfl rfl (fun _ => rfl) rfl hl.1 rfl (Nat.le_of_ble_eq_true rfl) dX2_upcoming_16 ⟨Nat.zero_le _, Nat.zero_le _⟩ (fun r u H locs hw hP hD hS => ?_)
    cases hw
    replace hP := st_OP0 (in_lt q4) hP
    replace hD := st_OD0 (in_lt q4) hD
    refine lv_if_le (tgt := 34) hx hb dX2_upcoming_19 (by decide) (fun c7 => ?_) (fun c7 => ?_)
    · replace hf := op_t c7 hf
      refine lv_aload_n hx hb dX2_upcoming_34 rfl (lv_at hl 0 rfl) ?_
      obtain ⟨r8, h9, hf⟩ := op_b hf
      refine ck_VI (st := [.ref (o 0)]) (rest := []) (As := []) (C := RX2) (ci := 2) ⟨hx, hb, hml, hown, hts⟩ (gE_ok tL tM adK adV) (c_X2_startOfBlock l D cI cC cK cO tL tM adK adV o ns no nr nt nd ni nm nf cl cc cs ct  K _ h9) (cwV 0 hts gX2_upcoming_X2_startOfBlock rfl rfl rfl hv_X2_startOfBlock ⟨Nat.le_of_ble_eq_true rfl, Nat.le_of_ble_eq_true rfl⟩) hK hP hD hS hA hE [0, 1, 2, 3, 4, 5, 6, 7, 8, 9, 10, 11, 12, 13, 14, 15] rfl rfl rfl rfl rfl (fun _ => rfl) rfl hl.1 rfl (Nat.le_of_ble_eq_true rfl) dX2_upcoming_35 ⟨Nat.zero_le _, Nat.zero_le _⟩ (fun r u H locs hw hP hD hS => ?_)
      cases hw
      replace hP : va_P D vwCl (wO cI cK o ns no nr nt nd ni nm nf cl cc cs ct) H := hP
      replace hD : va_D A (wO cI cK o ns no nr nt nd ni nm nf cl cc cs ct) := hD
      refine lv_istore_n (lv' := [(2, .int r8), (0, .ref (o 0)), (1, .int x1)]) hx hb dX2_upcoming_38 rfl hl (by decide) rfl (fun ls hl => ?_)
      refine lv_iload_n hx hb dX2_upcoming_39 rfl (lv_at hl 0 rfl) ?_
      refine ck_SI (st := [.int r8]) (rest := []) (As := [.int r8]) ⟨hx, hb, hml, hown, hts⟩ (gE_ok tL tM adK adV) (c_X1_isNumber l D cI cC cK cO tL tM adK adV  r8 _ rfl) (va_cwS 1 hts gX2_upcoming_X1_isNumber rfl rfl rfl hs_X1_isNumber ⟨Nat.le_of_ble_eq_true rfl, Nat.le_of_ble_eq_true rfl⟩) hK hP hD hS hA hE rfl hl.1 rfl (Nat.le_of_ble_eq_true rfl) dX2_upcoming_40 ⟨Nat.zero_le _, Nat.zero_le _⟩ (fun r H locs hw hP hS => ?_)
      obtain ⟨hw, z12⟩ := hw
      cases hw
      refine lv_if_eq (tgt := 50) hx hb dX2_upcoming_43 (by decide) (fun c13 => ?_) (fun c13 => ?_)
      · replace hf := op_t c13 hf
        refine lv_bipush (v := (-3)) hx hb dX2_upcoming_50 (by decide) ?_
        exact hret _ _ _ _ _ () dX2_upcoming_52 (op_k hf) hP hS
      · replace hf := op_f c13 hf
        refine lv_iload_n hx hb dX2_upcoming_46 rfl (lv_at hl 0 rfl) ?_
        refine lv_goto (tgt := 52) hx hb dX2_upcoming_47 (by decide) ?_
        exact hret _ _ _ _ _ () dX2_upcoming_52 (op_k hf) hP hS
    · replace hf := op_f c7 hf
      refine lv_aload_n hx hb dX2_upcoming_22 rfl (lv_at hl 0 rfl) ?_
      refine va_get (D := D) (ci := 2) (v := .ref (o 9)) (C := RX2) (T := TX2) (N := 5) hx hb hts iX2 hown hK hP 0 rfl rfl 1 (by decide) w20 (fun _ h9 => h9) rfl dX2_upcoming_23 ?_
      refine lv_iload_n hx hb dX2_upcoming_26 rfl (lv_at hl 1 rfl) ?_
      obtain ⟨q14, hf⟩ := op_x hf
      refine ck_aald (j := (x1).toNatClampNeg) (v := o (10 + (x1).toNatClampNeg)) hx hb hK hP 9 2 rfl rfl q14 rfl rfl dX2_upcoming_27 ?_
      refine va_get (D := D) (ci := 0) (v := .int (cl (x1).toNatClampNeg 1)) (C := RX0) (T := TX0) (N := 7) hx hb hts iX0 hown hK hP (10 + (x1).toNatClampNeg) (lk_O (in_lt q14)) rfl 1 (by decide) w106 (fun _ h9 => h9) rfl dX2_upcoming_28 ?_
      refine lv_goto (tgt := 38) hx hb dX2_upcoming_31 (by decide) ?_
      refine lv_istore_n (lv' := [(2, .int (cl (x1).toNatClampNeg 1)), (0, .ref (o 0)), (1, .int x1)]) hx hb dX2_upcoming_38 rfl hl (by decide) rfl (fun ls hl => ?_)
      refine lv_iload_n hx hb dX2_upcoming_39 rfl (lv_at hl 0 rfl) ?_
      refine ck_SI (st := [.int (cl (x1).toNatClampNeg 1)]) (rest := []) (As := [.int (cl (x1).toNatClampNeg 1)]) ⟨hx, hb, hml, hown, hts⟩ (gE_ok tL tM adK adV) (c_X1_isNumber l D cI cC cK cO tL tM adK adV  (cl (x1).toNatClampNeg 1) _ rfl) (va_cwS 1 hts gX2_upcoming_X1_isNumber rfl rfl rfl hs_X1_isNumber ⟨Nat.le_of_ble_eq_true rfl, Nat.le_of_ble_eq_true rfl⟩) hK hP hD hS hA hE rfl hl.1 rfl (Nat.le_of_ble_eq_true rfl) dX2_upcoming_40 ⟨Nat.zero_le _, Nat.zero_le _⟩ (fun r H locs hw hP hS => ?_)
      obtain ⟨hw, z16⟩ := hw
      cases hw
      refine lv_if_eq (tgt := 50) hx hb dX2_upcoming_43 (by decide) (fun c17 => ?_) (fun c17 => ?_)
      · replace hf := op_t c17 hf
        refine lv_bipush (v := (-3)) hx hb dX2_upcoming_50 (by decide) ?_
        exact hret _ _ _ _ _ () dX2_upcoming_52 (op_k hf) hP hS
      · replace hf := op_f c17 hf
        refine lv_iload_n hx hb dX2_upcoming_46 rfl (lv_at hl 0 rfl) ?_
        refine lv_goto (tgt := 52) hx hb dX2_upcoming_47 (by decide) ?_
        exact hret _ _ _ _ _ () dX2_upcoming_52 (op_k hf) hP hS
  · replace hf := op_t c3 hf
    refine lv_iconst (v := (-1)) hx hb dX2_upcoming_8 (by decide) ?_
    exact hret _ _ _ _ _ () dX2_upcoming_9 (op_k hf) hP hS
set_option maxHeartbeats 4000000 in
set_option maxRecDepth 100000 in
theorem c_X2_lossOf (l : Launch) (D : va_G) (cI cC cK cO : ClassId) (tL tM : Nat) (adK adV : Nat → Nat) (o : Nat → Nat) (ns : Nat → Int32) (no : Nat → Int32) (nr : Nat → Int32) (nt : Nat → Int32) (nd : Nat → Int32) (ni : Nat → Int32) (nm : Int32) (nf : Int32) (cl : Nat → Nat → Int32) (cc : Int32) (cs : Nat → Int32) (ct : Int32) (x1 : Int32) (R : Int32) (hf : f_X2_lossOf cl cc x1 = some R) : KI l D (TY cI cC cK cO) (gE tL tM adK adV) yX2_lossOf wsX2_lossOf 3 [.ref (o 0), .int x1] (wO cI cK o ns no nr nt nd ni nm nf cl cc cs ct) (fun (r : Int32) (u : Unit) => r = R) (fun u => (wO cI cK o ns no nr nt nd ni nm nf cl cc cs ct)) := by
  refine KI.ofI (cc := cX2_lossOf) (maxL := 2) (C := RX2) (by decide) rfl rfl (Nat.le_of_ble_eq_true rfl) ?_
  intro p e s m args below meth c A Q hx hb hml hts hown hP hK hD hA hE hS hret ls hl
  replace hl : lv_has ls 2 [(0, .ref (o 0)), (1, .int x1)] := hl
  have w20 := hts (.fieldLink RX2 20 "BlockClerks$Office" "clerks" "[LBlockClerks$Clerk;") (by decide +kernel)
  have iX2 : ∀ w ∈ wsX20, w ∈ wsX2_lossOf := by decide +kernel
  rw [f_X2_lossOf] at hf
  refine lv_aload_n hx hb dX2_lossOf_0 rfl (lv_at hl 0 rfl) ?_
  refine lv_iload_n hx hb dX2_lossOf_1 rfl (lv_at hl 1 rfl) ?_
  refine ck_VI (st := [.int x1, .ref (o 0)]) (rest := []) (As := [.int x1]) (C := RX2) (ci := 2) ⟨hx, hb, hml, hown, hts⟩ (gE_ok tL tM adK adV) (c_X2_isClerk l D cI cC cK cO tL tM adK adV o ns no nr nt nd ni nm nf cl cc cs ct x1 _ rfl) (cwV 1 hts gX2_lossOf_X2_isClerk rfl rfl rfl hv_X2_isClerk ⟨Nat.le_of_ble_eq_true rfl, Nat.le_of_ble_eq_true rfl⟩) hK hP hD hS hA hE [0, 1, 2, 3, 4, 5, 6, 7, 8, 9, 10, 11, 12, 13, 14, 15] rfl rfl rfl rfl rfl (fun _ => rfl) rfl hl.1 rfl (Nat.le_of_ble_eq_true rfl) dX2_lossOf_2 ⟨Nat.zero_le _, Nat.zero_le _⟩ (fun r u H locs hw hP hD hS => ?_)
  obtain ⟨hw, z2⟩ := hw
  cases hw
  replace hP : va_P D vwCl (wO cI cK o ns no nr nt nd ni nm nf cl cc cs ct) H := hP
  replace hD : va_D A (wO cI cK o ns no nr nt nd ni nm nf cl cc cs ct) := hD
  refine lv_if_eq (tgt := 20) hx hb dX2_lossOf_5 (by decide) (fun c3 => ?_) (fun c3 => ?_)
  · replace hf := op_t c3 hf
    refine lv_iconst (v := 0) hx hb dX2_lossOf_20 (by decide) ?_
    exact hret _ _ _ _ _ () dX2_lossOf_21 (op_k hf) hP hS
  · replace hf := op_f c3 hf
    refine lv_aload_n hx hb dX2_lossOf_8 rfl (lv_at hl 0 rfl) ?_
    refine va_get (D := D) (ci := 2) (v := .ref (o 9)) (C := RX2) (T := TX2) (N := 5) hx hb hts iX2 hown hK hP 0 rfl rfl 1 (by decide) w20 (fun _ h9 => h9) rfl dX2_lossOf_9 ?_
    refine lv_iload_n hx hb dX2_lossOf_12 rfl (lv_at hl 1 rfl) ?_
    obtain ⟨q4, hf⟩ := op_x hf
    refine ck_aald (j := (x1).toNatClampNeg) (v := o (10 + (x1).toNatClampNeg)) hx hb hK hP 9 2 rfl rfl q4 rfl rfl dX2_lossOf_13 ?_
    refine ck_VI (st := [.ref (o (10 + (x1).toNatClampNeg))]) (rest := []) (As := []) (C := RX0) (ci := 0) ⟨hx, hb, hml, hown, hts⟩ (gE_ok tL tM adK adV) (c_X0_loss l D cI cC cK cO tL tM adK adV (o (10 + (x1).toNatClampNeg)) (cl (x1).toNatClampNeg)  _ rfl) (cwV 0 hts gX2_lossOf_X0_loss rfl rfl rfl hv_X0_loss ⟨Nat.le_of_ble_eq_true rfl, Nat.le_of_ble_eq_true rfl⟩) hK hP hD hS hA hE [10 + (x1).toNatClampNeg] (pl_O (in_lt q4)) rfl rfl rfl rfl (fun _ => rfl) rfl hl.1 rfl (Nat.le_of_ble_eq_true rfl) dX2_lossOf_14 ⟨Nat.zero_le _, Nat.zero_le _⟩ (fun r u H locs hw hP hD hS => ?_)
    cases hw
    replace hP := st_OP0 (in_lt q4) hP
    replace hD := st_OD0 (in_lt q4) hD
    refine lv_goto (tgt := 21) hx hb dX2_lossOf_17 (by decide) ?_
    exact hret _ _ _ _ _ () dX2_lossOf_21 (op_k hf) hP hS
set_option maxHeartbeats 4000000 in
set_option maxRecDepth 100000 in
theorem c_X2_mostForgetful (l : Launch) (D : va_G) (cI cC cK cO : ClassId) (tL tM : Nat) (adK adV : Nat → Nat) (o : Nat → Nat) (ns : Nat → Int32) (no : Nat → Int32) (nr : Nat → Int32) (nt : Nat → Int32) (nd : Nat → Int32) (ni : Nat → Int32) (nm : Int32) (nf : Int32) (cl : Nat → Nat → Int32) (cc : Int32) (cs : Nat → Int32) (ct : Int32) (K : Nat) (R : Int32) (hf : f_X2_mostForgetful K cl cc = some R) : KI l D (TY cI cC cK cO) (gE tL tM adK adV) yX2_mostForgetful wsX2_mostForgetful 3 [.ref (o 0)] (wO cI cK o ns no nr nt nd ni nm nf cl cc cs ct) (fun (r : Int32) (u : Unit) => r = R) (fun u => (wO cI cK o ns no nr nt nd ni nm nf cl cc cs ct)) := by
  refine KI.ofI (cc := cX2_mostForgetful) (maxL := 4) (C := RX2) (by decide) rfl rfl (Nat.le_of_ble_eq_true rfl) ?_
  intro p e s m args below meth c A Q hx hb hml hts hown hP hK hD hA hE hS hret ls hl
  replace hl : lv_has ls 4 [(0, .ref (o 0))] := hl
  have w20 := hts (.fieldLink RX2 20 "BlockClerks$Office" "clerks" "[LBlockClerks$Clerk;") (by decide +kernel)
  have w24 := hts (.fieldLink RX2 24 "BlockClerks$Office" "clerkCount" "I") (by decide +kernel)
  have iX2 : ∀ w ∈ wsX20, w ∈ wsX2_mostForgetful := by decide +kernel
  have L_7 : ∀ (n : Nat)  (x1 : Int32) (x2 : Int32) (x3 : Int32) (hf : f_X2_mostForgetful_7 cl cc n x1 x2 x3 = some R) (H : Heap) (locs : List Loc) (ls : Array Slot), va_P D vwCl (wO cI cK o ns no nr nt nd ni nm nf cl cc cs ct) H → va_D A (wO cI cK o ns no nr nt nd ni nm nf cl cc cs ct) → va_S A s.heap H locs → lv_has ls 4 [(0, .ref (o 0)), (1, .int x1), (2, .int x2), (3, .int x3)] → W p l e (rm 3) s m args below meth c H locs 0 0 Q (F0 m 7 ls []) := by
    intro n
    induction n with
    | zero =>
      intro  x1 x2 x3 hf
      cases hf
    | succ n ih =>
      intro  x1 x2 x3 hf H locs ls hP hD hS hl
      rw [f_X2_mostForgetful_7] at hf
      refine lv_iload_n hx hb dX2_mostForgetful_7 rfl (lv_at hl 3 rfl) ?_
      refine lv_aload_n hx hb dX2_mostForgetful_8 rfl (lv_at hl 0 rfl) ?_
      refine va_get (D := D) (ci := 2) (v := .ref (o 9)) (C := RX2) (T := TX2) (N := 5) hx hb hts iX2 hown hK hP 0 rfl rfl 1 (by decide) w20 (fun _ h9 => h9) rfl dX2_mostForgetful_9 ?_
      refine va_alen (D := D) hx hb hK hP 9 2 rfl rfl (v := 6) rfl dX2_mostForgetful_12 ?_
      refine lv_icmp_ge (tgt := 55) hx hb dX2_mostForgetful_13 (by decide) (fun c1 => ?_) (fun c1 => ?_)
      · replace hf := op_t c1 hf
        refine lv_iload_n hx hb dX2_mostForgetful_55 rfl (lv_at hl 1 rfl) ?_
        exact hret _ _ _ _ _ () dX2_mostForgetful_56 (op_k hf) hP hS
      · replace hf := op_f c1 hf
        refine lv_iload_n hx hb dX2_mostForgetful_16 rfl (lv_at hl 3 rfl) ?_
        refine lv_aload_n hx hb dX2_mostForgetful_17 rfl (lv_at hl 0 rfl) ?_
        refine va_get (D := D) (ci := 2) (v := .int cc) (C := RX2) (T := TX2) (N := 5) hx hb hts iX2 hown hK hP 0 rfl rfl 2 (by decide) w24 (fun _ h9 => h9) rfl dX2_mostForgetful_18 ?_
        refine lv_icmp_ge (tgt := 55) hx hb dX2_mostForgetful_21 (by decide) (fun c2 => ?_) (fun c2 => ?_)
        · replace hf := op_t c2 hf
          refine lv_iload_n hx hb dX2_mostForgetful_55 rfl (lv_at hl 1 rfl) ?_
          exact hret _ _ _ _ _ () dX2_mostForgetful_56 (op_k hf) hP hS
        · replace hf := op_f c2 hf
          refine lv_aload_n hx hb dX2_mostForgetful_24 rfl (lv_at hl 0 rfl) ?_
          refine va_get (D := D) (ci := 2) (v := .ref (o 9)) (C := RX2) (T := TX2) (N := 5) hx hb hts iX2 hown hK hP 0 rfl rfl 1 (by decide) w20 (fun _ h9 => h9) rfl dX2_mostForgetful_25 ?_
          refine lv_iload_n hx hb dX2_mostForgetful_28 rfl (lv_at hl 3 rfl) ?_
          obtain ⟨q3, hf⟩ := op_x hf
          refine ck_aald (j := (x3).toNatClampNeg) (v := o (10 + (x3).toNatClampNeg)) hx hb hK hP 9 2 rfl rfl q3 rfl rfl dX2_mostForgetful_29 ?_
          refine ck_VI (st := [.ref (o (10 + (x3).toNatClampNeg))]) (rest := []) (As := []) (C := RX0) (ci := 0) ⟨hx, hb, hml, hown, hts⟩ (gE_ok tL tM adK adV) (c_X0_loss l D cI cC cK cO tL tM adK adV (o (10 + (x3).toNatClampNeg)) (cl (x3).toNatClampNeg)  _ rfl) (cwV 0 hts gX2_mostForgetful_X0_loss rfl rfl rfl hv_X0_loss ⟨Nat.le_of_ble_eq_true rfl, Nat.le_of_ble_eq_true rfl⟩) hK hP hD hS hA hE [10 + (x3).toNatClampNeg] (pl_O (in_lt q3)) rfl rfl rfl rfl (fun _ => rfl) rfl hl.1 rfl (Nat.le_of_ble_eq_true rfl) dX2_mostForgetful_30 ⟨Nat.zero_le _, Nat.zero_le _⟩ (fun r u H locs hw hP hD hS => ?_)
          cases hw
          replace hP := st_OP0 (in_lt q3) hP
          replace hD := st_OD0 (in_lt q3) hD
          refine lv_iload_n hx hb dX2_mostForgetful_33 rfl (lv_at hl 2 rfl) ?_
          refine lv_icmp_le (tgt := 49) hx hb dX2_mostForgetful_34 (by decide) (fun c6 => ?_) (fun c6 => ?_)
          · replace hf := op_t c6 hf
            refine lv_iinc (v := (x3 + 1)) (lv' := [(3, .int (x3 + 1)), (0, .ref (o 0)), (1, .int x1), (2, .int x2)]) hx hb dX2_mostForgetful_49 hl (k := 3) rfl rfl (by decide) rfl (fun ls hl => ?_)
            refine lv_goto (tgt := 7) hx hb dX2_mostForgetful_52 (by decide) ?_
            exact ih  x1 x2 (x3 + 1) hf _ _ _ hP hD hS (lv_sub hl [1, 2, 3, 0] rfl)
          · replace hf := op_f c6 hf
            refine lv_aload_n hx hb dX2_mostForgetful_37 rfl (lv_at hl 0 rfl) ?_
            refine va_get (D := D) (ci := 2) (v := .ref (o 9)) (C := RX2) (T := TX2) (N := 5) hx hb hts iX2 hown hK hP 0 rfl rfl 1 (by decide) w20 (fun _ h9 => h9) rfl dX2_mostForgetful_38 ?_
            refine lv_iload_n hx hb dX2_mostForgetful_41 rfl (lv_at hl 3 rfl) ?_
            obtain ⟨q7, hf⟩ := op_x hf
            refine ck_aald (j := (x3).toNatClampNeg) (v := o (10 + (x3).toNatClampNeg)) hx hb hK hP 9 2 rfl rfl q7 rfl rfl dX2_mostForgetful_42 ?_
            refine ck_VI (st := [.ref (o (10 + (x3).toNatClampNeg))]) (rest := []) (As := []) (C := RX0) (ci := 0) ⟨hx, hb, hml, hown, hts⟩ (gE_ok tL tM adK adV) (c_X0_loss l D cI cC cK cO tL tM adK adV (o (10 + (x3).toNatClampNeg)) (cl (x3).toNatClampNeg)  _ rfl) (cwV 0 hts gX2_mostForgetful_X0_loss rfl rfl rfl hv_X0_loss ⟨Nat.le_of_ble_eq_true rfl, Nat.le_of_ble_eq_true rfl⟩) hK hP hD hS hA hE [10 + (x3).toNatClampNeg] (pl_O (in_lt q7)) rfl rfl rfl rfl (fun _ => rfl) rfl hl.1 rfl (Nat.le_of_ble_eq_true rfl) dX2_mostForgetful_43 ⟨Nat.zero_le _, Nat.zero_le _⟩ (fun r u H locs hw hP hD hS => ?_)
            cases hw
            replace hP := st_OP0 (in_lt q7) hP
            replace hD := st_OD0 (in_lt q7) hD
            refine lv_istore_n (lv' := [(2, .int (f_X0_loss (cl (x3).toNatClampNeg))), (0, .ref (o 0)), (1, .int x1), (3, .int x3)]) hx hb dX2_mostForgetful_46 rfl hl (by decide) rfl (fun ls hl => ?_)
            refine lv_iload_n hx hb dX2_mostForgetful_47 rfl (lv_at hl 3 rfl) ?_
            refine lv_istore_n (lv' := [(1, .int x3), (2, .int (f_X0_loss (cl (x3).toNatClampNeg))), (0, .ref (o 0)), (3, .int x3)]) hx hb dX2_mostForgetful_48 rfl hl (by decide) rfl (fun ls hl => ?_)
            refine lv_iinc (v := (x3 + 1)) (lv' := [(3, .int (x3 + 1)), (1, .int x3), (2, .int (f_X0_loss (cl (x3).toNatClampNeg))), (0, .ref (o 0))]) hx hb dX2_mostForgetful_49 hl (k := 3) rfl rfl (by decide) rfl (fun ls hl => ?_)
            refine lv_goto (tgt := 7) hx hb dX2_mostForgetful_52 (by decide) ?_
            exact ih  x3 (f_X0_loss (cl (x3).toNatClampNeg)) (x3 + 1) hf _ _ _ hP hD hS (lv_sub hl [3, 1, 2, 0] rfl)
  rw [f_X2_mostForgetful] at hf
  refine lv_bipush (v := (-4)) hx hb dX2_mostForgetful_0 (by decide) ?_
  refine lv_istore_n (lv' := [(1, .int (-4)), (0, .ref (o 0))]) hx hb dX2_mostForgetful_2 rfl hl (by decide) rfl (fun ls hl => ?_)
  refine lv_iconst (v := 0) hx hb dX2_mostForgetful_3 (by decide) ?_
  refine lv_istore_n (lv' := [(2, .int 0), (1, .int (-4)), (0, .ref (o 0))]) hx hb dX2_mostForgetful_4 rfl hl (by decide) rfl (fun ls hl => ?_)
  refine lv_iconst (v := 0) hx hb dX2_mostForgetful_5 (by decide) ?_
  refine lv_istore_n (lv' := [(3, .int 0), (2, .int 0), (1, .int (-4)), (0, .ref (o 0))]) hx hb dX2_mostForgetful_6 rfl hl (by decide) rfl (fun ls hl => ?_)
  exact L_7 K  (-4) 0 0 hf _ _ _ hP hD hS (lv_sub hl [3, 2, 1, 0] rfl)
