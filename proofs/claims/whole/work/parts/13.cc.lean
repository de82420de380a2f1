/-! laid by wip/whole/gen.py: walks of the class's clerks, numbers, offices -/
set_option maxHeartbeats 4000000 in
set_option maxRecDepth 100000 in
theorem c_X1_lateOnes (l : Launch) (D : va_G) (cI cC cK cO : ClassId) (tL tM : Nat) (adK adV : Nat → Nat) (h : Nat) (b1 : Nat) (b2 : Nat) (b3 : Nat) (b4 : Nat) (b5 : Nat) (b6 : Nat) (ns : Nat → Int32) (no : Nat → Int32) (nr : Nat → Int32) (nt : Nat → Int32) (nd : Nat → Int32) (ni : Nat → Int32) (nm : Int32) (nf : Int32) (K : Nat) (R : Int32) (hf : f_X1_lateOnes K ni nm = some R) : KI l D (TY cI cC cK cO) (gE tL tM adK adV) yX1_lateOnes wsX1_lateOnes 1 [.ref h] (wN cI h b1 b2 b3 b4 b5 b6 ns no nr nt nd ni nm nf) (fun (r : Int32) (u : Unit) => r = R) (fun u => (wN cI h b1 b2 b3 b4 b5 b6 ns no nr nt nd ni nm nf)) := by
  refine KI.ofI (cc := cX1_lateOnes) (maxL := 4) (C := RX1) (by decide) rfl rfl (Nat.le_of_ble_eq_true rfl) ?_
  intro p e s m args below meth c A Q hx hb hml hts hown hP hK hD hA hE hS hret ls hl
  replace hl : lv_has ls 4 [(0, .ref h)] := hl
  have m49 := hts (.methodLink RX1 49 Lib.Math.max.name) (by decide +kernel)
  have mc_max := hts (.code Lib.Math.max.name Lib.Math.max.code 2 (some .int)) (by decide +kernel)
  have mi := hts (.initialized "java/lang/Math") (by decide +kernel)
  have ms_max := hts (.static Lib.Math.max.name) (by decide +kernel)
  have w27 := hts (.fieldLink RX1 27 "BlockClerks$Numbers" "inTurn" "[I") (by decide +kernel)
  have w30 := hts (.fieldLink RX1 30 "BlockClerks$Numbers" "turns" "I") (by decide +kernel)
  have iX1 : ∀ w ∈ wsX10, w ∈ wsX1_lateOnes := by decide +kernel
  have L_6 : ∀ (n : Nat)  (x1 : Int32) (x2 : Int32) (x3 : Int32) (hf : f_X1_lateOnes_6 ni nm n x1 x2 x3 = some R) (H : Heap) (locs : List Loc) (ls : Array Slot), va_P D vwCl (wN cI h b1 b2 b3 b4 b5 b6 ns no nr nt nd ni nm nf) H → va_D A (wN cI h b1 b2 b3 b4 b5 b6 ns no nr nt nd ni nm nf) → va_S A s.heap H locs → lv_has ls 4 [(0, .ref h), (1, .int x1), (2, .int x2), (3, .int x3)] → W p l e (rm 1) s m args below meth c H locs 0 0 Q (F0 m 6 ls []) := by
    intro n
    induction n with
    | zero =>
      intro  x1 x2 x3 hf
      cases hf
    | succ n ih =>
      intro  x1 x2 x3 hf H locs ls hP hD hS hl
      rw [f_X1_lateOnes_6] at hf
      refine lv_iload_n hx hb dX1_lateOnes_6 rfl (lv_at hl 3 rfl) ?_
      refine lv_aload_n hx hb dX1_lateOnes_7 rfl (lv_at hl 0 rfl) ?_
      refine va_get (D := D) (ci := 1) (v := .ref b6) (C := RX1) (T := TX1) (N := 8) hx hb hts iX1 hown hK hP 0 rfl rfl 5 (by decide) w27 (fun _ h9 => h9) rfl dX1_lateOnes_8 ?_
      refine va_alen (D := D) hx hb hK hP 6 0 rfl rfl (v := 600) rfl dX1_lateOnes_11 ?_
      refine lv_icmp_ge (tgt := 53) hx hb dX1_lateOnes_12 (by decide) (fun c1 => ?_) (fun c1 => ?_)
      · replace hf := op_t c1 hf
        refine lv_iload_n hx hb dX1_lateOnes_53 rfl (lv_at hl 1 rfl) ?_
        exact hret _ _ _ _ _ () dX1_lateOnes_54 (op_k hf) hP hS
      · replace hf := op_f c1 hf
        refine lv_iload_n hx hb dX1_lateOnes_15 rfl (lv_at hl 3 rfl) ?_
        refine lv_aload_n hx hb dX1_lateOnes_16 rfl (lv_at hl 0 rfl) ?_
        refine va_get (D := D) (ci := 1) (v := .int nm) (C := RX1) (T := TX1) (N := 8) hx hb hts iX1 hown hK hP 0 rfl rfl 6 (by decide) w30 (fun _ h9 => h9) rfl dX1_lateOnes_17 ?_
        refine lv_icmp_ge (tgt := 53) hx hb dX1_lateOnes_20 (by decide) (fun c2 => ?_) (fun c2 => ?_)
        · replace hf := op_t c2 hf
          refine lv_iload_n hx hb dX1_lateOnes_53 rfl (lv_at hl 1 rfl) ?_
          exact hret _ _ _ _ _ () dX1_lateOnes_54 (op_k hf) hP hS
        · replace hf := op_f c2 hf
          refine lv_aload_n hx hb dX1_lateOnes_23 rfl (lv_at hl 0 rfl) ?_
          refine va_get (D := D) (ci := 1) (v := .ref b6) (C := RX1) (T := TX1) (N := 8) hx hb hts iX1 hown hK hP 0 rfl rfl 5 (by decide) w27 (fun _ h9 => h9) rfl dX1_lateOnes_24 ?_
          refine lv_iload_n hx hb dX1_lateOnes_27 rfl (lv_at hl 3 rfl) ?_
          obtain ⟨q3, hf⟩ := op_x hf
          refine ck_iald (j := (x3).toNatClampNeg) hx hb hK hP 6 0 rfl rfl q3 rfl dX1_lateOnes_28 ?_
          refine lv_iload_n hx hb dX1_lateOnes_29 rfl (lv_at hl 2 rfl) ?_
          refine lv_icmp_ge (tgt := 36) hx hb dX1_lateOnes_30 (by decide) (fun c4 => ?_) (fun c4 => ?_)
          · replace hf := op_t c4 hf
            refine lv_iload_n hx hb dX1_lateOnes_36 rfl (lv_at hl 2 rfl) ?_
            refine lv_aload_n hx hb dX1_lateOnes_37 rfl (lv_at hl 0 rfl) ?_
            refine va_get (D := D) (ci := 1) (v := .ref b6) (C := RX1) (T := TX1) (N := 8) hx hb hts iX1 hown hK hP 0 rfl rfl 5 (by decide) w27 (fun _ h9 => h9) rfl dX1_lateOnes_38 ?_
            refine lv_iload_n hx hb dX1_lateOnes_41 rfl (lv_at hl 3 rfl) ?_
            obtain ⟨q5, hf⟩ := op_x hf
            refine ck_iald (j := (x3).toNatClampNeg) hx hb hK hP 6 0 rfl rfl q5 rfl dX1_lateOnes_42 ?_
            refine ck_max hx hb (hml.trans hl.1.symm) hown m49 ms_max mi mc_max (Nat.le_of_ble_eq_true rfl) (Nat.le_of_ble_eq_true rfl) (Nat.zero_le _) (Nat.zero_le _) dX1_lateOnes_43 ?_
            refine lv_istore_n (lv' := [(2, .int (imax x2 (ni (x3).toNatClampNeg))), (0, .ref h), (1, .int x1), (3, .int x3)]) hx hb dX1_lateOnes_46 rfl hl (by decide) rfl (fun ls hl => ?_)
            refine lv_iinc (v := (x3 + 1)) (lv' := [(3, .int (x3 + 1)), (2, .int (imax x2 (ni (x3).toNatClampNeg))), (0, .ref h), (1, .int x1)]) hx hb dX1_lateOnes_47 hl (k := 3) rfl rfl (by decide) rfl (fun ls hl => ?_)
            refine lv_goto (tgt := 6) hx hb dX1_lateOnes_50 (by decide) ?_
            exact ih  x1 (imax x2 (ni (x3).toNatClampNeg)) (x3 + 1) hf _ _ _ hP hD hS (lv_sub hl [2, 3, 1, 0] rfl)
          · replace hf := op_f c4 hf
            refine lv_iinc (v := (x1 + 1)) (lv' := [(1, .int (x1 + 1)), (0, .ref h), (2, .int x2), (3, .int x3)]) hx hb dX1_lateOnes_33 hl (k := 1) rfl rfl (by decide) rfl (fun ls hl => ?_)
            refine lv_iload_n hx hb dX1_lateOnes_36 rfl (lv_at hl 2 rfl) ?_
            refine lv_aload_n hx hb dX1_lateOnes_37 rfl (lv_at hl 1 rfl) ?_
            refine va_get (D := D) (ci := 1) (v := .ref b6) (C := RX1) (T := TX1) (N := 8) hx hb hts iX1 hown hK hP 0 rfl rfl 5 (by decide) w27 (fun _ h9 => h9) rfl dX1_lateOnes_38 ?_
            refine lv_iload_n hx hb dX1_lateOnes_41 rfl (lv_at hl 3 rfl) ?_
            obtain ⟨q6, hf⟩ := op_x hf
            refine ck_iald (j := (x3).toNatClampNeg) hx hb hK hP 6 0 rfl rfl q6 rfl dX1_lateOnes_42 ?_
            refine ck_max hx hb (hml.trans hl.1.symm) hown m49 ms_max mi mc_max (Nat.le_of_ble_eq_true rfl) (Nat.le_of_ble_eq_true rfl) (Nat.zero_le _) (Nat.zero_le _) dX1_lateOnes_43 ?_
            refine lv_istore_n (lv' := [(2, .int (imax x2 (ni (x3).toNatClampNeg))), (1, .int (x1 + 1)), (0, .ref h), (3, .int x3)]) hx hb dX1_lateOnes_46 rfl hl (by decide) rfl (fun ls hl => ?_)
            refine lv_iinc (v := (x3 + 1)) (lv' := [(3, .int (x3 + 1)), (2, .int (imax x2 (ni (x3).toNatClampNeg))), (1, .int (x1 + 1)), (0, .ref h)]) hx hb dX1_lateOnes_47 hl (k := 3) rfl rfl (by decide) rfl (fun ls hl => ?_)
            refine lv_goto (tgt := 6) hx hb dX1_lateOnes_50 (by decide) ?_
            exact ih  (x1 + 1) (imax x2 (ni (x3).toNatClampNeg)) (x3 + 1) hf _ _ _ hP hD hS (lv_sub hl [3, 2, 1, 0] rfl)
  rw [f_X1_lateOnes] at hf
  refine lv_iconst (v := 0) hx hb dX1_lateOnes_0 (by decide) ?_
  refine lv_istore_n (lv' := [(1, .int 0), (0, .ref h)]) hx hb dX1_lateOnes_1 rfl hl (by decide) rfl (fun ls hl => ?_)
  refine lv_iconst (v := 0) hx hb dX1_lateOnes_2 (by decide) ?_
  refine lv_istore_n (lv' := [(2, .int 0), (1, .int 0), (0, .ref h)]) hx hb dX1_lateOnes_3 rfl hl (by decide) rfl (fun ls hl => ?_)
  refine lv_iconst (v := 0) hx hb dX1_lateOnes_4 (by decide) ?_
  refine lv_istore_n (lv' := [(3, .int 0), (2, .int 0), (1, .int 0), (0, .ref h)]) hx hb dX1_lateOnes_5 rfl hl (by decide) rfl (fun ls hl => ?_)
  exact L_6 K  0 0 0 hf _ _ _ hP hD hS (lv_sub hl [3, 2, 1, 0] rfl)
set_option maxHeartbeats 4000000 in
set_option maxRecDepth 100000 in
theorem c_X1_givenIn (l : Launch) (D : va_G) (cI cC cK cO : ClassId) (tL tM : Nat) (adK adV : Nat → Nat) (h : Nat) (b1 : Nat) (b2 : Nat) (b3 : Nat) (b4 : Nat) (b5 : Nat) (b6 : Nat) (ns : Nat → Int32) (no : Nat → Int32) (nr : Nat → Int32) (nt : Nat → Int32) (nd : Nat → Int32) (ni : Nat → Int32) (nm : Int32) (nf : Int32) (x1 : Int32) (R : Int32) (hf : f_X1_givenIn ni nm x1 = some R) : KI l D (TY cI cC cK cO) (gE tL tM adK adV) yX1_givenIn wsX1_givenIn 0 [.ref h, .int x1] (wN cI h b1 b2 b3 b4 b5 b6 ns no nr nt nd ni nm nf) (fun (r : Int32) (u : Unit) => r = R) (fun u => (wN cI h b1 b2 b3 b4 b5 b6 ns no nr nt nd ni nm nf)) := by
  refine KI.ofI (cc := cX1_givenIn) (maxL := 2) (C := RX1) (by decide) rfl rfl (Nat.le_of_ble_eq_true rfl) ?_
  intro p e s m args below meth c A Q hx hb hml hts hown hP hK hD hA hE hS hret ls hl
  replace hl : lv_has ls 2 [(0, .ref h), (1, .int x1)] := hl
  have w27 := hts (.fieldLink RX1 27 "BlockClerks$Numbers" "inTurn" "[I") (by decide +kernel)
  have w30 := hts (.fieldLink RX1 30 "BlockClerks$Numbers" "turns" "I") (by decide +kernel)
  have iX1 : ∀ w ∈ wsX10, w ∈ wsX1_givenIn := by decide +kernel
  rw [f_X1_givenIn] at hf
  refine lv_iload_n hx hb dX1_givenIn_0 rfl (lv_at hl 1 rfl) ?_
  refine lv_if_lt (tgt := 30) hx hb dX1_givenIn_1 (by decide) (fun c1 => ?_) (fun c1 => ?_)
  · replace hf := op_t c1 hf
    refine lv_bipush (v := (-4)) hx hb dX1_givenIn_30 (by decide) ?_
    exact hret _ _ _ _ _ () dX1_givenIn_32 (op_k hf) hP hS
  · replace hf := op_f c1 hf
    refine lv_iload_n hx hb dX1_givenIn_4 rfl (lv_at hl 1 rfl) ?_
    refine lv_aload_n hx hb dX1_givenIn_5 rfl (lv_at hl 0 rfl) ?_
    refine va_get (D := D) (ci := 1) (v := .int nm) (C := RX1) (T := TX1) (N := 8) hx hb hts iX1 hown hK hP 0 rfl rfl 6 (by decide) w30 (fun _ h9 => h9) rfl dX1_givenIn_6 ?_
    refine lv_icmp_ge (tgt := 30) hx hb dX1_givenIn_9 (by decide) (fun c2 => ?_) (fun c2 => ?_)
    · replace hf := op_t c2 hf
      refine lv_bipush (v := (-4)) hx hb dX1_givenIn_30 (by decide) ?_
      exact hret _ _ _ _ _ () dX1_givenIn_32 (op_k hf) hP hS
    · replace hf := op_f c2 hf
      refine lv_iload_n hx hb dX1_givenIn_12 rfl (lv_at hl 1 rfl) ?_
      refine lv_aload_n hx hb dX1_givenIn_13 rfl (lv_at hl 0 rfl) ?_
      refine va_get (D := D) (ci := 1) (v := .ref b6) (C := RX1) (T := TX1) (N := 8) hx hb hts iX1 hown hK hP 0 rfl rfl 5 (by decide) w27 (fun _ h9 => h9) rfl dX1_givenIn_14 ?_
      refine va_alen (D := D) hx hb hK hP 6 0 rfl rfl (v := 600) rfl dX1_givenIn_17 ?_
      refine lv_icmp_ge (tgt := 30) hx hb dX1_givenIn_18 (by decide) (fun c3 => ?_) (fun c3 => ?_)
      · replace hf := op_t c3 hf
        refine lv_bipush (v := (-4)) hx hb dX1_givenIn_30 (by decide) ?_
        exact hret _ _ _ _ _ () dX1_givenIn_32 (op_k hf) hP hS
      · replace hf := op_f c3 hf
        refine lv_aload_n hx hb dX1_givenIn_21 rfl (lv_at hl 0 rfl) ?_
        refine va_get (D := D) (ci := 1) (v := .ref b6) (C := RX1) (T := TX1) (N := 8) hx hb hts iX1 hown hK hP 0 rfl rfl 5 (by decide) w27 (fun _ h9 => h9) rfl dX1_givenIn_22 ?_
        refine lv_iload_n hx hb dX1_givenIn_25 rfl (lv_at hl 1 rfl) ?_
        obtain ⟨q4, hf⟩ := op_x hf
        refine ck_iald (j := (x1).toNatClampNeg) hx hb hK hP 6 0 rfl rfl q4 rfl dX1_givenIn_26 ?_
        refine lv_goto (tgt := 32) hx hb dX1_givenIn_27 (by decide) ?_
        exact hret _ _ _ _ _ () dX1_givenIn_32 (op_k hf) hP hS
set_option maxHeartbeats 4000000 in
set_option maxRecDepth 100000 in
theorem c_X1_givenWithoutGap (l : Launch) (D : va_G) (cI cC cK cO : ClassId) (tL tM : Nat) (adK adV : Nat → Nat) (h : Nat) (b1 : Nat) (b2 : Nat) (b3 : Nat) (b4 : Nat) (b5 : Nat) (b6 : Nat) (ns : Nat → Int32) (no : Nat → Int32) (nr : Nat → Int32) (nt : Nat → Int32) (nd : Nat → Int32) (ni : Nat → Int32) (nm : Int32) (nf : Int32) (K : Nat) (R : Int32) (hf : f_X1_givenWithoutGap K ns = some R) : KI l D (TY cI cC cK cO) (gE tL tM adK adV) yX1_givenWithoutGap wsX1_givenWithoutGap 0 [.ref h] (wN cI h b1 b2 b3 b4 b5 b6 ns no nr nt nd ni nm nf) (fun (r : Int32) (u : Unit) => r = R) (fun u => (wN cI h b1 b2 b3 b4 b5 b6 ns no nr nt nd ni nm nf)) := by
  refine KI.ofI (cc := cX1_givenWithoutGap) (maxL := 2) (C := RX1) (by decide) rfl rfl (Nat.le_of_ble_eq_true rfl) ?_
  intro p e s m args below meth c A Q hx hb hml hts hown hP hK hD hA hE hS hret ls hl
  replace hl : lv_has ls 2 [(0, .ref h)] := hl
  have w9 := hts (.fieldLink RX1 9 "BlockClerks$Numbers" "state" "[I") (by decide +kernel)
  have iX1 : ∀ w ∈ wsX10, w ∈ wsX1_givenWithoutGap := by decide +kernel
  have L_2 : ∀ (n : Nat)  (x1 : Int32) (hf : f_X1_givenWithoutGap_2 ns n x1 = some R) (H : Heap) (locs : List Loc) (ls : Array Slot), va_P D vwCl (wN cI h b1 b2 b3 b4 b5 b6 ns no nr nt nd ni nm nf) H → va_D A (wN cI h b1 b2 b3 b4 b5 b6 ns no nr nt nd ni nm nf) → va_S A s.heap H locs → lv_has ls 2 [(0, .ref h), (1, .int x1)] → W p l e (rm 0) s m args below meth c H locs 0 0 Q (F0 m 2 ls []) := by
    intro n
    induction n with
    | zero =>
      intro  x1 hf
      cases hf
    | succ n ih =>
      intro  x1 hf H locs ls hP hD hS hl
      rw [f_X1_givenWithoutGap_2] at hf
      refine lv_iload_n hx hb dX1_givenWithoutGap_2 rfl (lv_at hl 1 rfl) ?_
      refine lv_sipush (v := 600) hx hb dX1_givenWithoutGap_3 (by decide) ?_
      refine lv_icmp_ge (tgt := 27) hx hb dX1_givenWithoutGap_6 (by decide) (fun c1 => ?_) (fun c1 => ?_)
      · replace hf := op_t c1 hf
        refine lv_iload_n hx hb dX1_givenWithoutGap_27 rfl (lv_at hl 1 rfl) ?_
        exact hret _ _ _ _ _ () dX1_givenWithoutGap_28 (op_k hf) hP hS
      · replace hf := op_f c1 hf
        refine lv_aload_n hx hb dX1_givenWithoutGap_9 rfl (lv_at hl 0 rfl) ?_
        refine va_get (D := D) (ci := 1) (v := .ref b1) (C := RX1) (T := TX1) (N := 8) hx hb hts iX1 hown hK hP 0 rfl rfl 0 (by decide) w9 (fun _ h9 => h9) rfl dX1_givenWithoutGap_10 ?_
        refine lv_iload_n hx hb dX1_givenWithoutGap_13 rfl (lv_at hl 1 rfl) ?_
        refine lv_iconst (v := 1) hx hb dX1_givenWithoutGap_14 (by decide) ?_
        refine lv_iadd hx hb dX1_givenWithoutGap_15 ?_
        obtain ⟨q2, hf⟩ := op_x hf
        refine ck_iald (j := (x1 + 1).toNatClampNeg) hx hb hK hP 1 0 rfl rfl q2 rfl dX1_givenWithoutGap_16 ?_
        refine lv_iconst (v := 2) hx hb dX1_givenWithoutGap_17 (by decide) ?_
        refine lv_icmp_ne (tgt := 27) hx hb dX1_givenWithoutGap_18 (by decide) (fun c3 => ?_) (fun c3 => ?_)
        · replace hf := op_f c3 hf
          refine lv_iload_n hx hb dX1_givenWithoutGap_27 rfl (lv_at hl 1 rfl) ?_
          exact hret _ _ _ _ _ () dX1_givenWithoutGap_28 (op_k hf) hP hS
        · replace hf := op_t c3 hf
          refine lv_iinc (v := (x1 + 1)) (lv' := [(1, .int (x1 + 1)), (0, .ref h)]) hx hb dX1_givenWithoutGap_21 hl (k := 1) rfl rfl (by decide) rfl (fun ls hl => ?_)
          refine lv_goto (tgt := 2) hx hb dX1_givenWithoutGap_24 (by decide) ?_
          exact ih  (x1 + 1) hf _ _ _ hP hD hS (lv_sub hl [1, 0] rfl)
  rw [f_X1_givenWithoutGap] at hf
  refine lv_iconst (v := 0) hx hb dX1_givenWithoutGap_0 (by decide) ?_
  refine lv_istore_n (lv' := [(1, .int 0), (0, .ref h)]) hx hb dX1_givenWithoutGap_1 rfl hl (by decide) rfl (fun ls hl => ?_)
  exact L_2 K  0 hf _ _ _ hP hD hS (lv_sub hl [1, 0] rfl)
set_option maxHeartbeats 4000000 in
set_option maxRecDepth 100000 in
theorem c_X1_inState (l : Launch) (D : va_G) (cI cC cK cO : ClassId) (tL tM : Nat) (adK adV : Nat → Nat) (h : Nat) (b1 : Nat) (b2 : Nat) (b3 : Nat) (b4 : Nat) (b5 : Nat) (b6 : Nat) (ns : Nat → Int32) (no : Nat → Int32) (nr : Nat → Int32) (nt : Nat → Int32) (nd : Nat → Int32) (ni : Nat → Int32) (nm : Int32) (nf : Int32) (x1 : Int32) (x2 : Int32) (x3 : Int32) (K : Nat) (R : Int32) (hf : f_X1_inState K ns x1 x2 x3 = some R) : KI l D (TY cI cC cK cO) (gE tL tM adK adV) yX1_inState wsX1_inState 1 [.ref h, .int x1, .int x2, .int x3] (wN cI h b1 b2 b3 b4 b5 b6 ns no nr nt nd ni nm nf) (fun (r : Int32) (u : Unit) => r = R) (fun u => (wN cI h b1 b2 b3 b4 b5 b6 ns no nr nt nd ni nm nf)) := by
  refine KI.ofI (cc := cX1_inState) (maxL := 6) (C := RX1) (by decide) rfl rfl (Nat.le_of_ble_eq_true rfl) ?_
  intro p e s m args below meth c A Q hx hb hml hts hown hP hK hD hA hE hS hret ls hl
  replace hl : lv_has ls 6 [(0, .ref h), (1, .int x1), (2, .int x2), (3, .int x3)] := hl
  have m49 := hts (.methodLink RX1 49 Lib.Math.max.name) (by decide +kernel)
  have mc_max := hts (.code Lib.Math.max.name Lib.Math.max.code 2 (some .int)) (by decide +kernel)
  have mi := hts (.initialized "java/lang/Math") (by decide +kernel)
  have ms_max := hts (.static Lib.Math.max.name) (by decide +kernel)
  have w9 := hts (.fieldLink RX1 9 "BlockClerks$Numbers" "state" "[I") (by decide +kernel)
  have iX1 : ∀ w ∈ wsX10, w ∈ wsX1_inState := by decide +kernel
  have L_10 : ∀ (n : Nat)  (x1 : Int32) (x2 : Int32) (x3 : Int32) (x4 : Int32) (x5 : Int32) (hf : f_X1_inState_10 x2 x3 ns n x4 x5 = some R) (H : Heap) (locs : List Loc) (ls : Array Slot), va_P D vwCl (wN cI h b1 b2 b3 b4 b5 b6 ns no nr nt nd ni nm nf) H → va_D A (wN cI h b1 b2 b3 b4 b5 b6 ns no nr nt nd ni nm nf) → va_S A s.heap H locs → lv_has ls 6 [(0, .ref h), (1, .int x1), (2, .int x2), (3, .int x3), (4, .int x4), (5, .int x5)] → W p l e (rm 1) s m args below meth c H locs 0 0 Q (F0 m 10 ls []) := by
    intro n
    induction n with
    | zero =>
      intro  x1 x2 x3 x4 x5 hf
      cases hf
    | succ n ih =>
      intro  x1 x2 x3 x4 x5 hf H locs ls hP hD hS hl
      rw [f_X1_inState_10] at hf
      refine lv_iload hx hb dX1_inState_10 (lv_at hl 5 rfl) ?_
      refine lv_iload_n hx hb dX1_inState_12 rfl (lv_at hl 2 rfl) ?_
      refine lv_icmp_gt (tgt := 44) hx hb dX1_inState_13 (by decide) (fun c1 => ?_) (fun c1 => ?_)
      · replace hf := op_t c1 hf
        refine lv_iload hx hb dX1_inState_44 (lv_at hl 4 rfl) ?_
        exact hret _ _ _ _ _ () dX1_inState_46 (op_k hf) hP hS
      · replace hf := op_f c1 hf
        refine lv_iload hx hb dX1_inState_16 (lv_at hl 5 rfl) ?_
        refine lv_sipush (v := 600) hx hb dX1_inState_18 (by decide) ?_
        refine lv_icmp_gt (tgt := 44) hx hb dX1_inState_21 (by decide) (fun c2 => ?_) (fun c2 => ?_)
        · replace hf := op_t c2 hf
          refine lv_iload hx hb dX1_inState_44 (lv_at hl 4 rfl) ?_
          exact hret _ _ _ _ _ () dX1_inState_46 (op_k hf) hP hS
        · replace hf := op_f c2 hf
          refine lv_aload_n hx hb dX1_inState_24 rfl (lv_at hl 0 rfl) ?_
          refine va_get (D := D) (ci := 1) (v := .ref b1) (C := RX1) (T := TX1) (N := 8) hx hb hts iX1 hown hK hP 0 rfl rfl 0 (by decide) w9 (fun _ h9 => h9) rfl dX1_inState_25 ?_
          refine lv_iload hx hb dX1_inState_28 (lv_at hl 5 rfl) ?_
          obtain ⟨q3, hf⟩ := op_x hf
          refine ck_iald (j := (x5).toNatClampNeg) hx hb hK hP 1 0 rfl rfl q3 rfl dX1_inState_30 ?_
          refine lv_iload_n hx hb dX1_inState_31 rfl (lv_at hl 3 rfl) ?_
          refine lv_icmp_ne (tgt := 38) hx hb dX1_inState_32 (by decide) (fun c4 => ?_) (fun c4 => ?_)
          · replace hf := op_f c4 hf
            refine lv_iinc (v := (x5 + 1)) (lv' := [(5, .int (x5 + 1)), (0, .ref h), (1, .int x1), (2, .int x2), (3, .int x3), (4, .int x4)]) hx hb dX1_inState_38 hl (k := 5) rfl rfl (by decide) rfl (fun ls hl => ?_)
            refine lv_goto (tgt := 10) hx hb dX1_inState_41 (by decide) ?_
            exact ih  x1 x2 x3 x4 (x5 + 1) hf _ _ _ hP hD hS (lv_sub hl [1, 2, 3, 4, 5, 0] rfl)
          · replace hf := op_t c4 hf
            refine lv_iinc (v := (x4 + 1)) (lv' := [(4, .int (x4 + 1)), (0, .ref h), (1, .int x1), (2, .int x2), (3, .int x3), (5, .int x5)]) hx hb dX1_inState_35 hl (k := 4) rfl rfl (by decide) rfl (fun ls hl => ?_)
            refine lv_iinc (v := (x5 + 1)) (lv' := [(5, .int (x5 + 1)), (4, .int (x4 + 1)), (0, .ref h), (1, .int x1), (2, .int x2), (3, .int x3)]) hx hb dX1_inState_38 hl (k := 5) rfl rfl (by decide) rfl (fun ls hl => ?_)
            refine lv_goto (tgt := 10) hx hb dX1_inState_41 (by decide) ?_
            exact ih  x1 x2 x3 (x4 + 1) (x5 + 1) hf _ _ _ hP hD hS (lv_sub hl [2, 3, 4, 5, 1, 0] rfl)
  rw [f_X1_inState] at hf
  refine lv_iconst (v := 0) hx hb dX1_inState_0 (by decide) ?_
  refine lv_istore (lv' := [(4, .int 0), (0, .ref h), (1, .int x1), (2, .int x2), (3, .int x3)]) hx hb dX1_inState_1 hl (by decide) rfl (fun ls hl => ?_)
  refine lv_iload_n hx hb dX1_inState_3 rfl (lv_at hl 2 rfl) ?_
  refine lv_iconst (v := 1) hx hb dX1_inState_4 (by decide) ?_
  refine ck_max hx hb (hml.trans hl.1.symm) hown m49 ms_max mi mc_max (Nat.le_of_ble_eq_true rfl) (Nat.le_of_ble_eq_true rfl) (Nat.zero_le _) (Nat.zero_le _) dX1_inState_5 ?_
  refine lv_istore (lv' := [(5, .int (imax x1 1)), (4, .int 0), (0, .ref h), (1, .int x1), (2, .int x2), (3, .int x3)]) hx hb dX1_inState_8 hl (by decide) rfl (fun ls hl => ?_)
  exact L_10 K  x1 x2 x3 0 (imax x1 1) hf _ _ _ hP hD hS (lv_sub hl [2, 3, 4, 5, 1, 0] rfl)
set_option maxHeartbeats 4000000 in
set_option maxRecDepth 100000 in
theorem c_X1_withReason (l : Launch) (D : va_G) (cI cC cK cO : ClassId) (tL tM : Nat) (adK adV : Nat → Nat) (h : Nat) (b1 : Nat) (b2 : Nat) (b3 : Nat) (b4 : Nat) (b5 : Nat) (b6 : Nat) (ns : Nat → Int32) (no : Nat → Int32) (nr : Nat → Int32) (nt : Nat → Int32) (nd : Nat → Int32) (ni : Nat → Int32) (nm : Int32) (nf : Int32) (x1 : Int32) (x2 : Int32) (x3 : Int32) (K : Nat) (R : Int32) (hf : f_X1_withReason K nr x1 x2 x3 = some R) : KI l D (TY cI cC cK cO) (gE tL tM adK adV) yX1_withReason wsX1_withReason 1 [.ref h, .int x1, .int x2, .int x3] (wN cI h b1 b2 b3 b4 b5 b6 ns no nr nt nd ni nm nf) (fun (r : Int32) (u : Unit) => r = R) (fun u => (wN cI h b1 b2 b3 b4 b5 b6 ns no nr nt nd ni nm nf)) := by
  refine KI.ofI (cc := cX1_withReason) (maxL := 6) (C := RX1) (by decide) rfl rfl (Nat.le_of_ble_eq_true rfl) ?_
  intro p e s m args below meth c A Q hx hb hml hts hown hP hK hD hA hE hS hret ls hl
  replace hl : lv_has ls 6 [(0, .ref h), (1, .int x1), (2, .int x2), (3, .int x3)] := hl
  have m49 := hts (.methodLink RX1 49 Lib.Math.max.name) (by decide +kernel)
  have mc_max := hts (.code Lib.Math.max.name Lib.Math.max.code 2 (some .int)) (by decide +kernel)
  have mi := hts (.initialized "java/lang/Math") (by decide +kernel)
  have ms_max := hts (.static Lib.Math.max.name) (by decide +kernel)
  have w18 := hts (.fieldLink RX1 18 "BlockClerks$Numbers" "reason" "[I") (by decide +kernel)
  have iX1 : ∀ w ∈ wsX10, w ∈ wsX1_withReason := by decide +kernel
  have L_10 : ∀ (n : Nat)  (x1 : Int32) (x2 : Int32) (x3 : Int32) (x4 : Int32) (x5 : Int32) (hf : f_X1_withReason_10 x2 x3 nr n x4 x5 = some R) (H : Heap) (locs : List Loc) (ls : Array Slot), va_P D vwCl (wN cI h b1 b2 b3 b4 b5 b6 ns no nr nt nd ni nm nf) H → va_D A (wN cI h b1 b2 b3 b4 b5 b6 ns no nr nt nd ni nm nf) → va_S A s.heap H locs → lv_has ls 6 [(0, .ref h), (1, .int x1), (2, .int x2), (3, .int x3), (4, .int x4), (5, .int x5)] → W p l e (rm 1) s m args below meth c H locs 0 0 Q (F0 m 10 ls []) := by
    intro n
    induction n with
    | zero =>
      intro  x1 x2 x3 x4 x5 hf
      cases hf
    | succ n ih =>
      intro  x1 x2 x3 x4 x5 hf H locs ls hP hD hS hl
      rw [f_X1_withReason_10] at hf
      refine lv_iload hx hb dX1_withReason_10 (lv_at hl 5 rfl) ?_
      refine lv_iload_n hx hb dX1_withReason_12 rfl (lv_at hl 2 rfl) ?_
      refine lv_icmp_gt (tgt := 44) hx hb dX1_withReason_13 (by decide) (fun c1 => ?_) (fun c1 => ?_)
      · replace hf := op_t c1 hf
        refine lv_iload hx hb dX1_withReason_44 (lv_at hl 4 rfl) ?_
        exact hret _ _ _ _ _ () dX1_withReason_46 (op_k hf) hP hS
      · replace hf := op_f c1 hf
        refine lv_iload hx hb dX1_withReason_16 (lv_at hl 5 rfl) ?_
        refine lv_sipush (v := 600) hx hb dX1_withReason_18 (by decide) ?_
        refine lv_icmp_gt (tgt := 44) hx hb dX1_withReason_21 (by decide) (fun c2 => ?_) (fun c2 => ?_)
        · replace hf := op_t c2 hf
          refine lv_iload hx hb dX1_withReason_44 (lv_at hl 4 rfl) ?_
          exact hret _ _ _ _ _ () dX1_withReason_46 (op_k hf) hP hS
        · replace hf := op_f c2 hf
          refine lv_aload_n hx hb dX1_withReason_24 rfl (lv_at hl 0 rfl) ?_
          refine va_get (D := D) (ci := 1) (v := .ref b3) (C := RX1) (T := TX1) (N := 8) hx hb hts iX1 hown hK hP 0 rfl rfl 2 (by decide) w18 (fun _ h9 => h9) rfl dX1_withReason_25 ?_
          refine lv_iload hx hb dX1_withReason_28 (lv_at hl 5 rfl) ?_
          obtain ⟨q3, hf⟩ := op_x hf
          refine ck_iald (j := (x5).toNatClampNeg) hx hb hK hP 3 0 rfl rfl q3 rfl dX1_withReason_30 ?_
          refine lv_iload_n hx hb dX1_withReason_31 rfl (lv_at hl 3 rfl) ?_
          refine lv_icmp_ne (tgt := 38) hx hb dX1_withReason_32 (by decide) (fun c4 => ?_) (fun c4 => ?_)
          · replace hf := op_f c4 hf
            refine lv_iinc (v := (x5 + 1)) (lv' := [(5, .int (x5 + 1)), (0, .ref h), (1, .int x1), (2, .int x2), (3, .int x3), (4, .int x4)]) hx hb dX1_withReason_38 hl (k := 5) rfl rfl (by decide) rfl (fun ls hl => ?_)
            refine lv_goto (tgt := 10) hx hb dX1_withReason_41 (by decide) ?_
            exact ih  x1 x2 x3 x4 (x5 + 1) hf _ _ _ hP hD hS (lv_sub hl [1, 2, 3, 4, 5, 0] rfl)
          · replace hf := op_t c4 hf
            refine lv_iinc (v := (x4 + 1)) (lv' := [(4, .int (x4 + 1)), (0, .ref h), (1, .int x1), (2, .int x2), (3, .int x3), (5, .int x5)]) hx hb dX1_withReason_35 hl (k := 4) rfl rfl (by decide) rfl (fun ls hl => ?_)
            refine lv_iinc (v := (x5 + 1)) (lv' := [(5, .int (x5 + 1)), (4, .int (x4 + 1)), (0, .ref h), (1, .int x1), (2, .int x2), (3, .int x3)]) hx hb dX1_withReason_38 hl (k := 5) rfl rfl (by decide) rfl (fun ls hl => ?_)
            refine lv_goto (tgt := 10) hx hb dX1_withReason_41 (by decide) ?_
            exact ih  x1 x2 x3 (x4 + 1) (x5 + 1) hf _ _ _ hP hD hS (lv_sub hl [2, 3, 4, 5, 1, 0] rfl)
  rw [f_X1_withReason] at hf
  refine lv_iconst (v := 0) hx hb dX1_withReason_0 (by decide) ?_
  refine lv_istore (lv' := [(4, .int 0), (0, .ref h), (1, .int x1), (2, .int x2), (3, .int x3)]) hx hb dX1_withReason_1 hl (by decide) rfl (fun ls hl => ?_)
  refine lv_iload_n hx hb dX1_withReason_3 rfl (lv_at hl 2 rfl) ?_
  refine lv_iconst (v := 1) hx hb dX1_withReason_4 (by decide) ?_
  refine ck_max hx hb (hml.trans hl.1.symm) hown m49 ms_max mi mc_max (Nat.le_of_ble_eq_true rfl) (Nat.le_of_ble_eq_true rfl) (Nat.zero_le _) (Nat.zero_le _) dX1_withReason_5 ?_
  refine lv_istore (lv' := [(5, .int (imax x1 1)), (4, .int 0), (0, .ref h), (1, .int x1), (2, .int x2), (3, .int x3)]) hx hb dX1_withReason_8 hl (by decide) rfl (fun ls hl => ?_)
  exact L_10 K  x1 x2 x3 0 (imax x1 1) hf _ _ _ hP hD hS (lv_sub hl [2, 3, 4, 5, 1, 0] rfl)
set_option maxHeartbeats 4000000 in
set_option maxRecDepth 100000 in
theorem c_X1_holesOf (l : Launch) (D : va_G) (cI cC cK cO : ClassId) (tL tM : Nat) (adK adV : Nat → Nat) (h : Nat) (b1 : Nat) (b2 : Nat) (b3 : Nat) (b4 : Nat) (b5 : Nat) (b6 : Nat) (ns : Nat → Int32) (no : Nat → Int32) (nr : Nat → Int32) (nt : Nat → Int32) (nd : Nat → Int32) (ni : Nat → Int32) (nm : Int32) (nf : Int32) (x1 : Int32) (K : Nat) (R : Int32) (hf : f_X1_holesOf K ns no x1 = some R) : KI l D (TY cI cC cK cO) (gE tL tM adK adV) yX1_holesOf wsX1_holesOf 0 [.ref h, .int x1] (wN cI h b1 b2 b3 b4 b5 b6 ns no nr nt nd ni nm nf) (fun (r : Int32) (u : Unit) => r = R) (fun u => (wN cI h b1 b2 b3 b4 b5 b6 ns no nr nt nd ni nm nf)) := by
  refine KI.ofI (cc := cX1_holesOf) (maxL := 4) (C := RX1) (by decide) rfl rfl (Nat.le_of_ble_eq_true rfl) ?_
  intro p e s m args below meth c A Q hx hb hml hts hown hP hK hD hA hE hS hret ls hl
  replace hl : lv_has ls 4 [(0, .ref h), (1, .int x1)] := hl
  have w15 := hts (.fieldLink RX1 15 "BlockClerks$Numbers" "owner" "[I") (by decide +kernel)
  have w9 := hts (.fieldLink RX1 9 "BlockClerks$Numbers" "state" "[I") (by decide +kernel)
  have iX1 : ∀ w ∈ wsX10, w ∈ wsX1_holesOf := by decide +kernel
  have L_4 : ∀ (n : Nat)  (x1 : Int32) (x2 : Int32) (x3 : Int32) (hf : f_X1_holesOf_4 x1 ns no n x2 x3 = some R) (H : Heap) (locs : List Loc) (ls : Array Slot), va_P D vwCl (wN cI h b1 b2 b3 b4 b5 b6 ns no nr nt nd ni nm nf) H → va_D A (wN cI h b1 b2 b3 b4 b5 b6 ns no nr nt nd ni nm nf) → va_S A s.heap H locs → lv_has ls 4 [(0, .ref h), (1, .int x1), (2, .int x2), (3, .int x3)] → W p l e (rm 0) s m args below meth c H locs 0 0 Q (F0 m 4 ls []) := by
    intro n
    induction n with
    | zero =>
      intro  x1 x2 x3 hf
      cases hf
    | succ n ih =>
      intro  x1 x2 x3 hf H locs ls hP hD hS hl
      rw [f_X1_holesOf_4] at hf
      refine lv_iload_n hx hb dX1_holesOf_4 rfl (lv_at hl 3 rfl) ?_
      refine lv_sipush (v := 600) hx hb dX1_holesOf_5 (by decide) ?_
      refine lv_icmp_gt (tgt := 40) hx hb dX1_holesOf_8 (by decide) (fun c1 => ?_) (fun c1 => ?_)
      · replace hf := op_t c1 hf
        refine lv_iload_n hx hb dX1_holesOf_40 rfl (lv_at hl 2 rfl) ?_
        exact hret _ _ _ _ _ () dX1_holesOf_41 (op_k hf) hP hS
      · replace hf := op_f c1 hf
        refine lv_aload_n hx hb dX1_holesOf_11 rfl (lv_at hl 0 rfl) ?_
        refine va_get (D := D) (ci := 1) (v := .ref b1) (C := RX1) (T := TX1) (N := 8) hx hb hts iX1 hown hK hP 0 rfl rfl 0 (by decide) w9 (fun _ h9 => h9) rfl dX1_holesOf_12 ?_
        refine lv_iload_n hx hb dX1_holesOf_15 rfl (lv_at hl 3 rfl) ?_
        obtain ⟨q2, hf⟩ := op_x hf
        refine ck_iald (j := (x3).toNatClampNeg) hx hb hK hP 1 0 rfl rfl q2 rfl dX1_holesOf_16 ?_
        refine lv_iconst (v := 4) hx hb dX1_holesOf_17 (by decide) ?_
        refine lv_icmp_ne (tgt := 34) hx hb dX1_holesOf_18 (by decide) (fun c3 => ?_) (fun c3 => ?_)
        · replace hf := op_f c3 hf
          refine lv_iinc (v := (x3 + 1)) (lv' := [(3, .int (x3 + 1)), (0, .ref h), (1, .int x1), (2, .int x2)]) hx hb dX1_holesOf_34 hl (k := 3) rfl rfl (by decide) rfl (fun ls hl => ?_)
          refine lv_goto (tgt := 4) hx hb dX1_holesOf_37 (by decide) ?_
          exact ih  x1 x2 (x3 + 1) hf _ _ _ hP hD hS (lv_sub hl [1, 2, 3, 0] rfl)
        · replace hf := op_t c3 hf
          refine lv_aload_n hx hb dX1_holesOf_21 rfl (lv_at hl 0 rfl) ?_
          refine va_get (D := D) (ci := 1) (v := .ref b2) (C := RX1) (T := TX1) (N := 8) hx hb hts iX1 hown hK hP 0 rfl rfl 1 (by decide) w15 (fun _ h9 => h9) rfl dX1_holesOf_22 ?_
          refine lv_iload_n hx hb dX1_holesOf_25 rfl (lv_at hl 3 rfl) ?_
          obtain ⟨q4, hf⟩ := op_x hf
          refine ck_iald (j := (x3).toNatClampNeg) hx hb hK hP 2 0 rfl rfl q4 rfl dX1_holesOf_26 ?_
          refine lv_iload_n hx hb dX1_holesOf_27 rfl (lv_at hl 1 rfl) ?_
          refine lv_icmp_ne (tgt := 34) hx hb dX1_holesOf_28 (by decide) (fun c5 => ?_) (fun c5 => ?_)
          · replace hf := op_f c5 hf
            refine lv_iinc (v := (x3 + 1)) (lv' := [(3, .int (x3 + 1)), (0, .ref h), (1, .int x1), (2, .int x2)]) hx hb dX1_holesOf_34 hl (k := 3) rfl rfl (by decide) rfl (fun ls hl => ?_)
            refine lv_goto (tgt := 4) hx hb dX1_holesOf_37 (by decide) ?_
            exact ih  x1 x2 (x3 + 1) hf _ _ _ hP hD hS (lv_sub hl [1, 2, 3, 0] rfl)
          · replace hf := op_t c5 hf
            refine lv_iinc (v := (x2 + 1)) (lv' := [(2, .int (x2 + 1)), (0, .ref h), (1, .int x1), (3, .int x3)]) hx hb dX1_holesOf_31 hl (k := 2) rfl rfl (by decide) rfl (fun ls hl => ?_)
            refine lv_iinc (v := (x3 + 1)) (lv' := [(3, .int (x3 + 1)), (2, .int (x2 + 1)), (0, .ref h), (1, .int x1)]) hx hb dX1_holesOf_34 hl (k := 3) rfl rfl (by decide) rfl (fun ls hl => ?_)
            refine lv_goto (tgt := 4) hx hb dX1_holesOf_37 (by decide) ?_
            exact ih  x1 (x2 + 1) (x3 + 1) hf _ _ _ hP hD hS (lv_sub hl [2, 3, 1, 0] rfl)
  rw [f_X1_holesOf] at hf
  refine lv_iconst (v := 0) hx hb dX1_holesOf_0 (by decide) ?_
  refine lv_istore_n (lv' := [(2, .int 0), (0, .ref h), (1, .int x1)]) hx hb dX1_holesOf_1 rfl hl (by decide) rfl (fun ls hl => ?_)
  refine lv_iconst (v := 1) hx hb dX1_holesOf_2 (by decide) ?_
  refine lv_istore_n (lv' := [(3, .int 1), (2, .int 0), (0, .ref h), (1, .int x1)]) hx hb dX1_holesOf_3 rfl hl (by decide) rfl (fun ls hl => ?_)
  exact L_4 K  x1 0 1 hf _ _ _ hP hD hS (lv_sub hl [2, 3, 1, 0] rfl)
set_option maxHeartbeats 4000000 in
set_option maxRecDepth 100000 in
theorem c_X1_forgottenOf (l : Launch) (D : va_G) (cI cC cK cO : ClassId) (tL tM : Nat) (adK adV : Nat → Nat) (h : Nat) (b1 : Nat) (b2 : Nat) (b3 : Nat) (b4 : Nat) (b5 : Nat) (b6 : Nat) (ns : Nat → Int32) (no : Nat → Int32) (nr : Nat → Int32) (nt : Nat → Int32) (nd : Nat → Int32) (ni : Nat → Int32) (nm : Int32) (nf : Int32) (x1 : Int32) (K : Nat) (R : Int32) (hf : f_X1_forgottenOf K no nr x1 = some R) : KI l D (TY cI cC cK cO) (gE tL tM adK adV) yX1_forgottenOf wsX1_forgottenOf 0 [.ref h, .int x1] (wN cI h b1 b2 b3 b4 b5 b6 ns no nr nt nd ni nm nf) (fun (r : Int32) (u : Unit) => r = R) (fun u => (wN cI h b1 b2 b3 b4 b5 b6 ns no nr nt nd ni nm nf)) := by
  refine KI.ofI (cc := cX1_forgottenOf) (maxL := 4) (C := RX1) (by decide) rfl rfl (Nat.le_of_ble_eq_true rfl) ?_
  intro p e s m args below meth c A Q hx hb hml hts hown hP hK hD hA hE hS hret ls hl
  replace hl : lv_has ls 4 [(0, .ref h), (1, .int x1)] := hl
  have w15 := hts (.fieldLink RX1 15 "BlockClerks$Numbers" "owner" "[I") (by decide +kernel)
  have w18 := hts (.fieldLink RX1 18 "BlockClerks$Numbers" "reason" "[I") (by decide +kernel)
  have iX1 : ∀ w ∈ wsX10, w ∈ wsX1_forgottenOf := by decide +kernel
  have L_4 : ∀ (n : Nat)  (x1 : Int32) (x2 : Int32) (x3 : Int32) (hf : f_X1_forgottenOf_4 x1 no nr n x2 x3 = some R) (H : Heap) (locs : List Loc) (ls : Array Slot), va_P D vwCl (wN cI h b1 b2 b3 b4 b5 b6 ns no nr nt nd ni nm nf) H → va_D A (wN cI h b1 b2 b3 b4 b5 b6 ns no nr nt nd ni nm nf) → va_S A s.heap H locs → lv_has ls 4 [(0, .ref h), (1, .int x1), (2, .int x2), (3, .int x3)] → W p l e (rm 0) s m args below meth c H locs 0 0 Q (F0 m 4 ls []) := by
    intro n
    induction n with
    | zero =>
      intro  x1 x2 x3 hf
      cases hf
    | succ n ih =>
      intro  x1 x2 x3 hf H locs ls hP hD hS hl
      rw [f_X1_forgottenOf_4] at hf
      refine lv_iload_n hx hb dX1_forgottenOf_4 rfl (lv_at hl 3 rfl) ?_
      refine lv_sipush (v := 600) hx hb dX1_forgottenOf_5 (by decide) ?_
      refine lv_icmp_gt (tgt := 39) hx hb dX1_forgottenOf_8 (by decide) (fun c1 => ?_) (fun c1 => ?_)
      · replace hf := op_t c1 hf
        refine lv_iload_n hx hb dX1_forgottenOf_39 rfl (lv_at hl 2 rfl) ?_
        exact hret _ _ _ _ _ () dX1_forgottenOf_40 (op_k hf) hP hS
      · replace hf := op_f c1 hf
        refine lv_aload_n hx hb dX1_forgottenOf_11 rfl (lv_at hl 0 rfl) ?_
        refine va_get (D := D) (ci := 1) (v := .ref b3) (C := RX1) (T := TX1) (N := 8) hx hb hts iX1 hown hK hP 0 rfl rfl 2 (by decide) w18 (fun _ h9 => h9) rfl dX1_forgottenOf_12 ?_
        refine lv_iload_n hx hb dX1_forgottenOf_15 rfl (lv_at hl 3 rfl) ?_
        obtain ⟨q2, hf⟩ := op_x hf
        refine ck_iald (j := (x3).toNatClampNeg) hx hb hK hP 3 0 rfl rfl q2 rfl dX1_forgottenOf_16 ?_
        refine lv_if_ne (tgt := 33) hx hb dX1_forgottenOf_17 (by decide) (fun c3 => ?_) (fun c3 => ?_)
        · replace hf := op_f c3 hf
          refine lv_iinc (v := (x3 + 1)) (lv' := [(3, .int (x3 + 1)), (0, .ref h), (1, .int x1), (2, .int x2)]) hx hb dX1_forgottenOf_33 hl (k := 3) rfl rfl (by decide) rfl (fun ls hl => ?_)
          refine lv_goto (tgt := 4) hx hb dX1_forgottenOf_36 (by decide) ?_
          exact ih  x1 x2 (x3 + 1) hf _ _ _ hP hD hS (lv_sub hl [1, 2, 3, 0] rfl)
        · replace hf := op_t c3 hf
          refine lv_aload_n hx hb dX1_forgottenOf_20 rfl (lv_at hl 0 rfl) ?_
          refine va_get (D := D) (ci := 1) (v := .ref b2) (C := RX1) (T := TX1) (N := 8) hx hb hts iX1 hown hK hP 0 rfl rfl 1 (by decide) w15 (fun _ h9 => h9) rfl dX1_forgottenOf_21 ?_
          refine lv_iload_n hx hb dX1_forgottenOf_24 rfl (lv_at hl 3 rfl) ?_
          obtain ⟨q4, hf⟩ := op_x hf
          refine ck_iald (j := (x3).toNatClampNeg) hx hb hK hP 2 0 rfl rfl q4 rfl dX1_forgottenOf_25 ?_
          refine lv_iload_n hx hb dX1_forgottenOf_26 rfl (lv_at hl 1 rfl) ?_
          refine lv_icmp_ne (tgt := 33) hx hb dX1_forgottenOf_27 (by decide) (fun c5 => ?_) (fun c5 => ?_)
          · replace hf := op_f c5 hf
            refine lv_iinc (v := (x3 + 1)) (lv' := [(3, .int (x3 + 1)), (0, .ref h), (1, .int x1), (2, .int x2)]) hx hb dX1_forgottenOf_33 hl (k := 3) rfl rfl (by decide) rfl (fun ls hl => ?_)
            refine lv_goto (tgt := 4) hx hb dX1_forgottenOf_36 (by decide) ?_
            exact ih  x1 x2 (x3 + 1) hf _ _ _ hP hD hS (lv_sub hl [1, 2, 3, 0] rfl)
          · replace hf := op_t c5 hf
            refine lv_iinc (v := (x2 + 1)) (lv' := [(2, .int (x2 + 1)), (0, .ref h), (1, .int x1), (3, .int x3)]) hx hb dX1_forgottenOf_30 hl (k := 2) rfl rfl (by decide) rfl (fun ls hl => ?_)
            refine lv_iinc (v := (x3 + 1)) (lv' := [(3, .int (x3 + 1)), (2, .int (x2 + 1)), (0, .ref h), (1, .int x1)]) hx hb dX1_forgottenOf_33 hl (k := 3) rfl rfl (by decide) rfl (fun ls hl => ?_)
            refine lv_goto (tgt := 4) hx hb dX1_forgottenOf_36 (by decide) ?_
            exact ih  x1 (x2 + 1) (x3 + 1) hf _ _ _ hP hD hS (lv_sub hl [2, 3, 1, 0] rfl)
  rw [f_X1_forgottenOf] at hf
  refine lv_iconst (v := 0) hx hb dX1_forgottenOf_0 (by decide) ?_
  refine lv_istore_n (lv' := [(2, .int 0), (0, .ref h), (1, .int x1)]) hx hb dX1_forgottenOf_1 rfl hl (by decide) rfl (fun ls hl => ?_)
  refine lv_iconst (v := 1) hx hb dX1_forgottenOf_2 (by decide) ?_
  refine lv_istore_n (lv' := [(3, .int 1), (2, .int 0), (0, .ref h), (1, .int x1)]) hx hb dX1_forgottenOf_3 rfl hl (by decide) rfl (fun ls hl => ?_)
  exact L_4 K  x1 0 1 hf _ _ _ hP hD hS (lv_sub hl [2, 3, 1, 0] rfl)
set_option maxHeartbeats 4000000 in
set_option maxRecDepth 100000 in
theorem c_X2_become (l : Launch) (D : va_G) (cI cC cK cO : ClassId) (tL tM : Nat) (adK adV : Nat → Nat) (o : Nat → Nat) (o2 : Nat → Nat) (ns : Nat → Int32) (no : Nat → Int32) (nr : Nat → Int32) (nt : Nat → Int32) (nd : Nat → Int32) (ni : Nat → Int32) (nm : Int32) (nf : Int32) (cl : Nat → Nat → Int32) (cc : Int32) (cs : Nat → Int32) (ct : Int32) (ms : Nat → Int32) (mo : Nat → Int32) (mr : Nat → Int32) (mt : Nat → Int32) (md : Nat → Int32) (mi : Nat → Int32) (mm : Int32) (mf : Int32) (dl : Nat → Nat → Int32) (dc : Int32) (ds : Nat → Int32) (dt : Int32) (R : (Nat → Int32) × (Nat → Int32) × (Nat → Int32) × (Nat → Int32) × (Nat → Int32) × (Nat → Int32) × Int32 × Int32 × (Nat → Nat → Int32) × Int32 × (Nat → Int32) × Int32) (hf : f_X2_become ns no nr nt nd ni cl cs ms mo mr mt md mi mm mf dl dc ds dt = some R) : KV l D (TY cI cC cK cO) (gE tL tM adK adV) yX2_become wsX2_become 3 [.ref (o 0), .ref (o2 0)] (wO cI cK o ns no nr nt nd ni nm nf cl cc cs ct ++ wO cI cK o2 ms mo mr mt md mi mm mf dl dc ds dt) (fun (u : (Nat → Int32) × (Nat → Int32) × (Nat → Int32) × (Nat → Int32) × (Nat → Int32) × (Nat → Int32) × Int32 × Int32 × (Nat → Nat → Int32) × Int32 × (Nat → Int32) × Int32) => u = R) (fun u => (wO cI cK o (u.1) (u.2.1) (u.2.2.1) (u.2.2.2.1) (u.2.2.2.2.1) (u.2.2.2.2.2.1) (u.2.2.2.2.2.2.1) (u.2.2.2.2.2.2.2.1) (u.2.2.2.2.2.2.2.2.1) (u.2.2.2.2.2.2.2.2.2.1) (u.2.2.2.2.2.2.2.2.2.2.1) (u.2.2.2.2.2.2.2.2.2.2.2) ++ wO cI cK o2 ms mo mr mt md mi mm mf dl dc ds dt)) := by
  refine KV.of (cc := cX2_become) (maxL := 3) (C := RX2) (by decide) rfl rfl (Nat.le_of_ble_eq_true rfl) ?_
  intro p e s m args below meth c A Q hx hb hml hts hown hP hK hD hA hE hS hret ls hl
  replace hl : lv_has ls 3 [(0, .ref (o 0)), (1, .ref (o2 0))] := hl
  have a43 := hts (.methodLink RX2 43 arraycopyName) (by decide +kernel)
  have ai := hts (.initialized "java/lang/System") (by decide +kernel)
  have an := hts (.native arraycopyName) (by decide +kernel)
  have as_ := hts (.static arraycopyName) (by decide +kernel)
  have w12 := hts (.fieldLink RX2 12 "BlockClerks$Office" "numbers" "LBlockClerks$Numbers;") (by decide +kernel)
  have w20 := hts (.fieldLink RX2 20 "BlockClerks$Office" "clerks" "[LBlockClerks$Clerk;") (by decide +kernel)
  have w24 := hts (.fieldLink RX2 24 "BlockClerks$Office" "clerkCount" "I") (by decide +kernel)
  have w28 := hts (.fieldLink RX2 28 "BlockClerks$Office" "settings" "[I") (by decide +kernel)
  have w32 := hts (.fieldLink RX2 32 "BlockClerks$Office" "today" "I") (by decide +kernel)
  have iX2 : ∀ w ∈ wsX20, w ∈ wsX2_become := by decide +kernel
  rw [f_X2_become] at hf
  refine lv_aload_n hx hb dX2_become_0 rfl (lv_at hl 0 rfl) ?_
  refine va_get (D := D) (ci := 2) (v := .ref (o 1)) (C := RX2) (T := TX2) (N := 5) hx hb hts iX2 hown hK hP 0 rfl rfl 0 (by decide) w12 (fun _ h9 => h9) rfl dX2_become_1 ?_
  refine lv_aload_n hx hb dX2_become_4 rfl (lv_at hl 1 rfl) ?_
  refine va_get (D := D) (ci := 2) (v := .ref (o2 1)) (C := RX2) (T := TX2) (N := 5) hx hb hts iX2 hown hK hP 16 rfl rfl 0 (by decide) w12 (fun _ h9 => h9) rfl dX2_become_5 ?_
  obtain ⟨⟨y2, y3, y4, y5, y6, y7, y8, y9⟩, h10, hf⟩ := op_b hf
  refine ck_VV (st := [.ref (o2 1), .ref (o 1)]) (rest := []) (As := [.ref (o2 1)]) (C := RX1) (ci := 1) ⟨hx, hb, hml, hown, hts⟩ (gE_ok tL tM adK adV) (c_X1_become l D cI cC cK cO tL tM adK adV (o 1) (o 2) (o 3) (o 4) (o 5) (o 6) (o 7) (o2 1) (o2 2) (o2 3) (o2 4) (o2 5) (o2 6) (o2 7) ns no nr nt nd ni nm nf ms mo mr mt md mi mm mf  _ h10) (cwV 1 hts gX2_become_X1_become rfl rfl rfl hv_X1_become ⟨Nat.le_of_ble_eq_true rfl, Nat.le_of_ble_eq_true rfl⟩) hK hP hD hS hA hE [1, 2, 3, 4, 5, 6, 7, 17, 18, 19, 20, 21, 22, 23] rfl rfl rfl rfl rfl (fun _ => rfl) rfl hl.1 rfl (Nat.le_of_ble_eq_true rfl) dX2_become_8 ⟨Nat.zero_le _, Nat.zero_le _⟩ (fun u H locs hw hP hD hS => ?_)
  cases hw
  replace hP : va_P D vwCl (wO cI cK o y2 y3 y4 y5 y6 y7 y8 y9 cl cc cs ct ++ wO cI cK o2 ms mo mr mt md mi mm mf dl dc ds dt) H := hP
  replace hD : va_D A (wO cI cK o y2 y3 y4 y5 y6 y7 y8 y9 cl cc cs ct ++ wO cI cK o2 ms mo mr mt md mi mm mf dl dc ds dt) := hD
  refine lv_iconst (v := 0) hx hb dX2_become_11 (by decide) ?_
  refine lv_istore_n (lv' := [(2, .int 0), (0, .ref (o 0)), (1, .ref (o2 0))]) hx hb dX2_become_12 rfl hl (by decide) rfl (fun ls hl => ?_)
  refine lv_iload_n hx hb dX2_become_13 rfl (lv_at hl 0 rfl) ?_
  refine lv_aload_n hx hb dX2_become_14 rfl (lv_at hl 1 rfl) ?_
  refine va_get (D := D) (ci := 2) (v := .ref (o 9)) (C := RX2) (T := TX2) (N := 5) hx hb hts iX2 hown hK hP 0 rfl rfl 1 (by decide) w20 (fun _ h9 => h9) rfl dX2_become_15 ?_
  refine va_alen (D := D) hx hb hK hP 9 2 rfl rfl (v := 6) rfl dX2_become_18 ?_
  refine lv_icmp_ge (tgt := 52) hx hb dX2_become_19 (by decide) (fun c9 => absurd c9 (by decide)) (fun _ => ?_)
  refine lv_iload_n hx hb dX2_become_22 rfl (lv_at hl 0 rfl) ?_
  refine lv_aload_n hx hb dX2_become_23 rfl (lv_at hl 2 rfl) ?_
  refine va_get (D := D) (ci := 2) (v := .ref (o2 9)) (C := RX2) (T := TX2) (N := 5) hx hb hts iX2 hown hK hP 16 rfl rfl 1 (by decide) w20 (fun _ h9 => h9) rfl dX2_become_24 ?_
  refine va_alen (D := D) hx hb hK hP 25 2 rfl rfl (v := 6) rfl dX2_become_27 ?_
  refine lv_icmp_ge (tgt := 52) hx hb dX2_become_28 (by decide) (fun c9 => absurd c9 (by decide)) (fun _ => ?_)
  refine lv_aload_n hx hb dX2_become_31 rfl (lv_at hl 1 rfl) ?_
  refine va_get (D := D) (ci := 2) (v := .ref (o 9)) (C := RX2) (T := TX2) (N := 5) hx hb hts iX2 hown hK hP 0 rfl rfl 1 (by decide) w20 (fun _ h9 => h9) rfl dX2_become_32 ?_
  refine lv_iload_n hx hb dX2_become_35 rfl (lv_at hl 0 rfl) ?_
  refine ck_aald (j := 0) (v := o (10 + 0)) hx hb hK hP 9 2 rfl rfl (in_lit (by decide)) (by decide) rfl dX2_become_36 ?_
  refine lv_aload_n hx hb dX2_become_37 rfl (lv_at hl 2 rfl) ?_
  refine va_get (D := D) (ci := 2) (v := .ref (o2 9)) (C := RX2) (T := TX2) (N := 5) hx hb hts iX2 hown hK hP 16 rfl rfl 1 (by decide) w20 (fun _ h9 => h9) rfl dX2_become_38 ?_
  refine lv_iload_n hx hb dX2_become_41 rfl (lv_at hl 0 rfl) ?_
  refine ck_aald (j := 0) (v := o2 (10 + 0)) hx hb hK hP 25 2 rfl rfl (in_lit (by decide)) (by decide) rfl dX2_become_42 ?_
  obtain ⟨y13, h14, hf⟩ := op_b hf
  refine ck_VV (st := [.ref (o2 (10 + 0)), .ref (o (10 + 0))]) (rest := []) (As := [.ref (o2 (10 + 0))]) (C := RX0) (ci := 0) ⟨hx, hb, hml, hown, hts⟩ (gE_ok tL tM adK adV) (c_X0_become l D cI cC cK cO tL tM adK adV (o (10 + 0)) (o2 (10 + 0)) (cl 0) (dl 0)  _ h14) (cwV 1 hts gX2_become_X0_become rfl rfl rfl hv_X0_become ⟨Nat.le_of_ble_eq_true rfl, Nat.le_of_ble_eq_true rfl⟩) hK hP hD hS hA hE [10 + 0, 26 + 0] rfl rfl rfl rfl rfl (fun _ => rfl) rfl hl.1 rfl (Nat.le_of_ble_eq_true rfl) dX2_become_43 ⟨Nat.zero_le _, Nat.zero_le _⟩ (fun u H locs hw hP hD hS => ?_)
  cases hw
  replace hP : va_P D vwCl (wO cI cK o y2 y3 y4 y5 y6 y7 y8 y9 (va_up cl 0 y13) cc cs ct ++ wO cI cK o2 ms mo mr mt md mi mm mf dl dc ds dt) H := hP
  replace hD : va_D A (wO cI cK o y2 y3 y4 y5 y6 y7 y8 y9 (va_up cl 0 y13) cc cs ct ++ wO cI cK o2 ms mo mr mt md mi mm mf dl dc ds dt) := hD
  refine lv_iinc (v := 1) (lv' := [(2, .int 1), (0, .ref (o 0)), (1, .ref (o2 0))]) hx hb dX2_become_46 hl (k := 0) rfl (by decide) (by decide) rfl (fun ls hl => ?_)
  refine lv_goto (tgt := 13) hx hb dX2_become_49 (by decide) ?_
  refine lv_iload_n hx hb dX2_become_13 rfl (lv_at hl 0 rfl) ?_
  refine lv_aload_n hx hb dX2_become_14 rfl (lv_at hl 1 rfl) ?_
  refine va_get (D := D) (ci := 2) (v := .ref (o 9)) (C := RX2) (T := TX2) (N := 5) hx hb hts iX2 hown hK hP 0 rfl rfl 1 (by decide) w20 (fun _ h9 => h9) rfl dX2_become_15 ?_
  refine va_alen (D := D) hx hb hK hP 9 2 rfl rfl (v := 6) rfl dX2_become_18 ?_
  refine lv_icmp_ge (tgt := 52) hx hb dX2_become_19 (by decide) (fun c9 => absurd c9 (by decide)) (fun _ => ?_)
  refine lv_iload_n hx hb dX2_become_22 rfl (lv_at hl 0 rfl) ?_
  refine lv_aload_n hx hb dX2_become_23 rfl (lv_at hl 2 rfl) ?_
  refine va_get (D := D) (ci := 2) (v := .ref (o2 9)) (C := RX2) (T := TX2) (N := 5) hx hb hts iX2 hown hK hP 16 rfl rfl 1 (by decide) w20 (fun _ h9 => h9) rfl dX2_become_24 ?_
  refine va_alen (D := D) hx hb hK hP 25 2 rfl rfl (v := 6) rfl dX2_become_27 ?_
  refine lv_icmp_ge (tgt := 52) hx hb dX2_become_28 (by decide) (fun c9 => absurd c9 (by decide)) (fun _ => ?_)
  refine lv_aload_n hx hb dX2_become_31 rfl (lv_at hl 1 rfl) ?_
  refine va_get (D := D) (ci := 2) (v := .ref (o 9)) (C := RX2) (T := TX2) (N := 5) hx hb hts iX2 hown hK hP 0 rfl rfl 1 (by decide) w20 (fun _ h9 => h9) rfl dX2_become_32 ?_
  refine lv_iload_n hx hb dX2_become_35 rfl (lv_at hl 0 rfl) ?_
  refine ck_aald (j := 1) (v := o (10 + 1)) hx hb hK hP 9 2 rfl rfl (in_lit (by decide)) (by decide) rfl dX2_become_36 ?_
  refine lv_aload_n hx hb dX2_become_37 rfl (lv_at hl 2 rfl) ?_
  refine va_get (D := D) (ci := 2) (v := .ref (o2 9)) (C := RX2) (T := TX2) (N := 5) hx hb hts iX2 hown hK hP 16 rfl rfl 1 (by decide) w20 (fun _ h9 => h9) rfl dX2_become_38 ?_
  refine lv_iload_n hx hb dX2_become_41 rfl (lv_at hl 0 rfl) ?_
  refine ck_aald (j := 1) (v := o2 (10 + 1)) hx hb hK hP 25 2 rfl rfl (in_lit (by decide)) (by decide) rfl dX2_become_42 ?_
  obtain ⟨y17, h18, hf⟩ := op_b hf
  refine ck_VV (st := [.ref (o2 (10 + 1)), .ref (o (10 + 1))]) (rest := []) (As := [.ref (o2 (10 + 1))]) (C := RX0) (ci := 0) ⟨hx, hb, hml, hown, hts⟩ (gE_ok tL tM adK adV) (c_X0_become l D cI cC cK cO tL tM adK adV (o (10 + 1)) (o2 (10 + 1)) ((va_up cl 0 y13) 1) (dl 1)  _ h18) (cwV 1 hts gX2_become_X0_become rfl rfl rfl hv_X0_become ⟨Nat.le_of_ble_eq_true rfl, Nat.le_of_ble_eq_true rfl⟩) hK hP hD hS hA hE [10 + 1, 26 + 1] rfl rfl rfl rfl rfl (fun _ => rfl) rfl hl.1 rfl (Nat.le_of_ble_eq_true rfl) dX2_become_43 ⟨Nat.zero_le _, Nat.zero_le _⟩ (fun u H locs hw hP hD hS => ?_)
  cases hw
  replace hP : va_P D vwCl (wO cI cK o y2 y3 y4 y5 y6 y7 y8 y9 (va_up (va_up cl 0 y13) 1 y17) cc cs ct ++ wO cI cK o2 ms mo mr mt md mi mm mf dl dc ds dt) H := hP
  replace hD : va_D A (wO cI cK o y2 y3 y4 y5 y6 y7 y8 y9 (va_up (va_up cl 0 y13) 1 y17) cc cs ct ++ wO cI cK o2 ms mo mr mt md mi mm mf dl dc ds dt) := hD
  refine lv_iinc (v := 2) (lv' := [(2, .int 2), (0, .ref (o 0)), (1, .ref (o2 0))]) hx hb dX2_become_46 hl (k := 0) rfl (by decide) (by decide) rfl (fun ls hl => ?_)
  refine lv_goto (tgt := 13) hx hb dX2_become_49 (by decide) ?_
  refine lv_iload_n hx hb dX2_become_13 rfl (lv_at hl 0 rfl) ?_
  refine lv_aload_n hx hb dX2_become_14 rfl (lv_at hl 1 rfl) ?_
  refine va_get (D := D) (ci := 2) (v := .ref (o 9)) (C := RX2) (T := TX2) (N := 5) hx hb hts iX2 hown hK hP 0 rfl rfl 1 (by decide) w20 (fun _ h9 => h9) rfl dX2_become_15 ?_
  refine va_alen (D := D) hx hb hK hP 9 2 rfl rfl (v := 6) rfl dX2_become_18 ?_
  refine lv_icmp_ge (tgt := 52) hx hb dX2_become_19 (by decide) (fun c9 => absurd c9 (by decide)) (fun _ => ?_)
  refine lv_iload_n hx hb dX2_become_22 rfl (lv_at hl 0 rfl) ?_
  refine lv_aload_n hx hb dX2_become_23 rfl (lv_at hl 2 rfl) ?_
  refine va_get (D := D) (ci := 2) (v := .ref (o2 9)) (C := RX2) (T := TX2) (N := 5) hx hb hts iX2 hown hK hP 16 rfl rfl 1 (by decide) w20 (fun _ h9 => h9) rfl dX2_become_24 ?_
  refine va_alen (D := D) hx hb hK hP 25 2 rfl rfl (v := 6) rfl dX2_become_27 ?_
  refine lv_icmp_ge (tgt := 52) hx hb dX2_become_28 (by decide) (fun c9 => absurd c9 (by decide)) (fun _ => ?_)
  refine lv_aload_n hx hb dX2_become_31 rfl (lv_at hl 1 rfl) ?_
  refine va_get (D := D) (ci := 2) (v := .ref (o 9)) (C := RX2) (T := TX2) (N := 5) hx hb hts iX2 hown hK hP 0 rfl rfl 1 (by decide) w20 (fun _ h9 => h9) rfl dX2_become_32 ?_
  refine lv_iload_n hx hb dX2_become_35 rfl (lv_at hl 0 rfl) ?_
  refine ck_aald (j := 2) (v := o (10 + 2)) hx hb hK hP 9 2 rfl rfl (in_lit (by decide)) (by decide) rfl dX2_become_36 ?_
  refine lv_aload_n hx hb dX2_become_37 rfl (lv_at hl 2 rfl) ?_
  refine va_get (D := D) (ci := 2) (v := .ref (o2 9)) (C := RX2) (T := TX2) (N := 5) hx hb hts iX2 hown hK hP 16 rfl rfl 1 (by decide) w20 (fun _ h9 => h9) rfl dX2_become_38 ?_
  refine lv_iload_n hx hb dX2_become_41 rfl (lv_at hl 0 rfl) ?_
  refine ck_aald (j := 2) (v := o2 (10 + 2)) hx hb hK hP 25 2 rfl rfl (in_lit (by decide)) (by decide) rfl dX2_become_42 ?_
  obtain ⟨y21, h22, hf⟩ := op_b hf
  refine ck_VV (st := [.ref (o2 (10 + 2)), .ref (o (10 + 2))]) (rest := []) (As := [.ref (o2 (10 + 2))]) (C := RX0) (ci := 0) ⟨hx, hb, hml, hown, hts⟩ (gE_ok tL tM adK adV) (c_X0_become l D cI cC cK cO tL tM adK adV (o (10 + 2)) (o2 (10 + 2)) ((va_up (va_up cl 0 y13) 1 y17) 2) (dl 2)  _ h22) (cwV 1 hts gX2_become_X0_become rfl rfl rfl hv_X0_become ⟨Nat.le_of_ble_eq_true rfl, Nat.le_of_ble_eq_true rfl⟩) hK hP hD hS hA hE [10 + 2, 26 + 2] rfl rfl rfl rfl rfl (fun _ => rfl) rfl hl.1 rfl (Nat.le_of_ble_eq_true rfl) dX2_become_43 ⟨Nat.zero_le _, Nat.zero_le _⟩ (fun u H locs hw hP hD hS => ?_)
  cases hw
  replace hP : va_P D vwCl (wO cI cK o y2 y3 y4 y5 y6 y7 y8 y9 (va_up (va_up (va_up cl 0 y13) 1 y17) 2 y21) cc cs ct ++ wO cI cK o2 ms mo mr mt md mi mm mf dl dc ds dt) H := hP
  replace hD : va_D A (wO cI cK o y2 y3 y4 y5 y6 y7 y8 y9 (va_up (va_up (va_up cl 0 y13) 1 y17) 2 y21) cc cs ct ++ wO cI cK o2 ms mo mr mt md mi mm mf dl dc ds dt) := hD
  refine lv_iinc (v := 3) (lv' := [(2, .int 3), (0, .ref (o 0)), (1, .ref (o2 0))]) hx hb dX2_become_46 hl (k := 0) rfl (by decide) (by decide) rfl (fun ls hl => ?_)
  refine lv_goto (tgt := 13) hx hb dX2_become_49 (by decide) ?_
  refine lv_iload_n hx hb dX2_become_13 rfl (lv_at hl 0 rfl) ?_
  refine lv_aload_n hx hb dX2_become_14 rfl (lv_at hl 1 rfl) ?_
  refine va_get (D := D) (ci := 2) (v := .ref (o 9)) (C := RX2) (T := TX2) (N := 5) hx hb hts iX2 hown hK hP 0 rfl rfl 1 (by decide) w20 (fun _ h9 => h9) rfl dX2_become_15 ?_
  refine va_alen (D := D) hx hb hK hP 9 2 rfl rfl (v := 6) rfl dX2_become_18 ?_
  refine lv_icmp_ge (tgt := 52) hx hb dX2_become_19 (by decide) (fun c9 => absurd c9 (by decide)) (fun _ => ?_)
  refine lv_iload_n hx hb dX2_become_22 rfl (lv_at hl 0 rfl) ?_
  refine lv_aload_n hx hb dX2_become_23 rfl (lv_at hl 2 rfl) ?_
  refine va_get (D := D) (ci := 2) (v := .ref (o2 9)) (C := RX2) (T := TX2) (N := 5) hx hb hts iX2 hown hK hP 16 rfl rfl 1 (by decide) w20 (fun _ h9 => h9) rfl dX2_become_24 ?_
  refine va_alen (D := D) hx hb hK hP 25 2 rfl rfl (v := 6) rfl dX2_become_27 ?_
  refine lv_icmp_ge (tgt := 52) hx hb dX2_become_28 (by decide) (fun c9 => absurd c9 (by decide)) (fun _ => ?_)
  refine lv_aload_n hx hb dX2_become_31 rfl (lv_at hl 1 rfl) ?_
  refine va_get (D := D) (ci := 2) (v := .ref (o 9)) (C := RX2) (T := TX2) (N := 5) hx hb hts iX2 hown hK hP 0 rfl rfl 1 (by decide) w20 (fun _ h9 => h9) rfl dX2_become_32 ?_
  refine lv_iload_n hx hb dX2_become_35 rfl (lv_at hl 0 rfl) ?_
  refine ck_aald (j := 3) (v := o (10 + 3)) hx hb hK hP 9 2 rfl rfl (in_lit (by decide)) (by decide) rfl dX2_become_36 ?_
  refine lv_aload_n hx hb dX2_become_37 rfl (lv_at hl 2 rfl) ?_
  refine va_get (D := D) (ci := 2) (v := .ref (o2 9)) (C := RX2) (T := TX2) (N := 5) hx hb hts iX2 hown hK hP 16 rfl rfl 1 (by decide) w20 (fun _ h9 => h9) rfl dX2_become_38 ?_
  refine lv_iload_n hx hb dX2_become_41 rfl (lv_at hl 0 rfl) ?_
  refine ck_aald (j := 3) (v := o2 (10 + 3)) hx hb hK hP 25 2 rfl rfl (in_lit (by decide)) (by decide) rfl dX2_become_42 ?_
  obtain ⟨y25, h26, hf⟩ := op_b hf
  refine ck_VV (st := [.ref (o2 (10 + 3)), .ref (o (10 + 3))]) (rest := []) (As := [.ref (o2 (10 + 3))]) (C := RX0) (ci := 0) ⟨hx, hb, hml, hown, hts⟩ (gE_ok tL tM adK adV) (c_X0_become l D cI cC cK cO tL tM adK adV (o (10 + 3)) (o2 (10 + 3)) ((va_up (va_up (va_up cl 0 y13) 1 y17) 2 y21) 3) (dl 3)  _ h26) (cwV 1 hts gX2_become_X0_become rfl rfl rfl hv_X0_become ⟨Nat.le_of_ble_eq_true rfl, Nat.le_of_ble_eq_true rfl⟩) hK hP hD hS hA hE [10 + 3, 26 + 3] rfl rfl rfl rfl rfl (fun _ => rfl) rfl hl.1 rfl (Nat.le_of_ble_eq_true rfl) dX2_become_43 ⟨Nat.zero_le _, Nat.zero_le _⟩ (fun u H locs hw hP hD hS => ?_)
  cases hw
  replace hP : va_P D vwCl (wO cI cK o y2 y3 y4 y5 y6 y7 y8 y9 (va_up (va_up (va_up (va_up cl 0 y13) 1 y17) 2 y21) 3 y25) cc cs ct ++ wO cI cK o2 ms mo mr mt md mi mm mf dl dc ds dt) H := hP
  replace hD : va_D A (wO cI cK o y2 y3 y4 y5 y6 y7 y8 y9 (va_up (va_up (va_up (va_up cl 0 y13) 1 y17) 2 y21) 3 y25) cc cs ct ++ wO cI cK o2 ms mo mr mt md mi mm mf dl dc ds dt) := hD
  refine lv_iinc (v := 4) (lv' := [(2, .int 4), (0, .ref (o 0)), (1, .ref (o2 0))]) hx hb dX2_become_46 hl (k := 0) rfl (by decide) (by decide) rfl (fun ls hl => ?_)
  refine lv_goto (tgt := 13) hx hb dX2_become_49 (by decide) ?_
  refine lv_iload_n hx hb dX2_become_13 rfl (lv_at hl 0 rfl) ?_
  refine lv_aload_n hx hb dX2_become_14 rfl (lv_at hl 1 rfl) ?_
  refine va_get (D := D) (ci := 2) (v := .ref (o 9)) (C := RX2) (T := TX2) (N := 5) hx hb hts iX2 hown hK hP 0 rfl rfl 1 (by decide) w20 (fun _ h9 => h9) rfl dX2_become_15 ?_
  refine va_alen (D := D) hx hb hK hP 9 2 rfl rfl (v := 6) rfl dX2_become_18 ?_
  refine lv_icmp_ge (tgt := 52) hx hb dX2_become_19 (by decide) (fun c9 => absurd c9 (by decide)) (fun _ => ?_)
  refine lv_iload_n hx hb dX2_become_22 rfl (lv_at hl 0 rfl) ?_
  refine lv_aload_n hx hb dX2_become_23 rfl (lv_at hl 2 rfl) ?_
  refine va_get (D := D) (ci := 2) (v := .ref (o2 9)) (C := RX2) (T := TX2) (N := 5) hx hb hts iX2 hown hK hP 16 rfl rfl 1 (by decide) w20 (fun _ h9 => h9) rfl dX2_become_24 ?_
  refine va_alen (D := D) hx hb hK hP 25 2 rfl rfl (v := 6) rfl dX2_become_27 ?_
  refine lv_icmp_ge (tgt := 52) hx hb dX2_become_28 (by decide) (fun c9 => absurd c9 (by decide)) (fun _ => ?_)
  refine lv_aload_n hx hb dX2_become_31 rfl (lv_at hl 1 rfl) ?_
  refine va_get (D := D) (ci := 2) (v := .ref (o 9)) (C := RX2) (T := TX2) (N := 5) hx hb hts iX2 hown hK hP 0 rfl rfl 1 (by decide) w20 (fun _ h9 => h9) rfl dX2_become_32 ?_
  refine lv_iload_n hx hb dX2_become_35 rfl (lv_at hl 0 rfl) ?_
  refine ck_aald (j := 4) (v := o (10 + 4)) hx hb hK hP 9 2 rfl rfl (in_lit (by decide)) (by decide) rfl dX2_become_36 ?_
  refine lv_aload_n hx hb dX2_become_37 rfl (lv_at hl 2 rfl) ?_
  refine va_get (D := D) (ci := 2) (v := .ref (o2 9)) (C := RX2) (T := TX2) (N := 5) hx hb hts iX2 hown hK hP 16 rfl rfl 1 (by decide) w20 (fun _ h9 => h9) rfl dX2_become_38 ?_
  refine lv_iload_n hx hb dX2_become_41 rfl (lv_at hl 0 rfl) ?_
  refine ck_aald (j := 4) (v := o2 (10 + 4)) hx hb hK hP 25 2 rfl rfl (in_lit (by decide)) (by decide) rfl dX2_become_42 ?_
  obtain ⟨y29, h30, hf⟩ := op_b hf
  refine ck_VV (st := [.ref (o2 (10 + 4)), .ref (o (10 + 4))]) (rest := []) (As := [.ref (o2 (10 + 4))]) (C := RX0) (ci := 0) ⟨hx, hb, hml, hown, hts⟩ (gE_ok tL tM adK adV) (c_X0_become l D cI cC cK cO tL tM adK adV (o (10 + 4)) (o2 (10 + 4)) ((va_up (va_up (va_up (va_up cl 0 y13) 1 y17) 2 y21) 3 y25) 4) (dl 4)  _ h30) (cwV 1 hts gX2_become_X0_become rfl rfl rfl hv_X0_become ⟨Nat.le_of_ble_eq_true rfl, Nat.le_of_ble_eq_true rfl⟩) hK hP hD hS hA hE [10 + 4, 26 + 4] rfl rfl rfl rfl rfl (fun _ => rfl) rfl hl.1 rfl (Nat.le_of_ble_eq_true rfl) dX2_become_43 ⟨Nat.zero_le _, Nat.zero_le _⟩ (fun u H locs hw hP hD hS => ?_)
  cases hw
  replace hP : va_P D vwCl (wO cI cK o y2 y3 y4 y5 y6 y7 y8 y9 (va_up (va_up (va_up (va_up (va_up cl 0 y13) 1 y17) 2 y21) 3 y25) 4 y29) cc cs ct ++ wO cI cK o2 ms mo mr mt md mi mm mf dl dc ds dt) H := hP
  replace hD : va_D A (wO cI cK o y2 y3 y4 y5 y6 y7 y8 y9 (va_up (va_up (va_up (va_up (va_up cl 0 y13) 1 y17) 2 y21) 3 y25) 4 y29) cc cs ct ++ wO cI cK o2 ms mo mr mt md mi mm mf dl dc ds dt) := hD
  refine lv_iinc (v := 5) (lv' := [(2, .int 5), (0, .ref (o 0)), (1, .ref (o2 0))]) hx hb dX2_become_46 hl (k := 0) rfl (by decide) (by decide) rfl (fun ls hl => ?_)
  refine lv_goto (tgt := 13) hx hb dX2_become_49 (by decide) ?_
  refine lv_iload_n hx hb dX2_become_13 rfl (lv_at hl 0 rfl) ?_
  refine lv_aload_n hx hb dX2_become_14 rfl (lv_at hl 1 rfl) ?_
  refine va_get (D := D) (ci := 2) (v := .ref (o 9)) (C := RX2) (T := TX2) (N := 5) hx hb hts iX2 hown hK hP 0 rfl rfl 1 (by decide) w20 (fun _ h9 => h9) rfl dX2_become_15 ?_
  refine va_alen (D := D) hx hb hK hP 9 2 rfl rfl (v := 6) rfl dX2_become_18 ?_
  refine lv_icmp_ge (tgt := 52) hx hb dX2_become_19 (by decide) (fun c9 => absurd c9 (by decide)) (fun _ => ?_)
  refine lv_iload_n hx hb dX2_become_22 rfl (lv_at hl 0 rfl) ?_
  refine lv_aload_n hx hb dX2_become_23 rfl (lv_at hl 2 rfl) ?_
  refine va_get (D := D) (ci := 2) (v := .ref (o2 9)) (C := RX2) (T := TX2) (N := 5) hx hb hts iX2 hown hK hP 16 rfl rfl 1 (by decide) w20 (fun _ h9 => h9) rfl dX2_become_24 ?_
  refine va_alen (D := D) hx hb hK hP 25 2 rfl rfl (v := 6) rfl dX2_become_27 ?_
  refine lv_icmp_ge (tgt := 52) hx hb dX2_become_28 (by decide) (fun c9 => absurd c9 (by decide)) (fun _ => ?_)
  refine lv_aload_n hx hb dX2_become_31 rfl (lv_at hl 1 rfl) ?_
  refine va_get (D := D) (ci := 2) (v := .ref (o 9)) (C := RX2) (T := TX2) (N := 5) hx hb hts iX2 hown hK hP 0 rfl rfl 1 (by decide) w20 (fun _ h9 => h9) rfl dX2_become_32 ?_
  refine lv_iload_n hx hb dX2_become_35 rfl (lv_at hl 0 rfl) ?_
  refine ck_aald (j := 5) (v := o (10 + 5)) hx hb hK hP 9 2 rfl rfl (in_lit (by decide)) (by decide) rfl dX2_become_36 ?_
  refine lv_aload_n hx hb dX2_become_37 rfl (lv_at hl 2 rfl) ?_
  refine va_get (D := D) (ci := 2) (v := .ref (o2 9)) (C := RX2) (T := TX2) (N := 5) hx hb hts iX2 hown hK hP 16 rfl rfl 1 (by decide) w20 (fun _ h9 => h9) rfl dX2_become_38 ?_
  refine lv_iload_n hx hb dX2_become_41 rfl (lv_at hl 0 rfl) ?_
  refine ck_aald (j := 5) (v := o2 (10 + 5)) hx hb hK hP 25 2 rfl rfl (in_lit (by decide)) (by decide) rfl dX2_become_42 ?_
  obtain ⟨y33, h34, hf⟩ := op_b hf
  refine ck_VV (st := [.ref (o2 (10 + 5)), .ref (o (10 + 5))]) (rest := []) (As := [.ref (o2 (10 + 5))]) (C := RX0) (ci := 0) ⟨hx, hb, hml, hown, hts⟩ (gE_ok tL tM adK adV) (c_X0_become l D cI cC cK cO tL tM adK adV (o (10 + 5)) (o2 (10 + 5)) ((va_up (va_up (va_up (va_up (va_up cl 0 y13) 1 y17) 2 y21) 3 y25) 4 y29) 5) (dl 5)  _ h34) (cwV 1 hts gX2_become_X0_become rfl rfl rfl hv_X0_become ⟨Nat.le_of_ble_eq_true rfl, Nat.le_of_ble_eq_true rfl⟩) hK hP hD hS hA hE [10 + 5, 26 + 5] rfl rfl rfl rfl rfl (fun _ => rfl) rfl hl.1 rfl (Nat.le_of_ble_eq_true rfl) dX2_become_43 ⟨Nat.zero_le _, Nat.zero_le _⟩ (fun u H locs hw hP hD hS => ?_)
  cases hw
  replace hP : va_P D vwCl (wO cI cK o y2 y3 y4 y5 y6 y7 y8 y9 (va_up (va_up (va_up (va_up (va_up (va_up cl 0 y13) 1 y17) 2 y21) 3 y25) 4 y29) 5 y33) cc cs ct ++ wO cI cK o2 ms mo mr mt md mi mm mf dl dc ds dt) H := hP
  replace hD : va_D A (wO cI cK o y2 y3 y4 y5 y6 y7 y8 y9 (va_up (va_up (va_up (va_up (va_up (va_up cl 0 y13) 1 y17) 2 y21) 3 y25) 4 y29) 5 y33) cc cs ct ++ wO cI cK o2 ms mo mr mt md mi mm mf dl dc ds dt) := hD
  refine lv_iinc (v := 6) (lv' := [(2, .int 6), (0, .ref (o 0)), (1, .ref (o2 0))]) hx hb dX2_become_46 hl (k := 0) rfl (by decide) (by decide) rfl (fun ls hl => ?_)
  refine lv_goto (tgt := 13) hx hb dX2_become_49 (by decide) ?_
  refine lv_iload_n hx hb dX2_become_13 rfl (lv_at hl 0 rfl) ?_
  refine lv_aload_n hx hb dX2_become_14 rfl (lv_at hl 1 rfl) ?_
  refine va_get (D := D) (ci := 2) (v := .ref (o 9)) (C := RX2) (T := TX2) (N := 5) hx hb hts iX2 hown hK hP 0 rfl rfl 1 (by decide) w20 (fun _ h9 => h9) rfl dX2_become_15 ?_
  refine va_alen (D := D) hx hb hK hP 9 2 rfl rfl (v := 6) rfl dX2_become_18 ?_
  refine lv_icmp_ge (tgt := 52) hx hb dX2_become_19 (by decide) (fun _ => ?_) (fun c9 => absurd c9 (by decide))
  refine lv_aload_n hx hb dX2_become_52 rfl (lv_at hl 1 rfl) ?_
  refine lv_aload_n hx hb dX2_become_53 rfl (lv_at hl 2 rfl) ?_
  refine va_get (D := D) (ci := 2) (v := .int dc) (C := RX2) (T := TX2) (N := 5) hx hb hts iX2 hown hK hP 16 rfl rfl 2 (by decide) w24 (fun _ h9 => h9) rfl dX2_become_54 ?_
  refine va_put (D := D) (ci := 2) (v := .int dc) (ty := .int) (C := RX2) (T := TX2) (N := 5) hx hb hts iX2 tyX2 tyX2_ok nmX2 hown hK hP hD hS 0 rfl rfl 2 (by decide) w24 (fun _ h9 => h9) rfl (by decide +kernel) rfl rfl (Nat.le_of_ble_eq_true rfl) dX2_become_57 (fun H locs hP hD hS => ?_)
  replace hP : va_P D vwCl (wO cI cK o y2 y3 y4 y5 y6 y7 y8 y9 (va_up (va_up (va_up (va_up (va_up (va_up cl 0 y13) 1 y17) 2 y21) 3 y25) 4 y29) 5 y33) dc cs ct ++ wO cI cK o2 ms mo mr mt md mi mm mf dl dc ds dt) H := hP
  replace hD : va_D A (wO cI cK o y2 y3 y4 y5 y6 y7 y8 y9 (va_up (va_up (va_up (va_up (va_up (va_up cl 0 y13) 1 y17) 2 y21) 3 y25) 4 y29) 5 y33) dc cs ct ++ wO cI cK o2 ms mo mr mt md mi mm mf dl dc ds dt) := hD
  refine lv_aload_n hx hb dX2_become_60 rfl (lv_at hl 2 rfl) ?_
  refine va_get (D := D) (ci := 2) (v := .ref (o2 8)) (C := RX2) (T := TX2) (N := 5) hx hb hts iX2 hown hK hP 16 rfl rfl 3 (by decide) w28 (fun _ h9 => h9) rfl dX2_become_61 ?_
  refine lv_iconst (v := 0) hx hb dX2_become_64 (by decide) ?_
  refine lv_aload_n hx hb dX2_become_65 rfl (lv_at hl 1 rfl) ?_
  refine va_get (D := D) (ci := 2) (v := .ref (o 8)) (C := RX2) (T := TX2) (N := 5) hx hb hts iX2 hown hK hP 0 rfl rfl 3 (by decide) w28 (fun _ h9 => h9) rfl dX2_become_66 ?_
  refine lv_iconst (v := 0) hx hb dX2_become_69 (by decide) ?_
  refine lv_aload_n hx hb dX2_become_70 rfl (lv_at hl 1 rfl) ?_
  refine va_get (D := D) (ci := 2) (v := .ref (o 8)) (C := RX2) (T := TX2) (N := 5) hx hb hts iX2 hown hK hP 0 rfl rfl 3 (by decide) w28 (fun _ h9 => h9) rfl dX2_become_71 ?_
  refine va_alen (D := D) hx hb hK hP 8 0 rfl rfl (v := 3) rfl dX2_become_74 ?_
  refine ck_copy hx hb (hml.trans hl.1.symm) hown a43 an as_ ai hK hP hD hS 24 8 0 rfl rfl rfl (by decide) (by decide) (Nat.le_of_ble_eq_true rfl) (Nat.le_of_ble_eq_true rfl) dX2_become_75 (fun H locs hP hD hS => ?_)
  replace hP : va_P D vwCl (wO cI cK o y2 y3 y4 y5 y6 y7 y8 y9 (va_up (va_up (va_up (va_up (va_up (va_up cl 0 y13) 1 y17) 2 y21) 3 y25) 4 y29) 5 y33) dc (va_cpy ds cs 0 0 3) ct ++ wO cI cK o2 ms mo mr mt md mi mm mf dl dc ds dt) H := hP
  replace hD : va_D A (wO cI cK o y2 y3 y4 y5 y6 y7 y8 y9 (va_up (va_up (va_up (va_up (va_up (va_up cl 0 y13) 1 y17) 2 y21) 3 y25) 4 y29) 5 y33) dc (va_cpy ds cs 0 0 3) ct ++ wO cI cK o2 ms mo mr mt md mi mm mf dl dc ds dt) := hD
  refine lv_aload_n hx hb dX2_become_78 rfl (lv_at hl 1 rfl) ?_
  refine lv_aload_n hx hb dX2_become_79 rfl (lv_at hl 2 rfl) ?_
  refine va_get (D := D) (ci := 2) (v := .int dt) (C := RX2) (T := TX2) (N := 5) hx hb hts iX2 hown hK hP 16 rfl rfl 4 (by decide) w32 (fun _ h9 => h9) rfl dX2_become_80 ?_
  refine va_put (D := D) (ci := 2) (v := .int dt) (ty := .int) (C := RX2) (T := TX2) (N := 5) hx hb hts iX2 tyX2 tyX2_ok nmX2 hown hK hP hD hS 0 rfl rfl 4 (by decide) w32 (fun _ h9 => h9) rfl (by decide +kernel) rfl rfl (Nat.le_of_ble_eq_true rfl) dX2_become_83 (fun H locs hP hD hS => ?_)
  replace hP : va_P D vwCl (wO cI cK o y2 y3 y4 y5 y6 y7 y8 y9 (va_up (va_up (va_up (va_up (va_up (va_up cl 0 y13) 1 y17) 2 y21) 3 y25) 4 y29) 5 y33) dc (va_cpy ds cs 0 0 3) dt ++ wO cI cK o2 ms mo mr mt md mi mm mf dl dc ds dt) H := hP
  replace hD : va_D A (wO cI cK o y2 y3 y4 y5 y6 y7 y8 y9 (va_up (va_up (va_up (va_up (va_up (va_up cl 0 y13) 1 y17) 2 y21) 3 y25) 4 y29) 5 y33) dc (va_cpy ds cs 0 0 3) dt ++ wO cI cK o2 ms mo mr mt md mi mm mf dl dc ds dt) := hD
  exact hret _ _ _ _ (y2, y3, y4, y5, y6, y7, y8, y9, (va_up (va_up (va_up (va_up (va_up (va_up cl 0 y13) 1 y17) 2 y21) 3 y25) 4 y29) 5 y33), dc, (va_cpy ds cs 0 0 3), dt) dX2_become_86 (op_k hf) hP hS
