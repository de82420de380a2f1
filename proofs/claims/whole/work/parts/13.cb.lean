/-! laid by wip/whole/gen.py: walks of the class's clerks, numbers, offices -/
set_option maxHeartbeats 4000000 in
set_option maxRecDepth 100000 in
theorem c_X1_closeAll (l : Launch) (D : va_G) (cI cC cK cO : ClassId) (tL tM : Nat) (adK adV : Nat → Nat) (h : Nat) (b1 : Nat) (b2 : Nat) (b3 : Nat) (b4 : Nat) (b5 : Nat) (b6 : Nat) (ns : Nat → Int32) (no : Nat → Int32) (nr : Nat → Int32) (nt : Nat → Int32) (nd : Nat → Int32) (ni : Nat → Int32) (nm : Int32) (nf : Int32) (K : Nat) (R : Int32 × (Nat → Int32) × (Nat → Int32) × (Nat → Int32) × Int32) (hf : f_X1_closeAll K ns no nr nf = some R) : KI l D (TY cI cC cK cO) (gE tL tM adK adV) yX1_closeAll wsX1_closeAll 2 [.ref h] (wN cI h b1 b2 b3 b4 b5 b6 ns no nr nt nd ni nm nf) (fun (r : Int32) (u : (Nat → Int32) × (Nat → Int32) × (Nat → Int32) × Int32) => (r, u) = R) (fun u => (wN cI h b1 b2 b3 b4 b5 b6 (u.1) (u.2.1) (u.2.2.1) nt nd ni nm (u.2.2.2))) := by
  refine KI.ofI (cc := cX1_closeAll) (maxL := 3) (C := RX1) (by decide) rfl rfl (Nat.le_of_ble_eq_true rfl) ?_
  intro p e s m args below meth c A Q hx hb hml hts hown hP hK hD hA hE hS hret ls hl
  replace hl : lv_has ls 3 [(0, .ref h)] := hl
  have w15 := hts (.fieldLink RX1 15 "BlockClerks$Numbers" "owner" "[I") (by decide +kernel)
  have w9 := hts (.fieldLink RX1 9 "BlockClerks$Numbers" "state" "[I") (by decide +kernel)
  have iX1 : ∀ w ∈ wsX10, w ∈ wsX1_closeAll := by decide +kernel
  have L_4 : ∀ (n : Nat) (ns : Nat → Int32) (no : Nat → Int32) (nr : Nat → Int32) (nf : Int32) (x1 : Int32) (x2 : Int32) (hf : f_X1_closeAll_4 K n x1 x2 ns no nr nf = some R) (H : Heap) (locs : List Loc) (ls : Array Slot), va_P D vwCl (wN cI h b1 b2 b3 b4 b5 b6 ns no nr nt nd ni nm nf) H → va_D A (wN cI h b1 b2 b3 b4 b5 b6 ns no nr nt nd ni nm nf) → va_S A s.heap H locs → lv_has ls 3 [(0, .ref h), (1, .int x1), (2, .int x2)] → W p l e (rm 2) s m args below meth c H locs 0 0 Q (F0 m 4 ls []) := by
    intro n
    induction n with
    | zero =>
      intro ns no nr nf x1 x2 hf
      cases hf
    | succ n ih =>
      intro ns no nr nf x1 x2 hf H locs ls hP hD hS hl
      rw [f_X1_closeAll_4] at hf
      refine lv_iload_n hx hb dX1_closeAll_4 rfl (lv_at hl 2 rfl) ?_
      refine lv_sipush (v := 600) hx hb dX1_closeAll_5 (by decide) ?_
      refine lv_icmp_gt (tgt := 54) hx hb dX1_closeAll_8 (by decide) (fun c1 => ?_) (fun c1 => ?_)
      · replace hf := op_t c1 hf
        refine lv_iload_n hx hb dX1_closeAll_54 rfl (lv_at hl 1 rfl) ?_
        exact hret _ _ _ _ _ (ns, no, nr, nf) dX1_closeAll_55 (op_k hf) hP hS
      · replace hf := op_f c1 hf
        refine lv_aload_n hx hb dX1_closeAll_11 rfl (lv_at hl 0 rfl) ?_
        refine va_get (D := D) (ci := 1) (v := .ref b1) (C := RX1) (T := TX1) (N := 8) hx hb hts iX1 hown hK hP 0 rfl rfl 0 (by decide) w9 (fun _ h9 => h9) rfl dX1_closeAll_12 ?_
        refine lv_iload_n hx hb dX1_closeAll_15 rfl (lv_at hl 2 rfl) ?_
        obtain ⟨q2, hf⟩ := op_x hf
        refine ck_iald (j := (x2).toNatClampNeg) hx hb hK hP 1 0 rfl rfl q2 rfl dX1_closeAll_16 ?_
        refine lv_iconst (v := 1) hx hb dX1_closeAll_17 (by decide) ?_
        refine lv_icmp_eq (tgt := 31) hx hb dX1_closeAll_18 (by decide) (fun c3 => ?_) (fun c3 => ?_)
        · replace hf := op_t c3 hf
          refine lv_aload_n hx hb dX1_closeAll_31 rfl (lv_at hl 0 rfl) ?_
          refine lv_iload_n hx hb dX1_closeAll_32 rfl (lv_at hl 2 rfl) ?_
          refine lv_iload_n hx hb dX1_closeAll_33 rfl (lv_at hl 2 rfl) ?_
          refine lv_iconst (v := 4) hx hb dX1_closeAll_34 (by decide) ?_
          refine lv_aload_n hx hb dX1_closeAll_35 rfl (lv_at hl 0 rfl) ?_
          refine va_get (D := D) (ci := 1) (v := .ref b2) (C := RX1) (T := TX1) (N := 8) hx hb hts iX1 hown hK hP 0 rfl rfl 1 (by decide) w15 (fun _ h9 => h9) rfl dX1_closeAll_36 ?_
          refine lv_iload_n hx hb dX1_closeAll_39 rfl (lv_at hl 2 rfl) ?_
          obtain ⟨q4, hf⟩ := op_x hf
          refine ck_iald (j := (x2).toNatClampNeg) hx hb hK hP 2 0 rfl rfl q4 rfl dX1_closeAll_40 ?_
          refine lv_iconst (v := 3) hx hb dX1_closeAll_41 (by decide) ?_
          obtain ⟨⟨y6, y7, y8, y9⟩, h10, hf⟩ := op_b hf
          refine ck_VV (st := [.int 3, .int (no (x2).toNatClampNeg), .int 4, .int x2, .int x2, .ref h]) (rest := []) (As := [.int x2, .int x2, .int 4, .int (no (x2).toNatClampNeg), .int 3]) (C := RX1) (ci := 1) ⟨hx, hb, hml, hown, hts⟩ (gE_ok tL tM adK adV) (c_X1_put l D cI cC cK cO tL tM adK adV h b1 b2 b3 b4 b5 b6 ns no nr nt nd ni nm nf x2 x2 4 (no (x2).toNatClampNeg) 3 K _ h10) (cwV 5 hts gX1_closeAll_X1_put rfl rfl rfl hv_X1_put ⟨Nat.le_of_ble_eq_true rfl, Nat.le_of_ble_eq_true rfl⟩) hK hP hD hS hA hE [0, 1, 2, 3, 4, 5, 6] rfl rfl rfl rfl rfl (fun _ => rfl) rfl hl.1 rfl (Nat.le_of_ble_eq_true rfl) dX1_closeAll_42 ⟨Nat.zero_le _, Nat.zero_le _⟩ (fun u H locs hw hP hD hS => ?_)
          cases hw
          replace hP : va_P D vwCl (wN cI h b1 b2 b3 b4 b5 b6 y6 y7 y8 nt nd ni nm y9) H := hP
          replace hD : va_D A (wN cI h b1 b2 b3 b4 b5 b6 y6 y7 y8 nt nd ni nm y9) := hD
          refine lv_iinc (v := (x1 + 1)) (lv' := [(1, .int (x1 + 1)), (0, .ref h), (2, .int x2)]) hx hb dX1_closeAll_45 hl (k := 1) rfl rfl (by decide) rfl (fun ls hl => ?_)
          refine lv_iinc (v := (x2 + 1)) (lv' := [(2, .int (x2 + 1)), (1, .int (x1 + 1)), (0, .ref h)]) hx hb dX1_closeAll_48 hl (k := 2) rfl rfl (by decide) rfl (fun ls hl => ?_)
          refine lv_goto (tgt := 4) hx hb dX1_closeAll_51 (by decide) ?_
          exact ih y6 y7 y8 y9 (x1 + 1) (x2 + 1) hf _ _ _ hP hD hS (lv_sub hl [2, 1, 0] rfl)
        · replace hf := op_f c3 hf
          refine lv_aload_n hx hb dX1_closeAll_21 rfl (lv_at hl 0 rfl) ?_
          refine va_get (D := D) (ci := 1) (v := .ref b1) (C := RX1) (T := TX1) (N := 8) hx hb hts iX1 hown hK hP 0 rfl rfl 0 (by decide) w9 (fun _ h9 => h9) rfl dX1_closeAll_22 ?_
          refine lv_iload_n hx hb dX1_closeAll_25 rfl (lv_at hl 2 rfl) ?_
          obtain ⟨q12, hf⟩ := op_x hf
          refine ck_iald (j := (x2).toNatClampNeg) hx hb hK hP 1 0 rfl rfl q12 rfl dX1_closeAll_26 ?_
          refine lv_iconst (v := 3) hx hb dX1_closeAll_27 (by decide) ?_
          refine lv_icmp_ne (tgt := 48) hx hb dX1_closeAll_28 (by decide) (fun c13 => ?_) (fun c13 => ?_)
          · replace hf := op_f c13 hf
            refine lv_iinc (v := (x2 + 1)) (lv' := [(2, .int (x2 + 1)), (0, .ref h), (1, .int x1)]) hx hb dX1_closeAll_48 hl (k := 2) rfl rfl (by decide) rfl (fun ls hl => ?_)
            refine lv_goto (tgt := 4) hx hb dX1_closeAll_51 (by decide) ?_
            exact ih ns no nr nf x1 (x2 + 1) hf _ _ _ hP hD hS (lv_sub hl [1, 2, 0] rfl)
          · replace hf := op_t c13 hf
            refine lv_aload_n hx hb dX1_closeAll_31 rfl (lv_at hl 0 rfl) ?_
            refine lv_iload_n hx hb dX1_closeAll_32 rfl (lv_at hl 2 rfl) ?_
            refine lv_iload_n hx hb dX1_closeAll_33 rfl (lv_at hl 2 rfl) ?_
            refine lv_iconst (v := 4) hx hb dX1_closeAll_34 (by decide) ?_
            refine lv_aload_n hx hb dX1_closeAll_35 rfl (lv_at hl 0 rfl) ?_
            refine va_get (D := D) (ci := 1) (v := .ref b2) (C := RX1) (T := TX1) (N := 8) hx hb hts iX1 hown hK hP 0 rfl rfl 1 (by decide) w15 (fun _ h9 => h9) rfl dX1_closeAll_36 ?_
            refine lv_iload_n hx hb dX1_closeAll_39 rfl (lv_at hl 2 rfl) ?_
            obtain ⟨q14, hf⟩ := op_x hf
            refine ck_iald (j := (x2).toNatClampNeg) hx hb hK hP 2 0 rfl rfl q14 rfl dX1_closeAll_40 ?_
            refine lv_iconst (v := 3) hx hb dX1_closeAll_41 (by decide) ?_
            obtain ⟨⟨y16, y17, y18, y19⟩, h20, hf⟩ := op_b hf
            refine ck_VV (st := [.int 3, .int (no (x2).toNatClampNeg), .int 4, .int x2, .int x2, .ref h]) (rest := []) (As := [.int x2, .int x2, .int 4, .int (no (x2).toNatClampNeg), .int 3]) (C := RX1) (ci := 1) ⟨hx, hb, hml, hown, hts⟩ (gE_ok tL tM adK adV) (c_X1_put l D cI cC cK cO tL tM adK adV h b1 b2 b3 b4 b5 b6 ns no nr nt nd ni nm nf x2 x2 4 (no (x2).toNatClampNeg) 3 K _ h20) (cwV 5 hts gX1_closeAll_X1_put rfl rfl rfl hv_X1_put ⟨Nat.le_of_ble_eq_true rfl, Nat.le_of_ble_eq_true rfl⟩) hK hP hD hS hA hE [0, 1, 2, 3, 4, 5, 6] rfl rfl rfl rfl rfl (fun _ => rfl) rfl hl.1 rfl (Nat.le_of_ble_eq_true rfl) dX1_closeAll_42 ⟨Nat.zero_le _, Nat.zero_le _⟩ (fun u H locs hw hP hD hS => ?_)
            cases hw
            replace hP : va_P D vwCl (wN cI h b1 b2 b3 b4 b5 b6 y16 y17 y18 nt nd ni nm y19) H := hP
            replace hD : va_D A (wN cI h b1 b2 b3 b4 b5 b6 y16 y17 y18 nt nd ni nm y19) := hD
            refine lv_iinc (v := (x1 + 1)) (lv' := [(1, .int (x1 + 1)), (0, .ref h), (2, .int x2)]) hx hb dX1_closeAll_45 hl (k := 1) rfl rfl (by decide) rfl (fun ls hl => ?_)
            refine lv_iinc (v := (x2 + 1)) (lv' := [(2, .int (x2 + 1)), (1, .int (x1 + 1)), (0, .ref h)]) hx hb dX1_closeAll_48 hl (k := 2) rfl rfl (by decide) rfl (fun ls hl => ?_)
            refine lv_goto (tgt := 4) hx hb dX1_closeAll_51 (by decide) ?_
            exact ih y16 y17 y18 y19 (x1 + 1) (x2 + 1) hf _ _ _ hP hD hS (lv_sub hl [2, 1, 0] rfl)
  rw [f_X1_closeAll] at hf
  refine lv_iconst (v := 0) hx hb dX1_closeAll_0 (by decide) ?_
  refine lv_istore_n (lv' := [(1, .int 0), (0, .ref h)]) hx hb dX1_closeAll_1 rfl hl (by decide) rfl (fun ls hl => ?_)
  refine lv_iconst (v := 1) hx hb dX1_closeAll_2 (by decide) ?_
  refine lv_istore_n (lv' := [(2, .int 1), (1, .int 0), (0, .ref h)]) hx hb dX1_closeAll_3 rfl hl (by decide) rfl (fun ls hl => ?_)
  exact L_4 K ns no nr nf 0 1 hf _ _ _ hP hD hS (lv_sub hl [2, 1, 0] rfl)
set_option maxHeartbeats 4000000 in
set_option maxRecDepth 100000 in
theorem c_X1_lowestFree (l : Launch) (D : va_G) (cI cC cK cO : ClassId) (tL tM : Nat) (adK adV : Nat → Nat) (h : Nat) (b1 : Nat) (b2 : Nat) (b3 : Nat) (b4 : Nat) (b5 : Nat) (b6 : Nat) (ns : Nat → Int32) (no : Nat → Int32) (nr : Nat → Int32) (nt : Nat → Int32) (nd : Nat → Int32) (ni : Nat → Int32) (nm : Int32) (nf : Int32) (K : Nat) (R : Int32) (hf : f_X1_lowestFree K ns nf = some R) : KI l D (TY cI cC cK cO) (gE tL tM adK adV) yX1_lowestFree wsX1_lowestFree 0 [.ref h] (wN cI h b1 b2 b3 b4 b5 b6 ns no nr nt nd ni nm nf) (fun (r : Int32) (u : Unit) => r = R) (fun u => (wN cI h b1 b2 b3 b4 b5 b6 ns no nr nt nd ni nm nf)) := by
  refine KI.ofI (cc := cX1_lowestFree) (maxL := 2) (C := RX1) (by decide) rfl rfl (Nat.le_of_ble_eq_true rfl) ?_
  intro p e s m args below meth c A Q hx hb hml hts hown hP hK hD hA hE hS hret ls hl
  replace hl : lv_has ls 2 [(0, .ref h)] := hl
  have w34 := hts (.fieldLink RX1 34 "BlockClerks$Numbers" "firstNew" "I") (by decide +kernel)
  have w9 := hts (.fieldLink RX1 9 "BlockClerks$Numbers" "state" "[I") (by decide +kernel)
  have iX1 : ∀ w ∈ wsX10, w ∈ wsX1_lowestFree := by decide +kernel
  have L_2 : ∀ (n : Nat)  (x1 : Int32) (hf : f_X1_lowestFree_2 ns nf n x1 = some R) (H : Heap) (locs : List Loc) (ls : Array Slot), va_P D vwCl (wN cI h b1 b2 b3 b4 b5 b6 ns no nr nt nd ni nm nf) H → va_D A (wN cI h b1 b2 b3 b4 b5 b6 ns no nr nt nd ni nm nf) → va_S A s.heap H locs → lv_has ls 2 [(0, .ref h), (1, .int x1)] → W p l e (rm 0) s m args below meth c H locs 0 0 Q (F0 m 2 ls []) := by
    intro n
    induction n with
    | zero =>
      intro  x1 hf
      cases hf
    | succ n ih =>
      intro  x1 hf H locs ls hP hD hS hl
      rw [f_X1_lowestFree_2] at hf
      refine lv_iload_n hx hb dX1_lowestFree_2 rfl (lv_at hl 1 rfl) ?_
      refine lv_sipush (v := 600) hx hb dX1_lowestFree_3 (by decide) ?_
      refine lv_icmp_gt (tgt := 35) hx hb dX1_lowestFree_6 (by decide) (fun c1 => ?_) (fun c1 => ?_)
      · replace hf := op_t c1 hf
        refine lv_iconst (v := (-1)) hx hb dX1_lowestFree_35 (by decide) ?_
        exact hret _ _ _ _ _ () dX1_lowestFree_36 (op_k hf) hP hS
      · replace hf := op_f c1 hf
        refine lv_iload_n hx hb dX1_lowestFree_9 rfl (lv_at hl 1 rfl) ?_
        refine lv_aload_n hx hb dX1_lowestFree_10 rfl (lv_at hl 0 rfl) ?_
        refine va_get (D := D) (ci := 1) (v := .int nf) (C := RX1) (T := TX1) (N := 8) hx hb hts iX1 hown hK hP 0 rfl rfl 7 (by decide) w34 (fun _ h9 => h9) rfl dX1_lowestFree_11 ?_
        refine lv_icmp_ge (tgt := 35) hx hb dX1_lowestFree_14 (by decide) (fun c2 => ?_) (fun c2 => ?_)
        · replace hf := op_t c2 hf
          refine lv_iconst (v := (-1)) hx hb dX1_lowestFree_35 (by decide) ?_
          exact hret _ _ _ _ _ () dX1_lowestFree_36 (op_k hf) hP hS
        · replace hf := op_f c2 hf
          refine lv_aload_n hx hb dX1_lowestFree_17 rfl (lv_at hl 0 rfl) ?_
          refine va_get (D := D) (ci := 1) (v := .ref b1) (C := RX1) (T := TX1) (N := 8) hx hb hts iX1 hown hK hP 0 rfl rfl 0 (by decide) w9 (fun _ h9 => h9) rfl dX1_lowestFree_18 ?_
          refine lv_iload_n hx hb dX1_lowestFree_21 rfl (lv_at hl 1 rfl) ?_
          obtain ⟨q3, hf⟩ := op_x hf
          refine ck_iald (j := (x1).toNatClampNeg) hx hb hK hP 1 0 rfl rfl q3 rfl dX1_lowestFree_22 ?_
          refine lv_iconst (v := 3) hx hb dX1_lowestFree_23 (by decide) ?_
          refine lv_icmp_ne (tgt := 29) hx hb dX1_lowestFree_24 (by decide) (fun c4 => ?_) (fun c4 => ?_)
          · replace hf := op_f c4 hf
            refine lv_iinc (v := (x1 + 1)) (lv' := [(1, .int (x1 + 1)), (0, .ref h)]) hx hb dX1_lowestFree_29 hl (k := 1) rfl rfl (by decide) rfl (fun ls hl => ?_)
            refine lv_goto (tgt := 2) hx hb dX1_lowestFree_32 (by decide) ?_
            exact ih  (x1 + 1) hf _ _ _ hP hD hS (lv_sub hl [1, 0] rfl)
          · replace hf := op_t c4 hf
            refine lv_iload_n hx hb dX1_lowestFree_27 rfl (lv_at hl 1 rfl) ?_
            exact hret _ _ _ _ _ () dX1_lowestFree_28 (op_k hf) hP hS
  rw [f_X1_lowestFree] at hf
  refine lv_iconst (v := 1) hx hb dX1_lowestFree_0 (by decide) ?_
  refine lv_istore_n (lv' := [(1, .int 1), (0, .ref h)]) hx hb dX1_lowestFree_1 rfl hl (by decide) rfl (fun ls hl => ?_)
  exact L_2 K  1 hf _ _ _ hP hD hS (lv_sub hl [1, 0] rfl)
set_option maxHeartbeats 4000000 in
set_option maxRecDepth 100000 in
theorem c_X1_goesOn (l : Launch) (D : va_G) (cI cC cK cO : ClassId) (tL tM : Nat) (adK adV : Nat → Nat) (h : Nat) (b1 : Nat) (b2 : Nat) (b3 : Nat) (b4 : Nat) (b5 : Nat) (b6 : Nat) (ns : Nat → Int32) (no : Nat → Int32) (nr : Nat → Int32) (nt : Nat → Int32) (nd : Nat → Int32) (ni : Nat → Int32) (nm : Int32) (nf : Int32) (x1 : Int32) (R : Int32) (hf : f_X1_goesOn ns no nr x1 = some R) : KI l D (TY cI cC cK cO) (gE tL tM adK adV) yX1_goesOn wsX1_goesOn 0 [.ref h, .int x1] (wN cI h b1 b2 b3 b4 b5 b6 ns no nr nt nd ni nm nf) (fun (r : Int32) (u : Unit) => r = R ∧ (r = 0 ∨ r = 1)) (fun u => (wN cI h b1 b2 b3 b4 b5 b6 ns no nr nt nd ni nm nf)) := by
  refine KI.ofZ (cc := cX1_goesOn) (maxL := 2) (C := RX1) (by decide) rfl rfl (Nat.le_of_ble_eq_true rfl) (fun _ _ h => h.2) ?_
  intro p e s m args below meth c A Q hx hb hml hts hown hP hK hD hA hE hS hret ls hl
  replace hl : lv_has ls 2 [(0, .ref h), (1, .int x1)] := hl
  have w15 := hts (.fieldLink RX1 15 "BlockClerks$Numbers" "owner" "[I") (by decide +kernel)
  have w18 := hts (.fieldLink RX1 18 "BlockClerks$Numbers" "reason" "[I") (by decide +kernel)
  have w9 := hts (.fieldLink RX1 9 "BlockClerks$Numbers" "state" "[I") (by decide +kernel)
  have iX1 : ∀ w ∈ wsX10, w ∈ wsX1_goesOn := by decide +kernel
  rw [f_X1_goesOn] at hf
  refine lv_iload_n hx hb dX1_goesOn_0 rfl (lv_at hl 1 rfl) ?_
  refine lv_iconst (v := 1) hx hb dX1_goesOn_1 (by decide) ?_
  refine lv_icmp_lt (tgt := 67) hx hb dX1_goesOn_2 (by decide) (fun c1 => ?_) (fun c1 => ?_)
  · replace hf := op_t c1 hf
    refine lv_iconst (v := 0) hx hb dX1_goesOn_67 (by decide) ?_
    exact hret _ _ _ _ _ () dX1_goesOn_68 ⟨(op_k hf), (Or.inl rfl)⟩ hP hS
  · replace hf := op_f c1 hf
    refine lv_iload_n hx hb dX1_goesOn_5 rfl (lv_at hl 1 rfl) ?_
    refine lv_sipush (v := 600) hx hb dX1_goesOn_6 (by decide) ?_
    refine lv_icmp_ge (tgt := 67) hx hb dX1_goesOn_9 (by decide) (fun c2 => ?_) (fun c2 => ?_)
    · replace hf := op_t c2 hf
      refine lv_iconst (v := 0) hx hb dX1_goesOn_67 (by decide) ?_
      exact hret _ _ _ _ _ () dX1_goesOn_68 ⟨(op_k hf), (Or.inl rfl)⟩ hP hS
    · replace hf := op_f c2 hf
      refine lv_aload_n hx hb dX1_goesOn_12 rfl (lv_at hl 0 rfl) ?_
      refine va_get (D := D) (ci := 1) (v := .ref b1) (C := RX1) (T := TX1) (N := 8) hx hb hts iX1 hown hK hP 0 rfl rfl 0 (by decide) w9 (fun _ h9 => h9) rfl dX1_goesOn_13 ?_
      refine lv_iload_n hx hb dX1_goesOn_16 rfl (lv_at hl 1 rfl) ?_
      obtain ⟨q3, hf⟩ := op_x hf
      refine ck_iald (j := (x1).toNatClampNeg) hx hb hK hP 1 0 rfl rfl q3 rfl dX1_goesOn_17 ?_
      refine lv_aload_n hx hb dX1_goesOn_18 rfl (lv_at hl 0 rfl) ?_
      refine va_get (D := D) (ci := 1) (v := .ref b1) (C := RX1) (T := TX1) (N := 8) hx hb hts iX1 hown hK hP 0 rfl rfl 0 (by decide) w9 (fun _ h9 => h9) rfl dX1_goesOn_19 ?_
      refine lv_iload_n hx hb dX1_goesOn_22 rfl (lv_at hl 1 rfl) ?_
      refine lv_iconst (v := 1) hx hb dX1_goesOn_23 (by decide) ?_
      refine lv_iadd hx hb dX1_goesOn_24 ?_
      obtain ⟨q4, hf⟩ := op_x hf
      refine ck_iald (j := (x1 + 1).toNatClampNeg) hx hb hK hP 1 0 rfl rfl q4 rfl dX1_goesOn_25 ?_
      refine lv_icmp_ne (tgt := 67) hx hb dX1_goesOn_26 (by decide) (fun c5 => ?_) (fun c5 => ?_)
      · replace hf := op_f c5 hf
        refine lv_iconst (v := 0) hx hb dX1_goesOn_67 (by decide) ?_
        exact hret _ _ _ _ _ () dX1_goesOn_68 ⟨(op_k hf), (Or.inl rfl)⟩ hP hS
      · replace hf := op_t c5 hf
        refine lv_aload_n hx hb dX1_goesOn_29 rfl (lv_at hl 0 rfl) ?_
        refine va_get (D := D) (ci := 1) (v := .ref b2) (C := RX1) (T := TX1) (N := 8) hx hb hts iX1 hown hK hP 0 rfl rfl 1 (by decide) w15 (fun _ h9 => h9) rfl dX1_goesOn_30 ?_
        refine lv_iload_n hx hb dX1_goesOn_33 rfl (lv_at hl 1 rfl) ?_
        obtain ⟨q6, hf⟩ := op_x hf
        refine ck_iald (j := (x1).toNatClampNeg) hx hb hK hP 2 0 rfl rfl q6 rfl dX1_goesOn_34 ?_
        refine lv_aload_n hx hb dX1_goesOn_35 rfl (lv_at hl 0 rfl) ?_
        refine va_get (D := D) (ci := 1) (v := .ref b2) (C := RX1) (T := TX1) (N := 8) hx hb hts iX1 hown hK hP 0 rfl rfl 1 (by decide) w15 (fun _ h9 => h9) rfl dX1_goesOn_36 ?_
        refine lv_iload_n hx hb dX1_goesOn_39 rfl (lv_at hl 1 rfl) ?_
        refine lv_iconst (v := 1) hx hb dX1_goesOn_40 (by decide) ?_
        refine lv_iadd hx hb dX1_goesOn_41 ?_
        obtain ⟨q7, hf⟩ := op_x hf
        refine ck_iald (j := (x1 + 1).toNatClampNeg) hx hb hK hP 2 0 rfl rfl q7 rfl dX1_goesOn_42 ?_
        refine lv_icmp_ne (tgt := 67) hx hb dX1_goesOn_43 (by decide) (fun c8 => ?_) (fun c8 => ?_)
        · replace hf := op_f c8 hf
          refine lv_iconst (v := 0) hx hb dX1_goesOn_67 (by decide) ?_
          exact hret _ _ _ _ _ () dX1_goesOn_68 ⟨(op_k hf), (Or.inl rfl)⟩ hP hS
        · replace hf := op_t c8 hf
          refine lv_aload_n hx hb dX1_goesOn_46 rfl (lv_at hl 0 rfl) ?_
          refine va_get (D := D) (ci := 1) (v := .ref b3) (C := RX1) (T := TX1) (N := 8) hx hb hts iX1 hown hK hP 0 rfl rfl 2 (by decide) w18 (fun _ h9 => h9) rfl dX1_goesOn_47 ?_
          refine lv_iload_n hx hb dX1_goesOn_50 rfl (lv_at hl 1 rfl) ?_
          obtain ⟨q9, hf⟩ := op_x hf
          refine ck_iald (j := (x1).toNatClampNeg) hx hb hK hP 3 0 rfl rfl q9 rfl dX1_goesOn_51 ?_
          refine lv_aload_n hx hb dX1_goesOn_52 rfl (lv_at hl 0 rfl) ?_
          refine va_get (D := D) (ci := 1) (v := .ref b3) (C := RX1) (T := TX1) (N := 8) hx hb hts iX1 hown hK hP 0 rfl rfl 2 (by decide) w18 (fun _ h9 => h9) rfl dX1_goesOn_53 ?_
          refine lv_iload_n hx hb dX1_goesOn_56 rfl (lv_at hl 1 rfl) ?_
          refine lv_iconst (v := 1) hx hb dX1_goesOn_57 (by decide) ?_
          refine lv_iadd hx hb dX1_goesOn_58 ?_
          obtain ⟨q10, hf⟩ := op_x hf
          refine ck_iald (j := (x1 + 1).toNatClampNeg) hx hb hK hP 3 0 rfl rfl q10 rfl dX1_goesOn_59 ?_
          refine lv_icmp_ne (tgt := 67) hx hb dX1_goesOn_60 (by decide) (fun c11 => ?_) (fun c11 => ?_)
          · replace hf := op_f c11 hf
            refine lv_iconst (v := 0) hx hb dX1_goesOn_67 (by decide) ?_
            exact hret _ _ _ _ _ () dX1_goesOn_68 ⟨(op_k hf), (Or.inl rfl)⟩ hP hS
          · replace hf := op_t c11 hf
            refine lv_iconst (v := 1) hx hb dX1_goesOn_63 (by decide) ?_
            refine lv_goto (tgt := 68) hx hb dX1_goesOn_64 (by decide) ?_
            exact hret _ _ _ _ _ () dX1_goesOn_68 ⟨(op_k hf), (Or.inr rfl)⟩ hP hS
set_option maxHeartbeats 4000000 in
set_option maxRecDepth 100000 in
theorem c_X1_lastOfRow (l : Launch) (D : va_G) (cI cC cK cO : ClassId) (tL tM : Nat) (adK adV : Nat → Nat) (h : Nat) (b1 : Nat) (b2 : Nat) (b3 : Nat) (b4 : Nat) (b5 : Nat) (b6 : Nat) (ns : Nat → Int32) (no : Nat → Int32) (nr : Nat → Int32) (nt : Nat → Int32) (nd : Nat → Int32) (ni : Nat → Int32) (nm : Int32) (nf : Int32) (x1 : Int32) (x2 : Int32) (K : Nat) (R : Int32) (hf : f_X1_lastOfRow K ns no nr x1 x2 = some R) : KI l D (TY cI cC cK cO) (gE tL tM adK adV) yX1_lastOfRow wsX1_lastOfRow 1 [.ref h, .int x1, .int x2] (wN cI h b1 b2 b3 b4 b5 b6 ns no nr nt nd ni nm nf) (fun (r : Int32) (u : Unit) => r = R) (fun u => (wN cI h b1 b2 b3 b4 b5 b6 ns no nr nt nd ni nm nf)) := by
  refine KI.ofI (cc := cX1_lastOfRow) (maxL := 4) (C := RX1) (by decide) rfl rfl (Nat.le_of_ble_eq_true rfl) ?_
  intro p e s m args below meth c A Q hx hb hml hts hown hP hK hD hA hE hS hret ls hl
  replace hl : lv_has ls 4 [(0, .ref h), (1, .int x1), (2, .int x2)] := hl
  have L_2 : ∀ (n : Nat)  (x1 : Int32) (x2 : Int32) (x3 : Int32) (hf : f_X1_lastOfRow_2 x2 ns no nr n x3 = some R) (H : Heap) (locs : List Loc) (ls : Array Slot), va_P D vwCl (wN cI h b1 b2 b3 b4 b5 b6 ns no nr nt nd ni nm nf) H → va_D A (wN cI h b1 b2 b3 b4 b5 b6 ns no nr nt nd ni nm nf) → va_S A s.heap H locs → lv_has ls 4 [(0, .ref h), (1, .int x1), (2, .int x2), (3, .int x3)] → W p l e (rm 1) s m args below meth c H locs 0 0 Q (F0 m 2 ls []) := by
    intro n
    induction n with
    | zero =>
      intro  x1 x2 x3 hf
      cases hf
    | succ n ih =>
      intro  x1 x2 x3 hf H locs ls hP hD hS hl
      rw [f_X1_lastOfRow_2] at hf
      refine lv_iload_n hx hb dX1_lastOfRow_2 rfl (lv_at hl 3 rfl) ?_
      refine lv_iload_n hx hb dX1_lastOfRow_3 rfl (lv_at hl 2 rfl) ?_
      refine lv_icmp_ge (tgt := 21) hx hb dX1_lastOfRow_4 (by decide) (fun c1 => ?_) (fun c1 => ?_)
      · replace hf := op_t c1 hf
        refine lv_iload_n hx hb dX1_lastOfRow_21 rfl (lv_at hl 3 rfl) ?_
        exact hret _ _ _ _ _ () dX1_lastOfRow_22 (op_k hf) hP hS
      · replace hf := op_f c1 hf
        refine lv_aload_n hx hb dX1_lastOfRow_7 rfl (lv_at hl 0 rfl) ?_
        refine lv_iload_n hx hb dX1_lastOfRow_8 rfl (lv_at hl 3 rfl) ?_
        obtain ⟨r2, h3, hf⟩ := op_b hf
        refine ck_VI (st := [.int x3, .ref h]) (rest := []) (As := [.int x3]) (C := RX1) (ci := 1) ⟨hx, hb, hml, hown, hts⟩ (gE_ok tL tM adK adV) (c_X1_goesOn l D cI cC cK cO tL tM adK adV h b1 b2 b3 b4 b5 b6 ns no nr nt nd ni nm nf x3 _ h3) (cwV 1 hts gX1_lastOfRow_X1_goesOn rfl rfl rfl hv_X1_goesOn ⟨Nat.le_of_ble_eq_true rfl, Nat.le_of_ble_eq_true rfl⟩) hK hP hD hS hA hE [0, 1, 2, 3, 4, 5, 6] rfl rfl rfl rfl rfl (fun _ => rfl) rfl hl.1 rfl (Nat.le_of_ble_eq_true rfl) dX1_lastOfRow_9 ⟨Nat.zero_le _, Nat.zero_le _⟩ (fun r u H locs hw hP hD hS => ?_)
        obtain ⟨hw, z4⟩ := hw
        cases hw
        replace hP : va_P D vwCl (wN cI h b1 b2 b3 b4 b5 b6 ns no nr nt nd ni nm nf) H := hP
        replace hD : va_D A (wN cI h b1 b2 b3 b4 b5 b6 ns no nr nt nd ni nm nf) := hD
        refine lv_if_eq (tgt := 21) hx hb dX1_lastOfRow_12 (by decide) (fun c5 => ?_) (fun c5 => ?_)
        · replace hf := op_t c5 hf
          refine lv_iload_n hx hb dX1_lastOfRow_21 rfl (lv_at hl 3 rfl) ?_
          exact hret _ _ _ _ _ () dX1_lastOfRow_22 (op_k hf) hP hS
        · replace hf := op_f c5 hf
          refine lv_iinc (v := (x3 + 1)) (lv' := [(3, .int (x3 + 1)), (0, .ref h), (1, .int x1), (2, .int x2)]) hx hb dX1_lastOfRow_15 hl (k := 3) rfl rfl (by decide) rfl (fun ls hl => ?_)
          refine lv_goto (tgt := 2) hx hb dX1_lastOfRow_18 (by decide) ?_
          exact ih  x1 x2 (x3 + 1) hf _ _ _ hP hD hS (lv_sub hl [1, 2, 3, 0] rfl)
  rw [f_X1_lastOfRow] at hf
  refine lv_iload_n hx hb dX1_lastOfRow_0 rfl (lv_at hl 1 rfl) ?_
  refine lv_istore_n (lv' := [(3, .int x1), (0, .ref h), (1, .int x1), (2, .int x2)]) hx hb dX1_lastOfRow_1 rfl hl (by decide) rfl (fun ls hl => ?_)
  exact L_2 K  x1 x2 x1 hf _ _ _ hP hD hS (lv_sub hl [1, 2, 3, 0] rfl)
set_option maxHeartbeats 4000000 in
set_option maxRecDepth 100000 in
theorem c_X1_startsRow (l : Launch) (D : va_G) (cI cC cK cO : ClassId) (tL tM : Nat) (adK adV : Nat → Nat) (h : Nat) (b1 : Nat) (b2 : Nat) (b3 : Nat) (b4 : Nat) (b5 : Nat) (b6 : Nat) (ns : Nat → Int32) (no : Nat → Int32) (nr : Nat → Int32) (nt : Nat → Int32) (nd : Nat → Int32) (ni : Nat → Int32) (nm : Int32) (nf : Int32) (x1 : Int32) (x2 : Int32) (R : Int32) (hf : f_X1_startsRow ns no nr x1 x2 = some R) : KI l D (TY cI cC cK cO) (gE tL tM adK adV) yX1_startsRow wsX1_startsRow 1 [.ref h, .int x1, .int x2] (wN cI h b1 b2 b3 b4 b5 b6 ns no nr nt nd ni nm nf) (fun (r : Int32) (u : Unit) => r = R ∧ (r = 0 ∨ r = 1)) (fun u => (wN cI h b1 b2 b3 b4 b5 b6 ns no nr nt nd ni nm nf)) := by
  refine KI.ofZ (cc := cX1_startsRow) (maxL := 3) (C := RX1) (by decide) rfl rfl (Nat.le_of_ble_eq_true rfl) (fun _ _ h => h.2) ?_
  intro p e s m args below meth c A Q hx hb hml hts hown hP hK hD hA hE hS hret ls hl
  replace hl : lv_has ls 3 [(0, .ref h), (1, .int x1), (2, .int x2)] := hl
  have w9 := hts (.fieldLink RX1 9 "BlockClerks$Numbers" "state" "[I") (by decide +kernel)
  have iX1 : ∀ w ∈ wsX10, w ∈ wsX1_startsRow := by decide +kernel
  rw [f_X1_startsRow] at hf
  refine lv_iload_n hx hb dX1_startsRow_0 rfl (lv_at hl 1 rfl) ?_
  refine ck_SI (st := [.int x1]) (rest := []) (As := [.int x1]) ⟨hx, hb, hml, hown, hts⟩ (gE_ok tL tM adK adV) (c_X1_isNumber l D cI cC cK cO tL tM adK adV  x1 _ rfl) (va_cwS 1 hts gX1_startsRow_X1_isNumber rfl rfl rfl hs_X1_isNumber ⟨Nat.le_of_ble_eq_true rfl, Nat.le_of_ble_eq_true rfl⟩) hK hP hD hS hA hE rfl hl.1 rfl (Nat.le_of_ble_eq_true rfl) dX1_startsRow_1 ⟨Nat.zero_le _, Nat.zero_le _⟩ (fun r H locs hw hP hS => ?_)
  obtain ⟨hw, z2⟩ := hw
  cases hw
  refine lv_if_eq (tgt := 31) hx hb dX1_startsRow_4 (by decide) (fun c3 => ?_) (fun c3 => ?_)
  · replace hf := op_t c3 hf
    refine lv_iconst (v := 0) hx hb dX1_startsRow_31 (by decide) ?_
    exact hret _ _ _ _ _ () dX1_startsRow_32 ⟨(op_k hf), (Or.inl rfl)⟩ hP hS
  · replace hf := op_f c3 hf
    refine lv_aload_n hx hb dX1_startsRow_7 rfl (lv_at hl 0 rfl) ?_
    refine va_get (D := D) (ci := 1) (v := .ref b1) (C := RX1) (T := TX1) (N := 8) hx hb hts iX1 hown hK hP 0 rfl rfl 0 (by decide) w9 (fun _ h9 => h9) rfl dX1_startsRow_8 ?_
    refine lv_iload_n hx hb dX1_startsRow_11 rfl (lv_at hl 1 rfl) ?_
    obtain ⟨q4, hf⟩ := op_x hf
    refine ck_iald (j := (x1).toNatClampNeg) hx hb hK hP 1 0 rfl rfl q4 rfl dX1_startsRow_12 ?_
    refine lv_iload_n hx hb dX1_startsRow_13 rfl (lv_at hl 2 rfl) ?_
    refine lv_icmp_ne (tgt := 31) hx hb dX1_startsRow_14 (by decide) (fun c5 => ?_) (fun c5 => ?_)
    · replace hf := op_f c5 hf
      refine lv_iconst (v := 0) hx hb dX1_startsRow_31 (by decide) ?_
      exact hret _ _ _ _ _ () dX1_startsRow_32 ⟨(op_k hf), (Or.inl rfl)⟩ hP hS
    · replace hf := op_t c5 hf
      refine lv_aload_n hx hb dX1_startsRow_17 rfl (lv_at hl 0 rfl) ?_
      refine lv_iload_n hx hb dX1_startsRow_18 rfl (lv_at hl 1 rfl) ?_
      refine lv_iconst (v := 1) hx hb dX1_startsRow_19 (by decide) ?_
      refine lv_isub hx hb dX1_startsRow_20 ?_
      obtain ⟨r6, h7, hf⟩ := op_b hf
      refine ck_VI (st := [.int (x1 - 1), .ref h]) (rest := []) (As := [.int (x1 - 1)]) (C := RX1) (ci := 1) ⟨hx, hb, hml, hown, hts⟩ (gE_ok tL tM adK adV) (c_X1_goesOn l D cI cC cK cO tL tM adK adV h b1 b2 b3 b4 b5 b6 ns no nr nt nd ni nm nf (x1 - 1) _ h7) (cwV 1 hts gX1_startsRow_X1_goesOn rfl rfl rfl hv_X1_goesOn ⟨Nat.le_of_ble_eq_true rfl, Nat.le_of_ble_eq_true rfl⟩) hK hP hD hS hA hE [0, 1, 2, 3, 4, 5, 6] rfl rfl rfl rfl rfl (fun _ => rfl) rfl hl.1 rfl (Nat.le_of_ble_eq_true rfl) dX1_startsRow_21 ⟨Nat.zero_le _, Nat.zero_le _⟩ (fun r u H locs hw hP hD hS => ?_)
      obtain ⟨hw, z8⟩ := hw
      cases hw
      replace hP : va_P D vwCl (wN cI h b1 b2 b3 b4 b5 b6 ns no nr nt nd ni nm nf) H := hP
      replace hD : va_D A (wN cI h b1 b2 b3 b4 b5 b6 ns no nr nt nd ni nm nf) := hD
      refine lv_if_ne (tgt := 31) hx hb dX1_startsRow_24 (by decide) (fun c9 => ?_) (fun c9 => ?_)
      · replace hf := op_f c9 hf
        refine lv_iconst (v := 0) hx hb dX1_startsRow_31 (by decide) ?_
        exact hret _ _ _ _ _ () dX1_startsRow_32 ⟨(op_k hf), (Or.inl rfl)⟩ hP hS
      · replace hf := op_t c9 hf
        refine lv_iconst (v := 1) hx hb dX1_startsRow_27 (by decide) ?_
        refine lv_goto (tgt := 32) hx hb dX1_startsRow_28 (by decide) ?_
        exact hret _ _ _ _ _ () dX1_startsRow_32 ⟨(op_k hf), (Or.inr rfl)⟩ hP hS
set_option maxHeartbeats 4000000 in
set_option maxRecDepth 100000 in
theorem c_X1_rows (l : Launch) (D : va_G) (cI cC cK cO : ClassId) (tL tM : Nat) (adK adV : Nat → Nat) (h : Nat) (b1 : Nat) (b2 : Nat) (b3 : Nat) (b4 : Nat) (b5 : Nat) (b6 : Nat) (ns : Nat → Int32) (no : Nat → Int32) (nr : Nat → Int32) (nt : Nat → Int32) (nd : Nat → Int32) (ni : Nat → Int32) (nm : Int32) (nf : Int32) (x1 : Int32) (K : Nat) (R : Int32) (hf : f_X1_rows K ns no nr x1 = some R) : KI l D (TY cI cC cK cO) (gE tL tM adK adV) yX1_rows wsX1_rows 2 [.ref h, .int x1] (wN cI h b1 b2 b3 b4 b5 b6 ns no nr nt nd ni nm nf) (fun (r : Int32) (u : Unit) => r = R) (fun u => (wN cI h b1 b2 b3 b4 b5 b6 ns no nr nt nd ni nm nf)) := by
  refine KI.ofI (cc := cX1_rows) (maxL := 4) (C := RX1) (by decide) rfl rfl (Nat.le_of_ble_eq_true rfl) ?_
  intro p e s m args below meth c A Q hx hb hml hts hown hP hK hD hA hE hS hret ls hl
  replace hl : lv_has ls 4 [(0, .ref h), (1, .int x1)] := hl
  have L_4 : ∀ (n : Nat)  (x1 : Int32) (x2 : Int32) (x3 : Int32) (hf : f_X1_rows_4 x1 ns no nr n x2 x3 = some R) (H : Heap) (locs : List Loc) (ls : Array Slot), va_P D vwCl (wN cI h b1 b2 b3 b4 b5 b6 ns no nr nt nd ni nm nf) H → va_D A (wN cI h b1 b2 b3 b4 b5 b6 ns no nr nt nd ni nm nf) → va_S A s.heap H locs → lv_has ls 4 [(0, .ref h), (1, .int x1), (2, .int x2), (3, .int x3)] → W p l e (rm 2) s m args below meth c H locs 0 0 Q (F0 m 4 ls []) := by
    intro n
    induction n with
    | zero =>
      intro  x1 x2 x3 hf
      cases hf
    | succ n ih =>
      intro  x1 x2 x3 hf H locs ls hP hD hS hl
      rw [f_X1_rows_4] at hf
      refine lv_iload_n hx hb dX1_rows_4 rfl (lv_at hl 3 rfl) ?_
      refine lv_sipush (v := 600) hx hb dX1_rows_5 (by decide) ?_
      refine lv_icmp_gt (tgt := 29) hx hb dX1_rows_8 (by decide) (fun c1 => ?_) (fun c1 => ?_)
      · replace hf := op_t c1 hf
        refine lv_iload_n hx hb dX1_rows_29 rfl (lv_at hl 2 rfl) ?_
        exact hret _ _ _ _ _ () dX1_rows_30 (op_k hf) hP hS
      · replace hf := op_f c1 hf
        refine lv_aload_n hx hb dX1_rows_11 rfl (lv_at hl 0 rfl) ?_
        refine lv_iload_n hx hb dX1_rows_12 rfl (lv_at hl 3 rfl) ?_
        refine lv_iload_n hx hb dX1_rows_13 rfl (lv_at hl 1 rfl) ?_
        obtain ⟨r2, h3, hf⟩ := op_b hf
        refine ck_VI (st := [.int x1, .int x3, .ref h]) (rest := []) (As := [.int x3, .int x1]) (C := RX1) (ci := 1) ⟨hx, hb, hml, hown, hts⟩ (gE_ok tL tM adK adV) (c_X1_startsRow l D cI cC cK cO tL tM adK adV h b1 b2 b3 b4 b5 b6 ns no nr nt nd ni nm nf x3 x1 _ h3) (cwV 2 hts gX1_rows_X1_startsRow rfl rfl rfl hv_X1_startsRow ⟨Nat.le_of_ble_eq_true rfl, Nat.le_of_ble_eq_true rfl⟩) hK hP hD hS hA hE [0, 1, 2, 3, 4, 5, 6] rfl rfl rfl rfl rfl (fun _ => rfl) rfl hl.1 rfl (Nat.le_of_ble_eq_true rfl) dX1_rows_14 ⟨Nat.zero_le _, Nat.zero_le _⟩ (fun r u H locs hw hP hD hS => ?_)
        obtain ⟨hw, z4⟩ := hw
        cases hw
        replace hP : va_P D vwCl (wN cI h b1 b2 b3 b4 b5 b6 ns no nr nt nd ni nm nf) H := hP
        replace hD : va_D A (wN cI h b1 b2 b3 b4 b5 b6 ns no nr nt nd ni nm nf) := hD
        refine lv_if_eq (tgt := 23) hx hb dX1_rows_17 (by decide) (fun c5 => ?_) (fun c5 => ?_)
        · replace hf := op_t c5 hf
          refine lv_iinc (v := (x3 + 1)) (lv' := [(3, .int (x3 + 1)), (0, .ref h), (1, .int x1), (2, .int x2)]) hx hb dX1_rows_23 hl (k := 3) rfl rfl (by decide) rfl (fun ls hl => ?_)
          refine lv_goto (tgt := 4) hx hb dX1_rows_26 (by decide) ?_
          exact ih  x1 x2 (x3 + 1) hf _ _ _ hP hD hS (lv_sub hl [1, 2, 3, 0] rfl)
        · replace hf := op_f c5 hf
          refine lv_iinc (v := (x2 + 1)) (lv' := [(2, .int (x2 + 1)), (0, .ref h), (1, .int x1), (3, .int x3)]) hx hb dX1_rows_20 hl (k := 2) rfl rfl (by decide) rfl (fun ls hl => ?_)
          refine lv_iinc (v := (x3 + 1)) (lv' := [(3, .int (x3 + 1)), (2, .int (x2 + 1)), (0, .ref h), (1, .int x1)]) hx hb dX1_rows_23 hl (k := 3) rfl rfl (by decide) rfl (fun ls hl => ?_)
          refine lv_goto (tgt := 4) hx hb dX1_rows_26 (by decide) ?_
          exact ih  x1 (x2 + 1) (x3 + 1) hf _ _ _ hP hD hS (lv_sub hl [2, 3, 1, 0] rfl)
  rw [f_X1_rows] at hf
  refine lv_iconst (v := 0) hx hb dX1_rows_0 (by decide) ?_
  refine lv_istore_n (lv' := [(2, .int 0), (0, .ref h), (1, .int x1)]) hx hb dX1_rows_1 rfl hl (by decide) rfl (fun ls hl => ?_)
  refine lv_iconst (v := 1) hx hb dX1_rows_2 (by decide) ?_
  refine lv_istore_n (lv' := [(3, .int 1), (2, .int 0), (0, .ref h), (1, .int x1)]) hx hb dX1_rows_3 rfl hl (by decide) rfl (fun ls hl => ?_)
  exact L_4 K  x1 0 1 hf _ _ _ hP hD hS (lv_sub hl [2, 3, 1, 0] rfl)
set_option maxHeartbeats 4000000 in
set_option maxRecDepth 100000 in
theorem c_X1_startOfRow (l : Launch) (D : va_G) (cI cC cK cO : ClassId) (tL tM : Nat) (adK adV : Nat → Nat) (h : Nat) (b1 : Nat) (b2 : Nat) (b3 : Nat) (b4 : Nat) (b5 : Nat) (b6 : Nat) (ns : Nat → Int32) (no : Nat → Int32) (nr : Nat → Int32) (nt : Nat → Int32) (nd : Nat → Int32) (ni : Nat → Int32) (nm : Int32) (nf : Int32) (x1 : Int32) (x2 : Int32) (K : Nat) (R : Int32) (hf : f_X1_startOfRow K ns no nr x1 x2 = some R) : KI l D (TY cI cC cK cO) (gE tL tM adK adV) yX1_startOfRow wsX1_startOfRow 2 [.ref h, .int x1, .int x2] (wN cI h b1 b2 b3 b4 b5 b6 ns no nr nt nd ni nm nf) (fun (r : Int32) (u : Unit) => r = R) (fun u => (wN cI h b1 b2 b3 b4 b5 b6 ns no nr nt nd ni nm nf)) := by
  refine KI.ofI (cc := cX1_startOfRow) (maxL := 5) (C := RX1) (by decide) rfl rfl (Nat.le_of_ble_eq_true rfl) ?_
  intro p e s m args below meth c A Q hx hb hml hts hown hP hK hD hA hE hS hret ls hl
  replace hl : lv_has ls 5 [(0, .ref h), (1, .int x1), (2, .int x2)] := hl
  have L_5 : ∀ (n : Nat)  (x1 : Int32) (x2 : Int32) (x3 : Int32) (x4 : Int32) (hf : f_X1_startOfRow_5 x1 x2 ns no nr n x3 x4 = some R) (H : Heap) (locs : List Loc) (ls : Array Slot), va_P D vwCl (wN cI h b1 b2 b3 b4 b5 b6 ns no nr nt nd ni nm nf) H → va_D A (wN cI h b1 b2 b3 b4 b5 b6 ns no nr nt nd ni nm nf) → va_S A s.heap H locs → lv_has ls 5 [(0, .ref h), (1, .int x1), (2, .int x2), (3, .int x3), (4, .int x4)] → W p l e (rm 2) s m args below meth c H locs 0 0 Q (F0 m 5 ls []) := by
    intro n
    induction n with
    | zero =>
      intro  x1 x2 x3 x4 hf
      cases hf
    | succ n ih =>
      intro  x1 x2 x3 x4 hf H locs ls hP hD hS hl
      rw [f_X1_startOfRow_5] at hf
      refine lv_iload hx hb dX1_startOfRow_5 (lv_at hl 4 rfl) ?_
      refine lv_sipush (v := 600) hx hb dX1_startOfRow_7 (by decide) ?_
      refine lv_icmp_gt (tgt := 40) hx hb dX1_startOfRow_10 (by decide) (fun c1 => ?_) (fun c1 => ?_)
      · replace hf := op_t c1 hf
        refine lv_iconst (v := (-1)) hx hb dX1_startOfRow_40 (by decide) ?_
        exact hret _ _ _ _ _ () dX1_startOfRow_41 (op_k hf) hP hS
      · replace hf := op_f c1 hf
        refine lv_aload_n hx hb dX1_startOfRow_13 rfl (lv_at hl 0 rfl) ?_
        refine lv_iload hx hb dX1_startOfRow_14 (lv_at hl 4 rfl) ?_
        refine lv_iload_n hx hb dX1_startOfRow_16 rfl (lv_at hl 1 rfl) ?_
        obtain ⟨r2, h3, hf⟩ := op_b hf
        refine ck_VI (st := [.int x1, .int x4, .ref h]) (rest := []) (As := [.int x4, .int x1]) (C := RX1) (ci := 1) ⟨hx, hb, hml, hown, hts⟩ (gE_ok tL tM adK adV) (c_X1_startsRow l D cI cC cK cO tL tM adK adV h b1 b2 b3 b4 b5 b6 ns no nr nt nd ni nm nf x4 x1 _ h3) (cwV 2 hts gX1_startOfRow_X1_startsRow rfl rfl rfl hv_X1_startsRow ⟨Nat.le_of_ble_eq_true rfl, Nat.le_of_ble_eq_true rfl⟩) hK hP hD hS hA hE [0, 1, 2, 3, 4, 5, 6] rfl rfl rfl rfl rfl (fun _ => rfl) rfl hl.1 rfl (Nat.le_of_ble_eq_true rfl) dX1_startOfRow_17 ⟨Nat.zero_le _, Nat.zero_le _⟩ (fun r u H locs hw hP hD hS => ?_)
        obtain ⟨hw, z4⟩ := hw
        cases hw
        replace hP : va_P D vwCl (wN cI h b1 b2 b3 b4 b5 b6 ns no nr nt nd ni nm nf) H := hP
        replace hD : va_D A (wN cI h b1 b2 b3 b4 b5 b6 ns no nr nt nd ni nm nf) := hD
        refine lv_if_eq (tgt := 34) hx hb dX1_startOfRow_20 (by decide) (fun c5 => ?_) (fun c5 => ?_)
        · replace hf := op_t c5 hf
          refine lv_iinc (v := (x4 + 1)) (lv' := [(4, .int (x4 + 1)), (0, .ref h), (1, .int x1), (2, .int x2), (3, .int x3)]) hx hb dX1_startOfRow_34 hl (k := 4) rfl rfl (by decide) rfl (fun ls hl => ?_)
          refine lv_goto (tgt := 5) hx hb dX1_startOfRow_37 (by decide) ?_
          exact ih  x1 x2 x3 (x4 + 1) hf _ _ _ hP hD hS (lv_sub hl [1, 2, 3, 4, 0] rfl)
        · replace hf := op_f c5 hf
          refine lv_iload_n hx hb dX1_startOfRow_23 rfl (lv_at hl 3 rfl) ?_
          refine lv_iload_n hx hb dX1_startOfRow_24 rfl (lv_at hl 2 rfl) ?_
          refine lv_icmp_ne (tgt := 31) hx hb dX1_startOfRow_25 (by decide) (fun c6 => ?_) (fun c6 => ?_)
          · replace hf := op_f c6 hf
            refine lv_iinc (v := (x3 + 1)) (lv' := [(3, .int (x3 + 1)), (0, .ref h), (1, .int x1), (2, .int x2), (4, .int x4)]) hx hb dX1_startOfRow_31 hl (k := 3) rfl rfl (by decide) rfl (fun ls hl => ?_)
            refine lv_iinc (v := (x4 + 1)) (lv' := [(4, .int (x4 + 1)), (3, .int (x3 + 1)), (0, .ref h), (1, .int x1), (2, .int x2)]) hx hb dX1_startOfRow_34 hl (k := 4) rfl rfl (by decide) rfl (fun ls hl => ?_)
            refine lv_goto (tgt := 5) hx hb dX1_startOfRow_37 (by decide) ?_
            exact ih  x1 x2 (x3 + 1) (x4 + 1) hf _ _ _ hP hD hS (lv_sub hl [2, 3, 4, 1, 0] rfl)
          · replace hf := op_t c6 hf
            refine lv_iload hx hb dX1_startOfRow_28 (lv_at hl 4 rfl) ?_
            exact hret _ _ _ _ _ () dX1_startOfRow_30 (op_k hf) hP hS
  rw [f_X1_startOfRow] at hf
  refine lv_iconst (v := 0) hx hb dX1_startOfRow_0 (by decide) ?_
  refine lv_istore_n (lv' := [(3, .int 0), (0, .ref h), (1, .int x1), (2, .int x2)]) hx hb dX1_startOfRow_1 rfl hl (by decide) rfl (fun ls hl => ?_)
  refine lv_iconst (v := 1) hx hb dX1_startOfRow_2 (by decide) ?_
  refine lv_istore (lv' := [(4, .int 1), (3, .int 0), (0, .ref h), (1, .int x1), (2, .int x2)]) hx hb dX1_startOfRow_3 hl (by decide) rfl (fun ls hl => ?_)
  exact L_5 K  x1 x2 0 1 hf _ _ _ hP hD hS (lv_sub hl [2, 3, 4, 1, 0] rfl)
set_option maxHeartbeats 4000000 in
set_option maxRecDepth 100000 in
theorem c_X1_tellOfRow (l : Launch) (D : va_G) (cI cC cK cO : ClassId) (tL tM : Nat) (adK adV : Nat → Nat) (h : Nat) (b1 : Nat) (b2 : Nat) (b3 : Nat) (b4 : Nat) (b5 : Nat) (b6 : Nat) (ns : Nat → Int32) (no : Nat → Int32) (nr : Nat → Int32) (nt : Nat → Int32) (nd : Nat → Int32) (ni : Nat → Int32) (nm : Int32) (nf : Int32) (x1 : Int32) (x2 : Int32) (x3 : Int32) (K : Nat) (R : Int32) (hf : f_X1_tellOfRow K ns no nr x1 x2 x3 = some R) : KI l D (TY cI cC cK cO) (gE tL tM adK adV) yX1_tellOfRow wsX1_tellOfRow 3 [.ref h, .int x1, .int x2, .int x3] (wN cI h b1 b2 b3 b4 b5 b6 ns no nr nt nd ni nm nf) (fun (r : Int32) (u : Unit) => r = R) (fun u => (wN cI h b1 b2 b3 b4 b5 b6 ns no nr nt nd ni nm nf)) := by
  refine KI.ofI (cc := cX1_tellOfRow) (maxL := 5) (C := RX1) (by decide) rfl rfl (Nat.le_of_ble_eq_true rfl) ?_
  intro p e s m args below meth c A Q hx hb hml hts hown hP hK hD hA hE hS hret ls hl
  replace hl : lv_has ls 5 [(0, .ref h), (1, .int x1), (2, .int x2), (3, .int x3)] := hl
  have hh11951 := hts (.initialized RX4) (by decide +kernel)
  have hh25028 := hts (.static yX4_orNotFound) (by decide +kernel)
  have w15 := hts (.fieldLink RX1 15 "BlockClerks$Numbers" "owner" "[I") (by decide +kernel)
  have w18 := hts (.fieldLink RX1 18 "BlockClerks$Numbers" "reason" "[I") (by decide +kernel)
  have iX1 : ∀ w ∈ wsX10, w ∈ wsX1_tellOfRow := by decide +kernel
  rw [f_X1_tellOfRow] at hf
  refine lv_aload_n hx hb dX1_tellOfRow_0 rfl (lv_at hl 0 rfl) ?_
  refine lv_iload_n hx hb dX1_tellOfRow_1 rfl (lv_at hl 1 rfl) ?_
  refine lv_iload_n hx hb dX1_tellOfRow_2 rfl (lv_at hl 2 rfl) ?_
  obtain ⟨r1, h2, hf⟩ := op_b hf
  refine ck_VI (st := [.int x2, .int x1, .ref h]) (rest := []) (As := [.int x1, .int x2]) (C := RX1) (ci := 1) ⟨hx, hb, hml, hown, hts⟩ (gE_ok tL tM adK adV) (c_X1_startOfRow l D cI cC cK cO tL tM adK adV h b1 b2 b3 b4 b5 b6 ns no nr nt nd ni nm nf x1 x2 K _ h2) (cwV 2 hts gX1_tellOfRow_X1_startOfRow rfl rfl rfl hv_X1_startOfRow ⟨Nat.le_of_ble_eq_true rfl, Nat.le_of_ble_eq_true rfl⟩) hK hP hD hS hA hE [0, 1, 2, 3, 4, 5, 6] rfl rfl rfl rfl rfl (fun _ => rfl) rfl hl.1 rfl (Nat.le_of_ble_eq_true rfl) dX1_tellOfRow_3 ⟨Nat.zero_le _, Nat.zero_le _⟩ (fun r u H locs hw hP hD hS => ?_)
  cases hw
  replace hP : va_P D vwCl (wN cI h b1 b2 b3 b4 b5 b6 ns no nr nt nd ni nm nf) H := hP
  replace hD : va_D A (wN cI h b1 b2 b3 b4 b5 b6 ns no nr nt nd ni nm nf) := hD
  refine lv_istore (lv' := [(4, .int r1), (0, .ref h), (1, .int x1), (2, .int x2), (3, .int x3)]) hx hb dX1_tellOfRow_6 hl (by decide) rfl (fun ls hl => ?_)
  refine lv_iload hx hb dX1_tellOfRow_8 (lv_at hl 0 rfl) ?_
  refine ck_SI (st := [.int r1]) (rest := []) (As := [.int r1]) ⟨hx, hb, hml, hown, hts⟩ (gE_ok tL tM adK adV) (c_X1_isNumber l D cI cC cK cO tL tM adK adV  r1 _ rfl) (va_cwS 1 hts gX1_tellOfRow_X1_isNumber rfl rfl rfl hs_X1_isNumber ⟨Nat.le_of_ble_eq_true rfl, Nat.le_of_ble_eq_true rfl⟩) hK hP hD hS hA hE rfl hl.1 rfl (Nat.le_of_ble_eq_true rfl) dX1_tellOfRow_10 ⟨Nat.zero_le _, Nat.zero_le _⟩ (fun r H locs hw hP hS => ?_)
  obtain ⟨hw, z5⟩ := hw
  cases hw
  refine lv_if_ne (tgt := 19) hx hb dX1_tellOfRow_13 (by decide) (fun c6 => ?_) (fun c6 => ?_)
  · replace hf := op_f c6 hf
    refine lv_iload_n hx hb dX1_tellOfRow_19 rfl (lv_at hl 4 rfl) ?_
    by_cases c7 : x3 = 0
    · replace hf := op_t c7 hf
      refine sw_in (v := 0) (tgt := 52) hx hb dX1_tellOfRow_20 c7 (by decide) (by decide) rfl (by decide) ?_
      refine lv_iload hx hb dX1_tellOfRow_52 (lv_at hl 0 rfl) ?_
      exact hret _ _ _ _ _ () dX1_tellOfRow_54 (op_k hf) hP hS
    replace hf := op_f c7 hf
    by_cases c8 : x3 = 1
    · replace hf := op_t c8 hf
      refine sw_in (v := 1) (tgt := 55) hx hb dX1_tellOfRow_20 c8 (by decide) (by decide) rfl (by decide) ?_
      refine lv_aload_n hx hb dX1_tellOfRow_55 rfl (lv_at hl 1 rfl) ?_
      refine lv_iload hx hb dX1_tellOfRow_56 (lv_at hl 0 rfl) ?_
      refine lv_sipush (v := 600) hx hb dX1_tellOfRow_58 (by decide) ?_
      obtain ⟨r9, h10, hf⟩ := op_b hf
      refine ck_VI (st := [.int 600, .int r1, .ref h]) (rest := []) (As := [.int r1, .int 600]) (C := RX1) (ci := 1) ⟨hx, hb, hml, hown, hts⟩ (gE_ok tL tM adK adV) (c_X1_lastOfRow l D cI cC cK cO tL tM adK adV h b1 b2 b3 b4 b5 b6 ns no nr nt nd ni nm nf r1 600 K _ h10) (cwV 2 hts gX1_tellOfRow_X1_lastOfRow rfl rfl rfl hv_X1_lastOfRow ⟨Nat.le_of_ble_eq_true rfl, Nat.le_of_ble_eq_true rfl⟩) hK hP hD hS hA hE [0, 1, 2, 3, 4, 5, 6] rfl rfl rfl rfl rfl (fun _ => rfl) rfl hl.1 rfl (Nat.le_of_ble_eq_true rfl) dX1_tellOfRow_61 ⟨Nat.zero_le _, Nat.zero_le _⟩ (fun r u H locs hw hP hD hS => ?_)
      cases hw
      replace hP : va_P D vwCl (wN cI h b1 b2 b3 b4 b5 b6 ns no nr nt nd ni nm nf) H := hP
      replace hD : va_D A (wN cI h b1 b2 b3 b4 b5 b6 ns no nr nt nd ni nm nf) := hD
      exact hret _ _ _ _ _ () dX1_tellOfRow_64 (op_k hf) hP hS
    replace hf := op_f c8 hf
    by_cases c12 : x3 = 2
    · replace hf := op_t c12 hf
      refine sw_in (v := 2) (tgt := 65) hx hb dX1_tellOfRow_20 c12 (by decide) (by decide) rfl (by decide) ?_
      refine lv_aload_n hx hb dX1_tellOfRow_65 rfl (lv_at hl 1 rfl) ?_
      refine va_get (D := D) (ci := 1) (v := .ref b3) (C := RX1) (T := TX1) (N := 8) hx hb hts iX1 hown hK hP 0 rfl rfl 2 (by decide) w18 (fun _ h9 => h9) rfl dX1_tellOfRow_66 ?_
      refine lv_iload hx hb dX1_tellOfRow_69 (lv_at hl 0 rfl) ?_
      obtain ⟨q13, hf⟩ := op_x hf
      refine ck_iald (j := (r1).toNatClampNeg) hx hb hK hP 3 0 rfl rfl q13 rfl dX1_tellOfRow_71 ?_
      refine ck_NI (st := [.int (nr (r1).toNatClampNeg)]) (rest := []) (As := [.int (nr (r1).toNatClampNeg)]) ⟨hx, hb, hml, hown, hts⟩ (gE_ok tL tM adK adV) (c_X4_orNotFound l D cI cC cK cO tL tM adK adV  (nr (r1).toNatClampNeg) _ rfl) ⟨va_cnB 1 hts gX1_tellOfRow_X4_orNotFound_n73 rfl rfl rfl hE.1.1 hh11951 hs_X4_orNotFound ⟨Nat.le_of_ble_eq_true rfl, Nat.le_of_ble_eq_true rfl⟩, hh25028, trivial⟩ hK hP hD hS hA hE rfl hl.1 rfl (Nat.le_of_ble_eq_true rfl) dX1_tellOfRow_72 ⟨Nat.zero_le _, Nat.zero_le _⟩ (fun r H locs hw hP hS => ?_)
      cases hw
      exact hret _ _ _ _ _ () dX1_tellOfRow_75 (op_k hf) hP hS
    replace hf := op_f c12 hf
    by_cases c16 : x3 = 3
    · replace hf := op_t c16 hf
      refine sw_in (v := 3) (tgt := 76) hx hb dX1_tellOfRow_20 c16 (by decide) (by decide) rfl (by decide) ?_
      refine lv_aload_n hx hb dX1_tellOfRow_76 rfl (lv_at hl 1 rfl) ?_
      refine va_get (D := D) (ci := 1) (v := .ref b2) (C := RX1) (T := TX1) (N := 8) hx hb hts iX1 hown hK hP 0 rfl rfl 1 (by decide) w15 (fun _ h9 => h9) rfl dX1_tellOfRow_77 ?_
      refine lv_iload hx hb dX1_tellOfRow_80 (lv_at hl 0 rfl) ?_
      obtain ⟨q17, hf⟩ := op_x hf
      refine ck_iald (j := (r1).toNatClampNeg) hx hb hK hP 2 0 rfl rfl q17 rfl dX1_tellOfRow_82 ?_
      refine ck_NI (st := [.int (no (r1).toNatClampNeg)]) (rest := []) (As := [.int (no (r1).toNatClampNeg)]) ⟨hx, hb, hml, hown, hts⟩ (gE_ok tL tM adK adV) (c_X4_orNotFound l D cI cC cK cO tL tM adK adV  (no (r1).toNatClampNeg) _ rfl) ⟨va_cnB 1 hts gX1_tellOfRow_X4_orNotFound_n73 rfl rfl rfl hE.1.1 hh11951 hs_X4_orNotFound ⟨Nat.le_of_ble_eq_true rfl, Nat.le_of_ble_eq_true rfl⟩, hh25028, trivial⟩ hK hP hD hS hA hE rfl hl.1 rfl (Nat.le_of_ble_eq_true rfl) dX1_tellOfRow_83 ⟨Nat.zero_le _, Nat.zero_le _⟩ (fun r H locs hw hP hS => ?_)
      cases hw
      exact hret _ _ _ _ _ () dX1_tellOfRow_86 (op_k hf) hP hS
    replace hf := op_f c16 hf
    refine lv_tableOut (tgt := 87) hx hb dX1_tellOfRow_20 (sw_o_0_4 c7 c8 c12 c16) (by decide) ?_
    refine lv_iconst (v := (-1)) hx hb dX1_tellOfRow_87 (by decide) ?_
    exact hret _ _ _ _ _ () dX1_tellOfRow_88 (op_k hf) hP hS
  · replace hf := op_t c6 hf
    refine lv_bipush (v := (-4)) hx hb dX1_tellOfRow_16 (by decide) ?_
    exact hret _ _ _ _ _ () dX1_tellOfRow_18 (op_k hf) hP hS
set_option maxHeartbeats 4000000 in
set_option maxRecDepth 100000 in
theorem c_X1_tellLateness (l : Launch) (D : va_G) (cI cC cK cO : ClassId) (tL tM : Nat) (adK adV : Nat → Nat) (h : Nat) (b1 : Nat) (b2 : Nat) (b3 : Nat) (b4 : Nat) (b5 : Nat) (b6 : Nat) (ns : Nat → Int32) (no : Nat → Int32) (nr : Nat → Int32) (nt : Nat → Int32) (nd : Nat → Int32) (ni : Nat → Int32) (nm : Int32) (nf : Int32) (x1 : Int32) (K : Nat) (R : Int32) (hf : f_X1_tellLateness K nt ni x1 = some R) : KI l D (TY cI cC cK cO) (gE tL tM adK adV) yX1_tellLateness wsX1_tellLateness 1 [.ref h, .int x1] (wN cI h b1 b2 b3 b4 b5 b6 ns no nr nt nd ni nm nf) (fun (r : Int32) (u : Unit) => r = R) (fun u => (wN cI h b1 b2 b3 b4 b5 b6 ns no nr nt nd ni nm nf)) := by
  refine KI.ofI (cc := cX1_tellLateness) (maxL := 3) (C := RX1) (by decide) rfl rfl (Nat.le_of_ble_eq_true rfl) ?_
  intro p e s m args below meth c A Q hx hb hml hts hown hP hK hD hA hE hS hret ls hl
  replace hl : lv_has ls 3 [(0, .ref h), (1, .int x1)] := hl
  have w21 := hts (.fieldLink RX1 21 "BlockClerks$Numbers" "turn" "[I") (by decide +kernel)
  have w27 := hts (.fieldLink RX1 27 "BlockClerks$Numbers" "inTurn" "[I") (by decide +kernel)
  have iX1 : ∀ w ∈ wsX10, w ∈ wsX1_tellLateness := by decide +kernel
  have L_22 : ∀ (n : Nat)  (x1 : Int32) (x2 : Int32) (hf : f_X1_tellLateness_22 x1 nt ni n x2 = some R) (H : Heap) (locs : List Loc) (ls : Array Slot), va_P D vwCl (wN cI h b1 b2 b3 b4 b5 b6 ns no nr nt nd ni nm nf) H → va_D A (wN cI h b1 b2 b3 b4 b5 b6 ns no nr nt nd ni nm nf) → va_S A s.heap H locs → lv_has ls 3 [(0, .ref h), (1, .int x1), (2, .int x2)] → W p l e (rm 1) s m args below meth c H locs 0 0 Q (F0 m 22 ls []) := by
    intro n
    induction n with
    | zero =>
      intro  x1 x2 hf
      cases hf
    | succ n ih =>
      intro  x1 x2 hf H locs ls hP hD hS hl
      rw [f_X1_tellLateness_22] at hf
      refine lv_iload_n hx hb dX1_tellLateness_22 rfl (lv_at hl 2 rfl) ?_
      refine lv_aload_n hx hb dX1_tellLateness_23 rfl (lv_at hl 0 rfl) ?_
      refine va_get (D := D) (ci := 1) (v := .ref b6) (C := RX1) (T := TX1) (N := 8) hx hb hts iX1 hown hK hP 0 rfl rfl 5 (by decide) w27 (fun _ h9 => h9) rfl dX1_tellLateness_24 ?_
      refine va_alen (D := D) hx hb hK hP 6 0 rfl rfl (v := 600) rfl dX1_tellLateness_27 ?_
      refine lv_icmp_ge (tgt := 59) hx hb dX1_tellLateness_28 (by decide) (fun c6 => ?_) (fun c6 => ?_)
      · replace hf := op_t c6 hf
        refine lv_iconst (v := 0) hx hb dX1_tellLateness_59 (by decide) ?_
        exact hret _ _ _ _ _ () dX1_tellLateness_60 (op_k hf) hP hS
      · replace hf := op_f c6 hf
        refine lv_iload_n hx hb dX1_tellLateness_31 rfl (lv_at hl 2 rfl) ?_
        refine lv_aload_n hx hb dX1_tellLateness_32 rfl (lv_at hl 0 rfl) ?_
        refine va_get (D := D) (ci := 1) (v := .ref b4) (C := RX1) (T := TX1) (N := 8) hx hb hts iX1 hown hK hP 0 rfl rfl 3 (by decide) w21 (fun _ h9 => h9) rfl dX1_tellLateness_33 ?_
        refine lv_iload_n hx hb dX1_tellLateness_36 rfl (lv_at hl 1 rfl) ?_
        obtain ⟨q7, hf⟩ := op_x hf
        refine ck_iald (j := (x1).toNatClampNeg) hx hb hK hP 4 0 rfl rfl q7 rfl dX1_tellLateness_37 ?_
        refine lv_icmp_ge (tgt := 59) hx hb dX1_tellLateness_38 (by decide) (fun c8 => ?_) (fun c8 => ?_)
        · replace hf := op_t c8 hf
          refine lv_iconst (v := 0) hx hb dX1_tellLateness_59 (by decide) ?_
          exact hret _ _ _ _ _ () dX1_tellLateness_60 (op_k hf) hP hS
        · replace hf := op_f c8 hf
          refine lv_aload_n hx hb dX1_tellLateness_41 rfl (lv_at hl 0 rfl) ?_
          refine va_get (D := D) (ci := 1) (v := .ref b6) (C := RX1) (T := TX1) (N := 8) hx hb hts iX1 hown hK hP 0 rfl rfl 5 (by decide) w27 (fun _ h9 => h9) rfl dX1_tellLateness_42 ?_
          refine lv_iload_n hx hb dX1_tellLateness_45 rfl (lv_at hl 2 rfl) ?_
          obtain ⟨q9, hf⟩ := op_x hf
          refine ck_iald (j := (x2).toNatClampNeg) hx hb hK hP 6 0 rfl rfl q9 rfl dX1_tellLateness_46 ?_
          refine lv_iload_n hx hb dX1_tellLateness_47 rfl (lv_at hl 1 rfl) ?_
          refine lv_icmp_le (tgt := 53) hx hb dX1_tellLateness_48 (by decide) (fun c10 => ?_) (fun c10 => ?_)
          · replace hf := op_t c10 hf
            refine lv_iinc (v := (x2 + 1)) (lv' := [(2, .int (x2 + 1)), (0, .ref h), (1, .int x1)]) hx hb dX1_tellLateness_53 hl (k := 2) rfl rfl (by decide) rfl (fun ls hl => ?_)
            refine lv_goto (tgt := 22) hx hb dX1_tellLateness_56 (by decide) ?_
            exact ih  x1 (x2 + 1) hf _ _ _ hP hD hS (lv_sub hl [1, 2, 0] rfl)
          · replace hf := op_f c10 hf
            refine lv_iconst (v := 1) hx hb dX1_tellLateness_51 (by decide) ?_
            exact hret _ _ _ _ _ () dX1_tellLateness_52 (op_k hf) hP hS
  rw [f_X1_tellLateness] at hf
  refine lv_iload_n hx hb dX1_tellLateness_0 rfl (lv_at hl 1 rfl) ?_
  refine ck_SI (st := [.int x1]) (rest := []) (As := [.int x1]) ⟨hx, hb, hml, hown, hts⟩ (gE_ok tL tM adK adV) (c_X1_isNumber l D cI cC cK cO tL tM adK adV  x1 _ rfl) (va_cwS 1 hts gX1_tellLateness_X1_isNumber rfl rfl rfl hs_X1_isNumber ⟨Nat.le_of_ble_eq_true rfl, Nat.le_of_ble_eq_true rfl⟩) hK hP hD hS hA hE rfl hl.1 rfl (Nat.le_of_ble_eq_true rfl) dX1_tellLateness_1 ⟨Nat.zero_le _, Nat.zero_le _⟩ (fun r H locs hw hP hS => ?_)
  obtain ⟨hw, z2⟩ := hw
  cases hw
  refine lv_if_eq (tgt := 17) hx hb dX1_tellLateness_4 (by decide) (fun c3 => ?_) (fun c3 => ?_)
  · replace hf := op_t c3 hf
    refine lv_bipush (v := (-4)) hx hb dX1_tellLateness_17 (by decide) ?_
    exact hret _ _ _ _ _ () dX1_tellLateness_19 (op_k hf) hP hS
  · replace hf := op_f c3 hf
    refine lv_aload_n hx hb dX1_tellLateness_7 rfl (lv_at hl 0 rfl) ?_
    refine va_get (D := D) (ci := 1) (v := .ref b4) (C := RX1) (T := TX1) (N := 8) hx hb hts iX1 hown hK hP 0 rfl rfl 3 (by decide) w21 (fun _ h9 => h9) rfl dX1_tellLateness_8 ?_
    refine lv_iload_n hx hb dX1_tellLateness_11 rfl (lv_at hl 1 rfl) ?_
    obtain ⟨q4, hf⟩ := op_x hf
    refine ck_iald (j := (x1).toNatClampNeg) hx hb hK hP 4 0 rfl rfl q4 rfl dX1_tellLateness_12 ?_
    refine lv_iconst (v := (-1)) hx hb dX1_tellLateness_13 (by decide) ?_
    refine lv_icmp_ne (tgt := 20) hx hb dX1_tellLateness_14 (by decide) (fun c5 => ?_) (fun c5 => ?_)
    · replace hf := op_f c5 hf
      refine lv_iconst (v := 0) hx hb dX1_tellLateness_20 (by decide) ?_
      refine lv_istore_n (lv' := [(2, .int 0), (0, .ref h), (1, .int x1)]) hx hb dX1_tellLateness_21 rfl hl (by decide) rfl (fun ls hl => ?_)
      exact L_22 K  x1 0 hf _ _ _ hP hD hS (lv_sub hl [1, 2, 0] rfl)
    · replace hf := op_t c5 hf
      refine lv_bipush (v := (-4)) hx hb dX1_tellLateness_17 (by decide) ?_
      exact hret _ _ _ _ _ () dX1_tellLateness_19 (op_k hf) hP hS
set_option maxHeartbeats 4000000 in
set_option maxRecDepth 100000 in
theorem c_X1_tell (l : Launch) (D : va_G) (cI cC cK cO : ClassId) (tL tM : Nat) (adK adV : Nat → Nat) (h : Nat) (b1 : Nat) (b2 : Nat) (b3 : Nat) (b4 : Nat) (b5 : Nat) (b6 : Nat) (ns : Nat → Int32) (no : Nat → Int32) (nr : Nat → Int32) (nt : Nat → Int32) (nd : Nat → Int32) (ni : Nat → Int32) (nm : Int32) (nf : Int32) (x1 : Int32) (x2 : Int32) (K : Nat) (R : Int32) (hf : f_X1_tell K ns no nr nt nd ni x1 x2 = some R) : KI l D (TY cI cC cK cO) (gE tL tM adK adV) yX1_tell wsX1_tell 2 [.ref h, .int x1, .int x2] (wN cI h b1 b2 b3 b4 b5 b6 ns no nr nt nd ni nm nf) (fun (r : Int32) (u : Unit) => r = R) (fun u => (wN cI h b1 b2 b3 b4 b5 b6 ns no nr nt nd ni nm nf)) := by
  refine KI.ofI (cc := cX1_tell) (maxL := 3) (C := RX1) (by decide) rfl rfl (Nat.le_of_ble_eq_true rfl) ?_
  intro p e s m args below meth c A Q hx hb hml hts hown hP hK hD hA hE hS hret ls hl
  replace hl : lv_has ls 3 [(0, .ref h), (1, .int x1), (2, .int x2)] := hl
  have hh11951 := hts (.initialized RX4) (by decide +kernel)
  have hh25028 := hts (.static yX4_orNotFound) (by decide +kernel)
  have w15 := hts (.fieldLink RX1 15 "BlockClerks$Numbers" "owner" "[I") (by decide +kernel)
  have w18 := hts (.fieldLink RX1 18 "BlockClerks$Numbers" "reason" "[I") (by decide +kernel)
  have w21 := hts (.fieldLink RX1 21 "BlockClerks$Numbers" "turn" "[I") (by decide +kernel)
  have w24 := hts (.fieldLink RX1 24 "BlockClerks$Numbers" "day" "[I") (by decide +kernel)
  have w9 := hts (.fieldLink RX1 9 "BlockClerks$Numbers" "state" "[I") (by decide +kernel)
  have iX1 : ∀ w ∈ wsX10, w ∈ wsX1_tell := by decide +kernel
  rw [f_X1_tell] at hf
  refine lv_iload_n hx hb dX1_tell_0 rfl (lv_at hl 1 rfl) ?_
  refine ck_SI (st := [.int x1]) (rest := []) (As := [.int x1]) ⟨hx, hb, hml, hown, hts⟩ (gE_ok tL tM adK adV) (c_X1_isNumber l D cI cC cK cO tL tM adK adV  x1 _ rfl) (va_cwS 1 hts gX1_tell_X1_isNumber rfl rfl rfl hs_X1_isNumber ⟨Nat.le_of_ble_eq_true rfl, Nat.le_of_ble_eq_true rfl⟩) hK hP hD hS hA hE rfl hl.1 rfl (Nat.le_of_ble_eq_true rfl) dX1_tell_1 ⟨Nat.zero_le _, Nat.zero_le _⟩ (fun r H locs hw hP hS => ?_)
  obtain ⟨hw, z2⟩ := hw
  cases hw
  refine lv_if_ne (tgt := 9) hx hb dX1_tell_4 (by decide) (fun c3 => ?_) (fun c3 => ?_)
  · replace hf := op_f c3 hf
    refine lv_iload_n hx hb dX1_tell_9 rfl (lv_at hl 2 rfl) ?_
    by_cases c4 : x2 = 0
    · replace hf := op_t c4 hf
      refine sw_in (v := 0) (tgt := 48) hx hb dX1_tell_10 c4 (by decide) (by decide) rfl (by decide) ?_
      refine lv_aload_n hx hb dX1_tell_48 rfl (lv_at hl 0 rfl) ?_
      refine va_get (D := D) (ci := 1) (v := .ref b1) (C := RX1) (T := TX1) (N := 8) hx hb hts iX1 hown hK hP 0 rfl rfl 0 (by decide) w9 (fun _ h9 => h9) rfl dX1_tell_49 ?_
      refine lv_iload_n hx hb dX1_tell_52 rfl (lv_at hl 1 rfl) ?_
      obtain ⟨q5, hf⟩ := op_x hf
      refine ck_iald (j := (x1).toNatClampNeg) hx hb hK hP 1 0 rfl rfl q5 rfl dX1_tell_53 ?_
      exact hret _ _ _ _ _ () dX1_tell_54 (op_k hf) hP hS
    replace hf := op_f c4 hf
    by_cases c6 : x2 = 1
    · replace hf := op_t c6 hf
      refine sw_in (v := 1) (tgt := 55) hx hb dX1_tell_10 c6 (by decide) (by decide) rfl (by decide) ?_
      refine lv_aload_n hx hb dX1_tell_55 rfl (lv_at hl 0 rfl) ?_
      refine va_get (D := D) (ci := 1) (v := .ref b2) (C := RX1) (T := TX1) (N := 8) hx hb hts iX1 hown hK hP 0 rfl rfl 1 (by decide) w15 (fun _ h9 => h9) rfl dX1_tell_56 ?_
      refine lv_iload_n hx hb dX1_tell_59 rfl (lv_at hl 1 rfl) ?_
      obtain ⟨q7, hf⟩ := op_x hf
      refine ck_iald (j := (x1).toNatClampNeg) hx hb hK hP 2 0 rfl rfl q7 rfl dX1_tell_60 ?_
      refine ck_NI (st := [.int (no (x1).toNatClampNeg)]) (rest := []) (As := [.int (no (x1).toNatClampNeg)]) ⟨hx, hb, hml, hown, hts⟩ (gE_ok tL tM adK adV) (c_X4_orNotFound l D cI cC cK cO tL tM adK adV  (no (x1).toNatClampNeg) _ rfl) ⟨va_cnB 1 hts gX1_tell_X4_orNotFound_n73 rfl rfl rfl hE.1.1 hh11951 hs_X4_orNotFound ⟨Nat.le_of_ble_eq_true rfl, Nat.le_of_ble_eq_true rfl⟩, hh25028, trivial⟩ hK hP hD hS hA hE rfl hl.1 rfl (Nat.le_of_ble_eq_true rfl) dX1_tell_61 ⟨Nat.zero_le _, Nat.zero_le _⟩ (fun r H locs hw hP hS => ?_)
      cases hw
      exact hret _ _ _ _ _ () dX1_tell_64 (op_k hf) hP hS
    replace hf := op_f c6 hf
    by_cases c10 : x2 = 2
    · replace hf := op_t c10 hf
      refine sw_in (v := 2) (tgt := 65) hx hb dX1_tell_10 c10 (by decide) (by decide) rfl (by decide) ?_
      refine lv_aload_n hx hb dX1_tell_65 rfl (lv_at hl 0 rfl) ?_
      refine va_get (D := D) (ci := 1) (v := .ref b4) (C := RX1) (T := TX1) (N := 8) hx hb hts iX1 hown hK hP 0 rfl rfl 3 (by decide) w21 (fun _ h9 => h9) rfl dX1_tell_66 ?_
      refine lv_iload_n hx hb dX1_tell_69 rfl (lv_at hl 1 rfl) ?_
      obtain ⟨q11, hf⟩ := op_x hf
      refine ck_iald (j := (x1).toNatClampNeg) hx hb hK hP 4 0 rfl rfl q11 rfl dX1_tell_70 ?_
      refine ck_NI (st := [.int (nt (x1).toNatClampNeg)]) (rest := []) (As := [.int (nt (x1).toNatClampNeg)]) ⟨hx, hb, hml, hown, hts⟩ (gE_ok tL tM adK adV) (c_X4_orNotFound l D cI cC cK cO tL tM adK adV  (nt (x1).toNatClampNeg) _ rfl) ⟨va_cnB 1 hts gX1_tell_X4_orNotFound_n73 rfl rfl rfl hE.1.1 hh11951 hs_X4_orNotFound ⟨Nat.le_of_ble_eq_true rfl, Nat.le_of_ble_eq_true rfl⟩, hh25028, trivial⟩ hK hP hD hS hA hE rfl hl.1 rfl (Nat.le_of_ble_eq_true rfl) dX1_tell_71 ⟨Nat.zero_le _, Nat.zero_le _⟩ (fun r H locs hw hP hS => ?_)
      cases hw
      exact hret _ _ _ _ _ () dX1_tell_74 (op_k hf) hP hS
    replace hf := op_f c10 hf
    by_cases c14 : x2 = 3
    · replace hf := op_t c14 hf
      refine sw_in (v := 3) (tgt := 75) hx hb dX1_tell_10 c14 (by decide) (by decide) rfl (by decide) ?_
      refine lv_aload_n hx hb dX1_tell_75 rfl (lv_at hl 0 rfl) ?_
      refine va_get (D := D) (ci := 1) (v := .ref b5) (C := RX1) (T := TX1) (N := 8) hx hb hts iX1 hown hK hP 0 rfl rfl 4 (by decide) w24 (fun _ h9 => h9) rfl dX1_tell_76 ?_
      refine lv_iload_n hx hb dX1_tell_79 rfl (lv_at hl 1 rfl) ?_
      obtain ⟨q15, hf⟩ := op_x hf
      refine ck_iald (j := (x1).toNatClampNeg) hx hb hK hP 5 0 rfl rfl q15 rfl dX1_tell_80 ?_
      refine ck_NI (st := [.int (nd (x1).toNatClampNeg)]) (rest := []) (As := [.int (nd (x1).toNatClampNeg)]) ⟨hx, hb, hml, hown, hts⟩ (gE_ok tL tM adK adV) (c_X4_orNotFound l D cI cC cK cO tL tM adK adV  (nd (x1).toNatClampNeg) _ rfl) ⟨va_cnB 1 hts gX1_tell_X4_orNotFound_n73 rfl rfl rfl hE.1.1 hh11951 hs_X4_orNotFound ⟨Nat.le_of_ble_eq_true rfl, Nat.le_of_ble_eq_true rfl⟩, hh25028, trivial⟩ hK hP hD hS hA hE rfl hl.1 rfl (Nat.le_of_ble_eq_true rfl) dX1_tell_81 ⟨Nat.zero_le _, Nat.zero_le _⟩ (fun r H locs hw hP hS => ?_)
      cases hw
      exact hret _ _ _ _ _ () dX1_tell_84 (op_k hf) hP hS
    replace hf := op_f c14 hf
    by_cases c18 : x2 = 4
    · replace hf := op_t c18 hf
      refine sw_in (v := 4) (tgt := 85) hx hb dX1_tell_10 c18 (by decide) (by decide) rfl (by decide) ?_
      refine lv_aload_n hx hb dX1_tell_85 rfl (lv_at hl 0 rfl) ?_
      refine va_get (D := D) (ci := 1) (v := .ref b3) (C := RX1) (T := TX1) (N := 8) hx hb hts iX1 hown hK hP 0 rfl rfl 2 (by decide) w18 (fun _ h9 => h9) rfl dX1_tell_86 ?_
      refine lv_iload_n hx hb dX1_tell_89 rfl (lv_at hl 1 rfl) ?_
      obtain ⟨q19, hf⟩ := op_x hf
      refine ck_iald (j := (x1).toNatClampNeg) hx hb hK hP 3 0 rfl rfl q19 rfl dX1_tell_90 ?_
      refine ck_NI (st := [.int (nr (x1).toNatClampNeg)]) (rest := []) (As := [.int (nr (x1).toNatClampNeg)]) ⟨hx, hb, hml, hown, hts⟩ (gE_ok tL tM adK adV) (c_X4_orNotFound l D cI cC cK cO tL tM adK adV  (nr (x1).toNatClampNeg) _ rfl) ⟨va_cnB 1 hts gX1_tell_X4_orNotFound_n73 rfl rfl rfl hE.1.1 hh11951 hs_X4_orNotFound ⟨Nat.le_of_ble_eq_true rfl, Nat.le_of_ble_eq_true rfl⟩, hh25028, trivial⟩ hK hP hD hS hA hE rfl hl.1 rfl (Nat.le_of_ble_eq_true rfl) dX1_tell_91 ⟨Nat.zero_le _, Nat.zero_le _⟩ (fun r H locs hw hP hS => ?_)
      cases hw
      exact hret _ _ _ _ _ () dX1_tell_94 (op_k hf) hP hS
    replace hf := op_f c18 hf
    by_cases c22 : x2 = 5
    · replace hf := op_t c22 hf
      refine sw_in (v := 5) (tgt := 95) hx hb dX1_tell_10 c22 (by decide) (by decide) rfl (by decide) ?_
      refine lv_aload_n hx hb dX1_tell_95 rfl (lv_at hl 0 rfl) ?_
      refine lv_iload_n hx hb dX1_tell_96 rfl (lv_at hl 1 rfl) ?_
      obtain ⟨r23, h24, hf⟩ := op_b hf
      refine ck_VI (st := [.int x1, .ref h]) (rest := []) (As := [.int x1]) (C := RX1) (ci := 1) ⟨hx, hb, hml, hown, hts⟩ (gE_ok tL tM adK adV) (c_X1_tellLateness l D cI cC cK cO tL tM adK adV h b1 b2 b3 b4 b5 b6 ns no nr nt nd ni nm nf x1 K _ h24) (cwV 1 hts gX1_tell_X1_tellLateness rfl rfl rfl hv_X1_tellLateness ⟨Nat.le_of_ble_eq_true rfl, Nat.le_of_ble_eq_true rfl⟩) hK hP hD hS hA hE [0, 1, 2, 3, 4, 5, 6] rfl rfl rfl rfl rfl (fun _ => rfl) rfl hl.1 rfl (Nat.le_of_ble_eq_true rfl) dX1_tell_97 ⟨Nat.zero_le _, Nat.zero_le _⟩ (fun r u H locs hw hP hD hS => ?_)
      cases hw
      replace hP : va_P D vwCl (wN cI h b1 b2 b3 b4 b5 b6 ns no nr nt nd ni nm nf) H := hP
      replace hD : va_D A (wN cI h b1 b2 b3 b4 b5 b6 ns no nr nt nd ni nm nf) := hD
      exact hret _ _ _ _ _ () dX1_tell_100 (op_k hf) hP hS
    replace hf := op_f c22 hf
    refine lv_tableOut (tgt := 101) hx hb dX1_tell_10 (sw_o_0_6 c4 c6 c10 c14 c18 c22) (by decide) ?_
    refine lv_iconst (v := (-1)) hx hb dX1_tell_101 (by decide) ?_
    exact hret _ _ _ _ _ () dX1_tell_102 (op_k hf) hP hS
  · replace hf := op_t c3 hf
    refine lv_iconst (v := (-1)) hx hb dX1_tell_7 (by decide) ?_
    exact hret _ _ _ _ _ () dX1_tell_8 (op_k hf) hP hS
