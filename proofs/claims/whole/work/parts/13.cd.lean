/-! laid by wip/whole/gen.py: walks of the class's clerks, numbers, offices -/
set_option maxHeartbeats 4000000 in
set_option maxRecDepth 100000 in
theorem c_X2_isClerk (l : Launch) (D : va_G) (cI cC cK cO : ClassId) (tL tM : Nat) (adK adV : Nat → Nat) (o : Nat → Nat) (ns : Nat → Int32) (no : Nat → Int32) (nr : Nat → Int32) (nt : Nat → Int32) (nd : Nat → Int32) (ni : Nat → Int32) (nm : Int32) (nf : Int32) (cl : Nat → Nat → Int32) (cc : Int32) (cs : Nat → Int32) (ct : Int32) (x1 : Int32) (R : Int32) (hf : f_X2_isClerk cc x1 = R) : KI l D (TY cI cC cK cO) (gE tL tM adK adV) yX2_isClerk wsX2_isClerk 0 [.ref (o 0), .int x1] (wO cI cK o ns no nr nt nd ni nm nf cl cc cs ct) (fun (r : Int32) (u : Unit) => r = R ∧ (r = 0 ∨ r = 1)) (fun u => (wO cI cK o ns no nr nt nd ni nm nf cl cc cs ct)) := by
  refine KI.ofZ (cc := cX2_isClerk) (maxL := 2) (C := RX2) (by decide) rfl rfl (Nat.le_of_ble_eq_true rfl) (fun _ _ h => h.2) ?_
  intro p e s m args below meth c A Q hx hb hml hts hown hP hK hD hA hE hS hret ls hl
  replace hl : lv_has ls 2 [(0, .ref (o 0)), (1, .int x1)] := hl
  have w20 := hts (.fieldLink RX2 20 "BlockClerks$Office" "clerks" "[LBlockClerks$Clerk;") (by decide +kernel)
  have w24 := hts (.fieldLink RX2 24 "BlockClerks$Office" "clerkCount" "I") (by decide +kernel)
  have iX2 : ∀ w ∈ wsX20, w ∈ wsX2_isClerk := by decide +kernel
  rw [f_X2_isClerk] at hf
  refine lv_iload_n hx hb dX2_isClerk_0 rfl (lv_at hl 1 rfl) ?_
  refine lv_if_lt (tgt := 25) hx hb dX2_isClerk_1 (by decide) (fun c1 => ?_) (fun c1 => ?_)
  · replace hf := op_t c1 hf
    refine lv_iconst (v := 0) hx hb dX2_isClerk_25 (by decide) ?_
    exact hret _ _ _ _ _ () dX2_isClerk_26 ⟨hf, (Or.inl rfl)⟩ hP hS
  · replace hf := op_f c1 hf
    refine lv_iload_n hx hb dX2_isClerk_4 rfl (lv_at hl 1 rfl) ?_
    refine lv_aload_n hx hb dX2_isClerk_5 rfl (lv_at hl 0 rfl) ?_
    refine va_get (D := D) (ci := 2) (v := .int cc) (C := RX2) (T := TX2) (N := 5) hx hb hts iX2 hown hK hP 0 rfl rfl 2 (by decide) w24 (fun _ h9 => h9) rfl dX2_isClerk_6 ?_
    refine lv_icmp_ge (tgt := 25) hx hb dX2_isClerk_9 (by decide) (fun c2 => ?_) (fun c2 => ?_)
    · replace hf := op_t c2 hf
      refine lv_iconst (v := 0) hx hb dX2_isClerk_25 (by decide) ?_
      exact hret _ _ _ _ _ () dX2_isClerk_26 ⟨hf, (Or.inl rfl)⟩ hP hS
    · replace hf := op_f c2 hf
      refine lv_iload_n hx hb dX2_isClerk_12 rfl (lv_at hl 1 rfl) ?_
      refine lv_aload_n hx hb dX2_isClerk_13 rfl (lv_at hl 0 rfl) ?_
      refine va_get (D := D) (ci := 2) (v := .ref (o 9)) (C := RX2) (T := TX2) (N := 5) hx hb hts iX2 hown hK hP 0 rfl rfl 1 (by decide) w20 (fun _ h9 => h9) rfl dX2_isClerk_14 ?_
      refine va_alen (D := D) hx hb hK hP 9 2 rfl rfl (v := 6) rfl dX2_isClerk_17 ?_
      refine lv_icmp_ge (tgt := 25) hx hb dX2_isClerk_18 (by decide) (fun c3 => ?_) (fun c3 => ?_)
      · replace hf := op_t c3 hf
        refine lv_iconst (v := 0) hx hb dX2_isClerk_25 (by decide) ?_
        exact hret _ _ _ _ _ () dX2_isClerk_26 ⟨hf, (Or.inl rfl)⟩ hP hS
      · replace hf := op_f c3 hf
        refine lv_iconst (v := 1) hx hb dX2_isClerk_21 (by decide) ?_
        refine lv_goto (tgt := 26) hx hb dX2_isClerk_22 (by decide) ?_
        exact hret _ _ _ _ _ () dX2_isClerk_26 ⟨hf, (Or.inr rfl)⟩ hP hS
set_option maxHeartbeats 4000000 in
set_option maxRecDepth 100000 in
theorem c_X2_addClerk (l : Launch) (D : va_G) (cI cC cK cO : ClassId) (tL tM : Nat) (adK adV : Nat → Nat) (o : Nat → Nat) (ns : Nat → Int32) (no : Nat → Int32) (nr : Nat → Int32) (nt : Nat → Int32) (nd : Nat → Int32) (ni : Nat → Int32) (nm : Int32) (nf : Int32) (cl : Nat → Nat → Int32) (cc : Int32) (cs : Nat → Int32) (ct : Int32) (x1 : Int32) (R : Int32 × (Nat → Nat → Int32) × Int32) (hf : f_X2_addClerk cl cc x1 = some R) : KI l D (TY cI cC cK cO) (gE tL tM adK adV) yX2_addClerk wsX2_addClerk 0 [.ref (o 0), .int x1] (wO cI cK o ns no nr nt nd ni nm nf cl cc cs ct) (fun (r : Int32) (u : (Nat → Nat → Int32) × Int32) => (r, u) = R) (fun u => (wO cI cK o ns no nr nt nd ni nm nf (u.1) (u.2) cs ct)) := by
  refine KI.ofI (cc := cX2_addClerk) (maxL := 2) (C := RX2) (by decide) rfl rfl (Nat.le_of_ble_eq_true rfl) ?_
  intro p e s m args below meth c A Q hx hb hml hts hown hP hK hD hA hE hS hret ls hl
  replace hl : lv_has ls 2 [(0, .ref (o 0)), (1, .int x1)] := hl
  have w20 := hts (.fieldLink RX2 20 "BlockClerks$Office" "clerks" "[LBlockClerks$Clerk;") (by decide +kernel)
  have w24 := hts (.fieldLink RX2 24 "BlockClerks$Office" "clerkCount" "I") (by decide +kernel)
  have w49 := hts (.fieldLink RX2 49 "BlockClerks$Clerk" "kind" "I") (by decide +kernel)
  have iX0 : ∀ w ∈ wsX00, w ∈ wsX2_addClerk := by decide +kernel
  have iX2 : ∀ w ∈ wsX20, w ∈ wsX2_addClerk := by decide +kernel
  rw [f_X2_addClerk] at hf
  refine lv_iload_n hx hb dX2_addClerk_0 rfl (lv_at hl 1 rfl) ?_
  refine lv_if_lt (tgt := 9) hx hb dX2_addClerk_1 (by decide) (fun c1 => ?_) (fun c1 => ?_)
  · replace hf := op_t c1 hf
    refine lv_iconst (v := (-1)) hx hb dX2_addClerk_9 (by decide) ?_
    exact hret _ _ _ _ _ (cl, cc) dX2_addClerk_10 (op_k hf) hP hS
  · replace hf := op_f c1 hf
    refine lv_iload_n hx hb dX2_addClerk_4 rfl (lv_at hl 1 rfl) ?_
    refine lv_iconst (v := 2) hx hb dX2_addClerk_5 (by decide) ?_
    refine lv_icmp_le (tgt := 11) hx hb dX2_addClerk_6 (by decide) (fun c2 => ?_) (fun c2 => ?_)
    · replace hf := op_t c2 hf
      refine lv_aload_n hx hb dX2_addClerk_11 rfl (lv_at hl 0 rfl) ?_
      refine va_get (D := D) (ci := 2) (v := .int cc) (C := RX2) (T := TX2) (N := 5) hx hb hts iX2 hown hK hP 0 rfl rfl 2 (by decide) w24 (fun _ h9 => h9) rfl dX2_addClerk_12 ?_
      refine lv_if_lt (tgt := 30) hx hb dX2_addClerk_15 (by decide) (fun c3 => ?_) (fun c3 => ?_)
      · replace hf := op_t c3 hf
        refine lv_bipush (v := (-3)) hx hb dX2_addClerk_30 (by decide) ?_
        exact hret _ _ _ _ _ (cl, cc) dX2_addClerk_32 (op_k hf) hP hS
      · replace hf := op_f c3 hf
        refine lv_aload_n hx hb dX2_addClerk_18 rfl (lv_at hl 0 rfl) ?_
        refine va_get (D := D) (ci := 2) (v := .int cc) (C := RX2) (T := TX2) (N := 5) hx hb hts iX2 hown hK hP 0 rfl rfl 2 (by decide) w24 (fun _ h9 => h9) rfl dX2_addClerk_19 ?_
        refine lv_aload_n hx hb dX2_addClerk_22 rfl (lv_at hl 0 rfl) ?_
        refine va_get (D := D) (ci := 2) (v := .ref (o 9)) (C := RX2) (T := TX2) (N := 5) hx hb hts iX2 hown hK hP 0 rfl rfl 1 (by decide) w20 (fun _ h9 => h9) rfl dX2_addClerk_23 ?_
        refine va_alen (D := D) hx hb hK hP 9 2 rfl rfl (v := 6) rfl dX2_addClerk_26 ?_
        refine lv_icmp_lt (tgt := 33) hx hb dX2_addClerk_27 (by decide) (fun c4 => ?_) (fun c4 => ?_)
        · replace hf := op_t c4 hf
          refine lv_aload_n hx hb dX2_addClerk_33 rfl (lv_at hl 0 rfl) ?_
          refine va_get (D := D) (ci := 2) (v := .ref (o 9)) (C := RX2) (T := TX2) (N := 5) hx hb hts iX2 hown hK hP 0 rfl rfl 1 (by decide) w20 (fun _ h9 => h9) rfl dX2_addClerk_34 ?_
          refine lv_aload_n hx hb dX2_addClerk_37 rfl (lv_at hl 0 rfl) ?_
          refine va_get (D := D) (ci := 2) (v := .int cc) (C := RX2) (T := TX2) (N := 5) hx hb hts iX2 hown hK hP 0 rfl rfl 2 (by decide) w24 (fun _ h9 => h9) rfl dX2_addClerk_38 ?_
          obtain ⟨q5, hf⟩ := op_x hf
          refine ck_aald (j := (cc).toNatClampNeg) (v := o (10 + (cc).toNatClampNeg)) hx hb hK hP 9 2 rfl rfl q5 rfl rfl dX2_addClerk_41 ?_
          refine lv_iload_n hx hb dX2_addClerk_42 rfl (lv_at hl 1 rfl) ?_
          refine va_put (D := D) (ci := 0) (v := .int x1) (ty := .int) (C := RX0) (T := TX0) (N := 7) hx hb hts iX0 tyX0 tyX0_ok nmX0 hown hK hP hD hS (10 + (cc).toNatClampNeg) (lk_O (in_lt q5)) rfl 0 (by decide) w49 (fun _ h9 => h9) rfl (by decide +kernel) rfl rfl (Nat.le_of_ble_eq_true rfl) dX2_addClerk_43 (fun H locs hP hD hS => ?_)
          obtain ⟨y6, e7, hf⟩ := nb_o hf
          replace hP := st_OP (in_lt q5) e7 hP
          replace hD := st_OD (in_lt q5) e7 hD
          refine lv_aload_n hx hb dX2_addClerk_46 rfl (lv_at hl 0 rfl) ?_
          refine lv_dup hx hb dX2_addClerk_47 rfl ?_
          refine va_get (D := D) (ci := 2) (v := .int cc) (C := RX2) (T := TX2) (N := 5) hx hb hts iX2 hown hK hP 0 rfl rfl 2 (by decide) w24 (fun _ h9 => h9) rfl dX2_addClerk_48 ?_
          refine lv_iconst (v := 1) hx hb dX2_addClerk_51 (by decide) ?_
          refine lv_iadd hx hb dX2_addClerk_52 ?_
          refine va_put (D := D) (ci := 2) (v := .int (cc + 1)) (ty := .int) (C := RX2) (T := TX2) (N := 5) hx hb hts iX2 tyX2 tyX2_ok nmX2 hown hK hP hD hS 0 rfl rfl 2 (by decide) w24 (fun _ h9 => h9) rfl (by decide +kernel) rfl rfl (Nat.le_of_ble_eq_true rfl) dX2_addClerk_53 (fun H locs hP hD hS => ?_)
          replace hP : va_P D vwCl (wO cI cK o ns no nr nt nd ni nm nf y6 (cc + 1) cs ct) H := hP
          replace hD : va_D A (wO cI cK o ns no nr nt nd ni nm nf y6 (cc + 1) cs ct) := hD
          refine lv_aload_n hx hb dX2_addClerk_56 rfl (lv_at hl 0 rfl) ?_
          refine va_get (D := D) (ci := 2) (v := .int (cc + 1)) (C := RX2) (T := TX2) (N := 5) hx hb hts iX2 hown hK hP 0 rfl rfl 2 (by decide) w24 (fun _ h9 => h9) rfl dX2_addClerk_57 ?_
          refine lv_iconst (v := 1) hx hb dX2_addClerk_60 (by decide) ?_
          refine lv_isub hx hb dX2_addClerk_61 ?_
          exact hret _ _ _ _ _ (y6, (cc + 1)) dX2_addClerk_62 (op_k hf) hP hS
        · replace hf := op_f c4 hf
          refine lv_bipush (v := (-3)) hx hb dX2_addClerk_30 (by decide) ?_
          exact hret _ _ _ _ _ (cl, cc) dX2_addClerk_32 (op_k hf) hP hS
    · replace hf := op_f c2 hf
      refine lv_iconst (v := (-1)) hx hb dX2_addClerk_9 (by decide) ?_
      exact hret _ _ _ _ _ (cl, cc) dX2_addClerk_10 (op_k hf) hP hS
set_option maxHeartbeats 4000000 in
set_option maxRecDepth 100000 in
theorem c_X2_available (l : Launch) (D : va_G) (cI cC cK cO : ClassId) (tL tM : Nat) (adK adV : Nat → Nat) (o : Nat → Nat) (ns : Nat → Int32) (no : Nat → Int32) (nr : Nat → Int32) (nt : Nat → Int32) (nd : Nat → Int32) (ni : Nat → Int32) (nm : Int32) (nf : Int32) (cl : Nat → Nat → Int32) (cc : Int32) (cs : Nat → Int32) (ct : Int32) (x1 : Int32) (K : Nat) (R : Int32) (hf : f_X2_available K ns cl cc cs x1 = some R) : KI l D (TY cI cC cK cO) (gE tL tM adK adV) yX2_available wsX2_available 2 [.ref (o 0), .int x1] (wO cI cK o ns no nr nt nd ni nm nf cl cc cs ct) (fun (r : Int32) (u : Unit) => r = R) (fun u => (wO cI cK o ns no nr nt nd ni nm nf cl cc cs ct)) := by
  refine KI.ofI (cc := cX2_available) (maxL := 3) (C := RX2) (by decide) rfl rfl (Nat.le_of_ble_eq_true rfl) ?_
  intro p e s m args below meth c A Q hx hb hml hts hown hP hK hD hA hE hS hret ls hl
  replace hl : lv_has ls 3 [(0, .ref (o 0)), (1, .int x1)] := hl
  have w12 := hts (.fieldLink RX2 12 "BlockClerks$Office" "numbers" "LBlockClerks$Numbers;") (by decide +kernel)
  have w20 := hts (.fieldLink RX2 20 "BlockClerks$Office" "clerks" "[LBlockClerks$Clerk;") (by decide +kernel)
  have w28 := hts (.fieldLink RX2 28 "BlockClerks$Office" "settings" "[I") (by decide +kernel)
  have iX2 : ∀ w ∈ wsX20, w ∈ wsX2_available := by decide +kernel
  rw [f_X2_available] at hf
  refine lv_aload_n hx hb dX2_available_0 rfl (lv_at hl 0 rfl) ?_
  refine lv_iload_n hx hb dX2_available_1 rfl (lv_at hl 1 rfl) ?_
  refine ck_VI (st := [.int x1, .ref (o 0)]) (rest := []) (As := [.int x1]) (C := RX2) (ci := 2) ⟨hx, hb, hml, hown, hts⟩ (gE_ok tL tM adK adV) (c_X2_isClerk l D cI cC cK cO tL tM adK adV o ns no nr nt nd ni nm nf cl cc cs ct x1 _ rfl) (cwV 1 hts gX2_available_X2_isClerk rfl rfl rfl hv_X2_isClerk ⟨Nat.le_of_ble_eq_true rfl, Nat.le_of_ble_eq_true rfl⟩) hK hP hD hS hA hE [0, 1, 2, 3, 4, 5, 6, 7, 8, 9, 10, 11, 12, 13, 14, 15] rfl rfl rfl rfl rfl (fun _ => rfl) rfl hl.1 rfl (Nat.le_of_ble_eq_true rfl) dX2_available_2 ⟨Nat.zero_le _, Nat.zero_le _⟩ (fun r u H locs hw hP hD hS => ?_)
  obtain ⟨hw, z2⟩ := hw
  cases hw
  replace hP : va_P D vwCl (wO cI cK o ns no nr nt nd ni nm nf cl cc cs ct) H := hP
  replace hD : va_D A (wO cI cK o ns no nr nt nd ni nm nf cl cc cs ct) := hD
  refine lv_if_ne (tgt := 10) hx hb dX2_available_5 (by decide) (fun c3 => ?_) (fun c3 => ?_)
  · replace hf := op_f c3 hf
    refine lv_aload_n hx hb dX2_available_10 rfl (lv_at hl 0 rfl) ?_
    refine va_get (D := D) (ci := 2) (v := .ref (o 8)) (C := RX2) (T := TX2) (N := 5) hx hb hts iX2 hown hK hP 0 rfl rfl 3 (by decide) w28 (fun _ h9 => h9) rfl dX2_available_11 ?_
    refine lv_iconst (v := 1) hx hb dX2_available_14 (by decide) ?_
    refine ck_iald (j := 1) hx hb hK hP 8 0 rfl rfl (in_lit (by decide)) (by decide) dX2_available_15 ?_
    refine lv_iconst (v := 1) hx hb dX2_available_16 (by decide) ?_
    refine lv_icmp_ne (tgt := 35) hx hb dX2_available_17 (by decide) (fun c4 => ?_) (fun c4 => ?_)
    · replace hf := op_f c4 hf
      refine lv_iconst (v := 0) hx hb dX2_available_35 (by decide) ?_
      refine lv_istore_n (lv' := [(2, .int 0), (0, .ref (o 0)), (1, .int x1)]) hx hb dX2_available_36 rfl hl (by decide) rfl (fun ls hl => ?_)
      refine lv_aload_n hx hb dX2_available_37 rfl (lv_at hl 1 rfl) ?_
      refine va_get (D := D) (ci := 2) (v := .ref (o 9)) (C := RX2) (T := TX2) (N := 5) hx hb hts iX2 hown hK hP 0 rfl rfl 1 (by decide) w20 (fun _ h9 => h9) rfl dX2_available_38 ?_
      refine lv_iload_n hx hb dX2_available_41 rfl (lv_at hl 2 rfl) ?_
      obtain ⟨q5, hf⟩ := op_x hf
      refine ck_aald (j := (x1).toNatClampNeg) (v := o (10 + (x1).toNatClampNeg)) hx hb hK hP 9 2 rfl rfl q5 rfl rfl dX2_available_42 ?_
      refine ck_VI (st := [.ref (o (10 + (x1).toNatClampNeg))]) (rest := []) (As := []) (C := RX0) (ci := 0) ⟨hx, hb, hml, hown, hts⟩ (gE_ok tL tM adK adV) (c_X0_held l D cI cC cK cO tL tM adK adV (o (10 + (x1).toNatClampNeg)) (cl (x1).toNatClampNeg)  _ rfl) (cwV 0 hts gX2_available_X0_held rfl rfl rfl hv_X0_held ⟨Nat.le_of_ble_eq_true rfl, Nat.le_of_ble_eq_true rfl⟩) hK hP hD hS hA hE [10 + (x1).toNatClampNeg] (pl_O (in_lt q5)) rfl rfl rfl rfl (fun _ => rfl) rfl hl.1 rfl (Nat.le_of_ble_eq_true rfl) dX2_available_43 ⟨Nat.zero_le _, Nat.zero_le _⟩ (fun r u H locs hw hP hD hS => ?_)
      cases hw
      replace hP := st_OP0 (in_lt q5) hP
      replace hD := st_OD0 (in_lt q5) hD
      refine lv_aload_n hx hb dX2_available_46 rfl (lv_at hl 1 rfl) ?_
      refine va_get (D := D) (ci := 2) (v := .ref (o 1)) (C := RX2) (T := TX2) (N := 5) hx hb hts iX2 hown hK hP 0 rfl rfl 0 (by decide) w12 (fun _ h9 => h9) rfl dX2_available_47 ?_
      refine lv_iconst (v := 1) hx hb dX2_available_50 (by decide) ?_
      refine lv_sipush (v := 600) hx hb dX2_available_51 (by decide) ?_
      refine lv_iconst (v := 0) hx hb dX2_available_54 (by decide) ?_
      obtain ⟨r8, h9, hf⟩ := op_b hf
      refine ck_VI (st := [.int 0, .int 600, .int 1, .ref (o 1), .int (f_X0_held (cl (x1).toNatClampNeg))]) (rest := [.int (f_X0_held (cl (x1).toNatClampNeg))]) (As := [.int 1, .int 600, .int 0]) (C := RX1) (ci := 1) ⟨hx, hb, hml, hown, hts⟩ (gE_ok tL tM adK adV) (c_X1_inState l D cI cC cK cO tL tM adK adV (o 1) (o 2) (o 3) (o 4) (o 5) (o 6) (o 7) ns no nr nt nd ni nm nf 1 600 0 K _ h9) (cwV 3 hts gX2_available_X1_inState rfl rfl rfl hv_X1_inState ⟨Nat.le_of_ble_eq_true rfl, Nat.le_of_ble_eq_true rfl⟩) hK hP hD hS hA hE [1, 2, 3, 4, 5, 6, 7] rfl rfl rfl rfl rfl (fun _ => rfl) rfl hl.1 rfl (Nat.le_of_ble_eq_true rfl) dX2_available_55 ⟨Nat.zero_le _, Nat.zero_le _⟩ (fun r u H locs hw hP hD hS => ?_)
      cases hw
      replace hP : va_P D vwCl (wO cI cK o ns no nr nt nd ni nm nf cl cc cs ct) H := hP
      replace hD : va_D A (wO cI cK o ns no nr nt nd ni nm nf cl cc cs ct) := hD
      refine lv_iadd hx hb dX2_available_58 ?_
      refine lv_iload_n hx hb dX2_available_59 rfl (lv_at hl 0 rfl) ?_
      refine lv_iadd hx hb dX2_available_60 ?_
      exact hret _ _ _ _ _ () dX2_available_61 (op_k hf) hP hS
    · replace hf := op_t c4 hf
      refine lv_aload_n hx hb dX2_available_20 rfl (lv_at hl 0 rfl) ?_
      refine va_get (D := D) (ci := 2) (v := .ref (o 1)) (C := RX2) (T := TX2) (N := 5) hx hb hts iX2 hown hK hP 0 rfl rfl 0 (by decide) w12 (fun _ h9 => h9) rfl dX2_available_21 ?_
      refine lv_iconst (v := 1) hx hb dX2_available_24 (by decide) ?_
      refine lv_sipush (v := 600) hx hb dX2_available_25 (by decide) ?_
      refine lv_iconst (v := 3) hx hb dX2_available_28 (by decide) ?_
      obtain ⟨r11, h12, hf⟩ := op_b hf
      refine ck_VI (st := [.int 3, .int 600, .int 1, .ref (o 1)]) (rest := []) (As := [.int 1, .int 600, .int 3]) (C := RX1) (ci := 1) ⟨hx, hb, hml, hown, hts⟩ (gE_ok tL tM adK adV) (c_X1_inState l D cI cC cK cO tL tM adK adV (o 1) (o 2) (o 3) (o 4) (o 5) (o 6) (o 7) ns no nr nt nd ni nm nf 1 600 3 K _ h12) (cwV 3 hts gX2_available_X1_inState rfl rfl rfl hv_X1_inState ⟨Nat.le_of_ble_eq_true rfl, Nat.le_of_ble_eq_true rfl⟩) hK hP hD hS hA hE [1, 2, 3, 4, 5, 6, 7] rfl rfl rfl rfl rfl (fun _ => rfl) rfl hl.1 rfl (Nat.le_of_ble_eq_true rfl) dX2_available_29 ⟨Nat.zero_le _, Nat.zero_le _⟩ (fun r u H locs hw hP hD hS => ?_)
      cases hw
      replace hP : va_P D vwCl (wO cI cK o ns no nr nt nd ni nm nf cl cc cs ct) H := hP
      replace hD : va_D A (wO cI cK o ns no nr nt nd ni nm nf cl cc cs ct) := hD
      refine lv_goto (tgt := 36) hx hb dX2_available_32 (by decide) ?_
      refine lv_istore_n (lv' := [(2, .int r11), (0, .ref (o 0)), (1, .int x1)]) hx hb dX2_available_36 rfl hl (by decide) rfl (fun ls hl => ?_)
      refine lv_aload_n hx hb dX2_available_37 rfl (lv_at hl 1 rfl) ?_
      refine va_get (D := D) (ci := 2) (v := .ref (o 9)) (C := RX2) (T := TX2) (N := 5) hx hb hts iX2 hown hK hP 0 rfl rfl 1 (by decide) w20 (fun _ h9 => h9) rfl dX2_available_38 ?_
      refine lv_iload_n hx hb dX2_available_41 rfl (lv_at hl 2 rfl) ?_
      obtain ⟨q14, hf⟩ := op_x hf
      refine ck_aald (j := (x1).toNatClampNeg) (v := o (10 + (x1).toNatClampNeg)) hx hb hK hP 9 2 rfl rfl q14 rfl rfl dX2_available_42 ?_
      refine ck_VI (st := [.ref (o (10 + (x1).toNatClampNeg))]) (rest := []) (As := []) (C := RX0) (ci := 0) ⟨hx, hb, hml, hown, hts⟩ (gE_ok tL tM adK adV) (c_X0_held l D cI cC cK cO tL tM adK adV (o (10 + (x1).toNatClampNeg)) (cl (x1).toNatClampNeg)  _ rfl) (cwV 0 hts gX2_available_X0_held rfl rfl rfl hv_X0_held ⟨Nat.le_of_ble_eq_true rfl, Nat.le_of_ble_eq_true rfl⟩) hK hP hD hS hA hE [10 + (x1).toNatClampNeg] (pl_O (in_lt q14)) rfl rfl rfl rfl (fun _ => rfl) rfl hl.1 rfl (Nat.le_of_ble_eq_true rfl) dX2_available_43 ⟨Nat.zero_le _, Nat.zero_le _⟩ (fun r u H locs hw hP hD hS => ?_)
      cases hw
      replace hP := st_OP0 (in_lt q14) hP
      replace hD := st_OD0 (in_lt q14) hD
      refine lv_aload_n hx hb dX2_available_46 rfl (lv_at hl 1 rfl) ?_
      refine va_get (D := D) (ci := 2) (v := .ref (o 1)) (C := RX2) (T := TX2) (N := 5) hx hb hts iX2 hown hK hP 0 rfl rfl 0 (by decide) w12 (fun _ h9 => h9) rfl dX2_available_47 ?_
      refine lv_iconst (v := 1) hx hb dX2_available_50 (by decide) ?_
      refine lv_sipush (v := 600) hx hb dX2_available_51 (by decide) ?_
      refine lv_iconst (v := 0) hx hb dX2_available_54 (by decide) ?_
      obtain ⟨r17, h18, hf⟩ := op_b hf
      refine ck_VI (st := [.int 0, .int 600, .int 1, .ref (o 1), .int (f_X0_held (cl (x1).toNatClampNeg))]) (rest := [.int (f_X0_held (cl (x1).toNatClampNeg))]) (As := [.int 1, .int 600, .int 0]) (C := RX1) (ci := 1) ⟨hx, hb, hml, hown, hts⟩ (gE_ok tL tM adK adV) (c_X1_inState l D cI cC cK cO tL tM adK adV (o 1) (o 2) (o 3) (o 4) (o 5) (o 6) (o 7) ns no nr nt nd ni nm nf 1 600 0 K _ h18) (cwV 3 hts gX2_available_X1_inState rfl rfl rfl hv_X1_inState ⟨Nat.le_of_ble_eq_true rfl, Nat.le_of_ble_eq_true rfl⟩) hK hP hD hS hA hE [1, 2, 3, 4, 5, 6, 7] rfl rfl rfl rfl rfl (fun _ => rfl) rfl hl.1 rfl (Nat.le_of_ble_eq_true rfl) dX2_available_55 ⟨Nat.zero_le _, Nat.zero_le _⟩ (fun r u H locs hw hP hD hS => ?_)
      cases hw
      replace hP : va_P D vwCl (wO cI cK o ns no nr nt nd ni nm nf cl cc cs ct) H := hP
      replace hD : va_D A (wO cI cK o ns no nr nt nd ni nm nf cl cc cs ct) := hD
      refine lv_iadd hx hb dX2_available_58 ?_
      refine lv_iload_n hx hb dX2_available_59 rfl (lv_at hl 0 rfl) ?_
      refine lv_iadd hx hb dX2_available_60 ?_
      exact hret _ _ _ _ _ () dX2_available_61 (op_k hf) hP hS
  · replace hf := op_t c3 hf
    refine lv_iconst (v := 0) hx hb dX2_available_8 (by decide) ?_
    exact hret _ _ _ _ _ () dX2_available_9 (op_k hf) hP hS
set_option maxHeartbeats 4000000 in
set_option maxRecDepth 100000 in
theorem c_X2_startOfBlock (l : Launch) (D : va_G) (cI cC cK cO : ClassId) (tL tM : Nat) (adK adV : Nat → Nat) (o : Nat → Nat) (ns : Nat → Int32) (no : Nat → Int32) (nr : Nat → Int32) (nt : Nat → Int32) (nd : Nat → Int32) (ni : Nat → Int32) (nm : Int32) (nf : Int32) (cl : Nat → Nat → Int32) (cc : Int32) (cs : Nat → Int32) (ct : Int32) (K : Nat) (R : Int32) (hf : f_X2_startOfBlock K ns nf cs = some R) : KI l D (TY cI cC cK cO) (gE tL tM adK adV) yX2_startOfBlock wsX2_startOfBlock 1 [.ref (o 0)] (wO cI cK o ns no nr nt nd ni nm nf cl cc cs ct) (fun (r : Int32) (u : Unit) => r = R) (fun u => (wO cI cK o ns no nr nt nd ni nm nf cl cc cs ct)) := by
  refine KI.ofI (cc := cX2_startOfBlock) (maxL := 2) (C := RX2) (by decide) rfl rfl (Nat.le_of_ble_eq_true rfl) ?_
  intro p e s m args below meth c A Q hx hb hml hts hown hP hK hD hA hE hS hret ls hl
  replace hl : lv_has ls 2 [(0, .ref (o 0))] := hl
  have w12 := hts (.fieldLink RX2 12 "BlockClerks$Office" "numbers" "LBlockClerks$Numbers;") (by decide +kernel)
  have w28 := hts (.fieldLink RX2 28 "BlockClerks$Office" "settings" "[I") (by decide +kernel)
  have w82 := hts (.fieldLink RX2 82 "BlockClerks$Numbers" "firstNew" "I") (by decide +kernel)
  have iX1 : ∀ w ∈ wsX10, w ∈ wsX2_startOfBlock := by decide +kernel
  have iX2 : ∀ w ∈ wsX20, w ∈ wsX2_startOfBlock := by decide +kernel
  rw [f_X2_startOfBlock] at hf
  refine lv_aload_n hx hb dX2_startOfBlock_0 rfl (lv_at hl 0 rfl) ?_
  refine va_get (D := D) (ci := 2) (v := .ref (o 8)) (C := RX2) (T := TX2) (N := 5) hx hb hts iX2 hown hK hP 0 rfl rfl 3 (by decide) w28 (fun _ h9 => h9) rfl dX2_startOfBlock_1 ?_
  refine lv_iconst (v := 1) hx hb dX2_startOfBlock_4 (by decide) ?_
  refine ck_iald (j := 1) hx hb hK hP 8 0 rfl rfl (in_lit (by decide)) (by decide) dX2_startOfBlock_5 ?_
  refine lv_iconst (v := 1) hx hb dX2_startOfBlock_6 (by decide) ?_
  refine lv_icmp_ne (tgt := 20) hx hb dX2_startOfBlock_7 (by decide) (fun c1 => ?_) (fun c1 => ?_)
  · replace hf := op_f c1 hf
    refine lv_iconst (v := (-1)) hx hb dX2_startOfBlock_20 (by decide) ?_
    refine lv_istore_n (lv' := [(1, .int (-1)), (0, .ref (o 0))]) hx hb dX2_startOfBlock_21 rfl hl (by decide) rfl (fun ls hl => ?_)
    refine lv_iload_n hx hb dX2_startOfBlock_22 rfl (lv_at hl 0 rfl) ?_
    refine lv_iconst (v := (-1)) hx hb dX2_startOfBlock_23 (by decide) ?_
    refine lv_icmp_ne (tgt := 37) hx hb dX2_startOfBlock_24 (by decide) (fun c9 => absurd c9 (by decide)) (fun _ => ?_)
    refine lv_aload_n hx hb dX2_startOfBlock_27 rfl (lv_at hl 1 rfl) ?_
    refine va_get (D := D) (ci := 2) (v := .ref (o 1)) (C := RX2) (T := TX2) (N := 5) hx hb hts iX2 hown hK hP 0 rfl rfl 0 (by decide) w12 (fun _ h9 => h9) rfl dX2_startOfBlock_28 ?_
    refine va_get (D := D) (ci := 1) (v := .int nf) (C := RX1) (T := TX1) (N := 8) hx hb hts iX1 hown hK hP 1 rfl rfl 7 (by decide) w82 (fun _ h9 => h9) rfl dX2_startOfBlock_31 ?_
    refine lv_goto (tgt := 38) hx hb dX2_startOfBlock_34 (by decide) ?_
    exact hret _ _ _ _ _ () dX2_startOfBlock_38 (op_k hf) hP hS
  · replace hf := op_t c1 hf
    refine lv_aload_n hx hb dX2_startOfBlock_10 rfl (lv_at hl 0 rfl) ?_
    refine va_get (D := D) (ci := 2) (v := .ref (o 1)) (C := RX2) (T := TX2) (N := 5) hx hb hts iX2 hown hK hP 0 rfl rfl 0 (by decide) w12 (fun _ h9 => h9) rfl dX2_startOfBlock_11 ?_
    obtain ⟨r2, h3, hf⟩ := op_b hf
    refine ck_VI (st := [.ref (o 1)]) (rest := []) (As := []) (C := RX1) (ci := 1) ⟨hx, hb, hml, hown, hts⟩ (gE_ok tL tM adK adV) (c_X1_lowestFree l D cI cC cK cO tL tM adK adV (o 1) (o 2) (o 3) (o 4) (o 5) (o 6) (o 7) ns no nr nt nd ni nm nf  K _ h3) (cwV 0 hts gX2_startOfBlock_X1_lowestFree rfl rfl rfl hv_X1_lowestFree ⟨Nat.le_of_ble_eq_true rfl, Nat.le_of_ble_eq_true rfl⟩) hK hP hD hS hA hE [1, 2, 3, 4, 5, 6, 7] rfl rfl rfl rfl rfl (fun _ => rfl) rfl hl.1 rfl (Nat.le_of_ble_eq_true rfl) dX2_startOfBlock_14 ⟨Nat.zero_le _, Nat.zero_le _⟩ (fun r u H locs hw hP hD hS => ?_)
    cases hw
    replace hP : va_P D vwCl (wO cI cK o ns no nr nt nd ni nm nf cl cc cs ct) H := hP
    replace hD : va_D A (wO cI cK o ns no nr nt nd ni nm nf cl cc cs ct) := hD
    refine lv_goto (tgt := 21) hx hb dX2_startOfBlock_17 (by decide) ?_
    refine lv_istore_n (lv' := [(1, .int r2), (0, .ref (o 0))]) hx hb dX2_startOfBlock_21 rfl hl (by decide) rfl (fun ls hl => ?_)
    refine lv_iload_n hx hb dX2_startOfBlock_22 rfl (lv_at hl 0 rfl) ?_
    refine lv_iconst (v := (-1)) hx hb dX2_startOfBlock_23 (by decide) ?_
    refine lv_icmp_ne (tgt := 37) hx hb dX2_startOfBlock_24 (by decide) (fun c5 => ?_) (fun c5 => ?_)
    · replace hf := op_f c5 hf
      refine lv_iload_n hx hb dX2_startOfBlock_37 rfl (lv_at hl 0 rfl) ?_
      exact hret _ _ _ _ _ () dX2_startOfBlock_38 (op_k hf) hP hS
    · replace hf := op_t c5 hf
      refine lv_aload_n hx hb dX2_startOfBlock_27 rfl (lv_at hl 1 rfl) ?_
      refine va_get (D := D) (ci := 2) (v := .ref (o 1)) (C := RX2) (T := TX2) (N := 5) hx hb hts iX2 hown hK hP 0 rfl rfl 0 (by decide) w12 (fun _ h9 => h9) rfl dX2_startOfBlock_28 ?_
      refine va_get (D := D) (ci := 1) (v := .int nf) (C := RX1) (T := TX1) (N := 8) hx hb hts iX1 hown hK hP 1 rfl rfl 7 (by decide) w82 (fun _ h9 => h9) rfl dX2_startOfBlock_31 ?_
      refine lv_goto (tgt := 38) hx hb dX2_startOfBlock_34 (by decide) ?_
      exact hret _ _ _ _ _ () dX2_startOfBlock_38 (op_k hf) hP hS
set_option maxHeartbeats 4000000 in
set_option maxRecDepth 100000 in
theorem c_X2_handOut (l : Launch) (D : va_G) (cI cC cK cO : ClassId) (tL tM : Nat) (adK adV : Nat → Nat) (o : Nat → Nat) (ns : Nat → Int32) (no : Nat → Int32) (nr : Nat → Int32) (nt : Nat → Int32) (nd : Nat → Int32) (ni : Nat → Int32) (nm : Int32) (nf : Int32) (cl : Nat → Nat → Int32) (cc : Int32) (cs : Nat → Int32) (ct : Int32) (x1 : Int32) (K : Nat) (R : (Nat → Int32) × (Nat → Int32) × (Nat → Int32) × Int32 × (Nat → Nat → Int32)) (hf : f_X2_handOut K ns no nr nf cl cc cs x1 = some R) : KV l D (TY cI cC cK cO) (gE tL tM adK adV) yX2_handOut wsX2_handOut 2 [.ref (o 0), .int x1] (wO cI cK o ns no nr nt nd ni nm nf cl cc cs ct) (fun (u : (Nat → Int32) × (Nat → Int32) × (Nat → Int32) × Int32 × (Nat → Nat → Int32)) => u = R) (fun u => (wO cI cK o (u.1) (u.2.1) (u.2.2.1) nt nd ni nm (u.2.2.2.1) (u.2.2.2.2) cc cs ct)) := by
  refine KV.of (cc := cX2_handOut) (maxL := 4) (C := RX2) (by decide) rfl rfl (Nat.le_of_ble_eq_true rfl) ?_
  intro p e s m args below meth c A Q hx hb hml hts hown hP hK hD hA hE hS hret ls hl
  replace hl : lv_has ls 4 [(0, .ref (o 0)), (1, .int x1)] := hl
  have w12 := hts (.fieldLink RX2 12 "BlockClerks$Office" "numbers" "LBlockClerks$Numbers;") (by decide +kernel)
  have w20 := hts (.fieldLink RX2 20 "BlockClerks$Office" "clerks" "[LBlockClerks$Clerk;") (by decide +kernel)
  have w28 := hts (.fieldLink RX2 28 "BlockClerks$Office" "settings" "[I") (by decide +kernel)
  have iX2 : ∀ w ∈ wsX20, w ∈ wsX2_handOut := by decide +kernel
  rw [f_X2_handOut] at hf
  refine lv_aload_n hx hb dX2_handOut_0 rfl (lv_at hl 0 rfl) ?_
  obtain ⟨r1, h2, hf⟩ := op_b hf
  refine ck_VI (st := [.ref (o 0)]) (rest := []) (As := []) (C := RX2) (ci := 2) ⟨hx, hb, hml, hown, hts⟩ (gE_ok tL tM adK adV) (c_X2_startOfBlock l D cI cC cK cO tL tM adK adV o ns no nr nt nd ni nm nf cl cc cs ct  K _ h2) (cwV 0 hts gX2_handOut_X2_startOfBlock rfl rfl rfl hv_X2_startOfBlock ⟨Nat.le_of_ble_eq_true rfl, Nat.le_of_ble_eq_true rfl⟩) hK hP hD hS hA hE [0, 1, 2, 3, 4, 5, 6, 7, 8, 9, 10, 11, 12, 13, 14, 15] rfl rfl rfl rfl rfl (fun _ => rfl) rfl hl.1 rfl (Nat.le_of_ble_eq_true rfl) dX2_handOut_1 ⟨Nat.zero_le _, Nat.zero_le _⟩ (fun r u H locs hw hP hD hS => ?_)
  cases hw
  replace hP : va_P D vwCl (wO cI cK o ns no nr nt nd ni nm nf cl cc cs ct) H := hP
  replace hD : va_D A (wO cI cK o ns no nr nt nd ni nm nf cl cc cs ct) := hD
  refine lv_istore_n (lv' := [(2, .int r1), (0, .ref (o 0)), (1, .int x1)]) hx hb dX2_handOut_4 rfl hl (by decide) rfl (fun ls hl => ?_)
  refine lv_aload_n hx hb dX2_handOut_5 rfl (lv_at hl 1 rfl) ?_
  refine lv_iload_n hx hb dX2_handOut_6 rfl (lv_at hl 2 rfl) ?_
  refine ck_VI (st := [.int x1, .ref (o 0)]) (rest := []) (As := [.int x1]) (C := RX2) (ci := 2) ⟨hx, hb, hml, hown, hts⟩ (gE_ok tL tM adK adV) (c_X2_isClerk l D cI cC cK cO tL tM adK adV o ns no nr nt nd ni nm nf cl cc cs ct x1 _ rfl) (cwV 1 hts gX2_handOut_X2_isClerk rfl rfl rfl hv_X2_isClerk ⟨Nat.le_of_ble_eq_true rfl, Nat.le_of_ble_eq_true rfl⟩) hK hP hD hS hA hE [0, 1, 2, 3, 4, 5, 6, 7, 8, 9, 10, 11, 12, 13, 14, 15] rfl rfl rfl rfl rfl (fun _ => rfl) rfl hl.1 rfl (Nat.le_of_ble_eq_true rfl) dX2_handOut_7 ⟨Nat.zero_le _, Nat.zero_le _⟩ (fun r u H locs hw hP hD hS => ?_)
  obtain ⟨hw, z5⟩ := hw
  cases hw
  replace hP : va_P D vwCl (wO cI cK o ns no nr nt nd ni nm nf cl cc cs ct) H := hP
  replace hD : va_D A (wO cI cK o ns no nr nt nd ni nm nf cl cc cs ct) := hD
  refine lv_if_eq (tgt := 20) hx hb dX2_handOut_10 (by decide) (fun c6 => ?_) (fun c6 => ?_)
  · replace hf := op_t c6 hf
    exact hret _ _ _ _ (ns, no, nr, nf, cl) dX2_handOut_20 (op_k hf) hP hS
  · replace hf := op_f c6 hf
    refine lv_iload_n hx hb dX2_handOut_13 rfl (lv_at hl 0 rfl) ?_
    refine ck_SI (st := [.int r1]) (rest := []) (As := [.int r1]) ⟨hx, hb, hml, hown, hts⟩ (gE_ok tL tM adK adV) (c_X1_isNumber l D cI cC cK cO tL tM adK adV  r1 _ rfl) (va_cwS 1 hts gX2_handOut_X1_isNumber rfl rfl rfl hs_X1_isNumber ⟨Nat.le_of_ble_eq_true rfl, Nat.le_of_ble_eq_true rfl⟩) hK hP hD hS hA hE rfl hl.1 rfl (Nat.le_of_ble_eq_true rfl) dX2_handOut_14 ⟨Nat.zero_le _, Nat.zero_le _⟩ (fun r H locs hw hP hS => ?_)
    obtain ⟨hw, z8⟩ := hw
    cases hw
    refine lv_if_ne (tgt := 21) hx hb dX2_handOut_17 (by decide) (fun c9 => ?_) (fun c9 => ?_)
    · replace hf := op_f c9 hf
      refine lv_aload_n hx hb dX2_handOut_21 rfl (lv_at hl 1 rfl) ?_
      refine va_get (D := D) (ci := 2) (v := .ref (o 1)) (C := RX2) (T := TX2) (N := 5) hx hb hts iX2 hown hK hP 0 rfl rfl 0 (by decide) w12 (fun _ h9 => h9) rfl dX2_handOut_22 ?_
      refine lv_iload_n hx hb dX2_handOut_25 rfl (lv_at hl 0 rfl) ?_
      refine lv_iload_n hx hb dX2_handOut_26 rfl (lv_at hl 0 rfl) ?_
      refine lv_aload_n hx hb dX2_handOut_27 rfl (lv_at hl 1 rfl) ?_
      refine va_get (D := D) (ci := 2) (v := .ref (o 8)) (C := RX2) (T := TX2) (N := 5) hx hb hts iX2 hown hK hP 0 rfl rfl 3 (by decide) w28 (fun _ h9 => h9) rfl dX2_handOut_28 ?_
      refine lv_iconst (v := 0) hx hb dX2_handOut_31 (by decide) ?_
      refine ck_iald (j := 0) hx hb hK hP 8 0 rfl rfl (in_lit (by decide)) (by decide) dX2_handOut_32 ?_
      refine lv_iadd hx hb dX2_handOut_33 ?_
      refine lv_iconst (v := 1) hx hb dX2_handOut_34 (by decide) ?_
      refine lv_isub hx hb dX2_handOut_35 ?_
      obtain ⟨r10, h11, hf⟩ := op_b hf
      refine ck_VI (st := [.int ((r1 + (cs 0)) - 1), .int r1, .ref (o 1)]) (rest := []) (As := [.int r1, .int ((r1 + (cs 0)) - 1)]) (C := RX1) (ci := 1) ⟨hx, hb, hml, hown, hts⟩ (gE_ok tL tM adK adV) (c_X1_lastOfRow l D cI cC cK cO tL tM adK adV (o 1) (o 2) (o 3) (o 4) (o 5) (o 6) (o 7) ns no nr nt nd ni nm nf r1 ((r1 + (cs 0)) - 1) K _ h11) (cwV 2 hts gX2_handOut_X1_lastOfRow rfl rfl rfl hv_X1_lastOfRow ⟨Nat.le_of_ble_eq_true rfl, Nat.le_of_ble_eq_true rfl⟩) hK hP hD hS hA hE [1, 2, 3, 4, 5, 6, 7] rfl rfl rfl rfl rfl (fun _ => rfl) rfl hl.1 rfl (Nat.le_of_ble_eq_true rfl) dX2_handOut_36 ⟨Nat.zero_le _, Nat.zero_le _⟩ (fun r u H locs hw hP hD hS => ?_)
      cases hw
      replace hP : va_P D vwCl (wO cI cK o ns no nr nt nd ni nm nf cl cc cs ct) H := hP
      replace hD : va_D A (wO cI cK o ns no nr nt nd ni nm nf cl cc cs ct) := hD
      refine lv_istore_n (lv' := [(3, .int r10), (2, .int r1), (0, .ref (o 0)), (1, .int x1)]) hx hb dX2_handOut_39 rfl hl (by decide) rfl (fun ls hl => ?_)
      refine lv_aload_n hx hb dX2_handOut_40 rfl (lv_at hl 2 rfl) ?_
      refine va_get (D := D) (ci := 2) (v := .ref (o 1)) (C := RX2) (T := TX2) (N := 5) hx hb hts iX2 hown hK hP 0 rfl rfl 0 (by decide) w12 (fun _ h9 => h9) rfl dX2_handOut_41 ?_
      refine lv_iload_n hx hb dX2_handOut_44 rfl (lv_at hl 1 rfl) ?_
      refine lv_iload_n hx hb dX2_handOut_45 rfl (lv_at hl 0 rfl) ?_
      refine lv_iconst (v := 1) hx hb dX2_handOut_46 (by decide) ?_
      refine lv_iload_n hx hb dX2_handOut_47 rfl (lv_at hl 3 rfl) ?_
      refine lv_iconst (v := (-1)) hx hb dX2_handOut_48 (by decide) ?_
      obtain ⟨⟨y14, y15, y16, y17⟩, h18, hf⟩ := op_b hf
      refine ck_VV (st := [.int (-1), .int x1, .int 1, .int r10, .int r1, .ref (o 1)]) (rest := []) (As := [.int r1, .int r10, .int 1, .int x1, .int (-1)]) (C := RX1) (ci := 1) ⟨hx, hb, hml, hown, hts⟩ (gE_ok tL tM adK adV) (c_X1_put l D cI cC cK cO tL tM adK adV (o 1) (o 2) (o 3) (o 4) (o 5) (o 6) (o 7) ns no nr nt nd ni nm nf r1 r10 1 x1 (-1) K _ h18) (cwV 5 hts gX2_handOut_X1_put rfl rfl rfl hv_X1_put ⟨Nat.le_of_ble_eq_true rfl, Nat.le_of_ble_eq_true rfl⟩) hK hP hD hS hA hE [1, 2, 3, 4, 5, 6, 7] rfl rfl rfl rfl rfl (fun _ => rfl) rfl hl.1 rfl (Nat.le_of_ble_eq_true rfl) dX2_handOut_49 ⟨Nat.zero_le _, Nat.zero_le _⟩ (fun u H locs hw hP hD hS => ?_)
      cases hw
      replace hP : va_P D vwCl (wO cI cK o y14 y15 y16 nt nd ni nm y17 cl cc cs ct) H := hP
      replace hD : va_D A (wO cI cK o y14 y15 y16 nt nd ni nm y17 cl cc cs ct) := hD
      refine lv_aload_n hx hb dX2_handOut_52 rfl (lv_at hl 2 rfl) ?_
      refine va_get (D := D) (ci := 2) (v := .ref (o 9)) (C := RX2) (T := TX2) (N := 5) hx hb hts iX2 hown hK hP 0 rfl rfl 1 (by decide) w20 (fun _ h9 => h9) rfl dX2_handOut_53 ?_
      refine lv_iload_n hx hb dX2_handOut_56 rfl (lv_at hl 3 rfl) ?_
      obtain ⟨q20, hf⟩ := op_x hf
      refine ck_aald (j := (x1).toNatClampNeg) (v := o (10 + (x1).toNatClampNeg)) hx hb hK hP 9 2 rfl rfl q20 rfl rfl dX2_handOut_57 ?_
      refine lv_iload_n hx hb dX2_handOut_58 rfl (lv_at hl 1 rfl) ?_
      refine lv_iload_n hx hb dX2_handOut_59 rfl (lv_at hl 0 rfl) ?_
      obtain ⟨y22, h23, hf⟩ := op_b hf
      refine ck_VV (st := [.int r10, .int r1, .ref (o (10 + (x1).toNatClampNeg))]) (rest := []) (As := [.int r1, .int r10]) (C := RX0) (ci := 0) ⟨hx, hb, hml, hown, hts⟩ (gE_ok tL tM adK adV) (c_X0_receive l D cI cC cK cO tL tM adK adV (o (10 + (x1).toNatClampNeg)) (cl (x1).toNatClampNeg) r1 r10 _ h23) (cwV 2 hts gX2_handOut_X0_receive rfl rfl rfl hv_X0_receive ⟨Nat.le_of_ble_eq_true rfl, Nat.le_of_ble_eq_true rfl⟩) hK hP hD hS hA hE [10 + (x1).toNatClampNeg] (pl_O (in_lt q20)) rfl rfl rfl rfl (fun _ => rfl) rfl hl.1 rfl (Nat.le_of_ble_eq_true rfl) dX2_handOut_60 ⟨Nat.zero_le _, Nat.zero_le _⟩ (fun u H locs hw hP hD hS => ?_)
      cases hw
      obtain ⟨y25, e26, hf⟩ := nb_o hf
      replace hP := st_OP (in_lt q20) e26 hP
      replace hD := st_OD (in_lt q20) e26 hD
      exact hret _ _ _ _ (y14, y15, y16, y17, y25) dX2_handOut_63 (op_k hf) hP hS
    · replace hf := op_t c9 hf
      exact hret _ _ _ _ (ns, no, nr, nf, cl) dX2_handOut_20 (op_k hf) hP hS
set_option maxHeartbeats 4000000 in
set_option maxRecDepth 100000 in
theorem c_X2_serve (l : Launch) (D : va_G) (cI cC cK cO : ClassId) (tL tM : Nat) (adK adV : Nat → Nat) (o : Nat → Nat) (ns : Nat → Int32) (no : Nat → Int32) (nr : Nat → Int32) (nt : Nat → Int32) (nd : Nat → Int32) (ni : Nat → Int32) (nm : Int32) (nf : Int32) (cl : Nat → Nat → Int32) (cc : Int32) (cs : Nat → Int32) (ct : Int32) (x1 : Int32) (x2 : Int32) (K : Nat) (R : Int32 × (Nat → Int32) × (Nat → Int32) × (Nat → Int32) × (Nat → Int32) × (Nat → Int32) × (Nat → Int32) × Int32 × Int32 × (Nat → Nat → Int32)) (hf : f_X2_serve K ns no nr nt nd ni nm nf cl cc cs ct x1 x2 = some R) : KI l D (TY cI cC cK cO) (gE tL tM adK adV) yX2_serve wsX2_serve 3 [.ref (o 0), .int x1, .int x2] (wO cI cK o ns no nr nt nd ni nm nf cl cc cs ct) (fun (r : Int32) (u : (Nat → Int32) × (Nat → Int32) × (Nat → Int32) × (Nat → Int32) × (Nat → Int32) × (Nat → Int32) × Int32 × Int32 × (Nat → Nat → Int32)) => (r, u) = R) (fun u => (wO cI cK o (u.1) (u.2.1) (u.2.2.1) (u.2.2.2.1) (u.2.2.2.2.1) (u.2.2.2.2.2.1) (u.2.2.2.2.2.2.1) (u.2.2.2.2.2.2.2.1) (u.2.2.2.2.2.2.2.2) cc cs ct)) := by
  refine KI.ofI (cc := cX2_serve) (maxL := 5) (C := RX2) (by decide) rfl rfl (Nat.le_of_ble_eq_true rfl) ?_
  intro p e s m args below meth c A Q hx hb hml hts hown hP hK hD hA hE hS hret ls hl
  replace hl : lv_has ls 5 [(0, .ref (o 0)), (1, .int x1), (2, .int x2)] := hl
  have w12 := hts (.fieldLink RX2 12 "BlockClerks$Office" "numbers" "LBlockClerks$Numbers;") (by decide +kernel)
  have w20 := hts (.fieldLink RX2 20 "BlockClerks$Office" "clerks" "[LBlockClerks$Clerk;") (by decide +kernel)
  have w28 := hts (.fieldLink RX2 28 "BlockClerks$Office" "settings" "[I") (by decide +kernel)
  have w32 := hts (.fieldLink RX2 32 "BlockClerks$Office" "today" "I") (by decide +kernel)
  have iX2 : ∀ w ∈ wsX20, w ∈ wsX2_serve := by decide +kernel
  have L_38 : ∀ (n : Nat) (ns : Nat → Int32) (no : Nat → Int32) (nr : Nat → Int32) (nt : Nat → Int32) (nd : Nat → Int32) (ni : Nat → Int32) (nm : Int32) (nf : Int32) (cl : Nat → Nat → Int32) (x1 : Int32) (x2 : Int32) (x3 : Int32) (x4 : Int32) (hf : f_X2_serve_38 K x1 x2 cc cs ct n x3 x4 ns no nr nt nd ni nm nf cl = some R) (H : Heap) (locs : List Loc) (ls : Array Slot), va_P D vwCl (wO cI cK o ns no nr nt nd ni nm nf cl cc cs ct) H → va_D A (wO cI cK o ns no nr nt nd ni nm nf cl cc cs ct) → va_S A s.heap H locs → lv_has ls 5 [(0, .ref (o 0)), (1, .int x1), (2, .int x2), (3, .int x3), (4, .int x4)] → W p l e (rm 3) s m args below meth c H locs 0 0 Q (F0 m 38 ls []) := by
    intro n
    induction n with
    | zero =>
      intro ns no nr nt nd ni nm nf cl x1 x2 x3 x4 hf
      cases hf
    | succ n ih =>
      intro ns no nr nt nd ni nm nf cl x1 x2 x3 x4 hf H locs ls hP hD hS hl
      rw [f_X2_serve_38] at hf
      refine lv_iload hx hb dX2_serve_38 (lv_at hl 4 rfl) ?_
      refine lv_iload_n hx hb dX2_serve_40 rfl (lv_at hl 2 rfl) ?_
      refine lv_icmp_ge (tgt := 96) hx hb dX2_serve_41 (by decide) (fun c10 => ?_) (fun c10 => ?_)
      · replace hf := op_t c10 hf
        refine lv_iload_n hx hb dX2_serve_96 rfl (lv_at hl 3 rfl) ?_
        exact hret _ _ _ _ _ (ns, no, nr, nt, nd, ni, nm, nf, cl) dX2_serve_97 (op_k hf) hP hS
      · replace hf := op_f c10 hf
        refine lv_aload_n hx hb dX2_serve_44 rfl (lv_at hl 0 rfl) ?_
        refine va_get (D := D) (ci := 2) (v := .ref (o 9)) (C := RX2) (T := TX2) (N := 5) hx hb hts iX2 hown hK hP 0 rfl rfl 1 (by decide) w20 (fun _ h9 => h9) rfl dX2_serve_45 ?_
        refine lv_iload_n hx hb dX2_serve_48 rfl (lv_at hl 1 rfl) ?_
        obtain ⟨q11, hf⟩ := op_x hf
        refine ck_aald (j := (x1).toNatClampNeg) (v := o (10 + (x1).toNatClampNeg)) hx hb hK hP 9 2 rfl rfl q11 rfl rfl dX2_serve_49 ?_
        refine ck_VI (st := [.ref (o (10 + (x1).toNatClampNeg))]) (rest := []) (As := []) (C := RX0) (ci := 0) ⟨hx, hb, hml, hown, hts⟩ (gE_ok tL tM adK adV) (c_X0_held l D cI cC cK cO tL tM adK adV (o (10 + (x1).toNatClampNeg)) (cl (x1).toNatClampNeg)  _ rfl) (cwV 0 hts gX2_serve_X0_held rfl rfl rfl hv_X0_held ⟨Nat.le_of_ble_eq_true rfl, Nat.le_of_ble_eq_true rfl⟩) hK hP hD hS hA hE [10 + (x1).toNatClampNeg] (pl_O (in_lt q11)) rfl rfl rfl rfl (fun _ => rfl) rfl hl.1 rfl (Nat.le_of_ble_eq_true rfl) dX2_serve_50 ⟨Nat.zero_le _, Nat.zero_le _⟩ (fun r u H locs hw hP hD hS => ?_)
        cases hw
        replace hP := st_OP0 (in_lt q11) hP
        replace hD := st_OD0 (in_lt q11) hD
        refine lv_if_gt (tgt := 61) hx hb dX2_serve_53 (by decide) (fun c14 => ?_) (fun c14 => ?_)
        · replace hf := op_t c14 hf
          refine lv_aload_n hx hb dX2_serve_61 rfl (lv_at hl 0 rfl) ?_
          refine va_get (D := D) (ci := 2) (v := .ref (o 9)) (C := RX2) (T := TX2) (N := 5) hx hb hts iX2 hown hK hP 0 rfl rfl 1 (by decide) w20 (fun _ h9 => h9) rfl dX2_serve_62 ?_
          refine lv_iload_n hx hb dX2_serve_65 rfl (lv_at hl 1 rfl) ?_
          obtain ⟨q15, hf⟩ := op_x hf
          refine ck_aald (j := (x1).toNatClampNeg) (v := o (10 + (x1).toNatClampNeg)) hx hb hK hP 9 2 rfl rfl q15 rfl rfl dX2_serve_66 ?_
          refine lv_aload_n hx hb dX2_serve_67 rfl (lv_at hl 0 rfl) ?_
          refine va_get (D := D) (ci := 2) (v := .ref (o 8)) (C := RX2) (T := TX2) (N := 5) hx hb hts iX2 hown hK hP 0 rfl rfl 3 (by decide) w28 (fun _ h9 => h9) rfl dX2_serve_68 ?_
          refine lv_iconst (v := 2) hx hb dX2_serve_71 (by decide) ?_
          refine ck_iald (j := 2) hx hb hK hP 8 0 rfl rfl (in_lit (by decide)) (by decide) dX2_serve_72 ?_
          obtain ⟨⟨r16, y17⟩, h18, hf⟩ := op_b hf
          refine ck_VI (st := [.int (cs 2), .ref (o (10 + (x1).toNatClampNeg))]) (rest := []) (As := [.int (cs 2)]) (C := RX0) (ci := 0) ⟨hx, hb, hml, hown, hts⟩ (gE_ok tL tM adK adV) (c_X0_giveLowest l D cI cC cK cO tL tM adK adV (o (10 + (x1).toNatClampNeg)) (cl (x1).toNatClampNeg) (cs 2) _ h18) (cwV 1 hts gX2_serve_X0_giveLowest rfl rfl rfl hv_X0_giveLowest ⟨Nat.le_of_ble_eq_true rfl, Nat.le_of_ble_eq_true rfl⟩) hK hP hD hS hA hE [10 + (x1).toNatClampNeg] (pl_O (in_lt q15)) rfl rfl rfl rfl (fun _ => rfl) rfl hl.1 rfl (Nat.le_of_ble_eq_true rfl) dX2_serve_73 ⟨Nat.zero_le _, Nat.zero_le _⟩ (fun r u H locs hw hP hD hS => ?_)
          cases hw
          obtain ⟨y20, e21, hf⟩ := nb_o hf
          replace hP := st_OP (in_lt q15) e21 hP
          replace hD := st_OD (in_lt q15) e21 hD
          refine lv_istore_n (lv' := [(3, .int r16), (0, .ref (o 0)), (1, .int x1), (2, .int x2), (4, .int x4)]) hx hb dX2_serve_76 rfl hl (by decide) rfl (fun ls hl => ?_)
          refine lv_aload_n hx hb dX2_serve_77 rfl (lv_at hl 1 rfl) ?_
          refine va_get (D := D) (ci := 2) (v := .ref (o 1)) (C := RX2) (T := TX2) (N := 5) hx hb hts iX2 hown hK hP 0 rfl rfl 0 (by decide) w12 (fun _ h9 => h9) rfl dX2_serve_78 ?_
          refine lv_iload_n hx hb dX2_serve_81 rfl (lv_at hl 0 rfl) ?_
          refine lv_iload_n hx hb dX2_serve_82 rfl (lv_at hl 2 rfl) ?_
          refine lv_aload_n hx hb dX2_serve_83 rfl (lv_at hl 1 rfl) ?_
          refine va_get (D := D) (ci := 2) (v := .int ct) (C := RX2) (T := TX2) (N := 5) hx hb hts iX2 hown hK hP 0 rfl rfl 4 (by decide) w32 (fun _ h9 => h9) rfl dX2_serve_84 ?_
          obtain ⟨⟨y23, y24, y25, y26, y27, y28, y29, y30⟩, h31, hf⟩ := op_b hf
          refine ck_VV (st := [.int ct, .int x1, .int r16, .ref (o 1)]) (rest := []) (As := [.int r16, .int x1, .int ct]) (C := RX1) (ci := 1) ⟨hx, hb, hml, hown, hts⟩ (gE_ok tL tM adK adV) (c_X1_give l D cI cC cK cO tL tM adK adV (o 1) (o 2) (o 3) (o 4) (o 5) (o 6) (o 7) ns no nr nt nd ni nm nf r16 x1 ct K _ h31) (cwV 3 hts gX2_serve_X1_give rfl rfl rfl hv_X1_give ⟨Nat.le_of_ble_eq_true rfl, Nat.le_of_ble_eq_true rfl⟩) hK hP hD hS hA hE [1, 2, 3, 4, 5, 6, 7] rfl rfl rfl rfl rfl (fun _ => rfl) rfl hl.1 rfl (Nat.le_of_ble_eq_true rfl) dX2_serve_87 ⟨Nat.zero_le _, Nat.zero_le _⟩ (fun u H locs hw hP hD hS => ?_)
          cases hw
          replace hP : va_P D vwCl (wO cI cK o y23 y24 y25 y26 y27 y28 y29 y30 y20 cc cs ct) H := hP
          replace hD : va_D A (wO cI cK o y23 y24 y25 y26 y27 y28 y29 y30 y20 cc cs ct) := hD
          refine lv_iinc (v := (x4 + 1)) (lv' := [(4, .int (x4 + 1)), (3, .int r16), (0, .ref (o 0)), (1, .int x1), (2, .int x2)]) hx hb dX2_serve_90 hl (k := 4) rfl rfl (by decide) rfl (fun ls hl => ?_)
          refine lv_goto (tgt := 38) hx hb dX2_serve_93 (by decide) ?_
          exact ih y23 y24 y25 y26 y27 y28 y29 y30 y20 x1 x2 r16 (x4 + 1) hf _ _ _ hP hD hS (lv_sub hl [2, 3, 4, 1, 0] rfl)
        · replace hf := op_f c14 hf
          refine lv_aload_n hx hb dX2_serve_56 rfl (lv_at hl 0 rfl) ?_
          refine lv_iload_n hx hb dX2_serve_57 rfl (lv_at hl 1 rfl) ?_
          obtain ⟨⟨y34, y35, y36, y37, y38⟩, h39, hf⟩ := op_b hf
          refine ck_VV (st := [.int x1, .ref (o 0)]) (rest := []) (As := [.int x1]) (C := RX2) (ci := 2) ⟨hx, hb, hml, hown, hts⟩ (gE_ok tL tM adK adV) (c_X2_handOut l D cI cC cK cO tL tM adK adV o ns no nr nt nd ni nm nf cl cc cs ct x1 K _ h39) (cwV 1 hts gX2_serve_X2_handOut rfl rfl rfl hv_X2_handOut ⟨Nat.le_of_ble_eq_true rfl, Nat.le_of_ble_eq_true rfl⟩) hK hP hD hS hA hE [0, 1, 2, 3, 4, 5, 6, 7, 8, 9, 10, 11, 12, 13, 14, 15] rfl rfl rfl rfl rfl (fun _ => rfl) rfl hl.1 rfl (Nat.le_of_ble_eq_true rfl) dX2_serve_58 ⟨Nat.zero_le _, Nat.zero_le _⟩ (fun u H locs hw hP hD hS => ?_)
          cases hw
          replace hP : va_P D vwCl (wO cI cK o y34 y35 y36 nt nd ni nm y37 y38 cc cs ct) H := hP
          replace hD : va_D A (wO cI cK o y34 y35 y36 nt nd ni nm y37 y38 cc cs ct) := hD
          refine lv_aload_n hx hb dX2_serve_61 rfl (lv_at hl 0 rfl) ?_
          refine va_get (D := D) (ci := 2) (v := .ref (o 9)) (C := RX2) (T := TX2) (N := 5) hx hb hts iX2 hown hK hP 0 rfl rfl 1 (by decide) w20 (fun _ h9 => h9) rfl dX2_serve_62 ?_
          refine lv_iload_n hx hb dX2_serve_65 rfl (lv_at hl 1 rfl) ?_
          obtain ⟨q41, hf⟩ := op_x hf
          refine ck_aald (j := (x1).toNatClampNeg) (v := o (10 + (x1).toNatClampNeg)) hx hb hK hP 9 2 rfl rfl q41 rfl rfl dX2_serve_66 ?_
          refine lv_aload_n hx hb dX2_serve_67 rfl (lv_at hl 0 rfl) ?_
          refine va_get (D := D) (ci := 2) (v := .ref (o 8)) (C := RX2) (T := TX2) (N := 5) hx hb hts iX2 hown hK hP 0 rfl rfl 3 (by decide) w28 (fun _ h9 => h9) rfl dX2_serve_68 ?_
          refine lv_iconst (v := 2) hx hb dX2_serve_71 (by decide) ?_
          refine ck_iald (j := 2) hx hb hK hP 8 0 rfl rfl (in_lit (by decide)) (by decide) dX2_serve_72 ?_
          obtain ⟨⟨r42, y43⟩, h44, hf⟩ := op_b hf
          refine ck_VI (st := [.int (cs 2), .ref (o (10 + (x1).toNatClampNeg))]) (rest := []) (As := [.int (cs 2)]) (C := RX0) (ci := 0) ⟨hx, hb, hml, hown, hts⟩ (gE_ok tL tM adK adV) (c_X0_giveLowest l D cI cC cK cO tL tM adK adV (o (10 + (x1).toNatClampNeg)) (y38 (x1).toNatClampNeg) (cs 2) _ h44) (cwV 1 hts gX2_serve_X0_giveLowest rfl rfl rfl hv_X0_giveLowest ⟨Nat.le_of_ble_eq_true rfl, Nat.le_of_ble_eq_true rfl⟩) hK hP hD hS hA hE [10 + (x1).toNatClampNeg] (pl_O (in_lt q41)) rfl rfl rfl rfl (fun _ => rfl) rfl hl.1 rfl (Nat.le_of_ble_eq_true rfl) dX2_serve_73 ⟨Nat.zero_le _, Nat.zero_le _⟩ (fun r u H locs hw hP hD hS => ?_)
          cases hw
          obtain ⟨y46, e47, hf⟩ := nb_o hf
          replace hP := st_OP (in_lt q41) e47 hP
          replace hD := st_OD (in_lt q41) e47 hD
          refine lv_istore_n (lv' := [(3, .int r42), (0, .ref (o 0)), (1, .int x1), (2, .int x2), (4, .int x4)]) hx hb dX2_serve_76 rfl hl (by decide) rfl (fun ls hl => ?_)
          refine lv_aload_n hx hb dX2_serve_77 rfl (lv_at hl 1 rfl) ?_
          refine va_get (D := D) (ci := 2) (v := .ref (o 1)) (C := RX2) (T := TX2) (N := 5) hx hb hts iX2 hown hK hP 0 rfl rfl 0 (by decide) w12 (fun _ h9 => h9) rfl dX2_serve_78 ?_
          refine lv_iload_n hx hb dX2_serve_81 rfl (lv_at hl 0 rfl) ?_
          refine lv_iload_n hx hb dX2_serve_82 rfl (lv_at hl 2 rfl) ?_
          refine lv_aload_n hx hb dX2_serve_83 rfl (lv_at hl 1 rfl) ?_
          refine va_get (D := D) (ci := 2) (v := .int ct) (C := RX2) (T := TX2) (N := 5) hx hb hts iX2 hown hK hP 0 rfl rfl 4 (by decide) w32 (fun _ h9 => h9) rfl dX2_serve_84 ?_
          obtain ⟨⟨y49, y50, y51, y52, y53, y54, y55, y56⟩, h57, hf⟩ := op_b hf
          refine ck_VV (st := [.int ct, .int x1, .int r42, .ref (o 1)]) (rest := []) (As := [.int r42, .int x1, .int ct]) (C := RX1) (ci := 1) ⟨hx, hb, hml, hown, hts⟩ (gE_ok tL tM adK adV) (c_X1_give l D cI cC cK cO tL tM adK adV (o 1) (o 2) (o 3) (o 4) (o 5) (o 6) (o 7) y34 y35 y36 nt nd ni nm y37 r42 x1 ct K _ h57) (cwV 3 hts gX2_serve_X1_give rfl rfl rfl hv_X1_give ⟨Nat.le_of_ble_eq_true rfl, Nat.le_of_ble_eq_true rfl⟩) hK hP hD hS hA hE [1, 2, 3, 4, 5, 6, 7] rfl rfl rfl rfl rfl (fun _ => rfl) rfl hl.1 rfl (Nat.le_of_ble_eq_true rfl) dX2_serve_87 ⟨Nat.zero_le _, Nat.zero_le _⟩ (fun u H locs hw hP hD hS => ?_)
          cases hw
          replace hP : va_P D vwCl (wO cI cK o y49 y50 y51 y52 y53 y54 y55 y56 y46 cc cs ct) H := hP
          replace hD : va_D A (wO cI cK o y49 y50 y51 y52 y53 y54 y55 y56 y46 cc cs ct) := hD
          refine lv_iinc (v := (x4 + 1)) (lv' := [(4, .int (x4 + 1)), (3, .int r42), (0, .ref (o 0)), (1, .int x1), (2, .int x2)]) hx hb dX2_serve_90 hl (k := 4) rfl rfl (by decide) rfl (fun ls hl => ?_)
          refine lv_goto (tgt := 38) hx hb dX2_serve_93 (by decide) ?_
          exact ih y49 y50 y51 y52 y53 y54 y55 y56 y46 x1 x2 r42 (x4 + 1) hf _ _ _ hP hD hS (lv_sub hl [2, 3, 4, 1, 0] rfl)
  rw [f_X2_serve] at hf
  refine lv_aload_n hx hb dX2_serve_0 rfl (lv_at hl 0 rfl) ?_
  refine lv_iload_n hx hb dX2_serve_1 rfl (lv_at hl 1 rfl) ?_
  refine ck_VI (st := [.int x1, .ref (o 0)]) (rest := []) (As := [.int x1]) (C := RX2) (ci := 2) ⟨hx, hb, hml, hown, hts⟩ (gE_ok tL tM adK adV) (c_X2_isClerk l D cI cC cK cO tL tM adK adV o ns no nr nt nd ni nm nf cl cc cs ct x1 _ rfl) (cwV 1 hts gX2_serve_X2_isClerk rfl rfl rfl hv_X2_isClerk ⟨Nat.le_of_ble_eq_true rfl, Nat.le_of_ble_eq_true rfl⟩) hK hP hD hS hA hE [0, 1, 2, 3, 4, 5, 6, 7, 8, 9, 10, 11, 12, 13, 14, 15] rfl rfl rfl rfl rfl (fun _ => rfl) rfl hl.1 rfl (Nat.le_of_ble_eq_true rfl) dX2_serve_2 ⟨Nat.zero_le _, Nat.zero_le _⟩ (fun r u H locs hw hP hD hS => ?_)
  obtain ⟨hw, z2⟩ := hw
  cases hw
  replace hP : va_P D vwCl (wO cI cK o ns no nr nt nd ni nm nf cl cc cs ct) H := hP
  replace hD : va_D A (wO cI cK o ns no nr nt nd ni nm nf cl cc cs ct) := hD
  refine lv_if_eq (tgt := 19) hx hb dX2_serve_5 (by decide) (fun c3 => ?_) (fun c3 => ?_)
  · replace hf := op_t c3 hf
    refine lv_iconst (v := (-1)) hx hb dX2_serve_19 (by decide) ?_
    exact hret _ _ _ _ _ (ns, no, nr, nt, nd, ni, nm, nf, cl) dX2_serve_20 (op_k hf) hP hS
  · replace hf := op_f c3 hf
    refine lv_iload_n hx hb dX2_serve_8 rfl (lv_at hl 2 rfl) ?_
    refine lv_iconst (v := 1) hx hb dX2_serve_9 (by decide) ?_
    refine lv_icmp_lt (tgt := 19) hx hb dX2_serve_10 (by decide) (fun c4 => ?_) (fun c4 => ?_)
    · replace hf := op_t c4 hf
      refine lv_iconst (v := (-1)) hx hb dX2_serve_19 (by decide) ?_
      exact hret _ _ _ _ _ (ns, no, nr, nt, nd, ni, nm, nf, cl) dX2_serve_20 (op_k hf) hP hS
    · replace hf := op_f c4 hf
      refine lv_iload_n hx hb dX2_serve_13 rfl (lv_at hl 2 rfl) ?_
      refine lv_bipush (v := 50) hx hb dX2_serve_14 (by decide) ?_
      refine lv_icmp_le (tgt := 21) hx hb dX2_serve_16 (by decide) (fun c5 => ?_) (fun c5 => ?_)
      · replace hf := op_t c5 hf
        refine lv_aload_n hx hb dX2_serve_21 rfl (lv_at hl 0 rfl) ?_
        refine lv_iload_n hx hb dX2_serve_22 rfl (lv_at hl 1 rfl) ?_
        obtain ⟨r6, h7, hf⟩ := op_b hf
        refine ck_VI (st := [.int x1, .ref (o 0)]) (rest := []) (As := [.int x1]) (C := RX2) (ci := 2) ⟨hx, hb, hml, hown, hts⟩ (gE_ok tL tM adK adV) (c_X2_available l D cI cC cK cO tL tM adK adV o ns no nr nt nd ni nm nf cl cc cs ct x1 K _ h7) (cwV 1 hts gX2_serve_X2_available rfl rfl rfl hv_X2_available ⟨Nat.le_of_ble_eq_true rfl, Nat.le_of_ble_eq_true rfl⟩) hK hP hD hS hA hE [0, 1, 2, 3, 4, 5, 6, 7, 8, 9, 10, 11, 12, 13, 14, 15] rfl rfl rfl rfl rfl (fun _ => rfl) rfl hl.1 rfl (Nat.le_of_ble_eq_true rfl) dX2_serve_23 ⟨Nat.zero_le _, Nat.zero_le _⟩ (fun r u H locs hw hP hD hS => ?_)
        cases hw
        replace hP : va_P D vwCl (wO cI cK o ns no nr nt nd ni nm nf cl cc cs ct) H := hP
        replace hD : va_D A (wO cI cK o ns no nr nt nd ni nm nf cl cc cs ct) := hD
        refine lv_iload_n hx hb dX2_serve_26 rfl (lv_at hl 2 rfl) ?_
        refine lv_icmp_ge (tgt := 33) hx hb dX2_serve_27 (by decide) (fun c9 => ?_) (fun c9 => ?_)
        · replace hf := op_t c9 hf
          refine lv_iconst (v := (-1)) hx hb dX2_serve_33 (by decide) ?_
          refine lv_istore_n (lv' := [(3, .int (-1)), (0, .ref (o 0)), (1, .int x1), (2, .int x2)]) hx hb dX2_serve_34 rfl hl (by decide) rfl (fun ls hl => ?_)
          refine lv_iconst (v := 0) hx hb dX2_serve_35 (by decide) ?_
          refine lv_istore (lv' := [(4, .int 0), (3, .int (-1)), (0, .ref (o 0)), (1, .int x1), (2, .int x2)]) hx hb dX2_serve_36 hl (by decide) rfl (fun ls hl => ?_)
          exact L_38 K ns no nr nt nd ni nm nf cl x1 x2 (-1) 0 hf _ _ _ hP hD hS (lv_sub hl [2, 3, 4, 1, 0] rfl)
        · replace hf := op_f c9 hf
          refine lv_bipush (v := (-3)) hx hb dX2_serve_30 (by decide) ?_
          exact hret _ _ _ _ _ (ns, no, nr, nt, nd, ni, nm, nf, cl) dX2_serve_32 (op_k hf) hP hS
      · replace hf := op_f c5 hf
        refine lv_iconst (v := (-1)) hx hb dX2_serve_19 (by decide) ?_
        exact hret _ _ _ _ _ (ns, no, nr, nt, nd, ni, nm, nf, cl) dX2_serve_20 (op_k hf) hP hS
set_option maxHeartbeats 4000000 in
set_option maxRecDepth 100000 in
theorem c_X2_letForget (l : Launch) (D : va_G) (cI cC cK cO : ClassId) (tL tM : Nat) (adK adV : Nat → Nat) (o : Nat → Nat) (ns : Nat → Int32) (no : Nat → Int32) (nr : Nat → Int32) (nt : Nat → Int32) (nd : Nat → Int32) (ni : Nat → Int32) (nm : Int32) (nf : Int32) (cl : Nat → Nat → Int32) (cc : Int32) (cs : Nat → Int32) (ct : Int32) (x1 : Int32) (K : Nat) (R : Int32 × (Nat → Int32) × (Nat → Int32) × (Nat → Int32) × Int32 × (Nat → Nat → Int32)) (hf : f_X2_letForget K ns no nr nf cl cc x1 = some R) : KI l D (TY cI cC cK cO) (gE tL tM adK adV) yX2_letForget wsX2_letForget 3 [.ref (o 0), .int x1] (wO cI cK o ns no nr nt nd ni nm nf cl cc cs ct) (fun (r : Int32) (u : (Nat → Int32) × (Nat → Int32) × (Nat → Int32) × Int32 × (Nat → Nat → Int32)) => (r, u) = R) (fun u => (wO cI cK o (u.1) (u.2.1) (u.2.2.1) nt nd ni nm (u.2.2.2.1) (u.2.2.2.2) cc cs ct)) := by
  refine KI.ofI (cc := cX2_letForget) (maxL := 4) (C := RX2) (by decide) rfl rfl (Nat.le_of_ble_eq_true rfl) ?_
  intro p e s m args below meth c A Q hx hb hml hts hown hP hK hD hA hE hS hret ls hl
  replace hl : lv_has ls 4 [(0, .ref (o 0)), (1, .int x1)] := hl
  have w106 := hts (.fieldLink RX2 106 "BlockClerks$Clerk" "low" "I") (by decide +kernel)
  have w12 := hts (.fieldLink RX2 12 "BlockClerks$Office" "numbers" "LBlockClerks$Numbers;") (by decide +kernel)
  have w20 := hts (.fieldLink RX2 20 "BlockClerks$Office" "clerks" "[LBlockClerks$Clerk;") (by decide +kernel)
  have iX0 : ∀ w ∈ wsX00, w ∈ wsX2_letForget := by decide +kernel
  have iX2 : ∀ w ∈ wsX20, w ∈ wsX2_letForget := by decide +kernel
  rw [f_X2_letForget] at hf
  refine lv_aload_n hx hb dX2_letForget_0 rfl (lv_at hl 0 rfl) ?_
  refine lv_iload_n hx hb dX2_letForget_1 rfl (lv_at hl 1 rfl) ?_
  refine ck_VI (st := [.int x1, .ref (o 0)]) (rest := []) (As := [.int x1]) (C := RX2) (ci := 2) ⟨hx, hb, hml, hown, hts⟩ (gE_ok tL tM adK adV) (c_X2_isClerk l D cI cC cK cO tL tM adK adV o ns no nr nt nd ni nm nf cl cc cs ct x1 _ rfl) (cwV 1 hts gX2_letForget_X2_isClerk rfl rfl rfl hv_X2_isClerk ⟨Nat.le_of_ble_eq_true rfl, Nat.le_of_ble_eq_true rfl⟩) hK hP hD hS hA hE [0, 1, 2, 3, 4, 5, 6, 7, 8, 9, 10, 11, 12, 13, 14, 15] rfl rfl rfl rfl rfl (fun _ => rfl) rfl hl.1 rfl (Nat.le_of_ble_eq_true rfl) dX2_letForget_2 ⟨Nat.zero_le _, Nat.zero_le _⟩ (fun r u H locs hw hP hD hS => ?_)
  obtain ⟨hw, z2⟩ := hw
  cases hw
  replace hP : va_P D vwCl (wO cI cK o ns no nr nt nd ni nm nf cl cc cs ct) H := hP
  replace hD : va_D A (wO cI cK o ns no nr nt nd ni nm nf cl cc cs ct) := hD
  refine lv_if_ne (tgt := 10) hx hb dX2_letForget_5 (by decide) (fun c3 => ?_) (fun c3 => ?_)
  · replace hf := op_f c3 hf
    refine lv_aload_n hx hb dX2_letForget_10 rfl (lv_at hl 0 rfl) ?_
    refine va_get (D := D) (ci := 2) (v := .ref (o 9)) (C := RX2) (T := TX2) (N := 5) hx hb hts iX2 hown hK hP 0 rfl rfl 1 (by decide) w20 (fun _ h9 => h9) rfl dX2_letForget_11 ?_
    refine lv_iload_n hx hb dX2_letForget_14 rfl (lv_at hl 1 rfl) ?_
    obtain ⟨q4, hf⟩ := op_x hf
    refine ck_aald (j := (x1).toNatClampNeg) (v := o (10 + (x1).toNatClampNeg)) hx hb hK hP 9 2 rfl rfl q4 rfl rfl dX2_letForget_15 ?_
    refine lv_astore_n (lv' := [(2, .ref (o (10 + (x1).toNatClampNeg))), (0, .ref (o 0)), (1, .int x1)]) hx hb dX2_letForget_16 rfl hl (by decide) rfl (fun ls hl => ?_)
    refine lv_aload_n hx hb dX2_letForget_17 rfl (lv_at hl 0 rfl) ?_
    refine ck_VI (st := [.ref (o (10 + (x1).toNatClampNeg))]) (rest := []) (As := []) (C := RX0) (ci := 0) ⟨hx, hb, hml, hown, hts⟩ (gE_ok tL tM adK adV) (c_X0_held l D cI cC cK cO tL tM adK adV (o (10 + (x1).toNatClampNeg)) (cl (x1).toNatClampNeg)  _ rfl) (cwV 0 hts gX2_letForget_X0_held rfl rfl rfl hv_X0_held ⟨Nat.le_of_ble_eq_true rfl, Nat.le_of_ble_eq_true rfl⟩) hK hP hD hS hA hE [10 + (x1).toNatClampNeg] (pl_O (in_lt q4)) rfl rfl rfl rfl (fun _ => rfl) rfl hl.1 rfl (Nat.le_of_ble_eq_true rfl) dX2_letForget_18 ⟨Nat.zero_le _, Nat.zero_le _⟩ (fun r u H locs hw hP hD hS => ?_)
    cases hw
    replace hP := st_OP0 (in_lt q4) hP
    replace hD := st_OD0 (in_lt q4) hD
    refine lv_if_gt (tgt := 27) hx hb dX2_letForget_21 (by decide) (fun c7 => ?_) (fun c7 => ?_)
    · replace hf := op_t c7 hf
      refine lv_aload_n hx hb dX2_letForget_27 rfl (lv_at hl 0 rfl) ?_
      refine ck_VI (st := [.ref (o (10 + (x1).toNatClampNeg))]) (rest := []) (As := []) (C := RX0) (ci := 0) ⟨hx, hb, hml, hown, hts⟩ (gE_ok tL tM adK adV) (c_X0_loss l D cI cC cK cO tL tM adK adV (o (10 + (x1).toNatClampNeg)) (cl (x1).toNatClampNeg)  _ rfl) (cwV 0 hts gX2_letForget_X0_loss rfl rfl rfl hv_X0_loss ⟨Nat.le_of_ble_eq_true rfl, Nat.le_of_ble_eq_true rfl⟩) hK hP hD hS hA hE [10 + (x1).toNatClampNeg] (pl_O (in_lt q4)) rfl rfl rfl rfl (fun _ => rfl) rfl hl.1 rfl (Nat.le_of_ble_eq_true rfl) dX2_letForget_28 ⟨Nat.zero_le _, Nat.zero_le _⟩ (fun r u H locs hw hP hD hS => ?_)
      cases hw
      replace hP := st_OP0 (in_lt q4) hP
      replace hD := st_OD0 (in_lt q4) hD
      refine lv_istore_n (lv' := [(3, .int (f_X0_loss (cl (x1).toNatClampNeg))), (2, .ref (o (10 + (x1).toNatClampNeg))), (0, .ref (o 0)), (1, .int x1)]) hx hb dX2_letForget_31 rfl hl (by decide) rfl (fun ls hl => ?_)
      refine lv_iload_n hx hb dX2_letForget_32 rfl (lv_at hl 0 rfl) ?_
      refine lv_if_le (tgt := 64) hx hb dX2_letForget_33 (by decide) (fun c10 => ?_) (fun c10 => ?_)
      · replace hf := op_t c10 hf
        refine lv_iload_n hx hb dX2_letForget_64 rfl (lv_at hl 0 rfl) ?_
        exact hret _ _ _ _ _ (ns, no, nr, nf, cl) dX2_letForget_65 (op_k hf) hP hS
      · replace hf := op_f c10 hf
        refine lv_aload_n hx hb dX2_letForget_36 rfl (lv_at hl 2 rfl) ?_
        refine va_get (D := D) (ci := 2) (v := .ref (o 1)) (C := RX2) (T := TX2) (N := 5) hx hb hts iX2 hown hK hP 0 rfl rfl 0 (by decide) w12 (fun _ h9 => h9) rfl dX2_letForget_37 ?_
        refine lv_aload_n hx hb dX2_letForget_40 rfl (lv_at hl 1 rfl) ?_
        refine va_get (D := D) (ci := 0) (v := .int (cl (x1).toNatClampNeg 1)) (C := RX0) (T := TX0) (N := 7) hx hb hts iX0 hown hK hP (10 + (x1).toNatClampNeg) (lk_O (in_lt q4)) rfl 1 (by decide) w106 (fun _ h9 => h9) rfl dX2_letForget_41 ?_
        refine lv_aload_n hx hb dX2_letForget_44 rfl (lv_at hl 1 rfl) ?_
        refine ck_VI (st := [.ref (o (10 + (x1).toNatClampNeg)), .int (cl (x1).toNatClampNeg 1), .ref (o 1)]) (rest := [.int (cl (x1).toNatClampNeg 1), .ref (o 1)]) (As := []) (C := RX0) (ci := 0) ⟨hx, hb, hml, hown, hts⟩ (gE_ok tL tM adK adV) (c_X0_lastLost l D cI cC cK cO tL tM adK adV (o (10 + (x1).toNatClampNeg)) (cl (x1).toNatClampNeg)  _ rfl) (cwV 0 hts gX2_letForget_X0_lastLost rfl rfl rfl hv_X0_lastLost ⟨Nat.le_of_ble_eq_true rfl, Nat.le_of_ble_eq_true rfl⟩) hK hP hD hS hA hE [10 + (x1).toNatClampNeg] (pl_O (in_lt q4)) rfl rfl rfl rfl (fun _ => rfl) rfl hl.1 rfl (Nat.le_of_ble_eq_true rfl) dX2_letForget_45 ⟨Nat.zero_le _, Nat.zero_le _⟩ (fun r u H locs hw hP hD hS => ?_)
        cases hw
        replace hP := st_OP0 (in_lt q4) hP
        replace hD := st_OD0 (in_lt q4) hD
        refine lv_iconst (v := 4) hx hb dX2_letForget_48 (by decide) ?_
        refine lv_iload_n hx hb dX2_letForget_49 rfl (lv_at hl 3 rfl) ?_
        refine lv_iconst (v := 0) hx hb dX2_letForget_50 (by decide) ?_
        obtain ⟨⟨y14, y15, y16, y17⟩, h18, hf⟩ := op_b hf
        refine ck_VV (st := [.int 0, .int x1, .int 4, .int (f_X0_lastLost (cl (x1).toNatClampNeg)), .int (cl (x1).toNatClampNeg 1), .ref (o 1)]) (rest := []) (As := [.int (cl (x1).toNatClampNeg 1), .int (f_X0_lastLost (cl (x1).toNatClampNeg)), .int 4, .int x1, .int 0]) (C := RX1) (ci := 1) ⟨hx, hb, hml, hown, hts⟩ (gE_ok tL tM adK adV) (c_X1_put l D cI cC cK cO tL tM adK adV (o 1) (o 2) (o 3) (o 4) (o 5) (o 6) (o 7) ns no nr nt nd ni nm nf (cl (x1).toNatClampNeg 1) (f_X0_lastLost (cl (x1).toNatClampNeg)) 4 x1 0 K _ h18) (cwV 5 hts gX2_letForget_X1_put rfl rfl rfl hv_X1_put ⟨Nat.le_of_ble_eq_true rfl, Nat.le_of_ble_eq_true rfl⟩) hK hP hD hS hA hE [1, 2, 3, 4, 5, 6, 7] rfl rfl rfl rfl rfl (fun _ => rfl) rfl hl.1 rfl (Nat.le_of_ble_eq_true rfl) dX2_letForget_51 ⟨Nat.zero_le _, Nat.zero_le _⟩ (fun u H locs hw hP hD hS => ?_)
        cases hw
        replace hP : va_P D vwCl (wO cI cK o y14 y15 y16 nt nd ni nm y17 cl cc cs ct) H := hP
        replace hD : va_D A (wO cI cK o y14 y15 y16 nt nd ni nm y17 cl cc cs ct) := hD
        refine lv_aload_n hx hb dX2_letForget_54 rfl (lv_at hl 1 rfl) ?_
        refine lv_dup hx hb dX2_letForget_55 rfl ?_
        refine va_get (D := D) (ci := 0) (v := .int (cl (x1).toNatClampNeg 1)) (C := RX0) (T := TX0) (N := 7) hx hb hts iX0 hown hK hP (10 + (x1).toNatClampNeg) (lk_O (in_lt q4)) rfl 1 (by decide) w106 (fun _ h9 => h9) rfl dX2_letForget_56 ?_
        refine lv_iload_n hx hb dX2_letForget_59 rfl (lv_at hl 0 rfl) ?_
        refine lv_iadd hx hb dX2_letForget_60 ?_
        refine va_put (D := D) (ci := 0) (v := .int ((cl (x1).toNatClampNeg 1) + (f_X0_loss (cl (x1).toNatClampNeg)))) (ty := .int) (C := RX0) (T := TX0) (N := 7) hx hb hts iX0 tyX0 tyX0_ok nmX0 hown hK hP hD hS (10 + (x1).toNatClampNeg) (lk_O (in_lt q4)) rfl 1 (by decide) w106 (fun _ h9 => h9) rfl (by decide +kernel) rfl rfl (Nat.le_of_ble_eq_true rfl) dX2_letForget_61 (fun H locs hP hD hS => ?_)
        obtain ⟨y20, e21, hf⟩ := nb_o hf
        replace hP := st_OP (in_lt q4) e21 hP
        replace hD := st_OD (in_lt q4) e21 hD
        refine lv_iload_n hx hb dX2_letForget_64 rfl (lv_at hl 0 rfl) ?_
        exact hret _ _ _ _ _ (y14, y15, y16, y17, y20) dX2_letForget_65 (op_k hf) hP hS
    · replace hf := op_f c7 hf
      refine lv_bipush (v := (-2)) hx hb dX2_letForget_24 (by decide) ?_
      exact hret _ _ _ _ _ (ns, no, nr, nf, cl) dX2_letForget_26 (op_k hf) hP hS
  · replace hf := op_t c3 hf
    refine lv_iconst (v := (-1)) hx hb dX2_letForget_8 (by decide) ?_
    exact hret _ _ _ _ _ (ns, no, nr, nf, cl) dX2_letForget_9 (op_k hf) hP hS
