/-! laid by wip/whole/gen.py: walks of the class itself -/
set_option maxHeartbeats 4000000 in
set_option maxRecDepth 100000 in
theorem c_X4_dropOldest (l : Launch) (D : va_G) (cI cC cK cO : ClassId) (tL tM : Nat) (adK adV : Nat → Nat) (q : Nat → Nat) (oO : Nat → Nat) (oT : Nat → Nat) (hh : Nat → Nat → Nat) (wo : OW) (wt : OW) (hs : Nat → OW) (hp : Nat → Nat) (kp : Int32) (fp : Int32) (fr : Int32) (sc : Nat → Int32) (sl : Int32) (sp : Int32) (sv : Int32) (sf : Int32) (ss : Int32) (R : (Nat → Nat) × Int32) (hf : f_X4_dropOldest hp = some R) : KV l D (TY cI cC cK cO) (gE tL tM adK adV) yX4_dropOldest wsX4_dropOldest 0 [.ref (q 0)] (wB cI cC cK cO q oO oT hh wo wt hs hp kp fp fr sc sl sp sv sf ss) (fun (u : (Nat → Nat) × Int32) => u = R) (fun u => (wB cI cC cK cO q oO oT hh wo wt hs (u.1) (u.2) fp fr sc sl sp sv sf ss)) := by
  refine KV.of (cc := cX4_dropOldest) (maxL := 3) (C := RX4) (by decide) rfl rfl (Nat.le_of_ble_eq_true rfl) ?_
  intro p e s m args below meth c A Q hx hb hml hts hown hP hK hD hA hE hS hret ls hl
  replace hl : lv_has ls 3 [(0, .ref (q 0))] := hl
  have w19 := hts (.fieldLink RX4 19 "BlockClerks" "history" "[LBlockClerks$Office;") (by decide +kernel)
  have w23 := hts (.fieldLink RX4 23 "BlockClerks" "kept" "I") (by decide +kernel)
  have iX4 : ∀ w ∈ wsX40, w ∈ wsX4_dropOldest := by decide +kernel
  rw [f_X4_dropOldest] at hf
  refine lv_aload_n hx hb dX4_dropOldest_0 rfl (lv_at hl 0 rfl) ?_
  refine va_get (D := D) (ci := 4) (v := .ref (q 1)) (C := RX4) (T := TX4) (N := 7) hx hb hts iX4 hown hK hP 0 rfl rfl 2 (by decide) w19 (fun _ h9 => h9) rfl dX4_dropOldest_1 ?_
  refine lv_iconst (v := 0) hx hb dX4_dropOldest_4 (by decide) ?_
  refine ck_aald (j := 0) (v := hh (hp 0) 0) hx hb hK hP 1 3 rfl rfl (in_lit (by decide)) (by decide) rfl dX4_dropOldest_5 ?_
  refine lv_astore_n (lv' := [(1, .ref (hh (hp 0) 0)), (0, .ref (q 0))]) hx hb dX4_dropOldest_6 rfl hl (by decide) rfl (fun ls hl => ?_)
  refine lv_iconst (v := 1) hx hb dX4_dropOldest_7 (by decide) ?_
  refine lv_istore_n (lv' := [(2, .int 1), (1, .ref (hh (hp 0) 0)), (0, .ref (q 0))]) hx hb dX4_dropOldest_8 rfl hl (by decide) rfl (fun ls hl => ?_)
  refine lv_iload_n hx hb dX4_dropOldest_9 rfl (lv_at hl 0 rfl) ?_
  refine lv_aload_n hx hb dX4_dropOldest_10 rfl (lv_at hl 2 rfl) ?_
  refine va_get (D := D) (ci := 4) (v := .ref (q 1)) (C := RX4) (T := TX4) (N := 7) hx hb hts iX4 hown hK hP 0 rfl rfl 2 (by decide) w19 (fun _ h9 => h9) rfl dX4_dropOldest_11 ?_
  refine va_alen (D := D) hx hb hK hP 1 3 rfl rfl (v := 4) rfl dX4_dropOldest_14 ?_
  refine lv_icmp_ge (tgt := 38) hx hb dX4_dropOldest_15 (by decide) (fun c9 => absurd c9 (by decide)) (fun _ => ?_)
  refine lv_aload_n hx hb dX4_dropOldest_18 rfl (lv_at hl 2 rfl) ?_
  refine va_get (D := D) (ci := 4) (v := .ref (q 1)) (C := RX4) (T := TX4) (N := 7) hx hb hts iX4 hown hK hP 0 rfl rfl 2 (by decide) w19 (fun _ h9 => h9) rfl dX4_dropOldest_19 ?_
  refine lv_iload_n hx hb dX4_dropOldest_22 rfl (lv_at hl 0 rfl) ?_
  refine lv_iconst (v := 1) hx hb dX4_dropOldest_23 (by decide) ?_
  refine ck_isub (v := 0) hx hb dX4_dropOldest_24 (by decide) ?_
  refine lv_aload_n hx hb dX4_dropOldest_25 rfl (lv_at hl 2 rfl) ?_
  refine va_get (D := D) (ci := 4) (v := .ref (q 1)) (C := RX4) (T := TX4) (N := 7) hx hb hts iX4 hown hK hP 0 rfl rfl 2 (by decide) w19 (fun _ h9 => h9) rfl dX4_dropOldest_26 ?_
  refine lv_iload_n hx hb dX4_dropOldest_29 rfl (lv_at hl 0 rfl) ?_
  refine ck_aald (j := 1) (v := hh (hp 1) 0) hx hb hK hP 1 3 rfl rfl (in_lit (by decide)) (by decide) rfl dX4_dropOldest_30 ?_
  obtain ⟨g1, hf⟩ := op_g hf
  refine ck_hast (j := 0) hx hb hK hP hD hS (in_lit (by decide)) (by decide) g1 dX4_dropOldest_31 (fun H locs hP hD hS => ?_)
  replace hP : va_P D vwCl (wB cI cC cK cO q oO oT hh wo wt hs (va_up hp 0 (hp 1)) kp fp fr sc sl sp sv sf ss) H := hP
  replace hD : va_D A (wB cI cC cK cO q oO oT hh wo wt hs (va_up hp 0 (hp 1)) kp fp fr sc sl sp sv sf ss) := hD
  refine lv_iinc (v := 2) (lv' := [(2, .int 2), (1, .ref (hh (hp 0) 0)), (0, .ref (q 0))]) hx hb dX4_dropOldest_32 hl (k := 0) rfl (by decide) (by decide) rfl (fun ls hl => ?_)
  refine lv_goto (tgt := 9) hx hb dX4_dropOldest_35 (by decide) ?_
  refine lv_iload_n hx hb dX4_dropOldest_9 rfl (lv_at hl 0 rfl) ?_
  refine lv_aload_n hx hb dX4_dropOldest_10 rfl (lv_at hl 2 rfl) ?_
  refine va_get (D := D) (ci := 4) (v := .ref (q 1)) (C := RX4) (T := TX4) (N := 7) hx hb hts iX4 hown hK hP 0 rfl rfl 2 (by decide) w19 (fun _ h9 => h9) rfl dX4_dropOldest_11 ?_
  refine va_alen (D := D) hx hb hK hP 1 3 rfl rfl (v := 4) rfl dX4_dropOldest_14 ?_
  refine lv_icmp_ge (tgt := 38) hx hb dX4_dropOldest_15 (by decide) (fun c9 => absurd c9 (by decide)) (fun _ => ?_)
  refine lv_aload_n hx hb dX4_dropOldest_18 rfl (lv_at hl 2 rfl) ?_
  refine va_get (D := D) (ci := 4) (v := .ref (q 1)) (C := RX4) (T := TX4) (N := 7) hx hb hts iX4 hown hK hP 0 rfl rfl 2 (by decide) w19 (fun _ h9 => h9) rfl dX4_dropOldest_19 ?_
  refine lv_iload_n hx hb dX4_dropOldest_22 rfl (lv_at hl 0 rfl) ?_
  refine lv_iconst (v := 1) hx hb dX4_dropOldest_23 (by decide) ?_
  refine ck_isub (v := 1) hx hb dX4_dropOldest_24 (by decide) ?_
  refine lv_aload_n hx hb dX4_dropOldest_25 rfl (lv_at hl 2 rfl) ?_
  refine va_get (D := D) (ci := 4) (v := .ref (q 1)) (C := RX4) (T := TX4) (N := 7) hx hb hts iX4 hown hK hP 0 rfl rfl 2 (by decide) w19 (fun _ h9 => h9) rfl dX4_dropOldest_26 ?_
  refine lv_iload_n hx hb dX4_dropOldest_29 rfl (lv_at hl 0 rfl) ?_
  refine ck_aald (j := 2) (v := hh ((va_up hp 0 (hp 1)) 2) 0) hx hb hK hP 1 3 rfl rfl (in_lit (by decide)) (by decide) rfl dX4_dropOldest_30 ?_
  obtain ⟨g2, hf⟩ := op_g hf
  refine ck_hast (j := 1) hx hb hK hP hD hS (in_lit (by decide)) (by decide) g2 dX4_dropOldest_31 (fun H locs hP hD hS => ?_)
  replace hP : va_P D vwCl (wB cI cC cK cO q oO oT hh wo wt hs (va_up (va_up hp 0 (hp 1)) 1 ((va_up hp 0 (hp 1)) 2)) kp fp fr sc sl sp sv sf ss) H := hP
  replace hD : va_D A (wB cI cC cK cO q oO oT hh wo wt hs (va_up (va_up hp 0 (hp 1)) 1 ((va_up hp 0 (hp 1)) 2)) kp fp fr sc sl sp sv sf ss) := hD
  refine lv_iinc (v := 3) (lv' := [(2, .int 3), (1, .ref (hh (hp 0) 0)), (0, .ref (q 0))]) hx hb dX4_dropOldest_32 hl (k := 0) rfl (by decide) (by decide) rfl (fun ls hl => ?_)
  refine lv_goto (tgt := 9) hx hb dX4_dropOldest_35 (by decide) ?_
  refine lv_iload_n hx hb dX4_dropOldest_9 rfl (lv_at hl 0 rfl) ?_
  refine lv_aload_n hx hb dX4_dropOldest_10 rfl (lv_at hl 2 rfl) ?_
  refine va_get (D := D) (ci := 4) (v := .ref (q 1)) (C := RX4) (T := TX4) (N := 7) hx hb hts iX4 hown hK hP 0 rfl rfl 2 (by decide) w19 (fun _ h9 => h9) rfl dX4_dropOldest_11 ?_
  refine va_alen (D := D) hx hb hK hP 1 3 rfl rfl (v := 4) rfl dX4_dropOldest_14 ?_
  refine lv_icmp_ge (tgt := 38) hx hb dX4_dropOldest_15 (by decide) (fun c9 => absurd c9 (by decide)) (fun _ => ?_)
  refine lv_aload_n hx hb dX4_dropOldest_18 rfl (lv_at hl 2 rfl) ?_
  refine va_get (D := D) (ci := 4) (v := .ref (q 1)) (C := RX4) (T := TX4) (N := 7) hx hb hts iX4 hown hK hP 0 rfl rfl 2 (by decide) w19 (fun _ h9 => h9) rfl dX4_dropOldest_19 ?_
  refine lv_iload_n hx hb dX4_dropOldest_22 rfl (lv_at hl 0 rfl) ?_
  refine lv_iconst (v := 1) hx hb dX4_dropOldest_23 (by decide) ?_
  refine ck_isub (v := 2) hx hb dX4_dropOldest_24 (by decide) ?_
  refine lv_aload_n hx hb dX4_dropOldest_25 rfl (lv_at hl 2 rfl) ?_
  refine va_get (D := D) (ci := 4) (v := .ref (q 1)) (C := RX4) (T := TX4) (N := 7) hx hb hts iX4 hown hK hP 0 rfl rfl 2 (by decide) w19 (fun _ h9 => h9) rfl dX4_dropOldest_26 ?_
  refine lv_iload_n hx hb dX4_dropOldest_29 rfl (lv_at hl 0 rfl) ?_
  refine ck_aald (j := 3) (v := hh ((va_up (va_up hp 0 (hp 1)) 1 ((va_up hp 0 (hp 1)) 2)) 3) 0) hx hb hK hP 1 3 rfl rfl (in_lit (by decide)) (by decide) rfl dX4_dropOldest_30 ?_
  obtain ⟨g3, hf⟩ := op_g hf
  refine ck_hast (j := 2) hx hb hK hP hD hS (in_lit (by decide)) (by decide) g3 dX4_dropOldest_31 (fun H locs hP hD hS => ?_)
  replace hP : va_P D vwCl (wB cI cC cK cO q oO oT hh wo wt hs (va_up (va_up (va_up hp 0 (hp 1)) 1 ((va_up hp 0 (hp 1)) 2)) 2 ((va_up (va_up hp 0 (hp 1)) 1 ((va_up hp 0 (hp 1)) 2)) 3)) kp fp fr sc sl sp sv sf ss) H := hP
  replace hD : va_D A (wB cI cC cK cO q oO oT hh wo wt hs (va_up (va_up (va_up hp 0 (hp 1)) 1 ((va_up hp 0 (hp 1)) 2)) 2 ((va_up (va_up hp 0 (hp 1)) 1 ((va_up hp 0 (hp 1)) 2)) 3)) kp fp fr sc sl sp sv sf ss) := hD
  refine lv_iinc (v := 4) (lv' := [(2, .int 4), (1, .ref (hh (hp 0) 0)), (0, .ref (q 0))]) hx hb dX4_dropOldest_32 hl (k := 0) rfl (by decide) (by decide) rfl (fun ls hl => ?_)
  refine lv_goto (tgt := 9) hx hb dX4_dropOldest_35 (by decide) ?_
  refine lv_iload_n hx hb dX4_dropOldest_9 rfl (lv_at hl 0 rfl) ?_
  refine lv_aload_n hx hb dX4_dropOldest_10 rfl (lv_at hl 2 rfl) ?_
  refine va_get (D := D) (ci := 4) (v := .ref (q 1)) (C := RX4) (T := TX4) (N := 7) hx hb hts iX4 hown hK hP 0 rfl rfl 2 (by decide) w19 (fun _ h9 => h9) rfl dX4_dropOldest_11 ?_
  refine va_alen (D := D) hx hb hK hP 1 3 rfl rfl (v := 4) rfl dX4_dropOldest_14 ?_
  refine lv_icmp_ge (tgt := 38) hx hb dX4_dropOldest_15 (by decide) (fun _ => ?_) (fun c9 => absurd c9 (by decide))
  refine lv_aload_n hx hb dX4_dropOldest_38 rfl (lv_at hl 2 rfl) ?_
  refine va_get (D := D) (ci := 4) (v := .ref (q 1)) (C := RX4) (T := TX4) (N := 7) hx hb hts iX4 hown hK hP 0 rfl rfl 2 (by decide) w19 (fun _ h9 => h9) rfl dX4_dropOldest_39 ?_
  refine lv_aload_n hx hb dX4_dropOldest_42 rfl (lv_at hl 2 rfl) ?_
  refine va_get (D := D) (ci := 4) (v := .ref (q 1)) (C := RX4) (T := TX4) (N := 7) hx hb hts iX4 hown hK hP 0 rfl rfl 2 (by decide) w19 (fun _ h9 => h9) rfl dX4_dropOldest_43 ?_
  refine va_alen (D := D) hx hb hK hP 1 3 rfl rfl (v := 4) rfl dX4_dropOldest_46 ?_
  refine lv_iconst (v := 1) hx hb dX4_dropOldest_47 (by decide) ?_
  refine ck_isub (v := 3) hx hb dX4_dropOldest_48 (by decide) ?_
  refine lv_aload_n hx hb dX4_dropOldest_49 rfl (lv_at hl 1 rfl) ?_
  obtain ⟨g4, hf⟩ := op_g hf
  refine ck_hast (j := 3) hx hb hK hP hD hS (in_lit (by decide)) (by decide) g4 dX4_dropOldest_50 (fun H locs hP hD hS => ?_)
  replace hP : va_P D vwCl (wB cI cC cK cO q oO oT hh wo wt hs (va_up (va_up (va_up (va_up hp 0 (hp 1)) 1 ((va_up hp 0 (hp 1)) 2)) 2 ((va_up (va_up hp 0 (hp 1)) 1 ((va_up hp 0 (hp 1)) 2)) 3)) 3 (hp 0)) kp fp fr sc sl sp sv sf ss) H := hP
  replace hD : va_D A (wB cI cC cK cO q oO oT hh wo wt hs (va_up (va_up (va_up (va_up hp 0 (hp 1)) 1 ((va_up hp 0 (hp 1)) 2)) 2 ((va_up (va_up hp 0 (hp 1)) 1 ((va_up hp 0 (hp 1)) 2)) 3)) 3 (hp 0)) kp fp fr sc sl sp sv sf ss) := hD
  refine lv_aload_n hx hb dX4_dropOldest_51 rfl (lv_at hl 2 rfl) ?_
  refine lv_aload_n hx hb dX4_dropOldest_52 rfl (lv_at hl 2 rfl) ?_
  refine va_get (D := D) (ci := 4) (v := .ref (q 1)) (C := RX4) (T := TX4) (N := 7) hx hb hts iX4 hown hK hP 0 rfl rfl 2 (by decide) w19 (fun _ h9 => h9) rfl dX4_dropOldest_53 ?_
  refine va_alen (D := D) hx hb hK hP 1 3 rfl rfl (v := 4) rfl dX4_dropOldest_56 ?_
  refine lv_iconst (v := 1) hx hb dX4_dropOldest_57 (by decide) ?_
  refine ck_isub (v := 3) hx hb dX4_dropOldest_58 (by decide) ?_
  refine va_put (D := D) (ci := 4) (v := .int 3) (ty := .int) (C := RX4) (T := TX4) (N := 7) hx hb hts iX4 tyX4 tyX4_ok nmX4 hown hK hP hD hS 0 rfl rfl 3 (by decide) w23 (fun _ h9 => h9) rfl (by decide +kernel) rfl rfl (Nat.le_of_ble_eq_true rfl) dX4_dropOldest_59 (fun H locs hP hD hS => ?_)
  replace hP : va_P D vwCl (wB cI cC cK cO q oO oT hh wo wt hs (va_up (va_up (va_up (va_up hp 0 (hp 1)) 1 ((va_up hp 0 (hp 1)) 2)) 2 ((va_up (va_up hp 0 (hp 1)) 1 ((va_up hp 0 (hp 1)) 2)) 3)) 3 (hp 0)) 3 fp fr sc sl sp sv sf ss) H := hP
  replace hD : va_D A (wB cI cC cK cO q oO oT hh wo wt hs (va_up (va_up (va_up (va_up hp 0 (hp 1)) 1 ((va_up hp 0 (hp 1)) 2)) 2 ((va_up (va_up hp 0 (hp 1)) 1 ((va_up hp 0 (hp 1)) 2)) 3)) 3 (hp 0)) 3 fp fr sc sl sp sv sf ss) := hD
  exact hret _ _ _ _ ((va_up (va_up (va_up (va_up hp 0 (hp 1)) 1 ((va_up hp 0 (hp 1)) 2)) 2 ((va_up (va_up hp 0 (hp 1)) 1 ((va_up hp 0 (hp 1)) 2)) 3)) 3 (hp 0)), 3) dX4_dropOldest_62 (op_k hf) hP hS
set_option maxHeartbeats 4000000 in
set_option maxRecDepth 100000 in
theorem c_X4_remember (l : Launch) (D : va_G) (cI cC cK cO : ClassId) (tL tM : Nat) (adK adV : Nat → Nat) (q : Nat → Nat) (oO : Nat → Nat) (oT : Nat → Nat) (hh : Nat → Nat → Nat) (wo : OW) (wt : OW) (hs : Nat → OW) (hp : Nat → Nat) (kp : Int32) (fp : Int32) (fr : Int32) (sc : Nat → Int32) (sl : Int32) (sp : Int32) (sv : Int32) (sf : Int32) (ss : Int32) (R : (Nat → OW) × (Nat → Nat) × Int32) (hf : f_X4_remember wo hs hp kp = some R) : KV l D (TY cI cC cK cO) (gE tL tM adK adV) yX4_remember wsX4_remember 4 [.ref (q 0)] (wB cI cC cK cO q oO oT hh wo wt hs hp kp fp fr sc sl sp sv sf ss) (fun (u : (Nat → OW) × (Nat → Nat) × Int32) => u = R) (fun u => (wB cI cC cK cO q oO oT hh wo wt (u.1) (u.2.1) (u.2.2) fp fr sc sl sp sv sf ss)) := by
  refine KV.of (cc := cX4_remember) (maxL := 1) (C := RX4) (by decide) rfl rfl (Nat.le_of_ble_eq_true rfl) ?_
  intro p e s m args below meth c A Q hx hb hml hts hown hP hK hD hA hE hS hret ls hl
  replace hl : lv_has ls 1 [(0, .ref (q 0))] := hl
  have w10 := hts (.fieldLink RX4 10 "BlockClerks" "office" "LBlockClerks$Office;") (by decide +kernel)
  have w19 := hts (.fieldLink RX4 19 "BlockClerks" "history" "[LBlockClerks$Office;") (by decide +kernel)
  have w23 := hts (.fieldLink RX4 23 "BlockClerks" "kept" "I") (by decide +kernel)
  have iX4 : ∀ w ∈ wsX40, w ∈ wsX4_remember := by decide +kernel
  rw [f_X4_remember] at hf
  refine lv_aload_n hx hb dX4_remember_0 rfl (lv_at hl 0 rfl) ?_
  refine va_get (D := D) (ci := 4) (v := .int kp) (C := RX4) (T := TX4) (N := 7) hx hb hts iX4 hown hK hP 0 rfl rfl 3 (by decide) w23 (fun _ h9 => h9) rfl dX4_remember_1 ?_
  refine lv_aload_n hx hb dX4_remember_4 rfl (lv_at hl 0 rfl) ?_
  refine va_get (D := D) (ci := 4) (v := .ref (q 1)) (C := RX4) (T := TX4) (N := 7) hx hb hts iX4 hown hK hP 0 rfl rfl 2 (by decide) w19 (fun _ h9 => h9) rfl dX4_remember_5 ?_
  refine va_alen (D := D) hx hb hK hP 1 3 rfl rfl (v := 4) rfl dX4_remember_8 ?_
  refine lv_icmp_lt (tgt := 16) hx hb dX4_remember_9 (by decide) (fun c1 => ?_) (fun c1 => ?_)
  · replace hf := op_t c1 hf
    refine lv_aload_n hx hb dX4_remember_16 rfl (lv_at hl 0 rfl) ?_
    refine va_get (D := D) (ci := 4) (v := .int kp) (C := RX4) (T := TX4) (N := 7) hx hb hts iX4 hown hK hP 0 rfl rfl 3 (by decide) w23 (fun _ h9 => h9) rfl dX4_remember_17 ?_
    refine lv_if_lt (tgt := 61) hx hb dX4_remember_20 (by decide) (fun c2 => ?_) (fun c2 => ?_)
    · replace hf := op_t c2 hf
      exact hret _ _ _ _ (hs, hp, kp) dX4_remember_61 (op_k hf) hP hS
    · replace hf := op_f c2 hf
      refine lv_aload_n hx hb dX4_remember_23 rfl (lv_at hl 0 rfl) ?_
      refine va_get (D := D) (ci := 4) (v := .int kp) (C := RX4) (T := TX4) (N := 7) hx hb hts iX4 hown hK hP 0 rfl rfl 3 (by decide) w23 (fun _ h9 => h9) rfl dX4_remember_24 ?_
      refine lv_aload_n hx hb dX4_remember_27 rfl (lv_at hl 0 rfl) ?_
      refine va_get (D := D) (ci := 4) (v := .ref (q 1)) (C := RX4) (T := TX4) (N := 7) hx hb hts iX4 hown hK hP 0 rfl rfl 2 (by decide) w19 (fun _ h9 => h9) rfl dX4_remember_28 ?_
      refine va_alen (D := D) hx hb hK hP 1 3 rfl rfl (v := 4) rfl dX4_remember_31 ?_
      refine lv_icmp_ge (tgt := 61) hx hb dX4_remember_32 (by decide) (fun c3 => ?_) (fun c3 => ?_)
      · replace hf := op_t c3 hf
        exact hret _ _ _ _ (hs, hp, kp) dX4_remember_61 (op_k hf) hP hS
      · replace hf := op_f c3 hf
        refine lv_aload_n hx hb dX4_remember_35 rfl (lv_at hl 0 rfl) ?_
        refine va_get (D := D) (ci := 4) (v := .ref (q 1)) (C := RX4) (T := TX4) (N := 7) hx hb hts iX4 hown hK hP 0 rfl rfl 2 (by decide) w19 (fun _ h9 => h9) rfl dX4_remember_36 ?_
        refine lv_aload_n hx hb dX4_remember_39 rfl (lv_at hl 0 rfl) ?_
        refine va_get (D := D) (ci := 4) (v := .int kp) (C := RX4) (T := TX4) (N := 7) hx hb hts iX4 hown hK hP 0 rfl rfl 3 (by decide) w23 (fun _ h9 => h9) rfl dX4_remember_40 ?_
        obtain ⟨q4, hf⟩ := op_x hf
        refine ck_aald (j := (kp).toNatClampNeg) (v := hh (hp (kp).toNatClampNeg) 0) hx hb hK hP 1 3 rfl rfl q4 rfl rfl dX4_remember_43 ?_
        by_cases c5 : (hp (kp).toNatClampNeg) = 0
        · replace hf := op_t c5 hf
          rw [c5]
          refine lv_aload_n hx hb dX4_remember_44 rfl (lv_at hl 0 rfl) ?_
          refine va_get (D := D) (ci := 4) (v := .ref (oO 0)) (C := RX4) (T := TX4) (N := 7) hx hb hts iX4 hown hK hP 0 rfl rfl 0 (by decide) w10 (fun _ h9 => h9) rfl dX4_remember_45 ?_
          obtain ⟨⟨y7, y8, y9, y10, y11, y12, y13, y14, y15, y16, y17, y18⟩, h19, hf⟩ := op_b hf
          refine ck_VVp (st := [.ref (oO 0), .ref (hh 0 0)]) (rest := []) (As := [.ref (oO 0)]) (C := RX2) (ci := 2) (ws1 := (fun (u : (Nat → Int32) × (Nat → Int32) × (Nat → Int32) × (Nat → Int32) × (Nat → Int32) × (Nat → Int32) × Int32 × Int32 × (Nat → Nat → Int32) × Int32 × (Nat → Int32) × Int32) => (wB cI cC cK cO q oO oT hh wo wt (va_up hs 0 (u.1, u.2.1, u.2.2.1, u.2.2.2.1, u.2.2.2.2.1, u.2.2.2.2.2.1, u.2.2.2.2.2.2.1, u.2.2.2.2.2.2.2.1, u.2.2.2.2.2.2.2.2.1, u.2.2.2.2.2.2.2.2.2.1, u.2.2.2.2.2.2.2.2.2.2.1, u.2.2.2.2.2.2.2.2.2.2.2)) hp kp fp fr sc sl sp sv sf ss))) ⟨hx, hb, hml, hown, hts⟩ (gE_ok tL tM adK adV) (c_X2_become l D cI cC cK cO tL tM adK adV (hh 0) oO ((hs 0).1) ((hs 0).2.1) ((hs 0).2.2.1) ((hs 0).2.2.2.1) ((hs 0).2.2.2.2.1) ((hs 0).2.2.2.2.2.1) ((hs 0).2.2.2.2.2.2.1) ((hs 0).2.2.2.2.2.2.2.1) ((hs 0).2.2.2.2.2.2.2.2.1) ((hs 0).2.2.2.2.2.2.2.2.2.1) ((hs 0).2.2.2.2.2.2.2.2.2.2.1) ((hs 0).2.2.2.2.2.2.2.2.2.2.2) (wo.1) (wo.2.1) (wo.2.2.1) (wo.2.2.2.1) (wo.2.2.2.2.1) (wo.2.2.2.2.2.1) (wo.2.2.2.2.2.2.1) (wo.2.2.2.2.2.2.2.1) (wo.2.2.2.2.2.2.2.2.1) (wo.2.2.2.2.2.2.2.2.2.1) (wo.2.2.2.2.2.2.2.2.2.2.1) (wo.2.2.2.2.2.2.2.2.2.2.2)  _ h19) (cwV 1 hts gX4_remember_X2_become rfl rfl rfl hv_X2_become ⟨Nat.le_of_ble_eq_true rfl, Nat.le_of_ble_eq_true rfl⟩) hK hP hD hS hA hE (pm_h0a _ _ _ _ _) (fun _ => (pm_h0a _ _ _ _ _)) rfl rfl rfl (fun _ => rfl) rfl hl.1 rfl (Nat.le_of_ble_eq_true rfl) dX4_remember_48 ⟨Nat.zero_le _, Nat.zero_le _⟩ (fun u H locs hw hP hD hS => ?_)
          cases hw
          replace hP : va_P D vwCl (wB cI cC cK cO q oO oT hh wo wt (va_up hs 0 (y7, y8, y9, y10, y11, y12, y13, y14, y15, y16, y17, y18)) hp kp fp fr sc sl sp sv sf ss) H := hP
          replace hD : va_D A (wB cI cC cK cO q oO oT hh wo wt (va_up hs 0 (y7, y8, y9, y10, y11, y12, y13, y14, y15, y16, y17, y18)) hp kp fp fr sc sl sp sv sf ss) := hD
          refine lv_aload_n hx hb dX4_remember_51 rfl (lv_at hl 0 rfl) ?_
          refine lv_dup hx hb dX4_remember_52 rfl ?_
          refine va_get (D := D) (ci := 4) (v := .int kp) (C := RX4) (T := TX4) (N := 7) hx hb hts iX4 hown hK hP 0 rfl rfl 3 (by decide) w23 (fun _ h9 => h9) rfl dX4_remember_53 ?_
          refine lv_iconst (v := 1) hx hb dX4_remember_56 (by decide) ?_
          refine lv_iadd hx hb dX4_remember_57 ?_
          refine va_put (D := D) (ci := 4) (v := .int (kp + 1)) (ty := .int) (C := RX4) (T := TX4) (N := 7) hx hb hts iX4 tyX4 tyX4_ok nmX4 hown hK hP hD hS 0 rfl rfl 3 (by decide) w23 (fun _ h9 => h9) rfl (by decide +kernel) rfl rfl (Nat.le_of_ble_eq_true rfl) dX4_remember_58 (fun H locs hP hD hS => ?_)
          replace hP : va_P D vwCl (wB cI cC cK cO q oO oT hh wo wt (va_up hs 0 (y7, y8, y9, y10, y11, y12, y13, y14, y15, y16, y17, y18)) hp (kp + 1) fp fr sc sl sp sv sf ss) H := hP
          replace hD : va_D A (wB cI cC cK cO q oO oT hh wo wt (va_up hs 0 (y7, y8, y9, y10, y11, y12, y13, y14, y15, y16, y17, y18)) hp (kp + 1) fp fr sc sl sp sv sf ss) := hD
          exact hret _ _ _ _ ((va_up hs 0 (y7, y8, y9, y10, y11, y12, y13, y14, y15, y16, y17, y18)), hp, (kp + 1)) dX4_remember_61 (op_k hf) hP hS
        replace hf := op_f c5 hf
        by_cases c21 : (hp (kp).toNatClampNeg) = 1
        · replace hf := op_t c21 hf
          rw [c21]
          refine lv_aload_n hx hb dX4_remember_44 rfl (lv_at hl 0 rfl) ?_
          refine va_get (D := D) (ci := 4) (v := .ref (oO 0)) (C := RX4) (T := TX4) (N := 7) hx hb hts iX4 hown hK hP 0 rfl rfl 0 (by decide) w10 (fun _ h9 => h9) rfl dX4_remember_45 ?_
          obtain ⟨⟨y23, y24, y25, y26, y27, y28, y29, y30, y31, y32, y33, y34⟩, h35, hf⟩ := op_b hf
          refine ck_VVp (st := [.ref (oO 0), .ref (hh 1 0)]) (rest := []) (As := [.ref (oO 0)]) (C := RX2) (ci := 2) (ws1 := (fun (u : (Nat → Int32) × (Nat → Int32) × (Nat → Int32) × (Nat → Int32) × (Nat → Int32) × (Nat → Int32) × Int32 × Int32 × (Nat → Nat → Int32) × Int32 × (Nat → Int32) × Int32) => (wB cI cC cK cO q oO oT hh wo wt (va_up hs 1 (u.1, u.2.1, u.2.2.1, u.2.2.2.1, u.2.2.2.2.1, u.2.2.2.2.2.1, u.2.2.2.2.2.2.1, u.2.2.2.2.2.2.2.1, u.2.2.2.2.2.2.2.2.1, u.2.2.2.2.2.2.2.2.2.1, u.2.2.2.2.2.2.2.2.2.2.1, u.2.2.2.2.2.2.2.2.2.2.2)) hp kp fp fr sc sl sp sv sf ss))) ⟨hx, hb, hml, hown, hts⟩ (gE_ok tL tM adK adV) (c_X2_become l D cI cC cK cO tL tM adK adV (hh 1) oO ((hs 1).1) ((hs 1).2.1) ((hs 1).2.2.1) ((hs 1).2.2.2.1) ((hs 1).2.2.2.2.1) ((hs 1).2.2.2.2.2.1) ((hs 1).2.2.2.2.2.2.1) ((hs 1).2.2.2.2.2.2.2.1) ((hs 1).2.2.2.2.2.2.2.2.1) ((hs 1).2.2.2.2.2.2.2.2.2.1) ((hs 1).2.2.2.2.2.2.2.2.2.2.1) ((hs 1).2.2.2.2.2.2.2.2.2.2.2) (wo.1) (wo.2.1) (wo.2.2.1) (wo.2.2.2.1) (wo.2.2.2.2.1) (wo.2.2.2.2.2.1) (wo.2.2.2.2.2.2.1) (wo.2.2.2.2.2.2.2.1) (wo.2.2.2.2.2.2.2.2.1) (wo.2.2.2.2.2.2.2.2.2.1) (wo.2.2.2.2.2.2.2.2.2.2.1) (wo.2.2.2.2.2.2.2.2.2.2.2)  _ h35) (cwV 1 hts gX4_remember_X2_become rfl rfl rfl hv_X2_become ⟨Nat.le_of_ble_eq_true rfl, Nat.le_of_ble_eq_true rfl⟩) hK hP hD hS hA hE (pm_h1a _ _ _ _ _ _) (fun _ => (pm_h1a _ _ _ _ _ _)) rfl rfl rfl (fun _ => rfl) rfl hl.1 rfl (Nat.le_of_ble_eq_true rfl) dX4_remember_48 ⟨Nat.zero_le _, Nat.zero_le _⟩ (fun u H locs hw hP hD hS => ?_)
          cases hw
          replace hP : va_P D vwCl (wB cI cC cK cO q oO oT hh wo wt (va_up hs 1 (y23, y24, y25, y26, y27, y28, y29, y30, y31, y32, y33, y34)) hp kp fp fr sc sl sp sv sf ss) H := hP
          replace hD : va_D A (wB cI cC cK cO q oO oT hh wo wt (va_up hs 1 (y23, y24, y25, y26, y27, y28, y29, y30, y31, y32, y33, y34)) hp kp fp fr sc sl sp sv sf ss) := hD
          refine lv_aload_n hx hb dX4_remember_51 rfl (lv_at hl 0 rfl) ?_
          refine lv_dup hx hb dX4_remember_52 rfl ?_
          refine va_get (D := D) (ci := 4) (v := .int kp) (C := RX4) (T := TX4) (N := 7) hx hb hts iX4 hown hK hP 0 rfl rfl 3 (by decide) w23 (fun _ h9 => h9) rfl dX4_remember_53 ?_
          refine lv_iconst (v := 1) hx hb dX4_remember_56 (by decide) ?_
          refine lv_iadd hx hb dX4_remember_57 ?_
          refine va_put (D := D) (ci := 4) (v := .int (kp + 1)) (ty := .int) (C := RX4) (T := TX4) (N := 7) hx hb hts iX4 tyX4 tyX4_ok nmX4 hown hK hP hD hS 0 rfl rfl 3 (by decide) w23 (fun _ h9 => h9) rfl (by decide +kernel) rfl rfl (Nat.le_of_ble_eq_true rfl) dX4_remember_58 (fun H locs hP hD hS => ?_)
          replace hP : va_P D vwCl (wB cI cC cK cO q oO oT hh wo wt (va_up hs 1 (y23, y24, y25, y26, y27, y28, y29, y30, y31, y32, y33, y34)) hp (kp + 1) fp fr sc sl sp sv sf ss) H := hP
          replace hD : va_D A (wB cI cC cK cO q oO oT hh wo wt (va_up hs 1 (y23, y24, y25, y26, y27, y28, y29, y30, y31, y32, y33, y34)) hp (kp + 1) fp fr sc sl sp sv sf ss) := hD
          exact hret _ _ _ _ ((va_up hs 1 (y23, y24, y25, y26, y27, y28, y29, y30, y31, y32, y33, y34)), hp, (kp + 1)) dX4_remember_61 (op_k hf) hP hS
        replace hf := op_f c21 hf
        by_cases c37 : (hp (kp).toNatClampNeg) = 2
        · replace hf := op_t c37 hf
          rw [c37]
          refine lv_aload_n hx hb dX4_remember_44 rfl (lv_at hl 0 rfl) ?_
          refine va_get (D := D) (ci := 4) (v := .ref (oO 0)) (C := RX4) (T := TX4) (N := 7) hx hb hts iX4 hown hK hP 0 rfl rfl 0 (by decide) w10 (fun _ h9 => h9) rfl dX4_remember_45 ?_
          obtain ⟨⟨y39, y40, y41, y42, y43, y44, y45, y46, y47, y48, y49, y50⟩, h51, hf⟩ := op_b hf
          refine ck_VVp (st := [.ref (oO 0), .ref (hh 2 0)]) (rest := []) (As := [.ref (oO 0)]) (C := RX2) (ci := 2) (ws1 := (fun (u : (Nat → Int32) × (Nat → Int32) × (Nat → Int32) × (Nat → Int32) × (Nat → Int32) × (Nat → Int32) × Int32 × Int32 × (Nat → Nat → Int32) × Int32 × (Nat → Int32) × Int32) => (wB cI cC cK cO q oO oT hh wo wt (va_up hs 2 (u.1, u.2.1, u.2.2.1, u.2.2.2.1, u.2.2.2.2.1, u.2.2.2.2.2.1, u.2.2.2.2.2.2.1, u.2.2.2.2.2.2.2.1, u.2.2.2.2.2.2.2.2.1, u.2.2.2.2.2.2.2.2.2.1, u.2.2.2.2.2.2.2.2.2.2.1, u.2.2.2.2.2.2.2.2.2.2.2)) hp kp fp fr sc sl sp sv sf ss))) ⟨hx, hb, hml, hown, hts⟩ (gE_ok tL tM adK adV) (c_X2_become l D cI cC cK cO tL tM adK adV (hh 2) oO ((hs 2).1) ((hs 2).2.1) ((hs 2).2.2.1) ((hs 2).2.2.2.1) ((hs 2).2.2.2.2.1) ((hs 2).2.2.2.2.2.1) ((hs 2).2.2.2.2.2.2.1) ((hs 2).2.2.2.2.2.2.2.1) ((hs 2).2.2.2.2.2.2.2.2.1) ((hs 2).2.2.2.2.2.2.2.2.2.1) ((hs 2).2.2.2.2.2.2.2.2.2.2.1) ((hs 2).2.2.2.2.2.2.2.2.2.2.2) (wo.1) (wo.2.1) (wo.2.2.1) (wo.2.2.2.1) (wo.2.2.2.2.1) (wo.2.2.2.2.2.1) (wo.2.2.2.2.2.2.1) (wo.2.2.2.2.2.2.2.1) (wo.2.2.2.2.2.2.2.2.1) (wo.2.2.2.2.2.2.2.2.2.1) (wo.2.2.2.2.2.2.2.2.2.2.1) (wo.2.2.2.2.2.2.2.2.2.2.2)  _ h51) (cwV 1 hts gX4_remember_X2_become rfl rfl rfl hv_X2_become ⟨Nat.le_of_ble_eq_true rfl, Nat.le_of_ble_eq_true rfl⟩) hK hP hD hS hA hE (pm_h2a _ _ _ _ _ _ _) (fun _ => (pm_h2a _ _ _ _ _ _ _)) rfl rfl rfl (fun _ => rfl) rfl hl.1 rfl (Nat.le_of_ble_eq_true rfl) dX4_remember_48 ⟨Nat.zero_le _, Nat.zero_le _⟩ (fun u H locs hw hP hD hS => ?_)
          cases hw
          replace hP : va_P D vwCl (wB cI cC cK cO q oO oT hh wo wt (va_up hs 2 (y39, y40, y41, y42, y43, y44, y45, y46, y47, y48, y49, y50)) hp kp fp fr sc sl sp sv sf ss) H := hP
          replace hD : va_D A (wB cI cC cK cO q oO oT hh wo wt (va_up hs 2 (y39, y40, y41, y42, y43, y44, y45, y46, y47, y48, y49, y50)) hp kp fp fr sc sl sp sv sf ss) := hD
          refine lv_aload_n hx hb dX4_remember_51 rfl (lv_at hl 0 rfl) ?_
          refine lv_dup hx hb dX4_remember_52 rfl ?_
          refine va_get (D := D) (ci := 4) (v := .int kp) (C := RX4) (T := TX4) (N := 7) hx hb hts iX4 hown hK hP 0 rfl rfl 3 (by decide) w23 (fun _ h9 => h9) rfl dX4_remember_53 ?_
          refine lv_iconst (v := 1) hx hb dX4_remember_56 (by decide) ?_
          refine lv_iadd hx hb dX4_remember_57 ?_
          refine va_put (D := D) (ci := 4) (v := .int (kp + 1)) (ty := .int) (C := RX4) (T := TX4) (N := 7) hx hb hts iX4 tyX4 tyX4_ok nmX4 hown hK hP hD hS 0 rfl rfl 3 (by decide) w23 (fun _ h9 => h9) rfl (by decide +kernel) rfl rfl (Nat.le_of_ble_eq_true rfl) dX4_remember_58 (fun H locs hP hD hS => ?_)
          replace hP : va_P D vwCl (wB cI cC cK cO q oO oT hh wo wt (va_up hs 2 (y39, y40, y41, y42, y43, y44, y45, y46, y47, y48, y49, y50)) hp (kp + 1) fp fr sc sl sp sv sf ss) H := hP
          replace hD : va_D A (wB cI cC cK cO q oO oT hh wo wt (va_up hs 2 (y39, y40, y41, y42, y43, y44, y45, y46, y47, y48, y49, y50)) hp (kp + 1) fp fr sc sl sp sv sf ss) := hD
          exact hret _ _ _ _ ((va_up hs 2 (y39, y40, y41, y42, y43, y44, y45, y46, y47, y48, y49, y50)), hp, (kp + 1)) dX4_remember_61 (op_k hf) hP hS
        replace hf := op_f c37 hf
        by_cases c53 : (hp (kp).toNatClampNeg) = 3
        · replace hf := op_t c53 hf
          rw [c53]
          refine lv_aload_n hx hb dX4_remember_44 rfl (lv_at hl 0 rfl) ?_
          refine va_get (D := D) (ci := 4) (v := .ref (oO 0)) (C := RX4) (T := TX4) (N := 7) hx hb hts iX4 hown hK hP 0 rfl rfl 0 (by decide) w10 (fun _ h9 => h9) rfl dX4_remember_45 ?_
          obtain ⟨⟨y55, y56, y57, y58, y59, y60, y61, y62, y63, y64, y65, y66⟩, h67, hf⟩ := op_b hf
          refine ck_VVp (st := [.ref (oO 0), .ref (hh 3 0)]) (rest := []) (As := [.ref (oO 0)]) (C := RX2) (ci := 2) (ws1 := (fun (u : (Nat → Int32) × (Nat → Int32) × (Nat → Int32) × (Nat → Int32) × (Nat → Int32) × (Nat → Int32) × Int32 × Int32 × (Nat → Nat → Int32) × Int32 × (Nat → Int32) × Int32) => (wB cI cC cK cO q oO oT hh wo wt (va_up hs 3 (u.1, u.2.1, u.2.2.1, u.2.2.2.1, u.2.2.2.2.1, u.2.2.2.2.2.1, u.2.2.2.2.2.2.1, u.2.2.2.2.2.2.2.1, u.2.2.2.2.2.2.2.2.1, u.2.2.2.2.2.2.2.2.2.1, u.2.2.2.2.2.2.2.2.2.2.1, u.2.2.2.2.2.2.2.2.2.2.2)) hp kp fp fr sc sl sp sv sf ss))) ⟨hx, hb, hml, hown, hts⟩ (gE_ok tL tM adK adV) (c_X2_become l D cI cC cK cO tL tM adK adV (hh 3) oO ((hs 3).1) ((hs 3).2.1) ((hs 3).2.2.1) ((hs 3).2.2.2.1) ((hs 3).2.2.2.2.1) ((hs 3).2.2.2.2.2.1) ((hs 3).2.2.2.2.2.2.1) ((hs 3).2.2.2.2.2.2.2.1) ((hs 3).2.2.2.2.2.2.2.2.1) ((hs 3).2.2.2.2.2.2.2.2.2.1) ((hs 3).2.2.2.2.2.2.2.2.2.2.1) ((hs 3).2.2.2.2.2.2.2.2.2.2.2) (wo.1) (wo.2.1) (wo.2.2.1) (wo.2.2.2.1) (wo.2.2.2.2.1) (wo.2.2.2.2.2.1) (wo.2.2.2.2.2.2.1) (wo.2.2.2.2.2.2.2.1) (wo.2.2.2.2.2.2.2.2.1) (wo.2.2.2.2.2.2.2.2.2.1) (wo.2.2.2.2.2.2.2.2.2.2.1) (wo.2.2.2.2.2.2.2.2.2.2.2)  _ h67) (cwV 1 hts gX4_remember_X2_become rfl rfl rfl hv_X2_become ⟨Nat.le_of_ble_eq_true rfl, Nat.le_of_ble_eq_true rfl⟩) hK hP hD hS hA hE (pm_h3a _ _ _ _ _ _ _) (fun _ => (pm_h3a _ _ _ _ _ _ _)) rfl rfl rfl (fun _ => rfl) rfl hl.1 rfl (Nat.le_of_ble_eq_true rfl) dX4_remember_48 ⟨Nat.zero_le _, Nat.zero_le _⟩ (fun u H locs hw hP hD hS => ?_)
          cases hw
          replace hP : va_P D vwCl (wB cI cC cK cO q oO oT hh wo wt (va_up hs 3 (y55, y56, y57, y58, y59, y60, y61, y62, y63, y64, y65, y66)) hp kp fp fr sc sl sp sv sf ss) H := hP
          replace hD : va_D A (wB cI cC cK cO q oO oT hh wo wt (va_up hs 3 (y55, y56, y57, y58, y59, y60, y61, y62, y63, y64, y65, y66)) hp kp fp fr sc sl sp sv sf ss) := hD
          refine lv_aload_n hx hb dX4_remember_51 rfl (lv_at hl 0 rfl) ?_
          refine lv_dup hx hb dX4_remember_52 rfl ?_
          refine va_get (D := D) (ci := 4) (v := .int kp) (C := RX4) (T := TX4) (N := 7) hx hb hts iX4 hown hK hP 0 rfl rfl 3 (by decide) w23 (fun _ h9 => h9) rfl dX4_remember_53 ?_
          refine lv_iconst (v := 1) hx hb dX4_remember_56 (by decide) ?_
          refine lv_iadd hx hb dX4_remember_57 ?_
          refine va_put (D := D) (ci := 4) (v := .int (kp + 1)) (ty := .int) (C := RX4) (T := TX4) (N := 7) hx hb hts iX4 tyX4 tyX4_ok nmX4 hown hK hP hD hS 0 rfl rfl 3 (by decide) w23 (fun _ h9 => h9) rfl (by decide +kernel) rfl rfl (Nat.le_of_ble_eq_true rfl) dX4_remember_58 (fun H locs hP hD hS => ?_)
          replace hP : va_P D vwCl (wB cI cC cK cO q oO oT hh wo wt (va_up hs 3 (y55, y56, y57, y58, y59, y60, y61, y62, y63, y64, y65, y66)) hp (kp + 1) fp fr sc sl sp sv sf ss) H := hP
          replace hD : va_D A (wB cI cC cK cO q oO oT hh wo wt (va_up hs 3 (y55, y56, y57, y58, y59, y60, y61, y62, y63, y64, y65, y66)) hp (kp + 1) fp fr sc sl sp sv sf ss) := hD
          exact hret _ _ _ _ ((va_up hs 3 (y55, y56, y57, y58, y59, y60, y61, y62, y63, y64, y65, y66)), hp, (kp + 1)) dX4_remember_61 (op_k hf) hP hS
        replace hf := op_f c53 hf
        cases hf
  · replace hf := op_f c1 hf
    refine lv_aload_n hx hb dX4_remember_12 rfl (lv_at hl 0 rfl) ?_
    obtain ⟨⟨y70, y71⟩, h72, hf⟩ := op_b hf
    refine ck_VVw (st := [.ref (q 0)]) (rest := []) (As := []) (C := RX4) (ci := 4) ⟨hx, hb, hml, hown, hts⟩ (gE_ok tL tM adK adV) (c_X4_dropOldest l D cI cC cK cO tL tM adK adV q oO oT hh wo wt hs hp kp fp fr sc sl sp sv sf ss  _ h72) (cwV 0 hts gX4_remember_X4_dropOldest rfl rfl rfl hv_X4_dropOldest ⟨Nat.le_of_ble_eq_true rfl, Nat.le_of_ble_eq_true rfl⟩) hK hP hD hS hA hE rfl rfl rfl (fun _ => rfl) rfl hl.1 rfl (Nat.le_of_ble_eq_true rfl) dX4_remember_13 ⟨Nat.zero_le _, Nat.zero_le _⟩ (fun u H locs hw hP hD hS => ?_)
    cases hw
    replace hP : va_P D vwCl (wB cI cC cK cO q oO oT hh wo wt hs y70 y71 fp fr sc sl sp sv sf ss) H := hP
    replace hD : va_D A (wB cI cC cK cO q oO oT hh wo wt hs y70 y71 fp fr sc sl sp sv sf ss) := hD
    refine lv_aload_n hx hb dX4_remember_16 rfl (lv_at hl 0 rfl) ?_
    refine va_get (D := D) (ci := 4) (v := .int y71) (C := RX4) (T := TX4) (N := 7) hx hb hts iX4 hown hK hP 0 rfl rfl 3 (by decide) w23 (fun _ h9 => h9) rfl dX4_remember_17 ?_
    refine lv_if_lt (tgt := 61) hx hb dX4_remember_20 (by decide) (fun c74 => ?_) (fun c74 => ?_)
    · replace hf := op_t c74 hf
      exact hret _ _ _ _ (hs, y70, y71) dX4_remember_61 (op_k hf) hP hS
    · replace hf := op_f c74 hf
      refine lv_aload_n hx hb dX4_remember_23 rfl (lv_at hl 0 rfl) ?_
      refine va_get (D := D) (ci := 4) (v := .int y71) (C := RX4) (T := TX4) (N := 7) hx hb hts iX4 hown hK hP 0 rfl rfl 3 (by decide) w23 (fun _ h9 => h9) rfl dX4_remember_24 ?_
      refine lv_aload_n hx hb dX4_remember_27 rfl (lv_at hl 0 rfl) ?_
      refine va_get (D := D) (ci := 4) (v := .ref (q 1)) (C := RX4) (T := TX4) (N := 7) hx hb hts iX4 hown hK hP 0 rfl rfl 2 (by decide) w19 (fun _ h9 => h9) rfl dX4_remember_28 ?_
      refine va_alen (D := D) hx hb hK hP 1 3 rfl rfl (v := 4) rfl dX4_remember_31 ?_
      refine lv_icmp_ge (tgt := 61) hx hb dX4_remember_32 (by decide) (fun c75 => ?_) (fun c75 => ?_)
      · replace hf := op_t c75 hf
        exact hret _ _ _ _ (hs, y70, y71) dX4_remember_61 (op_k hf) hP hS
      · replace hf := op_f c75 hf
        refine lv_aload_n hx hb dX4_remember_35 rfl (lv_at hl 0 rfl) ?_
        refine va_get (D := D) (ci := 4) (v := .ref (q 1)) (C := RX4) (T := TX4) (N := 7) hx hb hts iX4 hown hK hP 0 rfl rfl 2 (by decide) w19 (fun _ h9 => h9) rfl dX4_remember_36 ?_
        refine lv_aload_n hx hb dX4_remember_39 rfl (lv_at hl 0 rfl) ?_
        refine va_get (D := D) (ci := 4) (v := .int y71) (C := RX4) (T := TX4) (N := 7) hx hb hts iX4 hown hK hP 0 rfl rfl 3 (by decide) w23 (fun _ h9 => h9) rfl dX4_remember_40 ?_
        obtain ⟨q76, hf⟩ := op_x hf
        refine ck_aald (j := (y71).toNatClampNeg) (v := hh (y70 (y71).toNatClampNeg) 0) hx hb hK hP 1 3 rfl rfl q76 rfl rfl dX4_remember_43 ?_
        by_cases c77 : (y70 (y71).toNatClampNeg) = 0
        · replace hf := op_t c77 hf
          rw [c77]
          refine lv_aload_n hx hb dX4_remember_44 rfl (lv_at hl 0 rfl) ?_
          refine va_get (D := D) (ci := 4) (v := .ref (oO 0)) (C := RX4) (T := TX4) (N := 7) hx hb hts iX4 hown hK hP 0 rfl rfl 0 (by decide) w10 (fun _ h9 => h9) rfl dX4_remember_45 ?_
          obtain ⟨⟨y79, y80, y81, y82, y83, y84, y85, y86, y87, y88, y89, y90⟩, h91, hf⟩ := op_b hf
          refine ck_VVp (st := [.ref (oO 0), .ref (hh 0 0)]) (rest := []) (As := [.ref (oO 0)]) (C := RX2) (ci := 2) (ws1 := (fun (u : (Nat → Int32) × (Nat → Int32) × (Nat → Int32) × (Nat → Int32) × (Nat → Int32) × (Nat → Int32) × Int32 × Int32 × (Nat → Nat → Int32) × Int32 × (Nat → Int32) × Int32) => (wB cI cC cK cO q oO oT hh wo wt (va_up hs 0 (u.1, u.2.1, u.2.2.1, u.2.2.2.1, u.2.2.2.2.1, u.2.2.2.2.2.1, u.2.2.2.2.2.2.1, u.2.2.2.2.2.2.2.1, u.2.2.2.2.2.2.2.2.1, u.2.2.2.2.2.2.2.2.2.1, u.2.2.2.2.2.2.2.2.2.2.1, u.2.2.2.2.2.2.2.2.2.2.2)) y70 y71 fp fr sc sl sp sv sf ss))) ⟨hx, hb, hml, hown, hts⟩ (gE_ok tL tM adK adV) (c_X2_become l D cI cC cK cO tL tM adK adV (hh 0) oO ((hs 0).1) ((hs 0).2.1) ((hs 0).2.2.1) ((hs 0).2.2.2.1) ((hs 0).2.2.2.2.1) ((hs 0).2.2.2.2.2.1) ((hs 0).2.2.2.2.2.2.1) ((hs 0).2.2.2.2.2.2.2.1) ((hs 0).2.2.2.2.2.2.2.2.1) ((hs 0).2.2.2.2.2.2.2.2.2.1) ((hs 0).2.2.2.2.2.2.2.2.2.2.1) ((hs 0).2.2.2.2.2.2.2.2.2.2.2) (wo.1) (wo.2.1) (wo.2.2.1) (wo.2.2.2.1) (wo.2.2.2.2.1) (wo.2.2.2.2.2.1) (wo.2.2.2.2.2.2.1) (wo.2.2.2.2.2.2.2.1) (wo.2.2.2.2.2.2.2.2.1) (wo.2.2.2.2.2.2.2.2.2.1) (wo.2.2.2.2.2.2.2.2.2.2.1) (wo.2.2.2.2.2.2.2.2.2.2.2)  _ h91) (cwV 1 hts gX4_remember_X2_become rfl rfl rfl hv_X2_become ⟨Nat.le_of_ble_eq_true rfl, Nat.le_of_ble_eq_true rfl⟩) hK hP hD hS hA hE (pm_h0a _ _ _ _ _) (fun _ => (pm_h0a _ _ _ _ _)) rfl rfl rfl (fun _ => rfl) rfl hl.1 rfl (Nat.le_of_ble_eq_true rfl) dX4_remember_48 ⟨Nat.zero_le _, Nat.zero_le _⟩ (fun u H locs hw hP hD hS => ?_)
          cases hw
          replace hP : va_P D vwCl (wB cI cC cK cO q oO oT hh wo wt (va_up hs 0 (y79, y80, y81, y82, y83, y84, y85, y86, y87, y88, y89, y90)) y70 y71 fp fr sc sl sp sv sf ss) H := hP
          replace hD : va_D A (wB cI cC cK cO q oO oT hh wo wt (va_up hs 0 (y79, y80, y81, y82, y83, y84, y85, y86, y87, y88, y89, y90)) y70 y71 fp fr sc sl sp sv sf ss) := hD
          refine lv_aload_n hx hb dX4_remember_51 rfl (lv_at hl 0 rfl) ?_
          refine lv_dup hx hb dX4_remember_52 rfl ?_
          refine va_get (D := D) (ci := 4) (v := .int y71) (C := RX4) (T := TX4) (N := 7) hx hb hts iX4 hown hK hP 0 rfl rfl 3 (by decide) w23 (fun _ h9 => h9) rfl dX4_remember_53 ?_
          refine lv_iconst (v := 1) hx hb dX4_remember_56 (by decide) ?_
          refine lv_iadd hx hb dX4_remember_57 ?_
          refine va_put (D := D) (ci := 4) (v := .int (y71 + 1)) (ty := .int) (C := RX4) (T := TX4) (N := 7) hx hb hts iX4 tyX4 tyX4_ok nmX4 hown hK hP hD hS 0 rfl rfl 3 (by decide) w23 (fun _ h9 => h9) rfl (by decide +kernel) rfl rfl (Nat.le_of_ble_eq_true rfl) dX4_remember_58 (fun H locs hP hD hS => ?_)
          replace hP : va_P D vwCl (wB cI cC cK cO q oO oT hh wo wt (va_up hs 0 (y79, y80, y81, y82, y83, y84, y85, y86, y87, y88, y89, y90)) y70 (y71 + 1) fp fr sc sl sp sv sf ss) H := hP
          replace hD : va_D A (wB cI cC cK cO q oO oT hh wo wt (va_up hs 0 (y79, y80, y81, y82, y83, y84, y85, y86, y87, y88, y89, y90)) y70 (y71 + 1) fp fr sc sl sp sv sf ss) := hD
          exact hret _ _ _ _ ((va_up hs 0 (y79, y80, y81, y82, y83, y84, y85, y86, y87, y88, y89, y90)), y70, (y71 + 1)) dX4_remember_61 (op_k hf) hP hS
        replace hf := op_f c77 hf
        by_cases c93 : (y70 (y71).toNatClampNeg) = 1
        · replace hf := op_t c93 hf
          rw [c93]
          refine lv_aload_n hx hb dX4_remember_44 rfl (lv_at hl 0 rfl) ?_
          refine va_get (D := D) (ci := 4) (v := .ref (oO 0)) (C := RX4) (T := TX4) (N := 7) hx hb hts iX4 hown hK hP 0 rfl rfl 0 (by decide) w10 (fun _ h9 => h9) rfl dX4_remember_45 ?_
          obtain ⟨⟨y95, y96, y97, y98, y99, y100, y101, y102, y103, y104, y105, y106⟩, h107, hf⟩ := op_b hf
          refine ck_VVp (st := [.ref (oO 0), .ref (hh 1 0)]) (rest := []) (As := [.ref (oO 0)]) (C := RX2) (ci := 2) (ws1 := (fun (u : (Nat → Int32) × (Nat → Int32) × (Nat → Int32) × (Nat → Int32) × (Nat → Int32) × (Nat → Int32) × Int32 × Int32 × (Nat → Nat → Int32) × Int32 × (Nat → Int32) × Int32) => (wB cI cC cK cO q oO oT hh wo wt (va_up hs 1 (u.1, u.2.1, u.2.2.1, u.2.2.2.1, u.2.2.2.2.1, u.2.2.2.2.2.1, u.2.2.2.2.2.2.1, u.2.2.2.2.2.2.2.1, u.2.2.2.2.2.2.2.2.1, u.2.2.2.2.2.2.2.2.2.1, u.2.2.2.2.2.2.2.2.2.2.1, u.2.2.2.2.2.2.2.2.2.2.2)) y70 y71 fp fr sc sl sp sv sf ss))) ⟨hx, hb, hml, hown, hts⟩ (gE_ok tL tM adK adV) (c_X2_become l D cI cC cK cO tL tM adK adV (hh 1) oO ((hs 1).1) ((hs 1).2.1) ((hs 1).2.2.1) ((hs 1).2.2.2.1) ((hs 1).2.2.2.2.1) ((hs 1).2.2.2.2.2.1) ((hs 1).2.2.2.2.2.2.1) ((hs 1).2.2.2.2.2.2.2.1) ((hs 1).2.2.2.2.2.2.2.2.1) ((hs 1).2.2.2.2.2.2.2.2.2.1) ((hs 1).2.2.2.2.2.2.2.2.2.2.1) ((hs 1).2.2.2.2.2.2.2.2.2.2.2) (wo.1) (wo.2.1) (wo.2.2.1) (wo.2.2.2.1) (wo.2.2.2.2.1) (wo.2.2.2.2.2.1) (wo.2.2.2.2.2.2.1) (wo.2.2.2.2.2.2.2.1) (wo.2.2.2.2.2.2.2.2.1) (wo.2.2.2.2.2.2.2.2.2.1) (wo.2.2.2.2.2.2.2.2.2.2.1) (wo.2.2.2.2.2.2.2.2.2.2.2)  _ h107) (cwV 1 hts gX4_remember_X2_become rfl rfl rfl hv_X2_become ⟨Nat.le_of_ble_eq_true rfl, Nat.le_of_ble_eq_true rfl⟩) hK hP hD hS hA hE (pm_h1a _ _ _ _ _ _) (fun _ => (pm_h1a _ _ _ _ _ _)) rfl rfl rfl (fun _ => rfl) rfl hl.1 rfl (Nat.le_of_ble_eq_true rfl) dX4_remember_48 ⟨Nat.zero_le _, Nat.zero_le _⟩ (fun u H locs hw hP hD hS => ?_)
          cases hw
          replace hP : va_P D vwCl (wB cI cC cK cO q oO oT hh wo wt (va_up hs 1 (y95, y96, y97, y98, y99, y100, y101, y102, y103, y104, y105, y106)) y70 y71 fp fr sc sl sp sv sf ss) H := hP
          replace hD : va_D A (wB cI cC cK cO q oO oT hh wo wt (va_up hs 1 (y95, y96, y97, y98, y99, y100, y101, y102, y103, y104, y105, y106)) y70 y71 fp fr sc sl sp sv sf ss) := hD
          refine lv_aload_n hx hb dX4_remember_51 rfl (lv_at hl 0 rfl) ?_
          refine lv_dup hx hb dX4_remember_52 rfl ?_
          refine va_get (D := D) (ci := 4) (v := .int y71) (C := RX4) (T := TX4) (N := 7) hx hb hts iX4 hown hK hP 0 rfl rfl 3 (by decide) w23 (fun _ h9 => h9) rfl dX4_remember_53 ?_
          refine lv_iconst (v := 1) hx hb dX4_remember_56 (by decide) ?_
          refine lv_iadd hx hb dX4_remember_57 ?_
          refine va_put (D := D) (ci := 4) (v := .int (y71 + 1)) (ty := .int) (C := RX4) (T := TX4) (N := 7) hx hb hts iX4 tyX4 tyX4_ok nmX4 hown hK hP hD hS 0 rfl rfl 3 (by decide) w23 (fun _ h9 => h9) rfl (by decide +kernel) rfl rfl (Nat.le_of_ble_eq_true rfl) dX4_remember_58 (fun H locs hP hD hS => ?_)
          replace hP : va_P D vwCl (wB cI cC cK cO q oO oT hh wo wt (va_up hs 1 (y95, y96, y97, y98, y99, y100, y101, y102, y103, y104, y105, y106)) y70 (y71 + 1) fp fr sc sl sp sv sf ss) H := hP
          replace hD : va_D A (wB cI cC cK cO q oO oT hh wo wt (va_up hs 1 (y95, y96, y97, y98, y99, y100, y101, y102, y103, y104, y105, y106)) y70 (y71 + 1) fp fr sc sl sp sv sf ss) := hD
          exact hret _ _ _ _ ((va_up hs 1 (y95, y96, y97, y98, y99, y100, y101, y102, y103, y104, y105, y106)), y70, (y71 + 1)) dX4_remember_61 (op_k hf) hP hS
        replace hf := op_f c93 hf
        by_cases c109 : (y70 (y71).toNatClampNeg) = 2
        · replace hf := op_t c109 hf
          rw [c109]
          refine lv_aload_n hx hb dX4_remember_44 rfl (lv_at hl 0 rfl) ?_
          refine va_get (D := D) (ci := 4) (v := .ref (oO 0)) (C := RX4) (T := TX4) (N := 7) hx hb hts iX4 hown hK hP 0 rfl rfl 0 (by decide) w10 (fun _ h9 => h9) rfl dX4_remember_45 ?_
          obtain ⟨⟨y111, y112, y113, y114, y115, y116, y117, y118, y119, y120, y121, y122⟩, h123, hf⟩ := op_b hf
          refine ck_VVp (st := [.ref (oO 0), .ref (hh 2 0)]) (rest := []) (As := [.ref (oO 0)]) (C := RX2) (ci := 2) (ws1 := (fun (u : (Nat → Int32) × (Nat → Int32) × (Nat → Int32) × (Nat → Int32) × (Nat → Int32) × (Nat → Int32) × Int32 × Int32 × (Nat → Nat → Int32) × Int32 × (Nat → Int32) × Int32) => (wB cI cC cK cO q oO oT hh wo wt (va_up hs 2 (u.1, u.2.1, u.2.2.1, u.2.2.2.1, u.2.2.2.2.1, u.2.2.2.2.2.1, u.2.2.2.2.2.2.1, u.2.2.2.2.2.2.2.1, u.2.2.2.2.2.2.2.2.1, u.2.2.2.2.2.2.2.2.2.1, u.2.2.2.2.2.2.2.2.2.2.1, u.2.2.2.2.2.2.2.2.2.2.2)) y70 y71 fp fr sc sl sp sv sf ss))) ⟨hx, hb, hml, hown, hts⟩ (gE_ok tL tM adK adV) (c_X2_become l D cI cC cK cO tL tM adK adV (hh 2) oO ((hs 2).1) ((hs 2).2.1) ((hs 2).2.2.1) ((hs 2).2.2.2.1) ((hs 2).2.2.2.2.1) ((hs 2).2.2.2.2.2.1) ((hs 2).2.2.2.2.2.2.1) ((hs 2).2.2.2.2.2.2.2.1) ((hs 2).2.2.2.2.2.2.2.2.1) ((hs 2).2.2.2.2.2.2.2.2.2.1) ((hs 2).2.2.2.2.2.2.2.2.2.2.1) ((hs 2).2.2.2.2.2.2.2.2.2.2.2) (wo.1) (wo.2.1) (wo.2.2.1) (wo.2.2.2.1) (wo.2.2.2.2.1) (wo.2.2.2.2.2.1) (wo.2.2.2.2.2.2.1) (wo.2.2.2.2.2.2.2.1) (wo.2.2.2.2.2.2.2.2.1) (wo.2.2.2.2.2.2.2.2.2.1) (wo.2.2.2.2.2.2.2.2.2.2.1) (wo.2.2.2.2.2.2.2.2.2.2.2)  _ h123) (cwV 1 hts gX4_remember_X2_become rfl rfl rfl hv_X2_become ⟨Nat.le_of_ble_eq_true rfl, Nat.le_of_ble_eq_true rfl⟩) hK hP hD hS hA hE (pm_h2a _ _ _ _ _ _ _) (fun _ => (pm_h2a _ _ _ _ _ _ _)) rfl rfl rfl (fun _ => rfl) rfl hl.1 rfl (Nat.le_of_ble_eq_true rfl) dX4_remember_48 ⟨Nat.zero_le _, Nat.zero_le _⟩ (fun u H locs hw hP hD hS => ?_)
          cases hw
          replace hP : va_P D vwCl (wB cI cC cK cO q oO oT hh wo wt (va_up hs 2 (y111, y112, y113, y114, y115, y116, y117, y118, y119, y120, y121, y122)) y70 y71 fp fr sc sl sp sv sf ss) H := hP
          replace hD : va_D A (wB cI cC cK cO q oO oT hh wo wt (va_up hs 2 (y111, y112, y113, y114, y115, y116, y117, y118, y119, y120, y121, y122)) y70 y71 fp fr sc sl sp sv sf ss) := hD
          refine lv_aload_n hx hb dX4_remember_51 rfl (lv_at hl 0 rfl) ?_
          refine lv_dup hx hb dX4_remember_52 rfl ?_
          refine va_get (D := D) (ci := 4) (v := .int y71) (C := RX4) (T := TX4) (N := 7) hx hb hts iX4 hown hK hP 0 rfl rfl 3 (by decide) w23 (fun _ h9 => h9) rfl dX4_remember_53 ?_
          refine lv_iconst (v := 1) hx hb dX4_remember_56 (by decide) ?_
          refine lv_iadd hx hb dX4_remember_57 ?_
          refine va_put (D := D) (ci := 4) (v := .int (y71 + 1)) (ty := .int) (C := RX4) (T := TX4) (N := 7) hx hb hts iX4 tyX4 tyX4_ok nmX4 hown hK hP hD hS 0 rfl rfl 3 (by decide) w23 (fun _ h9 => h9) rfl (by decide +kernel) rfl rfl (Nat.le_of_ble_eq_true rfl) dX4_remember_58 (fun H locs hP hD hS => ?_)
          replace hP : va_P D vwCl (wB cI cC cK cO q oO oT hh wo wt (va_up hs 2 (y111, y112, y113, y114, y115, y116, y117, y118, y119, y120, y121, y122)) y70 (y71 + 1) fp fr sc sl sp sv sf ss) H := hP
          replace hD : va_D A (wB cI cC cK cO q oO oT hh wo wt (va_up hs 2 (y111, y112, y113, y114, y115, y116, y117, y118, y119, y120, y121, y122)) y70 (y71 + 1) fp fr sc sl sp sv sf ss) := hD
          exact hret _ _ _ _ ((va_up hs 2 (y111, y112, y113, y114, y115, y116, y117, y118, y119, y120, y121, y122)), y70, (y71 + 1)) dX4_remember_61 (op_k hf) hP hS
        replace hf := op_f c109 hf
        by_cases c125 : (y70 (y71).toNatClampNeg) = 3
        · replace hf := op_t c125 hf
          rw [c125]
          refine lv_aload_n hx hb dX4_remember_44 rfl (lv_at hl 0 rfl) ?_
          refine va_get (D := D) (ci := 4) (v := .ref (oO 0)) (C := RX4) (T := TX4) (N := 7) hx hb hts iX4 hown hK hP 0 rfl rfl 0 (by decide) w10 (fun _ h9 => h9) rfl dX4_remember_45 ?_
          obtain ⟨⟨y127, y128, y129, y130, y131, y132, y133, y134, y135, y136, y137, y138⟩, h139, hf⟩ := op_b hf
          refine ck_VVp (st := [.ref (oO 0), .ref (hh 3 0)]) (rest := []) (As := [.ref (oO 0)]) (C := RX2) (ci := 2) (ws1 := (fun (u : (Nat → Int32) × (Nat → Int32) × (Nat → Int32) × (Nat → Int32) × (Nat → Int32) × (Nat → Int32) × Int32 × Int32 × (Nat → Nat → Int32) × Int32 × (Nat → Int32) × Int32) => (wB cI cC cK cO q oO oT hh wo wt (va_up hs 3 (u.1, u.2.1, u.2.2.1, u.2.2.2.1, u.2.2.2.2.1, u.2.2.2.2.2.1, u.2.2.2.2.2.2.1, u.2.2.2.2.2.2.2.1, u.2.2.2.2.2.2.2.2.1, u.2.2.2.2.2.2.2.2.2.1, u.2.2.2.2.2.2.2.2.2.2.1, u.2.2.2.2.2.2.2.2.2.2.2)) y70 y71 fp fr sc sl sp sv sf ss))) ⟨hx, hb, hml, hown, hts⟩ (gE_ok tL tM adK adV) (c_X2_become l D cI cC cK cO tL tM adK adV (hh 3) oO ((hs 3).1) ((hs 3).2.1) ((hs 3).2.2.1) ((hs 3).2.2.2.1) ((hs 3).2.2.2.2.1) ((hs 3).2.2.2.2.2.1) ((hs 3).2.2.2.2.2.2.1) ((hs 3).2.2.2.2.2.2.2.1) ((hs 3).2.2.2.2.2.2.2.2.1) ((hs 3).2.2.2.2.2.2.2.2.2.1) ((hs 3).2.2.2.2.2.2.2.2.2.2.1) ((hs 3).2.2.2.2.2.2.2.2.2.2.2) (wo.1) (wo.2.1) (wo.2.2.1) (wo.2.2.2.1) (wo.2.2.2.2.1) (wo.2.2.2.2.2.1) (wo.2.2.2.2.2.2.1) (wo.2.2.2.2.2.2.2.1) (wo.2.2.2.2.2.2.2.2.1) (wo.2.2.2.2.2.2.2.2.2.1) (wo.2.2.2.2.2.2.2.2.2.2.1) (wo.2.2.2.2.2.2.2.2.2.2.2)  _ h139) (cwV 1 hts gX4_remember_X2_become rfl rfl rfl hv_X2_become ⟨Nat.le_of_ble_eq_true rfl, Nat.le_of_ble_eq_true rfl⟩) hK hP hD hS hA hE (pm_h3a _ _ _ _ _ _ _) (fun _ => (pm_h3a _ _ _ _ _ _ _)) rfl rfl rfl (fun _ => rfl) rfl hl.1 rfl (Nat.le_of_ble_eq_true rfl) dX4_remember_48 ⟨Nat.zero_le _, Nat.zero_le _⟩ (fun u H locs hw hP hD hS => ?_)
          cases hw
          replace hP : va_P D vwCl (wB cI cC cK cO q oO oT hh wo wt (va_up hs 3 (y127, y128, y129, y130, y131, y132, y133, y134, y135, y136, y137, y138)) y70 y71 fp fr sc sl sp sv sf ss) H := hP
          replace hD : va_D A (wB cI cC cK cO q oO oT hh wo wt (va_up hs 3 (y127, y128, y129, y130, y131, y132, y133, y134, y135, y136, y137, y138)) y70 y71 fp fr sc sl sp sv sf ss) := hD
          refine lv_aload_n hx hb dX4_remember_51 rfl (lv_at hl 0 rfl) ?_
          refine lv_dup hx hb dX4_remember_52 rfl ?_
          refine va_get (D := D) (ci := 4) (v := .int y71) (C := RX4) (T := TX4) (N := 7) hx hb hts iX4 hown hK hP 0 rfl rfl 3 (by decide) w23 (fun _ h9 => h9) rfl dX4_remember_53 ?_
          refine lv_iconst (v := 1) hx hb dX4_remember_56 (by decide) ?_
          refine lv_iadd hx hb dX4_remember_57 ?_
          refine va_put (D := D) (ci := 4) (v := .int (y71 + 1)) (ty := .int) (C := RX4) (T := TX4) (N := 7) hx hb hts iX4 tyX4 tyX4_ok nmX4 hown hK hP hD hS 0 rfl rfl 3 (by decide) w23 (fun _ h9 => h9) rfl (by decide +kernel) rfl rfl (Nat.le_of_ble_eq_true rfl) dX4_remember_58 (fun H locs hP hD hS => ?_)
          replace hP : va_P D vwCl (wB cI cC cK cO q oO oT hh wo wt (va_up hs 3 (y127, y128, y129, y130, y131, y132, y133, y134, y135, y136, y137, y138)) y70 (y71 + 1) fp fr sc sl sp sv sf ss) H := hP
          replace hD : va_D A (wB cI cC cK cO q oO oT hh wo wt (va_up hs 3 (y127, y128, y129, y130, y131, y132, y133, y134, y135, y136, y137, y138)) y70 (y71 + 1) fp fr sc sl sp sv sf ss) := hD
          exact hret _ _ _ _ ((va_up hs 3 (y127, y128, y129, y130, y131, y132, y133, y134, y135, y136, y137, y138)), y70, (y71 + 1)) dX4_remember_61 (op_k hf) hP hS
        replace hf := op_f c125 hf
        cases hf
set_option maxHeartbeats 4000000 in
set_option maxRecDepth 100000 in
theorem c_X4_adopt (l : Launch) (D : va_G) (cI cC cK cO : ClassId) (tL tM : Nat) (adK adV : Nat → Nat) (q : Nat → Nat) (oO : Nat → Nat) (oT : Nat → Nat) (hh : Nat → Nat → Nat) (wo : OW) (wt : OW) (hs : Nat → OW) (hp : Nat → Nat) (kp : Int32) (fp : Int32) (fr : Int32) (sc : Nat → Int32) (sl : Int32) (sp : Int32) (sv : Int32) (sf : Int32) (ss : Int32) (x1 : Int32) (R : Int32 × OW × (Nat → OW) × (Nat → Nat) × Int32) (hf : f_X4_adopt wo wt hs hp kp x1 = some R) : KI l D (TY cI cC cK cO) (gE tL tM adK adV) yX4_adopt wsX4_adopt 5 [.ref (q 0), .int x1] (wB cI cC cK cO q oO oT hh wo wt hs hp kp fp fr sc sl sp sv sf ss) (fun (r : Int32) (u : OW × (Nat → OW) × (Nat → Nat) × Int32) => (r, u) = R) (fun u => (wB cI cC cK cO q oO oT hh (u.1) wt (u.2.1) (u.2.2.1) (u.2.2.2) fp fr sc sl sp sv sf ss)) := by
  refine KI.ofI (cc := cX4_adopt) (maxL := 2) (C := RX4) (by decide) rfl rfl (Nat.le_of_ble_eq_true rfl) ?_
  intro p e s m args below meth c A Q hx hb hml hts hown hP hK hD hA hE hS hret ls hl
  replace hl : lv_has ls 2 [(0, .ref (q 0)), (1, .int x1)] := hl
  have w10 := hts (.fieldLink RX4 10 "BlockClerks" "office" "LBlockClerks$Office;") (by decide +kernel)
  have w16 := hts (.fieldLink RX4 16 "BlockClerks" "trial" "LBlockClerks$Office;") (by decide +kernel)
  have iX4 : ∀ w ∈ wsX40, w ∈ wsX4_adopt := by decide +kernel
  rw [f_X4_adopt] at hf
  refine lv_iload_n hx hb dX4_adopt_0 rfl (lv_at hl 1 rfl) ?_
  refine lv_if_lt (tgt := 19) hx hb dX4_adopt_1 (by decide) (fun c1 => ?_) (fun c1 => ?_)
  · replace hf := op_t c1 hf
    refine lv_iload_n hx hb dX4_adopt_19 rfl (lv_at hl 1 rfl) ?_
    exact hret _ _ _ _ _ (wo, hs, hp, kp) dX4_adopt_20 (op_k hf) hP hS
  · replace hf := op_f c1 hf
    refine lv_aload_n hx hb dX4_adopt_4 rfl (lv_at hl 0 rfl) ?_
    obtain ⟨⟨y3, y4, y5⟩, h6, hf⟩ := op_b hf
    refine ck_VVw (st := [.ref (q 0)]) (rest := []) (As := []) (C := RX4) (ci := 4) ⟨hx, hb, hml, hown, hts⟩ (gE_ok tL tM adK adV) (c_X4_remember l D cI cC cK cO tL tM adK adV q oO oT hh wo wt hs hp kp fp fr sc sl sp sv sf ss  _ h6) (cwV 0 hts gX4_adopt_X4_remember rfl rfl rfl hv_X4_remember ⟨Nat.le_of_ble_eq_true rfl, Nat.le_of_ble_eq_true rfl⟩) hK hP hD hS hA hE rfl rfl rfl (fun _ => rfl) rfl hl.1 rfl (Nat.le_of_ble_eq_true rfl) dX4_adopt_5 ⟨Nat.zero_le _, Nat.zero_le _⟩ (fun u H locs hw hP hD hS => ?_)
    cases hw
    replace hP : va_P D vwCl (wB cI cC cK cO q oO oT hh wo wt y3 y4 y5 fp fr sc sl sp sv sf ss) H := hP
    replace hD : va_D A (wB cI cC cK cO q oO oT hh wo wt y3 y4 y5 fp fr sc sl sp sv sf ss) := hD
    refine lv_aload_n hx hb dX4_adopt_8 rfl (lv_at hl 0 rfl) ?_
    refine va_get (D := D) (ci := 4) (v := .ref (oO 0)) (C := RX4) (T := TX4) (N := 7) hx hb hts iX4 hown hK hP 0 rfl rfl 0 (by decide) w10 (fun _ h9 => h9) rfl dX4_adopt_9 ?_
    refine lv_aload_n hx hb dX4_adopt_12 rfl (lv_at hl 0 rfl) ?_
    refine va_get (D := D) (ci := 4) (v := .ref (oT 0)) (C := RX4) (T := TX4) (N := 7) hx hb hts iX4 hown hK hP 0 rfl rfl 1 (by decide) w16 (fun _ h9 => h9) rfl dX4_adopt_13 ?_
    obtain ⟨⟨y9, y10, y11, y12, y13, y14, y15, y16, y17, y18, y19, y20⟩, h21, hf⟩ := op_b hf
    refine ck_VVp (st := [.ref (oT 0), .ref (oO 0)]) (rest := []) (As := [.ref (oT 0)]) (C := RX2) (ci := 2) (ws1 := (fun (u : (Nat → Int32) × (Nat → Int32) × (Nat → Int32) × (Nat → Int32) × (Nat → Int32) × (Nat → Int32) × Int32 × Int32 × (Nat → Nat → Int32) × Int32 × (Nat → Int32) × Int32) => (wB cI cC cK cO q oO oT hh (u.1, u.2.1, u.2.2.1, u.2.2.2.1, u.2.2.2.2.1, u.2.2.2.2.2.1, u.2.2.2.2.2.2.1, u.2.2.2.2.2.2.2.1, u.2.2.2.2.2.2.2.2.1, u.2.2.2.2.2.2.2.2.2.1, u.2.2.2.2.2.2.2.2.2.2.1, u.2.2.2.2.2.2.2.2.2.2.2) wt y3 y4 y5 fp fr sc sl sp sv sf ss))) ⟨hx, hb, hml, hown, hts⟩ (gE_ok tL tM adK adV) (c_X2_become l D cI cC cK cO tL tM adK adV oO oT (wo.1) (wo.2.1) (wo.2.2.1) (wo.2.2.2.1) (wo.2.2.2.2.1) (wo.2.2.2.2.2.1) (wo.2.2.2.2.2.2.1) (wo.2.2.2.2.2.2.2.1) (wo.2.2.2.2.2.2.2.2.1) (wo.2.2.2.2.2.2.2.2.2.1) (wo.2.2.2.2.2.2.2.2.2.2.1) (wo.2.2.2.2.2.2.2.2.2.2.2) (wt.1) (wt.2.1) (wt.2.2.1) (wt.2.2.2.1) (wt.2.2.2.2.1) (wt.2.2.2.2.2.1) (wt.2.2.2.2.2.2.1) (wt.2.2.2.2.2.2.2.1) (wt.2.2.2.2.2.2.2.2.1) (wt.2.2.2.2.2.2.2.2.2.1) (wt.2.2.2.2.2.2.2.2.2.2.1) (wt.2.2.2.2.2.2.2.2.2.2.2)  _ h21) (cwV 1 hts gX4_adopt_X2_become rfl rfl rfl hv_X2_become ⟨Nat.le_of_ble_eq_true rfl, Nat.le_of_ble_eq_true rfl⟩) hK hP hD hS hA hE (pm_at _ _ _ _) (fun _ => (pm_at _ _ _ _)) rfl rfl rfl (fun _ => rfl) rfl hl.1 rfl (Nat.le_of_ble_eq_true rfl) dX4_adopt_16 ⟨Nat.zero_le _, Nat.zero_le _⟩ (fun u H locs hw hP hD hS => ?_)
    cases hw
    replace hP : va_P D vwCl (wB cI cC cK cO q oO oT hh (y9, y10, y11, y12, y13, y14, y15, y16, y17, y18, y19, y20) wt y3 y4 y5 fp fr sc sl sp sv sf ss) H := hP
    replace hD : va_D A (wB cI cC cK cO q oO oT hh (y9, y10, y11, y12, y13, y14, y15, y16, y17, y18, y19, y20) wt y3 y4 y5 fp fr sc sl sp sv sf ss) := hD
    refine lv_iload_n hx hb dX4_adopt_19 rfl (lv_at hl 1 rfl) ?_
    exact hret _ _ _ _ _ ((y9, y10, y11, y12, y13, y14, y15, y16, y17, y18, y19, y20), y3, y4, y5) dX4_adopt_20 (op_k hf) hP hS
set_option maxHeartbeats 4000000 in
set_option maxRecDepth 100000 in
theorem c_X4_clerk (l : Launch) (D : va_G) (cI cC cK cO : ClassId) (tL tM : Nat) (adK adV : Nat → Nat) (q : Nat → Nat) (oO : Nat → Nat) (oT : Nat → Nat) (hh : Nat → Nat → Nat) (wo : OW) (wt : OW) (hs : Nat → OW) (hp : Nat → Nat) (kp : Int32) (fp : Int32) (fr : Int32) (sc : Nat → Int32) (sl : Int32) (sp : Int32) (sv : Int32) (sf : Int32) (ss : Int32) (x1 : Int32) (R : Int32 × OW × OW × (Nat → OW) × (Nat → Nat) × Int32) (hf : f_X4_clerk wo wt hs hp kp x1 = some R) : KI l D (TY cI cC cK cO) (gE tL tM adK adV) yX4_clerk wsX4_clerk 6 [.ref (q 0), .int x1] (wB cI cC cK cO q oO oT hh wo wt hs hp kp fp fr sc sl sp sv sf ss) (fun (r : Int32) (u : OW × OW × (Nat → OW) × (Nat → Nat) × Int32) => (r, u) = R) (fun u => (wB cI cC cK cO q oO oT hh (u.1) (u.2.1) (u.2.2.1) (u.2.2.2.1) (u.2.2.2.2) fp fr sc sl sp sv sf ss)) := by
  refine KI.ofI (cc := cX4_clerk) (maxL := 2) (C := RX4) (by decide) rfl rfl (Nat.le_of_ble_eq_true rfl) ?_
  intro p e s m args below meth c A Q hx hb hml hts hown hP hK hD hA hE hS hret ls hl
  replace hl : lv_has ls 2 [(0, .ref (q 0)), (1, .int x1)] := hl
  have w10 := hts (.fieldLink RX4 10 "BlockClerks" "office" "LBlockClerks$Office;") (by decide +kernel)
  have w16 := hts (.fieldLink RX4 16 "BlockClerks" "trial" "LBlockClerks$Office;") (by decide +kernel)
  have iX4 : ∀ w ∈ wsX40, w ∈ wsX4_clerk := by decide +kernel
  rw [f_X4_clerk] at hf
  refine lv_aload_n hx hb dX4_clerk_0 rfl (lv_at hl 0 rfl) ?_
  refine va_get (D := D) (ci := 4) (v := .ref (oT 0)) (C := RX4) (T := TX4) (N := 7) hx hb hts iX4 hown hK hP 0 rfl rfl 1 (by decide) w16 (fun _ h9 => h9) rfl dX4_clerk_1 ?_
  refine lv_aload_n hx hb dX4_clerk_4 rfl (lv_at hl 0 rfl) ?_
  refine va_get (D := D) (ci := 4) (v := .ref (oO 0)) (C := RX4) (T := TX4) (N := 7) hx hb hts iX4 hown hK hP 0 rfl rfl 0 (by decide) w10 (fun _ h9 => h9) rfl dX4_clerk_5 ?_
  obtain ⟨⟨y2, y3, y4, y5, y6, y7, y8, y9, y10, y11, y12, y13⟩, h14, hf⟩ := op_b hf
  refine ck_VVp (st := [.ref (oO 0), .ref (oT 0)]) (rest := []) (As := [.ref (oO 0)]) (C := RX2) (ci := 2) (ws1 := (fun (u : (Nat → Int32) × (Nat → Int32) × (Nat → Int32) × (Nat → Int32) × (Nat → Int32) × (Nat → Int32) × Int32 × Int32 × (Nat → Nat → Int32) × Int32 × (Nat → Int32) × Int32) => (wB cI cC cK cO q oO oT hh wo (u.1, u.2.1, u.2.2.1, u.2.2.2.1, u.2.2.2.2.1, u.2.2.2.2.2.1, u.2.2.2.2.2.2.1, u.2.2.2.2.2.2.2.1, u.2.2.2.2.2.2.2.2.1, u.2.2.2.2.2.2.2.2.2.1, u.2.2.2.2.2.2.2.2.2.2.1, u.2.2.2.2.2.2.2.2.2.2.2) hs hp kp fp fr sc sl sp sv sf ss))) ⟨hx, hb, hml, hown, hts⟩ (gE_ok tL tM adK adV) (c_X2_become l D cI cC cK cO tL tM adK adV oT oO (wt.1) (wt.2.1) (wt.2.2.1) (wt.2.2.2.1) (wt.2.2.2.2.1) (wt.2.2.2.2.2.1) (wt.2.2.2.2.2.2.1) (wt.2.2.2.2.2.2.2.1) (wt.2.2.2.2.2.2.2.2.1) (wt.2.2.2.2.2.2.2.2.2.1) (wt.2.2.2.2.2.2.2.2.2.2.1) (wt.2.2.2.2.2.2.2.2.2.2.2) (wo.1) (wo.2.1) (wo.2.2.1) (wo.2.2.2.1) (wo.2.2.2.2.1) (wo.2.2.2.2.2.1) (wo.2.2.2.2.2.2.1) (wo.2.2.2.2.2.2.2.1) (wo.2.2.2.2.2.2.2.2.1) (wo.2.2.2.2.2.2.2.2.2.1) (wo.2.2.2.2.2.2.2.2.2.2.1) (wo.2.2.2.2.2.2.2.2.2.2.2)  _ h14) (cwV 1 hts gX4_clerk_X2_become rfl rfl rfl hv_X2_become ⟨Nat.le_of_ble_eq_true rfl, Nat.le_of_ble_eq_true rfl⟩) hK hP hD hS hA hE (pm_ta _ _ _ _) (fun _ => (pm_ta _ _ _ _)) rfl rfl rfl (fun _ => rfl) rfl hl.1 rfl (Nat.le_of_ble_eq_true rfl) dX4_clerk_8 ⟨Nat.zero_le _, Nat.zero_le _⟩ (fun u H locs hw hP hD hS => ?_)
  cases hw
  replace hP : va_P D vwCl (wB cI cC cK cO q oO oT hh wo (y2, y3, y4, y5, y6, y7, y8, y9, y10, y11, y12, y13) hs hp kp fp fr sc sl sp sv sf ss) H := hP
  replace hD : va_D A (wB cI cC cK cO q oO oT hh wo (y2, y3, y4, y5, y6, y7, y8, y9, y10, y11, y12, y13) hs hp kp fp fr sc sl sp sv sf ss) := hD
  refine lv_aload_n hx hb dX4_clerk_11 rfl (lv_at hl 0 rfl) ?_
  refine lv_aload_n hx hb dX4_clerk_12 rfl (lv_at hl 0 rfl) ?_
  refine va_get (D := D) (ci := 4) (v := .ref (oT 0)) (C := RX4) (T := TX4) (N := 7) hx hb hts iX4 hown hK hP 0 rfl rfl 1 (by decide) w16 (fun _ h9 => h9) rfl dX4_clerk_13 ?_
  refine lv_iload_n hx hb dX4_clerk_16 rfl (lv_at hl 1 rfl) ?_
  obtain ⟨⟨r16, y17, y18⟩, h19, hf⟩ := op_b hf
  refine ck_VIp (st := [.int x1, .ref (oT 0), .ref (q 0)]) (rest := [.ref (q 0)]) (As := [.int x1]) (C := RX2) (ci := 2) (ws1 := (fun (u : (Nat → Nat → Int32) × Int32) => (wB cI cC cK cO q oO oT hh wo (y2, y3, y4, y5, y6, y7, y8, y9, u.1, u.2, y12, y13) hs hp kp fp fr sc sl sp sv sf ss))) ⟨hx, hb, hml, hown, hts⟩ (gE_ok tL tM adK adV) (c_X2_addClerk l D cI cC cK cO tL tM adK adV oT y2 y3 y4 y5 y6 y7 y8 y9 y10 y11 y12 y13 x1 _ h19) (cwV 1 hts gX4_clerk_X2_addClerk rfl rfl rfl hv_X2_addClerk ⟨Nat.le_of_ble_eq_true rfl, Nat.le_of_ble_eq_true rfl⟩) hK hP hD hS hA hE (pm_t _ _ _ _) (fun _ => (pm_t _ _ _ _)) rfl rfl rfl (fun _ => rfl) rfl hl.1 rfl (Nat.le_of_ble_eq_true rfl) dX4_clerk_17 ⟨Nat.zero_le _, Nat.zero_le _⟩ (fun r u H locs hw hP hD hS => ?_)
  cases hw
  replace hP : va_P D vwCl (wB cI cC cK cO q oO oT hh wo (y2, y3, y4, y5, y6, y7, y8, y9, y17, y18, y12, y13) hs hp kp fp fr sc sl sp sv sf ss) H := hP
  replace hD : va_D A (wB cI cC cK cO q oO oT hh wo (y2, y3, y4, y5, y6, y7, y8, y9, y17, y18, y12, y13) hs hp kp fp fr sc sl sp sv sf ss) := hD
  obtain ⟨⟨r21, y22, y23, y24, y25⟩, h26, hf⟩ := op_b hf
  refine ck_VIw (st := [.int r16, .ref (q 0)]) (rest := []) (As := [.int r16]) (C := RX4) (ci := 4) ⟨hx, hb, hml, hown, hts⟩ (gE_ok tL tM adK adV) (c_X4_adopt l D cI cC cK cO tL tM adK adV q oO oT hh wo (y2, y3, y4, y5, y6, y7, y8, y9, y17, y18, y12, y13) hs hp kp fp fr sc sl sp sv sf ss r16 _ h26) (cwV 1 hts gX4_clerk_X4_adopt rfl rfl rfl hv_X4_adopt ⟨Nat.le_of_ble_eq_true rfl, Nat.le_of_ble_eq_true rfl⟩) hK hP hD hS hA hE rfl rfl rfl (fun _ => rfl) rfl hl.1 rfl (Nat.le_of_ble_eq_true rfl) dX4_clerk_20 ⟨Nat.zero_le _, Nat.zero_le _⟩ (fun r u H locs hw hP hD hS => ?_)
  cases hw
  replace hP : va_P D vwCl (wB cI cC cK cO q oO oT hh y22 (y2, y3, y4, y5, y6, y7, y8, y9, y17, y18, y12, y13) y23 y24 y25 fp fr sc sl sp sv sf ss) H := hP
  replace hD : va_D A (wB cI cC cK cO q oO oT hh y22 (y2, y3, y4, y5, y6, y7, y8, y9, y17, y18, y12, y13) y23 y24 y25 fp fr sc sl sp sv sf ss) := hD
  exact hret _ _ _ _ _ (y22, (y2, y3, y4, y5, y6, y7, y8, y9, y17, y18, y12, y13), y23, y24, y25) dX4_clerk_23 (op_k hf) hP hS
set_option maxHeartbeats 4000000 in
set_option maxRecDepth 100000 in
theorem c_X4_ask (l : Launch) (D : va_G) (cI cC cK cO : ClassId) (tL tM : Nat) (adK adV : Nat → Nat) (q : Nat → Nat) (oO : Nat → Nat) (oT : Nat → Nat) (hh : Nat → Nat → Nat) (wo : OW) (wt : OW) (hs : Nat → OW) (hp : Nat → Nat) (kp : Int32) (fp : Int32) (fr : Int32) (sc : Nat → Int32) (sl : Int32) (sp : Int32) (sv : Int32) (sf : Int32) (ss : Int32) (x1 : Int32) (x2 : Int32) (K : Nat) (R : Int32 × OW × OW × (Nat → OW) × (Nat → Nat) × Int32) (hf : f_X4_ask K wo wt hs hp kp x1 x2 = some R) : KI l D (TY cI cC cK cO) (gE tL tM adK adV) yX4_ask wsX4_ask 6 [.ref (q 0), .int x1, .int x2] (wB cI cC cK cO q oO oT hh wo wt hs hp kp fp fr sc sl sp sv sf ss) (fun (r : Int32) (u : OW × OW × (Nat → OW) × (Nat → Nat) × Int32) => (r, u) = R) (fun u => (wB cI cC cK cO q oO oT hh (u.1) (u.2.1) (u.2.2.1) (u.2.2.2.1) (u.2.2.2.2) fp fr sc sl sp sv sf ss)) := by
  refine KI.ofI (cc := cX4_ask) (maxL := 3) (C := RX4) (by decide) rfl rfl (Nat.le_of_ble_eq_true rfl) ?_
  intro p e s m args below meth c A Q hx hb hml hts hown hP hK hD hA hE hS hret ls hl
  replace hl : lv_has ls 3 [(0, .ref (q 0)), (1, .int x1), (2, .int x2)] := hl
  have w10 := hts (.fieldLink RX4 10 "BlockClerks" "office" "LBlockClerks$Office;") (by decide +kernel)
  have w16 := hts (.fieldLink RX4 16 "BlockClerks" "trial" "LBlockClerks$Office;") (by decide +kernel)
  have iX4 : ∀ w ∈ wsX40, w ∈ wsX4_ask := by decide +kernel
  rw [f_X4_ask] at hf
  refine lv_aload_n hx hb dX4_ask_0 rfl (lv_at hl 0 rfl) ?_
  refine va_get (D := D) (ci := 4) (v := .ref (oT 0)) (C := RX4) (T := TX4) (N := 7) hx hb hts iX4 hown hK hP 0 rfl rfl 1 (by decide) w16 (fun _ h9 => h9) rfl dX4_ask_1 ?_
  refine lv_aload_n hx hb dX4_ask_4 rfl (lv_at hl 0 rfl) ?_
  refine va_get (D := D) (ci := 4) (v := .ref (oO 0)) (C := RX4) (T := TX4) (N := 7) hx hb hts iX4 hown hK hP 0 rfl rfl 0 (by decide) w10 (fun _ h9 => h9) rfl dX4_ask_5 ?_
  obtain ⟨⟨y2, y3, y4, y5, y6, y7, y8, y9, y10, y11, y12, y13⟩, h14, hf⟩ := op_b hf
  refine ck_VVp (st := [.ref (oO 0), .ref (oT 0)]) (rest := []) (As := [.ref (oO 0)]) (C := RX2) (ci := 2) (ws1 := (fun (u : (Nat → Int32) × (Nat → Int32) × (Nat → Int32) × (Nat → Int32) × (Nat → Int32) × (Nat → Int32) × Int32 × Int32 × (Nat → Nat → Int32) × Int32 × (Nat → Int32) × Int32) => (wB cI cC cK cO q oO oT hh wo (u.1, u.2.1, u.2.2.1, u.2.2.2.1, u.2.2.2.2.1, u.2.2.2.2.2.1, u.2.2.2.2.2.2.1, u.2.2.2.2.2.2.2.1, u.2.2.2.2.2.2.2.2.1, u.2.2.2.2.2.2.2.2.2.1, u.2.2.2.2.2.2.2.2.2.2.1, u.2.2.2.2.2.2.2.2.2.2.2) hs hp kp fp fr sc sl sp sv sf ss))) ⟨hx, hb, hml, hown, hts⟩ (gE_ok tL tM adK adV) (c_X2_become l D cI cC cK cO tL tM adK adV oT oO (wt.1) (wt.2.1) (wt.2.2.1) (wt.2.2.2.1) (wt.2.2.2.2.1) (wt.2.2.2.2.2.1) (wt.2.2.2.2.2.2.1) (wt.2.2.2.2.2.2.2.1) (wt.2.2.2.2.2.2.2.2.1) (wt.2.2.2.2.2.2.2.2.2.1) (wt.2.2.2.2.2.2.2.2.2.2.1) (wt.2.2.2.2.2.2.2.2.2.2.2) (wo.1) (wo.2.1) (wo.2.2.1) (wo.2.2.2.1) (wo.2.2.2.2.1) (wo.2.2.2.2.2.1) (wo.2.2.2.2.2.2.1) (wo.2.2.2.2.2.2.2.1) (wo.2.2.2.2.2.2.2.2.1) (wo.2.2.2.2.2.2.2.2.2.1) (wo.2.2.2.2.2.2.2.2.2.2.1) (wo.2.2.2.2.2.2.2.2.2.2.2)  _ h14) (cwV 1 hts gX4_ask_X2_become rfl rfl rfl hv_X2_become ⟨Nat.le_of_ble_eq_true rfl, Nat.le_of_ble_eq_true rfl⟩) hK hP hD hS hA hE (pm_ta _ _ _ _) (fun _ => (pm_ta _ _ _ _)) rfl rfl rfl (fun _ => rfl) rfl hl.1 rfl (Nat.le_of_ble_eq_true rfl) dX4_ask_8 ⟨Nat.zero_le _, Nat.zero_le _⟩ (fun u H locs hw hP hD hS => ?_)
  cases hw
  replace hP : va_P D vwCl (wB cI cC cK cO q oO oT hh wo (y2, y3, y4, y5, y6, y7, y8, y9, y10, y11, y12, y13) hs hp kp fp fr sc sl sp sv sf ss) H := hP
  replace hD : va_D A (wB cI cC cK cO q oO oT hh wo (y2, y3, y4, y5, y6, y7, y8, y9, y10, y11, y12, y13) hs hp kp fp fr sc sl sp sv sf ss) := hD
  refine lv_aload_n hx hb dX4_ask_11 rfl (lv_at hl 0 rfl) ?_
  refine lv_aload_n hx hb dX4_ask_12 rfl (lv_at hl 0 rfl) ?_
  refine va_get (D := D) (ci := 4) (v := .ref (oT 0)) (C := RX4) (T := TX4) (N := 7) hx hb hts iX4 hown hK hP 0 rfl rfl 1 (by decide) w16 (fun _ h9 => h9) rfl dX4_ask_13 ?_
  refine lv_iload_n hx hb dX4_ask_16 rfl (lv_at hl 1 rfl) ?_
  refine lv_iload_n hx hb dX4_ask_17 rfl (lv_at hl 2 rfl) ?_
  obtain ⟨⟨r16, y17, y18, y19, y20, y21, y22, y23, y24, y25⟩, h26, hf⟩ := op_b hf
  refine ck_VIp (st := [.int x2, .int x1, .ref (oT 0), .ref (q 0)]) (rest := [.ref (q 0)]) (As := [.int x1, .int x2]) (C := RX2) (ci := 2) (ws1 := (fun (u : (Nat → Int32) × (Nat → Int32) × (Nat → Int32) × (Nat → Int32) × (Nat → Int32) × (Nat → Int32) × Int32 × Int32 × (Nat → Nat → Int32)) => (wB cI cC cK cO q oO oT hh wo (u.1, u.2.1, u.2.2.1, u.2.2.2.1, u.2.2.2.2.1, u.2.2.2.2.2.1, u.2.2.2.2.2.2.1, u.2.2.2.2.2.2.2.1, u.2.2.2.2.2.2.2.2, y11, y12, y13) hs hp kp fp fr sc sl sp sv sf ss))) ⟨hx, hb, hml, hown, hts⟩ (gE_ok tL tM adK adV) (c_X2_serve l D cI cC cK cO tL tM adK adV oT y2 y3 y4 y5 y6 y7 y8 y9 y10 y11 y12 y13 x1 x2 K _ h26) (cwV 2 hts gX4_ask_X2_serve rfl rfl rfl hv_X2_serve ⟨Nat.le_of_ble_eq_true rfl, Nat.le_of_ble_eq_true rfl⟩) hK hP hD hS hA hE (pm_t _ _ _ _) (fun _ => (pm_t _ _ _ _)) rfl rfl rfl (fun _ => rfl) rfl hl.1 rfl (Nat.le_of_ble_eq_true rfl) dX4_ask_18 ⟨Nat.zero_le _, Nat.zero_le _⟩ (fun r u H locs hw hP hD hS => ?_)
  cases hw
  replace hP : va_P D vwCl (wB cI cC cK cO q oO oT hh wo (y17, y18, y19, y20, y21, y22, y23, y24, y25, y11, y12, y13) hs hp kp fp fr sc sl sp sv sf ss) H := hP
  replace hD : va_D A (wB cI cC cK cO q oO oT hh wo (y17, y18, y19, y20, y21, y22, y23, y24, y25, y11, y12, y13) hs hp kp fp fr sc sl sp sv sf ss) := hD
  obtain ⟨⟨r28, y29, y30, y31, y32⟩, h33, hf⟩ := op_b hf
  refine ck_VIw (st := [.int r16, .ref (q 0)]) (rest := []) (As := [.int r16]) (C := RX4) (ci := 4) ⟨hx, hb, hml, hown, hts⟩ (gE_ok tL tM adK adV) (c_X4_adopt l D cI cC cK cO tL tM adK adV q oO oT hh wo (y17, y18, y19, y20, y21, y22, y23, y24, y25, y11, y12, y13) hs hp kp fp fr sc sl sp sv sf ss r16 _ h33) (cwV 1 hts gX4_ask_X4_adopt rfl rfl rfl hv_X4_adopt ⟨Nat.le_of_ble_eq_true rfl, Nat.le_of_ble_eq_true rfl⟩) hK hP hD hS hA hE rfl rfl rfl (fun _ => rfl) rfl hl.1 rfl (Nat.le_of_ble_eq_true rfl) dX4_ask_21 ⟨Nat.zero_le _, Nat.zero_le _⟩ (fun r u H locs hw hP hD hS => ?_)
  cases hw
  replace hP : va_P D vwCl (wB cI cC cK cO q oO oT hh y29 (y17, y18, y19, y20, y21, y22, y23, y24, y25, y11, y12, y13) y30 y31 y32 fp fr sc sl sp sv sf ss) H := hP
  replace hD : va_D A (wB cI cC cK cO q oO oT hh y29 (y17, y18, y19, y20, y21, y22, y23, y24, y25, y11, y12, y13) y30 y31 y32 fp fr sc sl sp sv sf ss) := hD
  exact hret _ _ _ _ _ (y29, (y17, y18, y19, y20, y21, y22, y23, y24, y25, y11, y12, y13), y30, y31, y32) dX4_ask_24 (op_k hf) hP hS
