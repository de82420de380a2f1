/-! laid by wip/whole/gen.py: walks of the class's clerks, numbers, offices -/
set_option maxHeartbeats 4000000 in
set_option maxRecDepth 100000 in
theorem c_X4_orNotFound (l : Launch) (D : va_G) (cI cC cK cO : ClassId) (tL tM : Nat) (adK adV : Nat → Nat) (x0 : Int32) (R : Int32) (hf : f_X4_orNotFound x0 = R) : KI l D (TY cI cC cK cO) (gE tL tM adK adV) yX4_orNotFound wsX4_orNotFound 0 [.int x0] [] (fun (r : Int32) (u : Unit) => r = R) (fun u => []) := by
  refine KI.ofI (cc := cX4_orNotFound) (maxL := 1) (C := RX4) (by decide) rfl rfl (Nat.le_of_ble_eq_true rfl) ?_
  intro p e s m args below meth c A Q hx hb hml hts hown hP hK hD hA hE hS hret ls hl
  replace hl : lv_has ls 1 [(0, .int x0)] := hl
  rw [f_X4_orNotFound] at hf
  refine lv_iload_n hx hb dX4_orNotFound_0 rfl (lv_at hl 0 rfl) ?_
  refine lv_if_ge (tgt := 9) hx hb dX4_orNotFound_1 (by decide) (fun c1 => ?_) (fun c1 => ?_)
  · replace hf := op_t c1 hf
    refine lv_iload_n hx hb dX4_orNotFound_9 rfl (lv_at hl 0 rfl) ?_
    exact hret _ _ _ _ _ () dX4_orNotFound_10 hf hP hS
  · replace hf := op_f c1 hf
    refine lv_bipush (v := (-4)) hx hb dX4_orNotFound_4 (by decide) ?_
    refine lv_goto (tgt := 10) hx hb dX4_orNotFound_6 (by decide) ?_
    exact hret _ _ _ _ _ () dX4_orNotFound_10 hf hP hS
set_option maxHeartbeats 4000000 in
set_option maxRecDepth 100000 in
theorem c_X4_reasonOf (l : Launch) (D : va_G) (cI cC cK cO : ClassId) (tL tM : Nat) (adK adV : Nat → Nat) (x0 : Int32) (R : Int32) (hf : f_X4_reasonOf x0 = R) : KI l D (TY cI cC cK cO) (gE tL tM adK adV) yX4_reasonOf wsX4_reasonOf 0 [.int x0] [] (fun (r : Int32) (u : Unit) => r = R) (fun u => []) := by
  refine KI.ofI (cc := cX4_reasonOf) (maxL := 1) (C := RX4) (by decide) rfl rfl (Nat.le_of_ble_eq_true rfl) ?_
  intro p e s m args below meth c A Q hx hb hml hts hown hP hK hD hA hE hS hret ls hl
  replace hl : lv_has ls 1 [(0, .int x0)] := hl
  rw [f_X4_reasonOf] at hf
  refine lv_iload_n hx hb dX4_reasonOf_0 rfl (lv_at hl 0 rfl) ?_
  refine lv_if_lt (tgt := 6) hx hb dX4_reasonOf_1 (by decide) (fun c1 => ?_) (fun c1 => ?_)
  · replace hf := op_t c1 hf
    refine lv_iload_n hx hb dX4_reasonOf_6 rfl (lv_at hl 0 rfl) ?_
    refine lv_iconst (v := (-1)) hx hb dX4_reasonOf_7 (by decide) ?_
    refine lv_icmp_ne (tgt := 15) hx hb dX4_reasonOf_8 (by decide) (fun c2 => ?_) (fun c2 => ?_)
    · replace hf := op_f c2 hf
      refine lv_iconst (v := 3) hx hb dX4_reasonOf_15 (by decide) ?_
      exact hret _ _ _ _ _ () dX4_reasonOf_16 hf hP hS
    · replace hf := op_t c2 hf
      refine lv_iconst (v := 2) hx hb dX4_reasonOf_11 (by decide) ?_
      refine lv_goto (tgt := 16) hx hb dX4_reasonOf_12 (by decide) ?_
      exact hret _ _ _ _ _ () dX4_reasonOf_16 hf hP hS
  · replace hf := op_f c1 hf
    refine lv_iconst (v := 0) hx hb dX4_reasonOf_4 (by decide) ?_
    exact hret _ _ _ _ _ () dX4_reasonOf_5 hf hP hS
set_option maxHeartbeats 4000000 in
set_option maxRecDepth 100000 in
theorem c_X0_become (l : Launch) (D : va_G) (cI cC cK cO : ClassId) (tL tM : Nat) (adK adV : Nat → Nat) (h : Nat) (g2 : Nat) (zk : Nat → Int32) (zj : Nat → Int32) (R : (Nat → Int32)) (hf : f_X0_become zk zj = some R) : KV l D (TY cI cC cK cO) (gE tL tM adK adV) yX0_become wsX0_become 0 [.ref h, .ref g2] [(h, eC zk), (g2, eC zj)] (fun (u : (Nat → Int32)) => u = R) (fun u => [(h, eC u), (g2, eC zj)]) := by
  refine KV.of (cc := cX0_become) (maxL := 2) (C := RX0) (by decide) rfl rfl (Nat.le_of_ble_eq_true rfl) ?_
  intro p e s m args below meth c A Q hx hb hml hts hown hP hK hD hA hE hS hret ls hl
  replace hl : lv_has ls 2 [(0, .ref h), (1, .ref g2)] := hl
  have w15 := hts (.fieldLink RX0 15 "BlockClerks$Clerk" "low" "I") (by decide +kernel)
  have w18 := hts (.fieldLink RX0 18 "BlockClerks$Clerk" "high" "I") (by decide +kernel)
  have w21 := hts (.fieldLink RX0 21 "BlockClerks$Clerk" "mark" "I") (by decide +kernel)
  have w24 := hts (.fieldLink RX0 24 "BlockClerks$Clerk" "given" "I") (by decide +kernel)
  have w27 := hts (.fieldLink RX0 27 "BlockClerks$Clerk" "blocks" "I") (by decide +kernel)
  have w30 := hts (.fieldLink RX0 30 "BlockClerks$Clerk" "latest" "I") (by decide +kernel)
  have w9 := hts (.fieldLink RX0 9 "BlockClerks$Clerk" "kind" "I") (by decide +kernel)
  have iX0 : ∀ w ∈ wsX00, w ∈ wsX0_become := by decide +kernel
  rw [f_X0_become] at hf
  refine lv_aload_n hx hb dX0_become_0 rfl (lv_at hl 0 rfl) ?_
  refine lv_aload_n hx hb dX0_become_1 rfl (lv_at hl 1 rfl) ?_
  refine va_get (D := D) (ci := 0) (v := .int (zj 0)) (C := RX0) (T := TX0) (N := 7) hx hb hts iX0 hown hK hP 1 rfl rfl 0 (by decide) w9 (fun _ h9 => h9) rfl dX0_become_2 ?_
  refine va_put (D := D) (ci := 0) (v := .int (zj 0)) (ty := .int) (C := RX0) (T := TX0) (N := 7) hx hb hts iX0 tyX0 tyX0_ok nmX0 hown hK hP hD hS 0 rfl rfl 0 (by decide) w9 (fun _ h9 => h9) rfl (by decide +kernel) rfl rfl (Nat.le_of_ble_eq_true rfl) dX0_become_5 (fun H locs hP hD hS => ?_)
  replace hP : va_P D vwCl [(h, eC (upd zk 0 (zj 0))), (g2, eC zj)] H := hP
  replace hD : va_D A [(h, eC (upd zk 0 (zj 0))), (g2, eC zj)] := hD
  refine lv_aload_n hx hb dX0_become_8 rfl (lv_at hl 0 rfl) ?_
  refine lv_aload_n hx hb dX0_become_9 rfl (lv_at hl 1 rfl) ?_
  refine va_get (D := D) (ci := 0) (v := .int (zj 1)) (C := RX0) (T := TX0) (N := 7) hx hb hts iX0 hown hK hP 1 rfl rfl 1 (by decide) w15 (fun _ h9 => h9) rfl dX0_become_10 ?_
  refine va_put (D := D) (ci := 0) (v := .int (zj 1)) (ty := .int) (C := RX0) (T := TX0) (N := 7) hx hb hts iX0 tyX0 tyX0_ok nmX0 hown hK hP hD hS 0 rfl rfl 1 (by decide) w15 (fun _ h9 => h9) rfl (by decide +kernel) rfl rfl (Nat.le_of_ble_eq_true rfl) dX0_become_13 (fun H locs hP hD hS => ?_)
  replace hP : va_P D vwCl [(h, eC (upd (upd zk 0 (zj 0)) 1 (zj 1))), (g2, eC zj)] H := hP
  replace hD : va_D A [(h, eC (upd (upd zk 0 (zj 0)) 1 (zj 1))), (g2, eC zj)] := hD
  refine lv_aload_n hx hb dX0_become_16 rfl (lv_at hl 0 rfl) ?_
  refine lv_aload_n hx hb dX0_become_17 rfl (lv_at hl 1 rfl) ?_
  refine va_get (D := D) (ci := 0) (v := .int (zj 2)) (C := RX0) (T := TX0) (N := 7) hx hb hts iX0 hown hK hP 1 rfl rfl 2 (by decide) w18 (fun _ h9 => h9) rfl dX0_become_18 ?_
  refine va_put (D := D) (ci := 0) (v := .int (zj 2)) (ty := .int) (C := RX0) (T := TX0) (N := 7) hx hb hts iX0 tyX0 tyX0_ok nmX0 hown hK hP hD hS 0 rfl rfl 2 (by decide) w18 (fun _ h9 => h9) rfl (by decide +kernel) rfl rfl (Nat.le_of_ble_eq_true rfl) dX0_become_21 (fun H locs hP hD hS => ?_)
  replace hP : va_P D vwCl [(h, eC (upd (upd (upd zk 0 (zj 0)) 1 (zj 1)) 2 (zj 2))), (g2, eC zj)] H := hP
  replace hD : va_D A [(h, eC (upd (upd (upd zk 0 (zj 0)) 1 (zj 1)) 2 (zj 2))), (g2, eC zj)] := hD
  refine lv_aload_n hx hb dX0_become_24 rfl (lv_at hl 0 rfl) ?_
  refine lv_aload_n hx hb dX0_become_25 rfl (lv_at hl 1 rfl) ?_
  refine va_get (D := D) (ci := 0) (v := .int (zj 3)) (C := RX0) (T := TX0) (N := 7) hx hb hts iX0 hown hK hP 1 rfl rfl 3 (by decide) w21 (fun _ h9 => h9) rfl dX0_become_26 ?_
  refine va_put (D := D) (ci := 0) (v := .int (zj 3)) (ty := .int) (C := RX0) (T := TX0) (N := 7) hx hb hts iX0 tyX0 tyX0_ok nmX0 hown hK hP hD hS 0 rfl rfl 3 (by decide) w21 (fun _ h9 => h9) rfl (by decide +kernel) rfl rfl (Nat.le_of_ble_eq_true rfl) dX0_become_29 (fun H locs hP hD hS => ?_)
  replace hP : va_P D vwCl [(h, eC (upd (upd (upd (upd zk 0 (zj 0)) 1 (zj 1)) 2 (zj 2)) 3 (zj 3))), (g2, eC zj)] H := hP
  replace hD : va_D A [(h, eC (upd (upd (upd (upd zk 0 (zj 0)) 1 (zj 1)) 2 (zj 2)) 3 (zj 3))), (g2, eC zj)] := hD
  refine lv_aload_n hx hb dX0_become_32 rfl (lv_at hl 0 rfl) ?_
  refine lv_aload_n hx hb dX0_become_33 rfl (lv_at hl 1 rfl) ?_
  refine va_get (D := D) (ci := 0) (v := .int (zj 4)) (C := RX0) (T := TX0) (N := 7) hx hb hts iX0 hown hK hP 1 rfl rfl 4 (by decide) w24 (fun _ h9 => h9) rfl dX0_become_34 ?_
  refine va_put (D := D) (ci := 0) (v := .int (zj 4)) (ty := .int) (C := RX0) (T := TX0) (N := 7) hx hb hts iX0 tyX0 tyX0_ok nmX0 hown hK hP hD hS 0 rfl rfl 4 (by decide) w24 (fun _ h9 => h9) rfl (by decide +kernel) rfl rfl (Nat.le_of_ble_eq_true rfl) dX0_become_37 (fun H locs hP hD hS => ?_)
  replace hP : va_P D vwCl [(h, eC (upd (upd (upd (upd (upd zk 0 (zj 0)) 1 (zj 1)) 2 (zj 2)) 3 (zj 3)) 4 (zj 4))), (g2, eC zj)] H := hP
  replace hD : va_D A [(h, eC (upd (upd (upd (upd (upd zk 0 (zj 0)) 1 (zj 1)) 2 (zj 2)) 3 (zj 3)) 4 (zj 4))), (g2, eC zj)] := hD
  refine lv_aload_n hx hb dX0_become_40 rfl (lv_at hl 0 rfl) ?_
  refine lv_aload_n hx hb dX0_become_41 rfl (lv_at hl 1 rfl) ?_
  refine va_get (D := D) (ci := 0) (v := .int (zj 5)) (C := RX0) (T := TX0) (N := 7) hx hb hts iX0 hown hK hP 1 rfl rfl 5 (by decide) w27 (fun _ h9 => h9) rfl dX0_become_42 ?_
  refine va_put (D := D) (ci := 0) (v := .int (zj 5)) (ty := .int) (C := RX0) (T := TX0) (N := 7) hx hb hts iX0 tyX0 tyX0_ok nmX0 hown hK hP hD hS 0 rfl rfl 5 (by decide) w27 (fun _ h9 => h9) rfl (by decide +kernel) rfl rfl (Nat.le_of_ble_eq_true rfl) dX0_become_45 (fun H locs hP hD hS => ?_)
  replace hP : va_P D vwCl [(h, eC (upd (upd (upd (upd (upd (upd zk 0 (zj 0)) 1 (zj 1)) 2 (zj 2)) 3 (zj 3)) 4 (zj 4)) 5 (zj 5))), (g2, eC zj)] H := hP
  replace hD : va_D A [(h, eC (upd (upd (upd (upd (upd (upd zk 0 (zj 0)) 1 (zj 1)) 2 (zj 2)) 3 (zj 3)) 4 (zj 4)) 5 (zj 5))), (g2, eC zj)] := hD
  refine lv_aload_n hx hb dX0_become_48 rfl (lv_at hl 0 rfl) ?_
  refine lv_aload_n hx hb dX0_become_49 rfl (lv_at hl 1 rfl) ?_
  refine va_get (D := D) (ci := 0) (v := .int (zj 6)) (C := RX0) (T := TX0) (N := 7) hx hb hts iX0 hown hK hP 1 rfl rfl 6 (by decide) w30 (fun _ h9 => h9) rfl dX0_become_50 ?_
  refine va_put (D := D) (ci := 0) (v := .int (zj 6)) (ty := .int) (C := RX0) (T := TX0) (N := 7) hx hb hts iX0 tyX0 tyX0_ok nmX0 hown hK hP hD hS 0 rfl rfl 6 (by decide) w30 (fun _ h9 => h9) rfl (by decide +kernel) rfl rfl (Nat.le_of_ble_eq_true rfl) dX0_become_53 (fun H locs hP hD hS => ?_)
  replace hP : va_P D vwCl [(h, eC (upd (upd (upd (upd (upd (upd (upd zk 0 (zj 0)) 1 (zj 1)) 2 (zj 2)) 3 (zj 3)) 4 (zj 4)) 5 (zj 5)) 6 (zj 6))), (g2, eC zj)] H := hP
  replace hD : va_D A [(h, eC (upd (upd (upd (upd (upd (upd (upd zk 0 (zj 0)) 1 (zj 1)) 2 (zj 2)) 3 (zj 3)) 4 (zj 4)) 5 (zj 5)) 6 (zj 6))), (g2, eC zj)] := hD
  exact hret _ _ _ _ ((upd (upd (upd (upd (upd (upd (upd zk 0 (zj 0)) 1 (zj 1)) 2 (zj 2)) 3 (zj 3)) 4 (zj 4)) 5 (zj 5)) 6 (zj 6))) dX0_become_56 (op_k hf) hP hS
set_option maxHeartbeats 4000000 in
set_option maxRecDepth 100000 in
theorem c_X0_drop (l : Launch) (D : va_G) (cI cC cK cO : ClassId) (tL tM : Nat) (adK adV : Nat → Nat) (h : Nat) (zk : Nat → Int32) (R : (Nat → Int32)) (hf : f_X0_drop zk = some R) : KV l D (TY cI cC cK cO) (gE tL tM adK adV) yX0_drop wsX0_drop 0 [.ref h] [(h, eC zk)] (fun (u : (Nat → Int32)) => u = R) (fun u => [(h, eC u)]) := by
  refine KV.of (cc := cX0_drop) (maxL := 1) (C := RX0) (by decide) rfl rfl (Nat.le_of_ble_eq_true rfl) ?_
  intro p e s m args below meth c A Q hx hb hml hts hown hP hK hD hA hE hS hret ls hl
  replace hl : lv_has ls 1 [(0, .ref h)] := hl
  have w15 := hts (.fieldLink RX0 15 "BlockClerks$Clerk" "low" "I") (by decide +kernel)
  have w18 := hts (.fieldLink RX0 18 "BlockClerks$Clerk" "high" "I") (by decide +kernel)
  have w21 := hts (.fieldLink RX0 21 "BlockClerks$Clerk" "mark" "I") (by decide +kernel)
  have iX0 : ∀ w ∈ wsX00, w ∈ wsX0_drop := by decide +kernel
  rw [f_X0_drop] at hf
  refine lv_aload_n hx hb dX0_drop_0 rfl (lv_at hl 0 rfl) ?_
  refine lv_iconst (v := 1) hx hb dX0_drop_1 (by decide) ?_
  refine va_put (D := D) (ci := 0) (v := .int 1) (ty := .int) (C := RX0) (T := TX0) (N := 7) hx hb hts iX0 tyX0 tyX0_ok nmX0 hown hK hP hD hS 0 rfl rfl 1 (by decide) w15 (fun _ h9 => h9) rfl (by decide +kernel) rfl rfl (Nat.le_of_ble_eq_true rfl) dX0_drop_2 (fun H locs hP hD hS => ?_)
  replace hP : va_P D vwCl [(h, eC (upd zk 1 1))] H := hP
  replace hD : va_D A [(h, eC (upd zk 1 1))] := hD
  refine lv_aload_n hx hb dX0_drop_5 rfl (lv_at hl 0 rfl) ?_
  refine lv_iconst (v := 0) hx hb dX0_drop_6 (by decide) ?_
  refine va_put (D := D) (ci := 0) (v := .int 0) (ty := .int) (C := RX0) (T := TX0) (N := 7) hx hb hts iX0 tyX0 tyX0_ok nmX0 hown hK hP hD hS 0 rfl rfl 2 (by decide) w18 (fun _ h9 => h9) rfl (by decide +kernel) rfl rfl (Nat.le_of_ble_eq_true rfl) dX0_drop_7 (fun H locs hP hD hS => ?_)
  replace hP : va_P D vwCl [(h, eC (upd (upd zk 1 1) 2 0))] H := hP
  replace hD : va_D A [(h, eC (upd (upd zk 1 1) 2 0))] := hD
  refine lv_aload_n hx hb dX0_drop_10 rfl (lv_at hl 0 rfl) ?_
  refine lv_iconst (v := 0) hx hb dX0_drop_11 (by decide) ?_
  refine va_put (D := D) (ci := 0) (v := .int 0) (ty := .int) (C := RX0) (T := TX0) (N := 7) hx hb hts iX0 tyX0 tyX0_ok nmX0 hown hK hP hD hS 0 rfl rfl 3 (by decide) w21 (fun _ h9 => h9) rfl (by decide +kernel) rfl rfl (Nat.le_of_ble_eq_true rfl) dX0_drop_12 (fun H locs hP hD hS => ?_)
  replace hP : va_P D vwCl [(h, eC (upd (upd (upd zk 1 1) 2 0) 3 0))] H := hP
  replace hD : va_D A [(h, eC (upd (upd (upd zk 1 1) 2 0) 3 0))] := hD
  exact hret _ _ _ _ ((upd (upd (upd zk 1 1) 2 0) 3 0)) dX0_drop_15 (op_k hf) hP hS
set_option maxHeartbeats 4000000 in
set_option maxRecDepth 100000 in
theorem c_X0_held (l : Launch) (D : va_G) (cI cC cK cO : ClassId) (tL tM : Nat) (adK adV : Nat → Nat) (h : Nat) (zk : Nat → Int32) (R : Int32) (hf : f_X0_held zk = R) : KI l D (TY cI cC cK cO) (gE tL tM adK adV) yX0_held wsX0_held 0 [.ref h] [(h, eC zk)] (fun (r : Int32) (u : Unit) => r = R) (fun u => [(h, eC zk)]) := by
  refine KI.ofI (cc := cX0_held) (maxL := 1) (C := RX0) (by decide) rfl rfl (Nat.le_of_ble_eq_true rfl) ?_
  intro p e s m args below meth c A Q hx hb hml hts hown hP hK hD hA hE hS hret ls hl
  replace hl : lv_has ls 1 [(0, .ref h)] := hl
  have w15 := hts (.fieldLink RX0 15 "BlockClerks$Clerk" "low" "I") (by decide +kernel)
  have w18 := hts (.fieldLink RX0 18 "BlockClerks$Clerk" "high" "I") (by decide +kernel)
  have iX0 : ∀ w ∈ wsX00, w ∈ wsX0_held := by decide +kernel
  rw [f_X0_held] at hf
  refine lv_aload_n hx hb dX0_held_0 rfl (lv_at hl 0 rfl) ?_
  refine va_get (D := D) (ci := 0) (v := .int (zk 2)) (C := RX0) (T := TX0) (N := 7) hx hb hts iX0 hown hK hP 0 rfl rfl 2 (by decide) w18 (fun _ h9 => h9) rfl dX0_held_1 ?_
  refine lv_aload_n hx hb dX0_held_4 rfl (lv_at hl 0 rfl) ?_
  refine va_get (D := D) (ci := 0) (v := .int (zk 1)) (C := RX0) (T := TX0) (N := 7) hx hb hts iX0 hown hK hP 0 rfl rfl 1 (by decide) w15 (fun _ h9 => h9) rfl dX0_held_5 ?_
  refine lv_isub hx hb dX0_held_8 ?_
  refine lv_iconst (v := 1) hx hb dX0_held_9 (by decide) ?_
  refine lv_iadd hx hb dX0_held_10 ?_
  exact hret _ _ _ _ _ () dX0_held_11 hf hP hS
set_option maxHeartbeats 4000000 in
set_option maxRecDepth 100000 in
theorem c_X0_lastLost (l : Launch) (D : va_G) (cI cC cK cO : ClassId) (tL tM : Nat) (adK adV : Nat → Nat) (h : Nat) (zk : Nat → Int32) (R : Int32) (hf : f_X0_lastLost zk = R) : KI l D (TY cI cC cK cO) (gE tL tM adK adV) yX0_lastLost wsX0_lastLost 1 [.ref h] [(h, eC zk)] (fun (r : Int32) (u : Unit) => r = R) (fun u => [(h, eC zk)]) := by
  refine KI.ofI (cc := cX0_lastLost) (maxL := 1) (C := RX0) (by decide) rfl rfl (Nat.le_of_ble_eq_true rfl) ?_
  intro p e s m args below meth c A Q hx hb hml hts hown hP hK hD hA hE hS hret ls hl
  replace hl : lv_has ls 1 [(0, .ref h)] := hl
  have m33 := hts (.methodLink RX0 33 Lib.Math.min.name) (by decide +kernel)
  have mc_min := hts (.code Lib.Math.min.name Lib.Math.min.code 2 (some .int)) (by decide +kernel)
  have mi := hts (.initialized "java/lang/Math") (by decide +kernel)
  have ms_min := hts (.static Lib.Math.min.name) (by decide +kernel)
  have w18 := hts (.fieldLink RX0 18 "BlockClerks$Clerk" "high" "I") (by decide +kernel)
  have w21 := hts (.fieldLink RX0 21 "BlockClerks$Clerk" "mark" "I") (by decide +kernel)
  have iX0 : ∀ w ∈ wsX00, w ∈ wsX0_lastLost := by decide +kernel
  rw [f_X0_lastLost] at hf
  refine lv_aload_n hx hb dX0_lastLost_0 rfl (lv_at hl 0 rfl) ?_
  refine va_get (D := D) (ci := 0) (v := .int (zk 3)) (C := RX0) (T := TX0) (N := 7) hx hb hts iX0 hown hK hP 0 rfl rfl 3 (by decide) w21 (fun _ h9 => h9) rfl dX0_lastLost_1 ?_
  refine lv_aload_n hx hb dX0_lastLost_4 rfl (lv_at hl 0 rfl) ?_
  refine va_get (D := D) (ci := 0) (v := .int (zk 2)) (C := RX0) (T := TX0) (N := 7) hx hb hts iX0 hown hK hP 0 rfl rfl 2 (by decide) w18 (fun _ h9 => h9) rfl dX0_lastLost_5 ?_
  refine ck_min hx hb (hml.trans hl.1.symm) hown m33 ms_min mi mc_min (Nat.le_of_ble_eq_true rfl) (Nat.le_of_ble_eq_true rfl) (Nat.zero_le _) (Nat.zero_le _) dX0_lastLost_8 ?_
  exact hret _ _ _ _ _ () dX0_lastLost_11 hf hP hS
set_option maxHeartbeats 4000000 in
set_option maxRecDepth 100000 in
theorem c_X0_loss (l : Launch) (D : va_G) (cI cC cK cO : ClassId) (tL tM : Nat) (adK adV : Nat → Nat) (h : Nat) (zk : Nat → Int32) (R : Int32) (hf : f_X0_loss zk = R) : KI l D (TY cI cC cK cO) (gE tL tM adK adV) yX0_loss wsX0_loss 2 [.ref h] [(h, eC zk)] (fun (r : Int32) (u : Unit) => r = R) (fun u => [(h, eC zk)]) := by
  refine KI.ofI (cc := cX0_loss) (maxL := 1) (C := RX0) (by decide) rfl rfl (Nat.le_of_ble_eq_true rfl) ?_
  intro p e s m args below meth c A Q hx hb hml hts hown hP hK hD hA hE hS hret ls hl
  replace hl : lv_has ls 1 [(0, .ref h)] := hl
  have m43 := hts (.methodLink RX0 43 Lib.Math.max.name) (by decide +kernel)
  have mc_max := hts (.code Lib.Math.max.name Lib.Math.max.code 2 (some .int)) (by decide +kernel)
  have mi := hts (.initialized "java/lang/Math") (by decide +kernel)
  have ms_max := hts (.static Lib.Math.max.name) (by decide +kernel)
  have w15 := hts (.fieldLink RX0 15 "BlockClerks$Clerk" "low" "I") (by decide +kernel)
  have iX0 : ∀ w ∈ wsX00, w ∈ wsX0_loss := by decide +kernel
  rw [f_X0_loss] at hf
  refine lv_iconst (v := 0) hx hb dX0_loss_0 (by decide) ?_
  refine lv_aload_n hx hb dX0_loss_1 rfl (lv_at hl 0 rfl) ?_
  refine ck_VI (st := [.ref h, .int 0]) (rest := [.int 0]) (As := []) (C := RX0) (ci := 0) ⟨hx, hb, hml, hown, hts⟩ (gE_ok tL tM adK adV) (c_X0_lastLost l D cI cC cK cO tL tM adK adV h zk  _ rfl) (cwV 0 hts gX0_loss_X0_lastLost rfl rfl rfl hv_X0_lastLost ⟨Nat.le_of_ble_eq_true rfl, Nat.le_of_ble_eq_true rfl⟩) hK hP hD hS hA hE [0] rfl rfl rfl rfl rfl (fun _ => rfl) rfl hl.1 rfl (Nat.le_of_ble_eq_true rfl) dX0_loss_2 ⟨Nat.zero_le _, Nat.zero_le _⟩ (fun r u H locs hw hP hD hS => ?_)
  cases hw
  replace hP : va_P D vwCl [(h, eC zk)] H := hP
  replace hD : va_D A [(h, eC zk)] := hD
  refine lv_aload_n hx hb dX0_loss_5 rfl (lv_at hl 0 rfl) ?_
  refine va_get (D := D) (ci := 0) (v := .int (zk 1)) (C := RX0) (T := TX0) (N := 7) hx hb hts iX0 hown hK hP 0 rfl rfl 1 (by decide) w15 (fun _ h9 => h9) rfl dX0_loss_6 ?_
  refine lv_isub hx hb dX0_loss_9 ?_
  refine lv_iconst (v := 1) hx hb dX0_loss_10 (by decide) ?_
  refine lv_iadd hx hb dX0_loss_11 ?_
  refine ck_max hx hb (hml.trans hl.1.symm) hown m43 ms_max mi mc_max (Nat.le_of_ble_eq_true rfl) (Nat.le_of_ble_eq_true rfl) (Nat.zero_le _) (Nat.zero_le _) dX0_loss_12 ?_
  exact hret _ _ _ _ _ () dX0_loss_15 hf hP hS
set_option maxHeartbeats 4000000 in
set_option maxRecDepth 100000 in
theorem c_X0_receive (l : Launch) (D : va_G) (cI cC cK cO : ClassId) (tL tM : Nat) (adK adV : Nat → Nat) (h : Nat) (zk : Nat → Int32) (x1 : Int32) (x2 : Int32) (R : (Nat → Int32)) (hf : f_X0_receive zk x1 x2 = some R) : KV l D (TY cI cC cK cO) (gE tL tM adK adV) yX0_receive wsX0_receive 0 [.ref h, .int x1, .int x2] [(h, eC zk)] (fun (u : (Nat → Int32)) => u = R) (fun u => [(h, eC u)]) := by
  refine KV.of (cc := cX0_receive) (maxL := 3) (C := RX0) (by decide) rfl rfl (Nat.le_of_ble_eq_true rfl) ?_
  intro p e s m args below meth c A Q hx hb hml hts hown hP hK hD hA hE hS hret ls hl
  replace hl : lv_has ls 3 [(0, .ref h), (1, .int x1), (2, .int x2)] := hl
  have w15 := hts (.fieldLink RX0 15 "BlockClerks$Clerk" "low" "I") (by decide +kernel)
  have w18 := hts (.fieldLink RX0 18 "BlockClerks$Clerk" "high" "I") (by decide +kernel)
  have w21 := hts (.fieldLink RX0 21 "BlockClerks$Clerk" "mark" "I") (by decide +kernel)
  have w27 := hts (.fieldLink RX0 27 "BlockClerks$Clerk" "blocks" "I") (by decide +kernel)
  have w9 := hts (.fieldLink RX0 9 "BlockClerks$Clerk" "kind" "I") (by decide +kernel)
  have iX0 : ∀ w ∈ wsX00, w ∈ wsX0_receive := by decide +kernel
  rw [f_X0_receive] at hf
  refine lv_aload_n hx hb dX0_receive_0 rfl (lv_at hl 0 rfl) ?_
  refine lv_iload_n hx hb dX0_receive_1 rfl (lv_at hl 1 rfl) ?_
  refine va_put (D := D) (ci := 0) (v := .int x1) (ty := .int) (C := RX0) (T := TX0) (N := 7) hx hb hts iX0 tyX0 tyX0_ok nmX0 hown hK hP hD hS 0 rfl rfl 1 (by decide) w15 (fun _ h9 => h9) rfl (by decide +kernel) rfl rfl (Nat.le_of_ble_eq_true rfl) dX0_receive_2 (fun H locs hP hD hS => ?_)
  replace hP : va_P D vwCl [(h, eC (upd zk 1 x1))] H := hP
  replace hD : va_D A [(h, eC (upd zk 1 x1))] := hD
  refine lv_aload_n hx hb dX0_receive_5 rfl (lv_at hl 0 rfl) ?_
  refine lv_iload_n hx hb dX0_receive_6 rfl (lv_at hl 2 rfl) ?_
  refine va_put (D := D) (ci := 0) (v := .int x2) (ty := .int) (C := RX0) (T := TX0) (N := 7) hx hb hts iX0 tyX0 tyX0_ok nmX0 hown hK hP hD hS 0 rfl rfl 2 (by decide) w18 (fun _ h9 => h9) rfl (by decide +kernel) rfl rfl (Nat.le_of_ble_eq_true rfl) dX0_receive_7 (fun H locs hP hD hS => ?_)
  replace hP : va_P D vwCl [(h, eC (upd (upd zk 1 x1) 2 x2))] H := hP
  replace hD : va_D A [(h, eC (upd (upd zk 1 x1) 2 x2))] := hD
  refine lv_aload_n hx hb dX0_receive_10 rfl (lv_at hl 0 rfl) ?_
  refine lv_aload_n hx hb dX0_receive_11 rfl (lv_at hl 0 rfl) ?_
  refine va_get (D := D) (ci := 0) (v := .int (zk 0)) (C := RX0) (T := TX0) (N := 7) hx hb hts iX0 hown hK hP 0 rfl rfl 0 (by decide) w9 (fun _ h9 => h9) rfl dX0_receive_12 ?_
  refine lv_iconst (v := 2) hx hb dX0_receive_15 (by decide) ?_
  refine lv_icmp_ne (tgt := 23) hx hb dX0_receive_16 (by decide) (fun c1 => ?_) (fun c1 => ?_)
  · replace hf := op_f c1 hf
    refine lv_iload_n hx hb dX0_receive_23 rfl (lv_at hl 1 rfl) ?_
    refine lv_iconst (v := 1) hx hb dX0_receive_24 (by decide) ?_
    refine lv_isub hx hb dX0_receive_25 ?_
    refine va_put (D := D) (ci := 0) (v := .int (x1 - 1)) (ty := .int) (C := RX0) (T := TX0) (N := 7) hx hb hts iX0 tyX0 tyX0_ok nmX0 hown hK hP hD hS 0 rfl rfl 3 (by decide) w21 (fun _ h9 => h9) rfl (by decide +kernel) rfl rfl (Nat.le_of_ble_eq_true rfl) dX0_receive_26 (fun H locs hP hD hS => ?_)
    replace hP : va_P D vwCl [(h, eC (upd (upd (upd zk 1 x1) 2 x2) 3 (x1 - 1)))] H := hP
    replace hD : va_D A [(h, eC (upd (upd (upd zk 1 x1) 2 x2) 3 (x1 - 1)))] := hD
    refine lv_aload_n hx hb dX0_receive_29 rfl (lv_at hl 0 rfl) ?_
    refine lv_dup hx hb dX0_receive_30 rfl ?_
    refine va_get (D := D) (ci := 0) (v := .int (zk 5)) (C := RX0) (T := TX0) (N := 7) hx hb hts iX0 hown hK hP 0 rfl rfl 5 (by decide) w27 (fun _ h9 => h9) rfl dX0_receive_31 ?_
    refine lv_iconst (v := 1) hx hb dX0_receive_34 (by decide) ?_
    refine lv_iadd hx hb dX0_receive_35 ?_
    refine va_put (D := D) (ci := 0) (v := .int ((zk 5) + 1)) (ty := .int) (C := RX0) (T := TX0) (N := 7) hx hb hts iX0 tyX0 tyX0_ok nmX0 hown hK hP hD hS 0 rfl rfl 5 (by decide) w27 (fun _ h9 => h9) rfl (by decide +kernel) rfl rfl (Nat.le_of_ble_eq_true rfl) dX0_receive_36 (fun H locs hP hD hS => ?_)
    replace hP : va_P D vwCl [(h, eC (upd (upd (upd (upd zk 1 x1) 2 x2) 3 (x1 - 1)) 5 ((zk 5) + 1)))] H := hP
    replace hD : va_D A [(h, eC (upd (upd (upd (upd zk 1 x1) 2 x2) 3 (x1 - 1)) 5 ((zk 5) + 1)))] := hD
    exact hret _ _ _ _ ((upd (upd (upd (upd zk 1 x1) 2 x2) 3 (x1 - 1)) 5 ((zk 5) + 1))) dX0_receive_39 (op_k hf) hP hS
  · replace hf := op_t c1 hf
    refine lv_iload_n hx hb dX0_receive_19 rfl (lv_at hl 2 rfl) ?_
    refine lv_goto (tgt := 26) hx hb dX0_receive_20 (by decide) ?_
    refine va_put (D := D) (ci := 0) (v := .int x2) (ty := .int) (C := RX0) (T := TX0) (N := 7) hx hb hts iX0 tyX0 tyX0_ok nmX0 hown hK hP hD hS 0 rfl rfl 3 (by decide) w21 (fun _ h9 => h9) rfl (by decide +kernel) rfl rfl (Nat.le_of_ble_eq_true rfl) dX0_receive_26 (fun H locs hP hD hS => ?_)
    replace hP : va_P D vwCl [(h, eC (upd (upd (upd zk 1 x1) 2 x2) 3 x2))] H := hP
    replace hD : va_D A [(h, eC (upd (upd (upd zk 1 x1) 2 x2) 3 x2))] := hD
    refine lv_aload_n hx hb dX0_receive_29 rfl (lv_at hl 0 rfl) ?_
    refine lv_dup hx hb dX0_receive_30 rfl ?_
    refine va_get (D := D) (ci := 0) (v := .int (zk 5)) (C := RX0) (T := TX0) (N := 7) hx hb hts iX0 hown hK hP 0 rfl rfl 5 (by decide) w27 (fun _ h9 => h9) rfl dX0_receive_31 ?_
    refine lv_iconst (v := 1) hx hb dX0_receive_34 (by decide) ?_
    refine lv_iadd hx hb dX0_receive_35 ?_
    refine va_put (D := D) (ci := 0) (v := .int ((zk 5) + 1)) (ty := .int) (C := RX0) (T := TX0) (N := 7) hx hb hts iX0 tyX0 tyX0_ok nmX0 hown hK hP hD hS 0 rfl rfl 5 (by decide) w27 (fun _ h9 => h9) rfl (by decide +kernel) rfl rfl (Nat.le_of_ble_eq_true rfl) dX0_receive_36 (fun H locs hP hD hS => ?_)
    replace hP : va_P D vwCl [(h, eC (upd (upd (upd (upd zk 1 x1) 2 x2) 3 x2) 5 ((zk 5) + 1)))] H := hP
    replace hD : va_D A [(h, eC (upd (upd (upd (upd zk 1 x1) 2 x2) 3 x2) 5 ((zk 5) + 1)))] := hD
    exact hret _ _ _ _ ((upd (upd (upd (upd zk 1 x1) 2 x2) 3 x2) 5 ((zk 5) + 1))) dX0_receive_39 (op_k hf) hP hS
set_option maxHeartbeats 4000000 in
set_option maxRecDepth 100000 in
theorem c_X0_giveLowest (l : Launch) (D : va_G) (cI cC cK cO : ClassId) (tL tM : Nat) (adK adV : Nat → Nat) (h : Nat) (zk : Nat → Int32) (x1 : Int32) (R : Int32 × (Nat → Int32)) (hf : f_X0_giveLowest zk x1 = some R) : KI l D (TY cI cC cK cO) (gE tL tM adK adV) yX0_giveLowest wsX0_giveLowest 1 [.ref h, .int x1] [(h, eC zk)] (fun (r : Int32) (u : (Nat → Int32)) => (r, u) = R) (fun u => [(h, eC u)]) := by
  refine KI.ofI (cc := cX0_giveLowest) (maxL := 3) (C := RX0) (by decide) rfl rfl (Nat.le_of_ble_eq_true rfl) ?_
  intro p e s m args below meth c A Q hx hb hml hts hown hP hK hD hA hE hS hret ls hl
  replace hl : lv_has ls 3 [(0, .ref h), (1, .int x1)] := hl
  have m33 := hts (.methodLink RX0 33 Lib.Math.min.name) (by decide +kernel)
  have mc_min := hts (.code Lib.Math.min.name Lib.Math.min.code 2 (some .int)) (by decide +kernel)
  have mi := hts (.initialized "java/lang/Math") (by decide +kernel)
  have ms_min := hts (.static Lib.Math.min.name) (by decide +kernel)
  have w15 := hts (.fieldLink RX0 15 "BlockClerks$Clerk" "low" "I") (by decide +kernel)
  have w18 := hts (.fieldLink RX0 18 "BlockClerks$Clerk" "high" "I") (by decide +kernel)
  have w21 := hts (.fieldLink RX0 21 "BlockClerks$Clerk" "mark" "I") (by decide +kernel)
  have w24 := hts (.fieldLink RX0 24 "BlockClerks$Clerk" "given" "I") (by decide +kernel)
  have w30 := hts (.fieldLink RX0 30 "BlockClerks$Clerk" "latest" "I") (by decide +kernel)
  have w9 := hts (.fieldLink RX0 9 "BlockClerks$Clerk" "kind" "I") (by decide +kernel)
  have iX0 : ∀ w ∈ wsX00, w ∈ wsX0_giveLowest := by decide +kernel
  rw [f_X0_giveLowest] at hf
  refine lv_aload_n hx hb dX0_giveLowest_0 rfl (lv_at hl 0 rfl) ?_
  refine va_get (D := D) (ci := 0) (v := .int (zk 1)) (C := RX0) (T := TX0) (N := 7) hx hb hts iX0 hown hK hP 0 rfl rfl 1 (by decide) w15 (fun _ h9 => h9) rfl dX0_giveLowest_1 ?_
  refine lv_istore_n (lv' := [(2, .int (zk 1)), (0, .ref h), (1, .int x1)]) hx hb dX0_giveLowest_4 rfl hl (by decide) rfl (fun ls hl => ?_)
  refine lv_aload_n hx hb dX0_giveLowest_5 rfl (lv_at hl 1 rfl) ?_
  refine lv_dup hx hb dX0_giveLowest_6 rfl ?_
  refine va_get (D := D) (ci := 0) (v := .int (zk 1)) (C := RX0) (T := TX0) (N := 7) hx hb hts iX0 hown hK hP 0 rfl rfl 1 (by decide) w15 (fun _ h9 => h9) rfl dX0_giveLowest_7 ?_
  refine lv_iconst (v := 1) hx hb dX0_giveLowest_10 (by decide) ?_
  refine lv_iadd hx hb dX0_giveLowest_11 ?_
  refine va_put (D := D) (ci := 0) (v := .int ((zk 1) + 1)) (ty := .int) (C := RX0) (T := TX0) (N := 7) hx hb hts iX0 tyX0 tyX0_ok nmX0 hown hK hP hD hS 0 rfl rfl 1 (by decide) w15 (fun _ h9 => h9) rfl (by decide +kernel) rfl rfl (Nat.le_of_ble_eq_true rfl) dX0_giveLowest_12 (fun H locs hP hD hS => ?_)
  replace hP : va_P D vwCl [(h, eC (upd zk 1 ((zk 1) + 1)))] H := hP
  replace hD : va_D A [(h, eC (upd zk 1 ((zk 1) + 1)))] := hD
  refine lv_aload_n hx hb dX0_giveLowest_15 rfl (lv_at hl 1 rfl) ?_
  refine lv_dup hx hb dX0_giveLowest_16 rfl ?_
  refine va_get (D := D) (ci := 0) (v := .int (zk 4)) (C := RX0) (T := TX0) (N := 7) hx hb hts iX0 hown hK hP 0 rfl rfl 4 (by decide) w24 (fun _ h9 => h9) rfl dX0_giveLowest_17 ?_
  refine lv_iconst (v := 1) hx hb dX0_giveLowest_20 (by decide) ?_
  refine lv_iadd hx hb dX0_giveLowest_21 ?_
  refine va_put (D := D) (ci := 0) (v := .int ((zk 4) + 1)) (ty := .int) (C := RX0) (T := TX0) (N := 7) hx hb hts iX0 tyX0 tyX0_ok nmX0 hown hK hP hD hS 0 rfl rfl 4 (by decide) w24 (fun _ h9 => h9) rfl (by decide +kernel) rfl rfl (Nat.le_of_ble_eq_true rfl) dX0_giveLowest_22 (fun H locs hP hD hS => ?_)
  replace hP : va_P D vwCl [(h, eC (upd (upd zk 1 ((zk 1) + 1)) 4 ((zk 4) + 1)))] H := hP
  replace hD : va_D A [(h, eC (upd (upd zk 1 ((zk 1) + 1)) 4 ((zk 4) + 1)))] := hD
  refine lv_aload_n hx hb dX0_giveLowest_25 rfl (lv_at hl 1 rfl) ?_
  refine lv_iload_n hx hb dX0_giveLowest_26 rfl (lv_at hl 0 rfl) ?_
  refine va_put (D := D) (ci := 0) (v := .int (zk 1)) (ty := .int) (C := RX0) (T := TX0) (N := 7) hx hb hts iX0 tyX0 tyX0_ok nmX0 hown hK hP hD hS 0 rfl rfl 6 (by decide) w30 (fun _ h9 => h9) rfl (by decide +kernel) rfl rfl (Nat.le_of_ble_eq_true rfl) dX0_giveLowest_27 (fun H locs hP hD hS => ?_)
  replace hP : va_P D vwCl [(h, eC (upd (upd (upd zk 1 ((zk 1) + 1)) 4 ((zk 4) + 1)) 6 (zk 1)))] H := hP
  replace hD : va_D A [(h, eC (upd (upd (upd zk 1 ((zk 1) + 1)) 4 ((zk 4) + 1)) 6 (zk 1)))] := hD
  refine lv_aload_n hx hb dX0_giveLowest_30 rfl (lv_at hl 1 rfl) ?_
  refine va_get (D := D) (ci := 0) (v := .int (zk 0)) (C := RX0) (T := TX0) (N := 7) hx hb hts iX0 hown hK hP 0 rfl rfl 0 (by decide) w9 (fun _ h9 => h9) rfl dX0_giveLowest_31 ?_
  refine lv_if_ne (tgt := 45) hx hb dX0_giveLowest_34 (by decide) (fun c1 => ?_) (fun c1 => ?_)
  · replace hf := op_f c1 hf
    refine lv_aload_n hx hb dX0_giveLowest_45 rfl (lv_at hl 1 rfl) ?_
    refine va_get (D := D) (ci := 0) (v := .int (zk 0)) (C := RX0) (T := TX0) (N := 7) hx hb hts iX0 hown hK hP 0 rfl rfl 0 (by decide) w9 (fun _ h9 => h9) rfl dX0_giveLowest_46 ?_
    refine lv_iconst (v := 1) hx hb dX0_giveLowest_49 (by decide) ?_
    refine lv_icmp_ne (tgt := 77) hx hb dX0_giveLowest_50 (by decide) (fun c2 => ?_) (fun c2 => ?_)
    · replace hf := op_f c2 hf
      refine lv_iload_n hx hb dX0_giveLowest_77 rfl (lv_at hl 0 rfl) ?_
      exact hret _ _ _ _ _ ((upd (upd (upd zk 1 ((zk 1) + 1)) 4 ((zk 4) + 1)) 6 (zk 1))) dX0_giveLowest_78 (op_k hf) hP hS
    · replace hf := op_t c2 hf
      refine lv_iload_n hx hb dX0_giveLowest_53 rfl (lv_at hl 0 rfl) ?_
      refine lv_aload_n hx hb dX0_giveLowest_54 rfl (lv_at hl 1 rfl) ?_
      refine va_get (D := D) (ci := 0) (v := .int (zk 3)) (C := RX0) (T := TX0) (N := 7) hx hb hts iX0 hown hK hP 0 rfl rfl 3 (by decide) w21 (fun _ h9 => h9) rfl dX0_giveLowest_55 ?_
      refine lv_icmp_le (tgt := 77) hx hb dX0_giveLowest_58 (by decide) (fun c3 => ?_) (fun c3 => ?_)
      · replace hf := op_t c3 hf
        refine lv_iload_n hx hb dX0_giveLowest_77 rfl (lv_at hl 0 rfl) ?_
        exact hret _ _ _ _ _ ((upd (upd (upd zk 1 ((zk 1) + 1)) 4 ((zk 4) + 1)) 6 (zk 1))) dX0_giveLowest_78 (op_k hf) hP hS
      · replace hf := op_f c3 hf
        refine lv_aload_n hx hb dX0_giveLowest_61 rfl (lv_at hl 1 rfl) ?_
        refine lv_iload_n hx hb dX0_giveLowest_62 rfl (lv_at hl 0 rfl) ?_
        refine lv_iload_n hx hb dX0_giveLowest_63 rfl (lv_at hl 2 rfl) ?_
        refine lv_iadd hx hb dX0_giveLowest_64 ?_
        refine lv_iconst (v := 1) hx hb dX0_giveLowest_65 (by decide) ?_
        refine lv_isub hx hb dX0_giveLowest_66 ?_
        refine lv_aload_n hx hb dX0_giveLowest_67 rfl (lv_at hl 1 rfl) ?_
        refine va_get (D := D) (ci := 0) (v := .int (zk 2)) (C := RX0) (T := TX0) (N := 7) hx hb hts iX0 hown hK hP 0 rfl rfl 2 (by decide) w18 (fun _ h9 => h9) rfl dX0_giveLowest_68 ?_
        refine ck_min hx hb (hml.trans hl.1.symm) hown m33 ms_min mi mc_min (Nat.le_of_ble_eq_true rfl) (Nat.le_of_ble_eq_true rfl) (Nat.zero_le _) (Nat.zero_le _) dX0_giveLowest_71 ?_
        refine va_put (D := D) (ci := 0) (v := .int (imin (((zk 1) + x1) - 1) (zk 2))) (ty := .int) (C := RX0) (T := TX0) (N := 7) hx hb hts iX0 tyX0 tyX0_ok nmX0 hown hK hP hD hS 0 rfl rfl 3 (by decide) w21 (fun _ h9 => h9) rfl (by decide +kernel) rfl rfl (Nat.le_of_ble_eq_true rfl) dX0_giveLowest_74 (fun H locs hP hD hS => ?_)
        replace hP : va_P D vwCl [(h, eC (upd (upd (upd (upd zk 1 ((zk 1) + 1)) 3 (imin (((zk 1) + x1) - 1) (zk 2))) 4 ((zk 4) + 1)) 6 (zk 1)))] H := hP
        replace hD : va_D A [(h, eC (upd (upd (upd (upd zk 1 ((zk 1) + 1)) 3 (imin (((zk 1) + x1) - 1) (zk 2))) 4 ((zk 4) + 1)) 6 (zk 1)))] := hD
        refine lv_iload_n hx hb dX0_giveLowest_77 rfl (lv_at hl 0 rfl) ?_
        exact hret _ _ _ _ _ ((upd (upd (upd (upd zk 1 ((zk 1) + 1)) 3 (imin (((zk 1) + x1) - 1) (zk 2))) 4 ((zk 4) + 1)) 6 (zk 1))) dX0_giveLowest_78 (op_k hf) hP hS
  · replace hf := op_t c1 hf
    refine lv_aload_n hx hb dX0_giveLowest_37 rfl (lv_at hl 1 rfl) ?_
    refine lv_iload_n hx hb dX0_giveLowest_38 rfl (lv_at hl 0 rfl) ?_
    refine va_put (D := D) (ci := 0) (v := .int (zk 1)) (ty := .int) (C := RX0) (T := TX0) (N := 7) hx hb hts iX0 tyX0 tyX0_ok nmX0 hown hK hP hD hS 0 rfl rfl 3 (by decide) w21 (fun _ h9 => h9) rfl (by decide +kernel) rfl rfl (Nat.le_of_ble_eq_true rfl) dX0_giveLowest_39 (fun H locs hP hD hS => ?_)
    replace hP : va_P D vwCl [(h, eC (upd (upd (upd (upd zk 1 ((zk 1) + 1)) 3 (zk 1)) 4 ((zk 4) + 1)) 6 (zk 1)))] H := hP
    replace hD : va_D A [(h, eC (upd (upd (upd (upd zk 1 ((zk 1) + 1)) 3 (zk 1)) 4 ((zk 4) + 1)) 6 (zk 1)))] := hD
    refine lv_goto (tgt := 77) hx hb dX0_giveLowest_42 (by decide) ?_
    refine lv_iload_n hx hb dX0_giveLowest_77 rfl (lv_at hl 0 rfl) ?_
    exact hret _ _ _ _ _ ((upd (upd (upd (upd zk 1 ((zk 1) + 1)) 3 (zk 1)) 4 ((zk 4) + 1)) 6 (zk 1))) dX0_giveLowest_78 (op_k hf) hP hS
set_option maxHeartbeats 4000000 in
set_option maxRecDepth 100000 in
theorem c_X1_become (l : Launch) (D : va_G) (cI cC cK cO : ClassId) (tL tM : Nat) (adK adV : Nat → Nat) (h : Nat) (b1 : Nat) (b2 : Nat) (b3 : Nat) (b4 : Nat) (b5 : Nat) (b6 : Nat) (g : Nat) (c1 : Nat) (c2 : Nat) (c3 : Nat) (c4 : Nat) (c5 : Nat) (c6 : Nat) (ns : Nat → Int32) (no : Nat → Int32) (nr : Nat → Int32) (nt : Nat → Int32) (nd : Nat → Int32) (ni : Nat → Int32) (nm : Int32) (nf : Int32) (ms : Nat → Int32) (mo : Nat → Int32) (mr : Nat → Int32) (mt : Nat → Int32) (md : Nat → Int32) (mi : Nat → Int32) (mm : Int32) (mf : Int32) (R : (Nat → Int32) × (Nat → Int32) × (Nat → Int32) × (Nat → Int32) × (Nat → Int32) × (Nat → Int32) × Int32 × Int32) (hf : f_X1_become ns no nr nt nd ni ms mo mr mt md mi mm mf = some R) : KV l D (TY cI cC cK cO) (gE tL tM adK adV) yX1_become wsX1_become 2 [.ref h, .ref g] (wN cI h b1 b2 b3 b4 b5 b6 ns no nr nt nd ni nm nf ++ wN cI g c1 c2 c3 c4 c5 c6 ms mo mr mt md mi mm mf) (fun (u : (Nat → Int32) × (Nat → Int32) × (Nat → Int32) × (Nat → Int32) × (Nat → Int32) × (Nat → Int32) × Int32 × Int32) => u = R) (fun u => (wN cI h b1 b2 b3 b4 b5 b6 (u.1) (u.2.1) (u.2.2.1) (u.2.2.2.1) (u.2.2.2.2.1) (u.2.2.2.2.2.1) (u.2.2.2.2.2.2.1) (u.2.2.2.2.2.2.2) ++ wN cI g c1 c2 c3 c4 c5 c6 ms mo mr mt md mi mm mf)) := by
  refine KV.of (cc := cX1_become) (maxL := 2) (C := RX1) (by decide) rfl rfl (Nat.le_of_ble_eq_true rfl) ?_
  intro p e s m args below meth c A Q hx hb hml hts hown hP hK hD hA hE hS hret ls hl
  replace hl : lv_has ls 2 [(0, .ref h), (1, .ref g)] := hl
  have a37 := hts (.methodLink RX1 37 arraycopyName) (by decide +kernel)
  have ai := hts (.initialized "java/lang/System") (by decide +kernel)
  have an := hts (.native arraycopyName) (by decide +kernel)
  have as_ := hts (.static arraycopyName) (by decide +kernel)
  have w15 := hts (.fieldLink RX1 15 "BlockClerks$Numbers" "owner" "[I") (by decide +kernel)
  have w18 := hts (.fieldLink RX1 18 "BlockClerks$Numbers" "reason" "[I") (by decide +kernel)
  have w21 := hts (.fieldLink RX1 21 "BlockClerks$Numbers" "turn" "[I") (by decide +kernel)
  have w24 := hts (.fieldLink RX1 24 "BlockClerks$Numbers" "day" "[I") (by decide +kernel)
  have w27 := hts (.fieldLink RX1 27 "BlockClerks$Numbers" "inTurn" "[I") (by decide +kernel)
  have w30 := hts (.fieldLink RX1 30 "BlockClerks$Numbers" "turns" "I") (by decide +kernel)
  have w34 := hts (.fieldLink RX1 34 "BlockClerks$Numbers" "firstNew" "I") (by decide +kernel)
  have w9 := hts (.fieldLink RX1 9 "BlockClerks$Numbers" "state" "[I") (by decide +kernel)
  have iX1 : ∀ w ∈ wsX10, w ∈ wsX1_become := by decide +kernel
  rw [f_X1_become] at hf
  refine lv_aload_n hx hb dX1_become_0 rfl (lv_at hl 1 rfl) ?_
  refine va_get (D := D) (ci := 1) (v := .ref c1) (C := RX1) (T := TX1) (N := 8) hx hb hts iX1 hown hK hP 7 rfl rfl 0 (by decide) w9 (fun _ h9 => h9) rfl dX1_become_1 ?_
  refine lv_iconst (v := 0) hx hb dX1_become_4 (by decide) ?_
  refine lv_aload_n hx hb dX1_become_5 rfl (lv_at hl 0 rfl) ?_
  refine va_get (D := D) (ci := 1) (v := .ref b1) (C := RX1) (T := TX1) (N := 8) hx hb hts iX1 hown hK hP 0 rfl rfl 0 (by decide) w9 (fun _ h9 => h9) rfl dX1_become_6 ?_
  refine lv_iconst (v := 0) hx hb dX1_become_9 (by decide) ?_
  refine lv_aload_n hx hb dX1_become_10 rfl (lv_at hl 0 rfl) ?_
  refine va_get (D := D) (ci := 1) (v := .ref b1) (C := RX1) (T := TX1) (N := 8) hx hb hts iX1 hown hK hP 0 rfl rfl 0 (by decide) w9 (fun _ h9 => h9) rfl dX1_become_11 ?_
  refine va_alen (D := D) hx hb hK hP 1 0 rfl rfl (v := 601) rfl dX1_become_14 ?_
  refine ck_copy hx hb (hml.trans hl.1.symm) hown a37 an as_ ai hK hP hD hS 8 1 0 rfl rfl rfl (by decide) (by decide) (Nat.le_of_ble_eq_true rfl) (Nat.le_of_ble_eq_true rfl) dX1_become_15 (fun H locs hP hD hS => ?_)
  replace hP : va_P D vwCl (wN cI h b1 b2 b3 b4 b5 b6 (va_cpy ms ns 0 0 601) no nr nt nd ni nm nf ++ wN cI g c1 c2 c3 c4 c5 c6 ms mo mr mt md mi mm mf) H := hP
  replace hD : va_D A (wN cI h b1 b2 b3 b4 b5 b6 (va_cpy ms ns 0 0 601) no nr nt nd ni nm nf ++ wN cI g c1 c2 c3 c4 c5 c6 ms mo mr mt md mi mm mf) := hD
  refine lv_aload_n hx hb dX1_become_18 rfl (lv_at hl 1 rfl) ?_
  refine va_get (D := D) (ci := 1) (v := .ref c2) (C := RX1) (T := TX1) (N := 8) hx hb hts iX1 hown hK hP 7 rfl rfl 1 (by decide) w15 (fun _ h9 => h9) rfl dX1_become_19 ?_
  refine lv_iconst (v := 0) hx hb dX1_become_22 (by decide) ?_
  refine lv_aload_n hx hb dX1_become_23 rfl (lv_at hl 0 rfl) ?_
  refine va_get (D := D) (ci := 1) (v := .ref b2) (C := RX1) (T := TX1) (N := 8) hx hb hts iX1 hown hK hP 0 rfl rfl 1 (by decide) w15 (fun _ h9 => h9) rfl dX1_become_24 ?_
  refine lv_iconst (v := 0) hx hb dX1_become_27 (by decide) ?_
  refine lv_aload_n hx hb dX1_become_28 rfl (lv_at hl 0 rfl) ?_
  refine va_get (D := D) (ci := 1) (v := .ref b2) (C := RX1) (T := TX1) (N := 8) hx hb hts iX1 hown hK hP 0 rfl rfl 1 (by decide) w15 (fun _ h9 => h9) rfl dX1_become_29 ?_
  refine va_alen (D := D) hx hb hK hP 2 0 rfl rfl (v := 601) rfl dX1_become_32 ?_
  refine ck_copy hx hb (hml.trans hl.1.symm) hown a37 an as_ ai hK hP hD hS 9 2 0 rfl rfl rfl (by decide) (by decide) (Nat.le_of_ble_eq_true rfl) (Nat.le_of_ble_eq_true rfl) dX1_become_33 (fun H locs hP hD hS => ?_)
  replace hP : va_P D vwCl (wN cI h b1 b2 b3 b4 b5 b6 (va_cpy ms ns 0 0 601) (va_cpy mo no 0 0 601) nr nt nd ni nm nf ++ wN cI g c1 c2 c3 c4 c5 c6 ms mo mr mt md mi mm mf) H := hP
  replace hD : va_D A (wN cI h b1 b2 b3 b4 b5 b6 (va_cpy ms ns 0 0 601) (va_cpy mo no 0 0 601) nr nt nd ni nm nf ++ wN cI g c1 c2 c3 c4 c5 c6 ms mo mr mt md mi mm mf) := hD
  refine lv_aload_n hx hb dX1_become_36 rfl (lv_at hl 1 rfl) ?_
  refine va_get (D := D) (ci := 1) (v := .ref c3) (C := RX1) (T := TX1) (N := 8) hx hb hts iX1 hown hK hP 7 rfl rfl 2 (by decide) w18 (fun _ h9 => h9) rfl dX1_become_37 ?_
  refine lv_iconst (v := 0) hx hb dX1_become_40 (by decide) ?_
  refine lv_aload_n hx hb dX1_become_41 rfl (lv_at hl 0 rfl) ?_
  refine va_get (D := D) (ci := 1) (v := .ref b3) (C := RX1) (T := TX1) (N := 8) hx hb hts iX1 hown hK hP 0 rfl rfl 2 (by decide) w18 (fun _ h9 => h9) rfl dX1_become_42 ?_
  refine lv_iconst (v := 0) hx hb dX1_become_45 (by decide) ?_
  refine lv_aload_n hx hb dX1_become_46 rfl (lv_at hl 0 rfl) ?_
  refine va_get (D := D) (ci := 1) (v := .ref b3) (C := RX1) (T := TX1) (N := 8) hx hb hts iX1 hown hK hP 0 rfl rfl 2 (by decide) w18 (fun _ h9 => h9) rfl dX1_become_47 ?_
  refine va_alen (D := D) hx hb hK hP 3 0 rfl rfl (v := 601) rfl dX1_become_50 ?_
  refine ck_copy hx hb (hml.trans hl.1.symm) hown a37 an as_ ai hK hP hD hS 10 3 0 rfl rfl rfl (by decide) (by decide) (Nat.le_of_ble_eq_true rfl) (Nat.le_of_ble_eq_true rfl) dX1_become_51 (fun H locs hP hD hS => ?_)
  replace hP : va_P D vwCl (wN cI h b1 b2 b3 b4 b5 b6 (va_cpy ms ns 0 0 601) (va_cpy mo no 0 0 601) (va_cpy mr nr 0 0 601) nt nd ni nm nf ++ wN cI g c1 c2 c3 c4 c5 c6 ms mo mr mt md mi mm mf) H := hP
  replace hD : va_D A (wN cI h b1 b2 b3 b4 b5 b6 (va_cpy ms ns 0 0 601) (va_cpy mo no 0 0 601) (va_cpy mr nr 0 0 601) nt nd ni nm nf ++ wN cI g c1 c2 c3 c4 c5 c6 ms mo mr mt md mi mm mf) := hD
  refine lv_aload_n hx hb dX1_become_54 rfl (lv_at hl 1 rfl) ?_
  refine va_get (D := D) (ci := 1) (v := .ref c4) (C := RX1) (T := TX1) (N := 8) hx hb hts iX1 hown hK hP 7 rfl rfl 3 (by decide) w21 (fun _ h9 => h9) rfl dX1_become_55 ?_
  refine lv_iconst (v := 0) hx hb dX1_become_58 (by decide) ?_
  refine lv_aload_n hx hb dX1_become_59 rfl (lv_at hl 0 rfl) ?_
  refine va_get (D := D) (ci := 1) (v := .ref b4) (C := RX1) (T := TX1) (N := 8) hx hb hts iX1 hown hK hP 0 rfl rfl 3 (by decide) w21 (fun _ h9 => h9) rfl dX1_become_60 ?_
  refine lv_iconst (v := 0) hx hb dX1_become_63 (by decide) ?_
  refine lv_aload_n hx hb dX1_become_64 rfl (lv_at hl 0 rfl) ?_
  refine va_get (D := D) (ci := 1) (v := .ref b4) (C := RX1) (T := TX1) (N := 8) hx hb hts iX1 hown hK hP 0 rfl rfl 3 (by decide) w21 (fun _ h9 => h9) rfl dX1_become_65 ?_
  refine va_alen (D := D) hx hb hK hP 4 0 rfl rfl (v := 601) rfl dX1_become_68 ?_
  refine ck_copy hx hb (hml.trans hl.1.symm) hown a37 an as_ ai hK hP hD hS 11 4 0 rfl rfl rfl (by decide) (by decide) (Nat.le_of_ble_eq_true rfl) (Nat.le_of_ble_eq_true rfl) dX1_become_69 (fun H locs hP hD hS => ?_)
  replace hP : va_P D vwCl (wN cI h b1 b2 b3 b4 b5 b6 (va_cpy ms ns 0 0 601) (va_cpy mo no 0 0 601) (va_cpy mr nr 0 0 601) (va_cpy mt nt 0 0 601) nd ni nm nf ++ wN cI g c1 c2 c3 c4 c5 c6 ms mo mr mt md mi mm mf) H := hP
  replace hD : va_D A (wN cI h b1 b2 b3 b4 b5 b6 (va_cpy ms ns 0 0 601) (va_cpy mo no 0 0 601) (va_cpy mr nr 0 0 601) (va_cpy mt nt 0 0 601) nd ni nm nf ++ wN cI g c1 c2 c3 c4 c5 c6 ms mo mr mt md mi mm mf) := hD
  refine lv_aload_n hx hb dX1_become_72 rfl (lv_at hl 1 rfl) ?_
  refine va_get (D := D) (ci := 1) (v := .ref c5) (C := RX1) (T := TX1) (N := 8) hx hb hts iX1 hown hK hP 7 rfl rfl 4 (by decide) w24 (fun _ h9 => h9) rfl dX1_become_73 ?_
  refine lv_iconst (v := 0) hx hb dX1_become_76 (by decide) ?_
  refine lv_aload_n hx hb dX1_become_77 rfl (lv_at hl 0 rfl) ?_
  refine va_get (D := D) (ci := 1) (v := .ref b5) (C := RX1) (T := TX1) (N := 8) hx hb hts iX1 hown hK hP 0 rfl rfl 4 (by decide) w24 (fun _ h9 => h9) rfl dX1_become_78 ?_
  refine lv_iconst (v := 0) hx hb dX1_become_81 (by decide) ?_
  refine lv_aload_n hx hb dX1_become_82 rfl (lv_at hl 0 rfl) ?_
  refine va_get (D := D) (ci := 1) (v := .ref b5) (C := RX1) (T := TX1) (N := 8) hx hb hts iX1 hown hK hP 0 rfl rfl 4 (by decide) w24 (fun _ h9 => h9) rfl dX1_become_83 ?_
  refine va_alen (D := D) hx hb hK hP 5 0 rfl rfl (v := 601) rfl dX1_become_86 ?_
  refine ck_copy hx hb (hml.trans hl.1.symm) hown a37 an as_ ai hK hP hD hS 12 5 0 rfl rfl rfl (by decide) (by decide) (Nat.le_of_ble_eq_true rfl) (Nat.le_of_ble_eq_true rfl) dX1_become_87 (fun H locs hP hD hS => ?_)
  replace hP : va_P D vwCl (wN cI h b1 b2 b3 b4 b5 b6 (va_cpy ms ns 0 0 601) (va_cpy mo no 0 0 601) (va_cpy mr nr 0 0 601) (va_cpy mt nt 0 0 601) (va_cpy md nd 0 0 601) ni nm nf ++ wN cI g c1 c2 c3 c4 c5 c6 ms mo mr mt md mi mm mf) H := hP
  replace hD : va_D A (wN cI h b1 b2 b3 b4 b5 b6 (va_cpy ms ns 0 0 601) (va_cpy mo no 0 0 601) (va_cpy mr nr 0 0 601) (va_cpy mt nt 0 0 601) (va_cpy md nd 0 0 601) ni nm nf ++ wN cI g c1 c2 c3 c4 c5 c6 ms mo mr mt md mi mm mf) := hD
  refine lv_aload_n hx hb dX1_become_90 rfl (lv_at hl 1 rfl) ?_
  refine va_get (D := D) (ci := 1) (v := .ref c6) (C := RX1) (T := TX1) (N := 8) hx hb hts iX1 hown hK hP 7 rfl rfl 5 (by decide) w27 (fun _ h9 => h9) rfl dX1_become_91 ?_
  refine lv_iconst (v := 0) hx hb dX1_become_94 (by decide) ?_
  refine lv_aload_n hx hb dX1_become_95 rfl (lv_at hl 0 rfl) ?_
  refine va_get (D := D) (ci := 1) (v := .ref b6) (C := RX1) (T := TX1) (N := 8) hx hb hts iX1 hown hK hP 0 rfl rfl 5 (by decide) w27 (fun _ h9 => h9) rfl dX1_become_96 ?_
  refine lv_iconst (v := 0) hx hb dX1_become_99 (by decide) ?_
  refine lv_aload_n hx hb dX1_become_100 rfl (lv_at hl 0 rfl) ?_
  refine va_get (D := D) (ci := 1) (v := .ref b6) (C := RX1) (T := TX1) (N := 8) hx hb hts iX1 hown hK hP 0 rfl rfl 5 (by decide) w27 (fun _ h9 => h9) rfl dX1_become_101 ?_
  refine va_alen (D := D) hx hb hK hP 6 0 rfl rfl (v := 600) rfl dX1_become_104 ?_
  refine ck_copy hx hb (hml.trans hl.1.symm) hown a37 an as_ ai hK hP hD hS 13 6 0 rfl rfl rfl (by decide) (by decide) (Nat.le_of_ble_eq_true rfl) (Nat.le_of_ble_eq_true rfl) dX1_become_105 (fun H locs hP hD hS => ?_)
  replace hP : va_P D vwCl (wN cI h b1 b2 b3 b4 b5 b6 (va_cpy ms ns 0 0 601) (va_cpy mo no 0 0 601) (va_cpy mr nr 0 0 601) (va_cpy mt nt 0 0 601) (va_cpy md nd 0 0 601) (va_cpy mi ni 0 0 600) nm nf ++ wN cI g c1 c2 c3 c4 c5 c6 ms mo mr mt md mi mm mf) H := hP
  replace hD : va_D A (wN cI h b1 b2 b3 b4 b5 b6 (va_cpy ms ns 0 0 601) (va_cpy mo no 0 0 601) (va_cpy mr nr 0 0 601) (va_cpy mt nt 0 0 601) (va_cpy md nd 0 0 601) (va_cpy mi ni 0 0 600) nm nf ++ wN cI g c1 c2 c3 c4 c5 c6 ms mo mr mt md mi mm mf) := hD
  refine lv_aload_n hx hb dX1_become_108 rfl (lv_at hl 0 rfl) ?_
  refine lv_aload_n hx hb dX1_become_109 rfl (lv_at hl 1 rfl) ?_
  refine va_get (D := D) (ci := 1) (v := .int mm) (C := RX1) (T := TX1) (N := 8) hx hb hts iX1 hown hK hP 7 rfl rfl 6 (by decide) w30 (fun _ h9 => h9) rfl dX1_become_110 ?_
  refine va_put (D := D) (ci := 1) (v := .int mm) (ty := .int) (C := RX1) (T := TX1) (N := 8) hx hb hts iX1 tyX1 tyX1_ok nmX1 hown hK hP hD hS 0 rfl rfl 6 (by decide) w30 (fun _ h9 => h9) rfl (by decide +kernel) rfl rfl (Nat.le_of_ble_eq_true rfl) dX1_become_113 (fun H locs hP hD hS => ?_)
  replace hP : va_P D vwCl (wN cI h b1 b2 b3 b4 b5 b6 (va_cpy ms ns 0 0 601) (va_cpy mo no 0 0 601) (va_cpy mr nr 0 0 601) (va_cpy mt nt 0 0 601) (va_cpy md nd 0 0 601) (va_cpy mi ni 0 0 600) mm nf ++ wN cI g c1 c2 c3 c4 c5 c6 ms mo mr mt md mi mm mf) H := hP
  replace hD : va_D A (wN cI h b1 b2 b3 b4 b5 b6 (va_cpy ms ns 0 0 601) (va_cpy mo no 0 0 601) (va_cpy mr nr 0 0 601) (va_cpy mt nt 0 0 601) (va_cpy md nd 0 0 601) (va_cpy mi ni 0 0 600) mm nf ++ wN cI g c1 c2 c3 c4 c5 c6 ms mo mr mt md mi mm mf) := hD
  refine lv_aload_n hx hb dX1_become_116 rfl (lv_at hl 0 rfl) ?_
  refine lv_aload_n hx hb dX1_become_117 rfl (lv_at hl 1 rfl) ?_
  refine va_get (D := D) (ci := 1) (v := .int mf) (C := RX1) (T := TX1) (N := 8) hx hb hts iX1 hown hK hP 7 rfl rfl 7 (by decide) w34 (fun _ h9 => h9) rfl dX1_become_118 ?_
  refine va_put (D := D) (ci := 1) (v := .int mf) (ty := .int) (C := RX1) (T := TX1) (N := 8) hx hb hts iX1 tyX1 tyX1_ok nmX1 hown hK hP hD hS 0 rfl rfl 7 (by decide) w34 (fun _ h9 => h9) rfl (by decide +kernel) rfl rfl (Nat.le_of_ble_eq_true rfl) dX1_become_121 (fun H locs hP hD hS => ?_)
  replace hP : va_P D vwCl (wN cI h b1 b2 b3 b4 b5 b6 (va_cpy ms ns 0 0 601) (va_cpy mo no 0 0 601) (va_cpy mr nr 0 0 601) (va_cpy mt nt 0 0 601) (va_cpy md nd 0 0 601) (va_cpy mi ni 0 0 600) mm mf ++ wN cI g c1 c2 c3 c4 c5 c6 ms mo mr mt md mi mm mf) H := hP
  replace hD : va_D A (wN cI h b1 b2 b3 b4 b5 b6 (va_cpy ms ns 0 0 601) (va_cpy mo no 0 0 601) (va_cpy mr nr 0 0 601) (va_cpy mt nt 0 0 601) (va_cpy md nd 0 0 601) (va_cpy mi ni 0 0 600) mm mf ++ wN cI g c1 c2 c3 c4 c5 c6 ms mo mr mt md mi mm mf) := hD
  exact hret _ _ _ _ ((va_cpy ms ns 0 0 601), (va_cpy mo no 0 0 601), (va_cpy mr nr 0 0 601), (va_cpy mt nt 0 0 601), (va_cpy md nd 0 0 601), (va_cpy mi ni 0 0 600), mm, mf) dX1_become_124 (op_k hf) hP hS
set_option maxHeartbeats 4000000 in
set_option maxRecDepth 100000 in
theorem c_X1_isNumber (l : Launch) (D : va_G) (cI cC cK cO : ClassId) (tL tM : Nat) (adK adV : Nat → Nat) (x0 : Int32) (R : Int32) (hf : f_X1_isNumber x0 = R) : KI l D (TY cI cC cK cO) (gE tL tM adK adV) yX1_isNumber wsX1_isNumber 0 [.int x0] [] (fun (r : Int32) (u : Unit) => r = R ∧ (r = 0 ∨ r = 1)) (fun u => []) := by
  refine KI.ofZ (cc := cX1_isNumber) (maxL := 1) (C := RX1) (by decide) rfl rfl (Nat.le_of_ble_eq_true rfl) (fun _ _ h => h.2) ?_
  intro p e s m args below meth c A Q hx hb hml hts hown hP hK hD hA hE hS hret ls hl
  replace hl : lv_has ls 1 [(0, .int x0)] := hl
  rw [f_X1_isNumber] at hf
  refine lv_iload_n hx hb dX1_isNumber_0 rfl (lv_at hl 0 rfl) ?_
  refine lv_iconst (v := 1) hx hb dX1_isNumber_1 (by decide) ?_
  refine lv_icmp_lt (tgt := 16) hx hb dX1_isNumber_2 (by decide) (fun c1 => ?_) (fun c1 => ?_)
  · replace hf := op_t c1 hf
    refine lv_iconst (v := 0) hx hb dX1_isNumber_16 (by decide) ?_
    exact hret _ _ _ _ _ () dX1_isNumber_17 ⟨hf, (Or.inl rfl)⟩ hP hS
  · replace hf := op_f c1 hf
    refine lv_iload_n hx hb dX1_isNumber_5 rfl (lv_at hl 0 rfl) ?_
    refine lv_sipush (v := 600) hx hb dX1_isNumber_6 (by decide) ?_
    refine lv_icmp_gt (tgt := 16) hx hb dX1_isNumber_9 (by decide) (fun c2 => ?_) (fun c2 => ?_)
    · replace hf := op_t c2 hf
      refine lv_iconst (v := 0) hx hb dX1_isNumber_16 (by decide) ?_
      exact hret _ _ _ _ _ () dX1_isNumber_17 ⟨hf, (Or.inl rfl)⟩ hP hS
    · replace hf := op_f c2 hf
      refine lv_iconst (v := 1) hx hb dX1_isNumber_12 (by decide) ?_
      refine lv_goto (tgt := 17) hx hb dX1_isNumber_13 (by decide) ?_
      exact hret _ _ _ _ _ () dX1_isNumber_17 ⟨hf, (Or.inr rfl)⟩ hP hS
set_option maxHeartbeats 4000000 in
set_option maxRecDepth 100000 in
theorem c_X1_put (l : Launch) (D : va_G) (cI cC cK cO : ClassId) (tL tM : Nat) (adK adV : Nat → Nat) (h : Nat) (b1 : Nat) (b2 : Nat) (b3 : Nat) (b4 : Nat) (b5 : Nat) (b6 : Nat) (ns : Nat → Int32) (no : Nat → Int32) (nr : Nat → Int32) (nt : Nat → Int32) (nd : Nat → Int32) (ni : Nat → Int32) (nm : Int32) (nf : Int32) (x1 : Int32) (x2 : Int32) (x3 : Int32) (x4 : Int32) (x5 : Int32) (K : Nat) (R : (Nat → Int32) × (Nat → Int32) × (Nat → Int32) × Int32) (hf : f_X1_put K ns no nr nf x1 x2 x3 x4 x5 = some R) : KV l D (TY cI cC cK cO) (gE tL tM adK adV) yX1_put wsX1_put 1 [.ref h, .int x1, .int x2, .int x3, .int x4, .int x5] (wN cI h b1 b2 b3 b4 b5 b6 ns no nr nt nd ni nm nf) (fun (u : (Nat → Int32) × (Nat → Int32) × (Nat → Int32) × Int32) => u = R) (fun u => (wN cI h b1 b2 b3 b4 b5 b6 (u.1) (u.2.1) (u.2.2.1) nt nd ni nm (u.2.2.2))) := by
  refine KV.of (cc := cX1_put) (maxL := 8) (C := RX1) (by decide) rfl rfl (Nat.le_of_ble_eq_true rfl) ?_
  intro p e s m args below meth c A Q hx hb hml hts hown hP hK hD hA hE hS hret ls hl
  replace hl : lv_has ls 8 [(0, .ref h), (1, .int x1), (2, .int x2), (3, .int x3), (4, .int x4), (5, .int x5)] := hl
  have m43 := hts (.methodLink RX1 43 Lib.Math.min.name) (by decide +kernel)
  have m49 := hts (.methodLink RX1 49 Lib.Math.max.name) (by decide +kernel)
  have mc_max := hts (.code Lib.Math.max.name Lib.Math.max.code 2 (some .int)) (by decide +kernel)
  have mc_min := hts (.code Lib.Math.min.name Lib.Math.min.code 2 (some .int)) (by decide +kernel)
  have mi := hts (.initialized "java/lang/Math") (by decide +kernel)
  have ms_max := hts (.static Lib.Math.max.name) (by decide +kernel)
  have ms_min := hts (.static Lib.Math.min.name) (by decide +kernel)
  have w15 := hts (.fieldLink RX1 15 "BlockClerks$Numbers" "owner" "[I") (by decide +kernel)
  have w18 := hts (.fieldLink RX1 18 "BlockClerks$Numbers" "reason" "[I") (by decide +kernel)
  have w34 := hts (.fieldLink RX1 34 "BlockClerks$Numbers" "firstNew" "I") (by decide +kernel)
  have w9 := hts (.fieldLink RX1 9 "BlockClerks$Numbers" "state" "[I") (by decide +kernel)
  have iX1 : ∀ w ∈ wsX10, w ∈ wsX1_put := by decide +kernel
  have L_16 : ∀ (n : Nat) (ns : Nat → Int32) (no : Nat → Int32) (nr : Nat → Int32) (nf : Int32) (x1 : Int32) (x2 : Int32) (x3 : Int32) (x4 : Int32) (x5 : Int32) (x6 : Int32) (x7 : Int32) (hf : f_X1_put_16 x3 x4 x5 x6 nf n x7 ns no nr = some R) (H : Heap) (locs : List Loc) (ls : Array Slot), va_P D vwCl (wN cI h b1 b2 b3 b4 b5 b6 ns no nr nt nd ni nm nf) H → va_D A (wN cI h b1 b2 b3 b4 b5 b6 ns no nr nt nd ni nm nf) → va_S A s.heap H locs → lv_has ls 8 [(0, .ref h), (1, .int x1), (2, .int x2), (3, .int x3), (4, .int x4), (5, .int x5), (6, .int x6), (7, .int x7)] → W p l e (rm 1) s m args below meth c H locs 0 0 Q (F0 m 16 ls []) := by
    intro n
    induction n with
    | zero =>
      intro ns no nr nf x1 x2 x3 x4 x5 x6 x7 hf
      cases hf
    | succ n ih =>
      intro ns no nr nf x1 x2 x3 x4 x5 x6 x7 hf H locs ls hP hD hS hl
      rw [f_X1_put_16] at hf
      refine lv_iload hx hb dX1_put_16 (lv_at hl 7 rfl) ?_
      refine lv_iload hx hb dX1_put_18 (lv_at hl 6 rfl) ?_
      refine lv_icmp_gt (tgt := 55) hx hb dX1_put_20 (by decide) (fun c1 => ?_) (fun c1 => ?_)
      · replace hf := op_t c1 hf
        refine lv_aload_n hx hb dX1_put_55 rfl (lv_at hl 0 rfl) ?_
        refine lv_aload_n hx hb dX1_put_56 rfl (lv_at hl 0 rfl) ?_
        refine va_get (D := D) (ci := 1) (v := .int nf) (C := RX1) (T := TX1) (N := 8) hx hb hts iX1 hown hK hP 0 rfl rfl 7 (by decide) w34 (fun _ h9 => h9) rfl dX1_put_57 ?_
        refine lv_iload hx hb dX1_put_60 (lv_at hl 6 rfl) ?_
        refine lv_iconst (v := 1) hx hb dX1_put_62 (by decide) ?_
        refine lv_iadd hx hb dX1_put_63 ?_
        refine ck_max hx hb (hml.trans hl.1.symm) hown m49 ms_max mi mc_max (Nat.le_of_ble_eq_true rfl) (Nat.le_of_ble_eq_true rfl) (Nat.zero_le _) (Nat.zero_le _) dX1_put_64 ?_
        refine va_put (D := D) (ci := 1) (v := .int (imax nf (x6 + 1))) (ty := .int) (C := RX1) (T := TX1) (N := 8) hx hb hts iX1 tyX1 tyX1_ok nmX1 hown hK hP hD hS 0 rfl rfl 7 (by decide) w34 (fun _ h9 => h9) rfl (by decide +kernel) rfl rfl (Nat.le_of_ble_eq_true rfl) dX1_put_67 (fun H locs hP hD hS => ?_)
        replace hP : va_P D vwCl (wN cI h b1 b2 b3 b4 b5 b6 ns no nr nt nd ni nm (imax nf (x6 + 1))) H := hP
        replace hD : va_D A (wN cI h b1 b2 b3 b4 b5 b6 ns no nr nt nd ni nm (imax nf (x6 + 1))) := hD
        exact hret _ _ _ _ (ns, no, nr, (imax nf (x6 + 1))) dX1_put_70 (op_k hf) hP hS
      · replace hf := op_f c1 hf
        refine lv_aload_n hx hb dX1_put_23 rfl (lv_at hl 0 rfl) ?_
        refine va_get (D := D) (ci := 1) (v := .ref b1) (C := RX1) (T := TX1) (N := 8) hx hb hts iX1 hown hK hP 0 rfl rfl 0 (by decide) w9 (fun _ h9 => h9) rfl dX1_put_24 ?_
        refine lv_iload hx hb dX1_put_27 (lv_at hl 7 rfl) ?_
        refine lv_iload_n hx hb dX1_put_29 rfl (lv_at hl 3 rfl) ?_
        obtain ⟨q2, hf⟩ := op_x hf
        obtain ⟨y3, e4, hf⟩ := nb_o hf
        refine ck_iast (f' := y3) hx hb hK hP hD hS 1 0 rfl rfl q2 dX1_put_30 e4 (fun H locs hP hD hS => ?_)
        replace hP : va_P D vwCl (wN cI h b1 b2 b3 b4 b5 b6 y3 no nr nt nd ni nm nf) H := hP
        replace hD : va_D A (wN cI h b1 b2 b3 b4 b5 b6 y3 no nr nt nd ni nm nf) := hD
        refine lv_aload_n hx hb dX1_put_31 rfl (lv_at hl 0 rfl) ?_
        refine va_get (D := D) (ci := 1) (v := .ref b2) (C := RX1) (T := TX1) (N := 8) hx hb hts iX1 hown hK hP 0 rfl rfl 1 (by decide) w15 (fun _ h9 => h9) rfl dX1_put_32 ?_
        refine lv_iload hx hb dX1_put_35 (lv_at hl 7 rfl) ?_
        refine lv_iload hx hb dX1_put_37 (lv_at hl 4 rfl) ?_
        obtain ⟨q5, hf⟩ := op_x hf
        obtain ⟨y6, e7, hf⟩ := nb_o hf
        refine ck_iast (f' := y6) hx hb hK hP hD hS 2 0 rfl rfl q5 dX1_put_39 e7 (fun H locs hP hD hS => ?_)
        replace hP : va_P D vwCl (wN cI h b1 b2 b3 b4 b5 b6 y3 y6 nr nt nd ni nm nf) H := hP
        replace hD : va_D A (wN cI h b1 b2 b3 b4 b5 b6 y3 y6 nr nt nd ni nm nf) := hD
        refine lv_aload_n hx hb dX1_put_40 rfl (lv_at hl 0 rfl) ?_
        refine va_get (D := D) (ci := 1) (v := .ref b3) (C := RX1) (T := TX1) (N := 8) hx hb hts iX1 hown hK hP 0 rfl rfl 2 (by decide) w18 (fun _ h9 => h9) rfl dX1_put_41 ?_
        refine lv_iload hx hb dX1_put_44 (lv_at hl 7 rfl) ?_
        refine lv_iload hx hb dX1_put_46 (lv_at hl 5 rfl) ?_
        obtain ⟨q8, hf⟩ := op_x hf
        obtain ⟨y9, e10, hf⟩ := nb_o hf
        refine ck_iast (f' := y9) hx hb hK hP hD hS 3 0 rfl rfl q8 dX1_put_48 e10 (fun H locs hP hD hS => ?_)
        replace hP : va_P D vwCl (wN cI h b1 b2 b3 b4 b5 b6 y3 y6 y9 nt nd ni nm nf) H := hP
        replace hD : va_D A (wN cI h b1 b2 b3 b4 b5 b6 y3 y6 y9 nt nd ni nm nf) := hD
        refine lv_iinc (v := (x7 + 1)) (lv' := [(7, .int (x7 + 1)), (0, .ref h), (1, .int x1), (2, .int x2), (3, .int x3), (4, .int x4), (5, .int x5), (6, .int x6)]) hx hb dX1_put_49 hl (k := 7) rfl rfl (by decide) rfl (fun ls hl => ?_)
        refine lv_goto (tgt := 16) hx hb dX1_put_52 (by decide) ?_
        exact ih y3 y6 y9 nf x1 x2 x3 x4 x5 x6 (x7 + 1) hf _ _ _ hP hD hS (lv_sub hl [1, 2, 3, 4, 5, 6, 7, 0] rfl)
  rw [f_X1_put] at hf
  refine lv_iload_n hx hb dX1_put_0 rfl (lv_at hl 2 rfl) ?_
  refine lv_sipush (v := 600) hx hb dX1_put_1 (by decide) ?_
  refine ck_min hx hb (hml.trans hl.1.symm) hown m43 ms_min mi mc_min (Nat.le_of_ble_eq_true rfl) (Nat.le_of_ble_eq_true rfl) (Nat.zero_le _) (Nat.zero_le _) dX1_put_4 ?_
  refine lv_istore (lv' := [(6, .int (imin x2 600)), (0, .ref h), (1, .int x1), (2, .int x2), (3, .int x3), (4, .int x4), (5, .int x5)]) hx hb dX1_put_7 hl (by decide) rfl (fun ls hl => ?_)
  refine lv_iload_n hx hb dX1_put_9 rfl (lv_at hl 2 rfl) ?_
  refine lv_iconst (v := 1) hx hb dX1_put_10 (by decide) ?_
  refine ck_max hx hb (hml.trans hl.1.symm) hown m49 ms_max mi mc_max (Nat.le_of_ble_eq_true rfl) (Nat.le_of_ble_eq_true rfl) (Nat.zero_le _) (Nat.zero_le _) dX1_put_11 ?_
  refine lv_istore (lv' := [(7, .int (imax x1 1)), (6, .int (imin x2 600)), (0, .ref h), (1, .int x1), (2, .int x2), (3, .int x3), (4, .int x4), (5, .int x5)]) hx hb dX1_put_14 hl (by decide) rfl (fun ls hl => ?_)
  exact L_16 K ns no nr nf x1 x2 x3 x4 x5 (imin x2 600) (imax x1 1) hf _ _ _ hP hD hS (lv_sub hl [2, 3, 4, 5, 6, 7, 1, 0] rfl)
set_option maxHeartbeats 4000000 in
set_option maxRecDepth 100000 in
theorem c_X1_give (l : Launch) (D : va_G) (cI cC cK cO : ClassId) (tL tM : Nat) (adK adV : Nat → Nat) (h : Nat) (b1 : Nat) (b2 : Nat) (b3 : Nat) (b4 : Nat) (b5 : Nat) (b6 : Nat) (ns : Nat → Int32) (no : Nat → Int32) (nr : Nat → Int32) (nt : Nat → Int32) (nd : Nat → Int32) (ni : Nat → Int32) (nm : Int32) (nf : Int32) (x1 : Int32) (x2 : Int32) (x3 : Int32) (K : Nat) (R : (Nat → Int32) × (Nat → Int32) × (Nat → Int32) × (Nat → Int32) × (Nat → Int32) × (Nat → Int32) × Int32 × Int32) (hf : f_X1_give K ns no nr nt nd ni nm nf x1 x2 x3 = some R) : KV l D (TY cI cC cK cO) (gE tL tM adK adV) yX1_give wsX1_give 2 [.ref h, .int x1, .int x2, .int x3] (wN cI h b1 b2 b3 b4 b5 b6 ns no nr nt nd ni nm nf) (fun (u : (Nat → Int32) × (Nat → Int32) × (Nat → Int32) × (Nat → Int32) × (Nat → Int32) × (Nat → Int32) × Int32 × Int32) => u = R) (fun u => (wN cI h b1 b2 b3 b4 b5 b6 (u.1) (u.2.1) (u.2.2.1) (u.2.2.2.1) (u.2.2.2.2.1) (u.2.2.2.2.2.1) (u.2.2.2.2.2.2.1) (u.2.2.2.2.2.2.2))) := by
  refine KV.of (cc := cX1_give) (maxL := 4) (C := RX1) (by decide) rfl rfl (Nat.le_of_ble_eq_true rfl) ?_
  intro p e s m args below meth c A Q hx hb hml hts hown hP hK hD hA hE hS hret ls hl
  replace hl : lv_has ls 4 [(0, .ref h), (1, .int x1), (2, .int x2), (3, .int x3)] := hl
  have w21 := hts (.fieldLink RX1 21 "BlockClerks$Numbers" "turn" "[I") (by decide +kernel)
  have w24 := hts (.fieldLink RX1 24 "BlockClerks$Numbers" "day" "[I") (by decide +kernel)
  have w27 := hts (.fieldLink RX1 27 "BlockClerks$Numbers" "inTurn" "[I") (by decide +kernel)
  have w30 := hts (.fieldLink RX1 30 "BlockClerks$Numbers" "turns" "I") (by decide +kernel)
  have iX1 : ∀ w ∈ wsX10, w ∈ wsX1_give := by decide +kernel
  rw [f_X1_give] at hf
  refine lv_iload_n hx hb dX1_give_0 rfl (lv_at hl 1 rfl) ?_
  refine ck_SI (st := [.int x1]) (rest := []) (As := [.int x1]) ⟨hx, hb, hml, hown, hts⟩ (gE_ok tL tM adK adV) (c_X1_isNumber l D cI cC cK cO tL tM adK adV  x1 _ rfl) (va_cwS 1 hts gX1_give_X1_isNumber rfl rfl rfl hs_X1_isNumber ⟨Nat.le_of_ble_eq_true rfl, Nat.le_of_ble_eq_true rfl⟩) hK hP hD hS hA hE rfl hl.1 rfl (Nat.le_of_ble_eq_true rfl) dX1_give_1 ⟨Nat.zero_le _, Nat.zero_le _⟩ (fun r H locs hw hP hS => ?_)
  obtain ⟨hw, z2⟩ := hw
  cases hw
  refine lv_if_eq (tgt := 26) hx hb dX1_give_4 (by decide) (fun c3 => ?_) (fun c3 => ?_)
  · replace hf := op_t c3 hf
    exact hret _ _ _ _ (ns, no, nr, nt, nd, ni, nm, nf) dX1_give_26 (op_k hf) hP hS
  · replace hf := op_f c3 hf
    refine lv_aload_n hx hb dX1_give_7 rfl (lv_at hl 0 rfl) ?_
    refine va_get (D := D) (ci := 1) (v := .int nm) (C := RX1) (T := TX1) (N := 8) hx hb hts iX1 hown hK hP 0 rfl rfl 6 (by decide) w30 (fun _ h9 => h9) rfl dX1_give_8 ?_
    refine lv_if_lt (tgt := 26) hx hb dX1_give_11 (by decide) (fun c4 => ?_) (fun c4 => ?_)
    · replace hf := op_t c4 hf
      exact hret _ _ _ _ (ns, no, nr, nt, nd, ni, nm, nf) dX1_give_26 (op_k hf) hP hS
    · replace hf := op_f c4 hf
      refine lv_aload_n hx hb dX1_give_14 rfl (lv_at hl 0 rfl) ?_
      refine va_get (D := D) (ci := 1) (v := .int nm) (C := RX1) (T := TX1) (N := 8) hx hb hts iX1 hown hK hP 0 rfl rfl 6 (by decide) w30 (fun _ h9 => h9) rfl dX1_give_15 ?_
      refine lv_aload_n hx hb dX1_give_18 rfl (lv_at hl 0 rfl) ?_
      refine va_get (D := D) (ci := 1) (v := .ref b6) (C := RX1) (T := TX1) (N := 8) hx hb hts iX1 hown hK hP 0 rfl rfl 5 (by decide) w27 (fun _ h9 => h9) rfl dX1_give_19 ?_
      refine va_alen (D := D) hx hb hK hP 6 0 rfl rfl (v := 600) rfl dX1_give_22 ?_
      refine lv_icmp_lt (tgt := 27) hx hb dX1_give_23 (by decide) (fun c5 => ?_) (fun c5 => ?_)
      · replace hf := op_t c5 hf
        refine lv_aload_n hx hb dX1_give_27 rfl (lv_at hl 0 rfl) ?_
        refine lv_iload_n hx hb dX1_give_28 rfl (lv_at hl 1 rfl) ?_
        refine lv_iload_n hx hb dX1_give_29 rfl (lv_at hl 1 rfl) ?_
        refine lv_iconst (v := 2) hx hb dX1_give_30 (by decide) ?_
        refine lv_iload_n hx hb dX1_give_31 rfl (lv_at hl 2 rfl) ?_
        refine lv_iconst (v := (-1)) hx hb dX1_give_32 (by decide) ?_
        obtain ⟨⟨y7, y8, y9, y10⟩, h11, hf⟩ := op_b hf
        refine ck_VV (st := [.int (-1), .int x2, .int 2, .int x1, .int x1, .ref h]) (rest := []) (As := [.int x1, .int x1, .int 2, .int x2, .int (-1)]) (C := RX1) (ci := 1) ⟨hx, hb, hml, hown, hts⟩ (gE_ok tL tM adK adV) (c_X1_put l D cI cC cK cO tL tM adK adV h b1 b2 b3 b4 b5 b6 ns no nr nt nd ni nm nf x1 x1 2 x2 (-1) K _ h11) (cwV 5 hts gX1_give_X1_put rfl rfl rfl hv_X1_put ⟨Nat.le_of_ble_eq_true rfl, Nat.le_of_ble_eq_true rfl⟩) hK hP hD hS hA hE [0, 1, 2, 3, 4, 5, 6] rfl rfl rfl rfl rfl (fun _ => rfl) rfl hl.1 rfl (Nat.le_of_ble_eq_true rfl) dX1_give_33 ⟨Nat.zero_le _, Nat.zero_le _⟩ (fun u H locs hw hP hD hS => ?_)
        cases hw
        replace hP : va_P D vwCl (wN cI h b1 b2 b3 b4 b5 b6 y7 y8 y9 nt nd ni nm y10) H := hP
        replace hD : va_D A (wN cI h b1 b2 b3 b4 b5 b6 y7 y8 y9 nt nd ni nm y10) := hD
        refine lv_aload_n hx hb dX1_give_36 rfl (lv_at hl 0 rfl) ?_
        refine va_get (D := D) (ci := 1) (v := .ref b4) (C := RX1) (T := TX1) (N := 8) hx hb hts iX1 hown hK hP 0 rfl rfl 3 (by decide) w21 (fun _ h9 => h9) rfl dX1_give_37 ?_
        refine lv_iload_n hx hb dX1_give_40 rfl (lv_at hl 1 rfl) ?_
        refine lv_aload_n hx hb dX1_give_41 rfl (lv_at hl 0 rfl) ?_
        refine va_get (D := D) (ci := 1) (v := .int nm) (C := RX1) (T := TX1) (N := 8) hx hb hts iX1 hown hK hP 0 rfl rfl 6 (by decide) w30 (fun _ h9 => h9) rfl dX1_give_42 ?_
        obtain ⟨q13, hf⟩ := op_x hf
        obtain ⟨y14, e15, hf⟩ := nb_o hf
        refine ck_iast (f' := y14) hx hb hK hP hD hS 4 0 rfl rfl q13 dX1_give_45 e15 (fun H locs hP hD hS => ?_)
        replace hP : va_P D vwCl (wN cI h b1 b2 b3 b4 b5 b6 y7 y8 y9 y14 nd ni nm y10) H := hP
        replace hD : va_D A (wN cI h b1 b2 b3 b4 b5 b6 y7 y8 y9 y14 nd ni nm y10) := hD
        refine lv_aload_n hx hb dX1_give_46 rfl (lv_at hl 0 rfl) ?_
        refine va_get (D := D) (ci := 1) (v := .ref b5) (C := RX1) (T := TX1) (N := 8) hx hb hts iX1 hown hK hP 0 rfl rfl 4 (by decide) w24 (fun _ h9 => h9) rfl dX1_give_47 ?_
        refine lv_iload_n hx hb dX1_give_50 rfl (lv_at hl 1 rfl) ?_
        refine lv_iload_n hx hb dX1_give_51 rfl (lv_at hl 3 rfl) ?_
        obtain ⟨q16, hf⟩ := op_x hf
        obtain ⟨y17, e18, hf⟩ := nb_o hf
        refine ck_iast (f' := y17) hx hb hK hP hD hS 5 0 rfl rfl q16 dX1_give_52 e18 (fun H locs hP hD hS => ?_)
        replace hP : va_P D vwCl (wN cI h b1 b2 b3 b4 b5 b6 y7 y8 y9 y14 y17 ni nm y10) H := hP
        replace hD : va_D A (wN cI h b1 b2 b3 b4 b5 b6 y7 y8 y9 y14 y17 ni nm y10) := hD
        refine lv_aload_n hx hb dX1_give_53 rfl (lv_at hl 0 rfl) ?_
        refine va_get (D := D) (ci := 1) (v := .ref b6) (C := RX1) (T := TX1) (N := 8) hx hb hts iX1 hown hK hP 0 rfl rfl 5 (by decide) w27 (fun _ h9 => h9) rfl dX1_give_54 ?_
        refine lv_aload_n hx hb dX1_give_57 rfl (lv_at hl 0 rfl) ?_
        refine va_get (D := D) (ci := 1) (v := .int nm) (C := RX1) (T := TX1) (N := 8) hx hb hts iX1 hown hK hP 0 rfl rfl 6 (by decide) w30 (fun _ h9 => h9) rfl dX1_give_58 ?_
        refine lv_iload_n hx hb dX1_give_61 rfl (lv_at hl 1 rfl) ?_
        obtain ⟨q19, hf⟩ := op_x hf
        obtain ⟨y20, e21, hf⟩ := nb_o hf
        refine ck_iast (f' := y20) hx hb hK hP hD hS 6 0 rfl rfl q19 dX1_give_62 e21 (fun H locs hP hD hS => ?_)
        replace hP : va_P D vwCl (wN cI h b1 b2 b3 b4 b5 b6 y7 y8 y9 y14 y17 y20 nm y10) H := hP
        replace hD : va_D A (wN cI h b1 b2 b3 b4 b5 b6 y7 y8 y9 y14 y17 y20 nm y10) := hD
        refine lv_aload_n hx hb dX1_give_63 rfl (lv_at hl 0 rfl) ?_
        refine lv_dup hx hb dX1_give_64 rfl ?_
        refine va_get (D := D) (ci := 1) (v := .int nm) (C := RX1) (T := TX1) (N := 8) hx hb hts iX1 hown hK hP 0 rfl rfl 6 (by decide) w30 (fun _ h9 => h9) rfl dX1_give_65 ?_
        refine lv_iconst (v := 1) hx hb dX1_give_68 (by decide) ?_
        refine lv_iadd hx hb dX1_give_69 ?_
        refine va_put (D := D) (ci := 1) (v := .int (nm + 1)) (ty := .int) (C := RX1) (T := TX1) (N := 8) hx hb hts iX1 tyX1 tyX1_ok nmX1 hown hK hP hD hS 0 rfl rfl 6 (by decide) w30 (fun _ h9 => h9) rfl (by decide +kernel) rfl rfl (Nat.le_of_ble_eq_true rfl) dX1_give_70 (fun H locs hP hD hS => ?_)
        replace hP : va_P D vwCl (wN cI h b1 b2 b3 b4 b5 b6 y7 y8 y9 y14 y17 y20 (nm + 1) y10) H := hP
        replace hD : va_D A (wN cI h b1 b2 b3 b4 b5 b6 y7 y8 y9 y14 y17 y20 (nm + 1) y10) := hD
        exact hret _ _ _ _ (y7, y8, y9, y14, y17, y20, (nm + 1), y10) dX1_give_73 (op_k hf) hP hS
      · replace hf := op_f c5 hf
        exact hret _ _ _ _ (ns, no, nr, nt, nd, ni, nm, nf) dX1_give_26 (op_k hf) hP hS
