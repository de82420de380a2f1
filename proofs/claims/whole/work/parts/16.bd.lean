/-! laid by wip/whole/gen.py: walks of the class itself -/
set_option maxHeartbeats 4000000 in
set_option maxRecDepth 100000 in
theorem c_X4_fault (l : Launch) (D : va_G) (cI cC cK cO : ClassId) (tL tM : Nat) (adK adV : Nat → Nat) (q : Nat → Nat) (oO : Nat → Nat) (oT : Nat → Nat) (hh : Nat → Nat → Nat) (wo : OW) (wt : OW) (hs : Nat → OW) (hp : Nat → Nat) (kp : Int32) (fp : Int32) (fr : Int32) (sc : Nat → Int32) (sl : Int32) (sp : Int32) (sv : Int32) (sf : Int32) (ss : Int32) (x1 : Int32) (K : Nat) (R : Int32 × OW × Int32 × Int32 × Int32 × Int32 × Int32 × Int32) (hf : f_X4_fault K wo wt fp fr sc sl sp sv sf ss x1 = some R) : KI l D (TY cI cC cK cO) (gE tL tM adK adV) yX4_fault wsX4_fault 8 [.ref (q 0), .int x1] (wB cI cC cK cO q oO oT hh wo wt hs hp kp fp fr sc sl sp sv sf ss) (fun (r : Int32) (u : OW × Int32 × Int32 × Int32 × Int32 × Int32 × Int32) => (r, u) = R) (fun u => (wB cI cC cK cO q oO oT hh wo (u.1) hs hp kp (u.2.1) (u.2.2.1) sc sl (u.2.2.2.1) (u.2.2.2.2.1) (u.2.2.2.2.2.1) (u.2.2.2.2.2.2))) := by
  refine KI.ofI (cc := cX4_fault) (maxL := 2) (C := RX4) (by decide) rfl rfl (Nat.le_of_ble_eq_true rfl) ?_
  intro p e s m args below meth c A Q hx hb hml hts hown hP hK hD hA hE hS hret ls hl
  replace hl : lv_has ls 2 [(0, .ref (q 0)), (1, .int x1)] := hl
  have w34 := hts (.fieldLink RX4 34 "BlockClerks" "faultPosition" "I") (by decide +kernel)
  have w37 := hts (.fieldLink RX4 37 "BlockClerks" "faultReason" "I") (by decide +kernel)
  have iX4 : ∀ w ∈ wsX40, w ∈ wsX4_fault := by decide +kernel
  rw [f_X4_fault] at hf
  refine lv_iload_n hx hb dX4_fault_0 rfl (lv_at hl 1 rfl) ?_
  refine lv_if_eq (tgt := 11) hx hb dX4_fault_1 (by decide) (fun c1 => ?_) (fun c1 => ?_)
  · replace hf := op_t c1 hf
    refine lv_aload_n hx hb dX4_fault_11 rfl (lv_at hl 0 rfl) ?_
    obtain ⟨⟨r2, y3, y4, y5, y6, y7, y8, y9⟩, h10, hf⟩ := op_b hf
    refine ck_VIw (st := [.ref (q 0)]) (rest := []) (As := []) (C := RX4) (ci := 4) ⟨hx, hb, hml, hown, hts⟩ (gE_ok tL tM adK adV) (c_X4_rehearse l D cI cC cK cO tL tM adK adV q oO oT hh wo wt hs hp kp fp fr sc sl sp sv sf ss  K _ h10) (cwV 0 hts gX4_fault_X4_rehearse rfl rfl rfl hv_X4_rehearse ⟨Nat.le_of_ble_eq_true rfl, Nat.le_of_ble_eq_true rfl⟩) hK hP hD hS hA hE rfl rfl rfl (fun _ => rfl) rfl hl.1 rfl (Nat.le_of_ble_eq_true rfl) dX4_fault_12 ⟨Nat.zero_le _, Nat.zero_le _⟩ (fun r u H locs hw hP hD hS => ?_)
    cases hw
    replace hP : va_P D vwCl (wB cI cC cK cO q oO oT hh wo y3 hs hp kp y4 y5 sc sl y6 y7 y8 y9) H := hP
    replace hD : va_D A (wB cI cC cK cO q oO oT hh wo y3 hs hp kp y4 y5 sc sl y6 y7 y8 y9) := hD
    refine lv_pop hx hb dX4_fault_15 rfl ?_
    refine lv_aload_n hx hb dX4_fault_16 rfl (lv_at hl 0 rfl) ?_
    refine va_get (D := D) (ci := 4) (v := .int y5) (C := RX4) (T := TX4) (N := 7) hx hb hts iX4 hown hK hP 0 rfl rfl 6 (by decide) w37 (fun _ h9 => h9) rfl dX4_fault_17 ?_
    refine lv_if_ne (tgt := 26) hx hb dX4_fault_20 (by decide) (fun c12 => ?_) (fun c12 => ?_)
    · replace hf := op_f c12 hf
      refine lv_iload_n hx hb dX4_fault_26 rfl (lv_at hl 1 rfl) ?_
      refine lv_if_ne (tgt := 37) hx hb dX4_fault_27 (by decide) (fun c13 => ?_) (fun c13 => ?_)
      · replace hf := op_f c13 hf
        refine lv_aload_n hx hb dX4_fault_37 rfl (lv_at hl 0 rfl) ?_
        refine va_get (D := D) (ci := 4) (v := .int y5) (C := RX4) (T := TX4) (N := 7) hx hb hts iX4 hown hK hP 0 rfl rfl 6 (by decide) w37 (fun _ h9 => h9) rfl dX4_fault_38 ?_
        exact hret _ _ _ _ _ (y3, y4, y5, y6, y7, y8, y9) dX4_fault_41 (op_k hf) hP hS
      · replace hf := op_t c13 hf
        refine lv_aload_n hx hb dX4_fault_30 rfl (lv_at hl 0 rfl) ?_
        refine va_get (D := D) (ci := 4) (v := .int y4) (C := RX4) (T := TX4) (N := 7) hx hb hts iX4 hown hK hP 0 rfl rfl 5 (by decide) w34 (fun _ h9 => h9) rfl dX4_fault_31 ?_
        refine lv_goto (tgt := 41) hx hb dX4_fault_34 (by decide) ?_
        exact hret _ _ _ _ _ (y3, y4, y5, y6, y7, y8, y9) dX4_fault_41 (op_k hf) hP hS
    · replace hf := op_t c12 hf
      refine lv_bipush (v := (-4)) hx hb dX4_fault_23 (by decide) ?_
      exact hret _ _ _ _ _ (y3, y4, y5, y6, y7, y8, y9) dX4_fault_25 (op_k hf) hP hS
  · replace hf := op_f c1 hf
    refine lv_iload_n hx hb dX4_fault_4 rfl (lv_at hl 1 rfl) ?_
    refine lv_iconst (v := 1) hx hb dX4_fault_5 (by decide) ?_
    refine lv_icmp_eq (tgt := 11) hx hb dX4_fault_6 (by decide) (fun c14 => ?_) (fun c14 => ?_)
    · replace hf := op_t c14 hf
      refine lv_aload_n hx hb dX4_fault_11 rfl (lv_at hl 0 rfl) ?_
      obtain ⟨⟨r15, y16, y17, y18, y19, y20, y21, y22⟩, h23, hf⟩ := op_b hf
      refine ck_VIw (st := [.ref (q 0)]) (rest := []) (As := []) (C := RX4) (ci := 4) ⟨hx, hb, hml, hown, hts⟩ (gE_ok tL tM adK adV) (c_X4_rehearse l D cI cC cK cO tL tM adK adV q oO oT hh wo wt hs hp kp fp fr sc sl sp sv sf ss  K _ h23) (cwV 0 hts gX4_fault_X4_rehearse rfl rfl rfl hv_X4_rehearse ⟨Nat.le_of_ble_eq_true rfl, Nat.le_of_ble_eq_true rfl⟩) hK hP hD hS hA hE rfl rfl rfl (fun _ => rfl) rfl hl.1 rfl (Nat.le_of_ble_eq_true rfl) dX4_fault_12 ⟨Nat.zero_le _, Nat.zero_le _⟩ (fun r u H locs hw hP hD hS => ?_)
      cases hw
      replace hP : va_P D vwCl (wB cI cC cK cO q oO oT hh wo y16 hs hp kp y17 y18 sc sl y19 y20 y21 y22) H := hP
      replace hD : va_D A (wB cI cC cK cO q oO oT hh wo y16 hs hp kp y17 y18 sc sl y19 y20 y21 y22) := hD
      refine lv_pop hx hb dX4_fault_15 rfl ?_
      refine lv_aload_n hx hb dX4_fault_16 rfl (lv_at hl 0 rfl) ?_
      refine va_get (D := D) (ci := 4) (v := .int y18) (C := RX4) (T := TX4) (N := 7) hx hb hts iX4 hown hK hP 0 rfl rfl 6 (by decide) w37 (fun _ h9 => h9) rfl dX4_fault_17 ?_
      refine lv_if_ne (tgt := 26) hx hb dX4_fault_20 (by decide) (fun c25 => ?_) (fun c25 => ?_)
      · replace hf := op_f c25 hf
        refine lv_iload_n hx hb dX4_fault_26 rfl (lv_at hl 1 rfl) ?_
        refine lv_if_ne (tgt := 37) hx hb dX4_fault_27 (by decide) (fun c26 => ?_) (fun c26 => ?_)
        · replace hf := op_f c26 hf
          refine lv_aload_n hx hb dX4_fault_37 rfl (lv_at hl 0 rfl) ?_
          refine va_get (D := D) (ci := 4) (v := .int y18) (C := RX4) (T := TX4) (N := 7) hx hb hts iX4 hown hK hP 0 rfl rfl 6 (by decide) w37 (fun _ h9 => h9) rfl dX4_fault_38 ?_
          exact hret _ _ _ _ _ (y16, y17, y18, y19, y20, y21, y22) dX4_fault_41 (op_k hf) hP hS
        · replace hf := op_t c26 hf
          refine lv_aload_n hx hb dX4_fault_30 rfl (lv_at hl 0 rfl) ?_
          refine va_get (D := D) (ci := 4) (v := .int y17) (C := RX4) (T := TX4) (N := 7) hx hb hts iX4 hown hK hP 0 rfl rfl 5 (by decide) w34 (fun _ h9 => h9) rfl dX4_fault_31 ?_
          refine lv_goto (tgt := 41) hx hb dX4_fault_34 (by decide) ?_
          exact hret _ _ _ _ _ (y16, y17, y18, y19, y20, y21, y22) dX4_fault_41 (op_k hf) hP hS
      · replace hf := op_t c25 hf
        refine lv_bipush (v := (-4)) hx hb dX4_fault_23 (by decide) ?_
        exact hret _ _ _ _ _ (y16, y17, y18, y19, y20, y21, y22) dX4_fault_25 (op_k hf) hP hS
    · replace hf := op_f c14 hf
      refine lv_iconst (v := (-1)) hx hb dX4_fault_9 (by decide) ?_
      exact hret _ _ _ _ _ (wt, fp, fr, sp, sv, sf, ss) dX4_fault_10 (op_k hf) hP hS
set_option maxHeartbeats 4000000 in
set_option maxRecDepth 100000 in
theorem c_X4_play (l : Launch) (D : va_G) (cI cC cK cO : ClassId) (tL tM : Nat) (adK adV : Nat → Nat) (q : Nat → Nat) (oO : Nat → Nat) (oT : Nat → Nat) (hh : Nat → Nat → Nat) (wo : OW) (wt : OW) (hs : Nat → OW) (hp : Nat → Nat) (kp : Int32) (fp : Int32) (fr : Int32) (sc : Nat → Int32) (sl : Int32) (sp : Int32) (sv : Int32) (sf : Int32) (ss : Int32) (K : Nat) (R : Int32 × OW × OW × (Nat → OW) × (Nat → Nat) × Int32 × Int32 × Int32 × Int32 × Int32 × Int32 × Int32) (hf : f_X4_play K wo wt hs hp kp sc sl sv sf ss = some R) : KI l D (TY cI cC cK cO) (gE tL tM adK adV) yX4_play wsX4_play 8 [.ref (q 0)] (wB cI cC cK cO q oO oT hh wo wt hs hp kp fp fr sc sl sp sv sf ss) (fun (r : Int32) (u : OW × OW × (Nat → OW) × (Nat → Nat) × Int32 × Int32 × Int32 × Int32 × Int32 × Int32 × Int32) => (r, u) = R) (fun u => (wB cI cC cK cO q oO oT hh (u.1) (u.2.1) (u.2.2.1) (u.2.2.2.1) (u.2.2.2.2.1) (u.2.2.2.2.2.1) (u.2.2.2.2.2.2.1) sc sl (u.2.2.2.2.2.2.2.1) (u.2.2.2.2.2.2.2.2.1) (u.2.2.2.2.2.2.2.2.2.1) (u.2.2.2.2.2.2.2.2.2.2))) := by
  refine KI.ofI (cc := cX4_play) (maxL := 2) (C := RX4) (by decide) rfl rfl (Nat.le_of_ble_eq_true rfl) ?_
  intro p e s m args below meth c A Q hx hb hml hts hown hP hK hD hA hE hS hret ls hl
  replace hl : lv_has ls 2 [(0, .ref (q 0))] := hl
  have w37 := hts (.fieldLink RX4 37 "BlockClerks" "faultReason" "I") (by decide +kernel)
  have iX4 : ∀ w ∈ wsX40, w ∈ wsX4_play := by decide +kernel
  rw [f_X4_play] at hf
  refine lv_aload_n hx hb dX4_play_0 rfl (lv_at hl 0 rfl) ?_
  obtain ⟨⟨r1, y2, y3, y4, y5, y6, y7, y8⟩, h9, hf⟩ := op_b hf
  refine ck_VIw (st := [.ref (q 0)]) (rest := []) (As := []) (C := RX4) (ci := 4) ⟨hx, hb, hml, hown, hts⟩ (gE_ok tL tM adK adV) (c_X4_rehearse l D cI cC cK cO tL tM adK adV q oO oT hh wo wt hs hp kp fp fr sc sl sp sv sf ss  K _ h9) (cwV 0 hts gX4_play_X4_rehearse rfl rfl rfl hv_X4_rehearse ⟨Nat.le_of_ble_eq_true rfl, Nat.le_of_ble_eq_true rfl⟩) hK hP hD hS hA hE rfl rfl rfl (fun _ => rfl) rfl hl.1 rfl (Nat.le_of_ble_eq_true rfl) dX4_play_1 ⟨Nat.zero_le _, Nat.zero_le _⟩ (fun r u H locs hw hP hD hS => ?_)
  cases hw
  replace hP : va_P D vwCl (wB cI cC cK cO q oO oT hh wo y2 hs hp kp y3 y4 sc sl y5 y6 y7 y8) H := hP
  replace hD : va_D A (wB cI cC cK cO q oO oT hh wo y2 hs hp kp y3 y4 sc sl y5 y6 y7 y8) := hD
  refine lv_istore_n (lv' := [(1, .int r1), (0, .ref (q 0))]) hx hb dX4_play_4 rfl hl (by decide) rfl (fun ls hl => ?_)
  refine lv_aload_n hx hb dX4_play_5 rfl (lv_at hl 1 rfl) ?_
  refine va_get (D := D) (ci := 4) (v := .int y4) (C := RX4) (T := TX4) (N := 7) hx hb hts iX4 hown hK hP 0 rfl rfl 6 (by decide) w37 (fun _ h9 => h9) rfl dX4_play_6 ?_
  refine lv_if_ne (tgt := 20) hx hb dX4_play_9 (by decide) (fun c11 => ?_) (fun c11 => ?_)
  · replace hf := op_f c11 hf
    refine lv_bipush (v := (-2)) hx hb dX4_play_20 (by decide) ?_
    exact hret _ _ _ _ _ (wo, y2, hs, hp, kp, y3, y4, y5, y6, y7, y8) dX4_play_22 (op_k hf) hP hS
  · replace hf := op_t c11 hf
    refine lv_aload_n hx hb dX4_play_12 rfl (lv_at hl 1 rfl) ?_
    refine lv_iload_n hx hb dX4_play_13 rfl (lv_at hl 0 rfl) ?_
    obtain ⟨⟨r12, y13, y14, y15, y16⟩, h17, hf⟩ := op_b hf
    refine ck_VIw (st := [.int r1, .ref (q 0)]) (rest := []) (As := [.int r1]) (C := RX4) (ci := 4) ⟨hx, hb, hml, hown, hts⟩ (gE_ok tL tM adK adV) (c_X4_adopt l D cI cC cK cO tL tM adK adV q oO oT hh wo y2 hs hp kp y3 y4 sc sl y5 y6 y7 y8 r1 _ h17) (cwV 1 hts gX4_play_X4_adopt rfl rfl rfl hv_X4_adopt ⟨Nat.le_of_ble_eq_true rfl, Nat.le_of_ble_eq_true rfl⟩) hK hP hD hS hA hE rfl rfl rfl (fun _ => rfl) rfl hl.1 rfl (Nat.le_of_ble_eq_true rfl) dX4_play_14 ⟨Nat.zero_le _, Nat.zero_le _⟩ (fun r u H locs hw hP hD hS => ?_)
    cases hw
    replace hP : va_P D vwCl (wB cI cC cK cO q oO oT hh y13 y2 y14 y15 y16 y3 y4 sc sl y5 y6 y7 y8) H := hP
    replace hD : va_D A (wB cI cC cK cO q oO oT hh y13 y2 y14 y15 y16 y3 y4 sc sl y5 y6 y7 y8) := hD
    refine lv_goto (tgt := 22) hx hb dX4_play_17 (by decide) ?_
    exact hret _ _ _ _ _ (y13, y2, y14, y15, y16, y3, y4, y5, y6, y7, y8) dX4_play_22 (op_k hf) hP hS
