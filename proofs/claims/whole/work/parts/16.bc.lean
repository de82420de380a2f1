/-! laid by wip/whole/gen.py: walks of the class itself -/
set_option maxHeartbeats 4000000 in
set_option maxRecDepth 100000 in
theorem c_X4_count (l : Launch) (D : va_G) (cI cC cK cO : ClassId) (tL tM : Nat) (adK adV : Nat → Nat) (q : Nat → Nat) (oO : Nat → Nat) (oT : Nat → Nat) (hh : Nat → Nat → Nat) (wo : OW) (wt : OW) (hs : Nat → OW) (hp : Nat → Nat) (kp : Int32) (fp : Int32) (fr : Int32) (sc : Nat → Int32) (sl : Int32) (sp : Int32) (sv : Int32) (sf : Int32) (ss : Int32) (x1 : Int32) (K : Nat) (R : Int32) (hf : f_X4_count K wo kp sl x1 = some R) : KI l D (TY cI cC cK cO) (gE tL tM adK adV) yX4_count wsX4_count 4 [.ref (q 0), .int x1] (wB cI cC cK cO q oO oT hh wo wt hs hp kp fp fr sc sl sp sv sf ss) (fun (r : Int32) (u : Unit) => r = R) (fun u => (wB cI cC cK cO q oO oT hh wo wt hs hp kp fp fr sc sl sp sv sf ss)) := by
  refine KI.ofI (cc := cX4_count) (maxL := 2) (C := RX4) (by decide) rfl rfl (Nat.le_of_ble_eq_true rfl) ?_
  intro p e s m args below meth c A Q hx hb hml hts hown hP hK hD hA hE hS hret ls hl
  replace hl : lv_has ls 2 [(0, .ref (q 0)), (1, .int x1)] := hl
  have w10 := hts (.fieldLink RX4 10 "BlockClerks" "office" "LBlockClerks$Office;") (by decide +kernel)
  have w23 := hts (.fieldLink RX4 23 "BlockClerks" "kept" "I") (by decide +kernel)
  have w30 := hts (.fieldLink RX4 30 "BlockClerks" "script" "LBlockClerks$Script;") (by decide +kernel)
  have w96 := hts (.fieldLink RX4 96 "BlockClerks$Script" "length" "I") (by decide +kernel)
  have iX3 : ∀ w ∈ wsX30, w ∈ wsX4_count := by decide +kernel
  have iX4 : ∀ w ∈ wsX40, w ∈ wsX4_count := by decide +kernel
  rw [f_X4_count] at hf
  refine lv_iload_n hx hb dX4_count_0 rfl (lv_at hl 1 rfl) ?_
  by_cases c1 : x1 = 10
  · replace hf := op_t c1 hf
    refine lv_lookup (tgt := 28) hx hb dX4_count_1 (by decide) (off := 27) (by rw [c1]; decide) (by decide) ?_
    refine lv_aload_n hx hb dX4_count_28 rfl (lv_at hl 0 rfl) ?_
    refine va_get (D := D) (ci := 4) (v := .int kp) (C := RX4) (T := TX4) (N := 7) hx hb hts iX4 hown hK hP 0 rfl rfl 3 (by decide) w23 (fun _ h9 => h9) rfl dX4_count_29 ?_
    exact hret _ _ _ _ _ () dX4_count_32 (op_k hf) hP hS
  replace hf := op_f c1 hf
  by_cases c2 : x1 = 11
  · replace hf := op_t c2 hf
    refine lv_lookup (tgt := 33) hx hb dX4_count_1 (by decide) (off := 32) (by rw [c2]; decide) (by decide) ?_
    refine lv_aload_n hx hb dX4_count_33 rfl (lv_at hl 0 rfl) ?_
    refine va_get (D := D) (ci := 4) (v := .ref (q 2)) (C := RX4) (T := TX4) (N := 7) hx hb hts iX4 hown hK hP 0 rfl rfl 4 (by decide) w30 (fun _ h9 => h9) rfl dX4_count_34 ?_
    refine va_get (D := D) (ci := 3) (v := .int sl) (C := RX3) (T := TX3) (N := 6) hx hb hts iX3 hown hK hP 2 rfl rfl 1 (by decide) w96 (fun _ h9 => h9) rfl dX4_count_37 ?_
    exact hret _ _ _ _ _ () dX4_count_40 (op_k hf) hP hS
  replace hf := op_f c2 hf
  refine lv_lookup (tgt := 41) hx hb dX4_count_1 (by decide) (off := 40) (by have gc1 : ¬ (10 : Int) = x1.toInt := fun z => sw_ne c1 z.symm; have gc2 : ¬ (11 : Int) = x1.toInt := fun z => sw_ne c2 z.symm; simp [Op.lookupswitch.offset, gc1, gc2]) (by decide) ?_
  refine lv_aload_n hx hb dX4_count_41 rfl (lv_at hl 0 rfl) ?_
  refine va_get (D := D) (ci := 4) (v := .ref (oO 0)) (C := RX4) (T := TX4) (N := 7) hx hb hts iX4 hown hK hP 0 rfl rfl 0 (by decide) w10 (fun _ h9 => h9) rfl dX4_count_42 ?_
  refine lv_iload_n hx hb dX4_count_45 rfl (lv_at hl 1 rfl) ?_
  obtain ⟨r3, h4, hf⟩ := op_b hf
  refine ck_VIp (st := [.int x1, .ref (oO 0)]) (rest := []) (As := [.int x1]) (C := RX2) (ci := 2) (ws1 := (fun (u : Unit) => (wB cI cC cK cO q oO oT hh wo wt hs hp kp fp fr sc sl sp sv sf ss))) ⟨hx, hb, hml, hown, hts⟩ (gE_ok tL tM adK adV) (c_X2_tally l D cI cC cK cO tL tM adK adV oO (wo.1) (wo.2.1) (wo.2.2.1) (wo.2.2.2.1) (wo.2.2.2.2.1) (wo.2.2.2.2.2.1) (wo.2.2.2.2.2.2.1) (wo.2.2.2.2.2.2.2.1) (wo.2.2.2.2.2.2.2.2.1) (wo.2.2.2.2.2.2.2.2.2.1) (wo.2.2.2.2.2.2.2.2.2.2.1) (wo.2.2.2.2.2.2.2.2.2.2.2) x1 K _ h4) (cwV 1 hts gX4_count_X2_tally rfl rfl rfl hv_X2_tally ⟨Nat.le_of_ble_eq_true rfl, Nat.le_of_ble_eq_true rfl⟩) hK hP hD hS hA hE (pm_a _ _ _) (fun _ => (pm_a _ _ _)) rfl rfl rfl (fun _ => rfl) rfl hl.1 rfl (Nat.le_of_ble_eq_true rfl) dX4_count_46 ⟨Nat.zero_le _, Nat.zero_le _⟩ (fun r u H locs hw hP hD hS => ?_)
  cases hw
  replace hP : va_P D vwCl (wB cI cC cK cO q oO oT hh wo wt hs hp kp fp fr sc sl sp sv sf ss) H := hP
  replace hD : va_D A (wB cI cC cK cO q oO oT hh wo wt hs hp kp fp fr sc sl sp sv sf ss) := hD
  exact hret _ _ _ _ _ () dX4_count_49 (op_k hf) hP hS
set_option maxHeartbeats 4000000 in
set_option maxRecDepth 100000 in
theorem c_X4_next (l : Launch) (D : va_G) (cI cC cK cO : ClassId) (tL tM : Nat) (adK adV : Nat → Nat) (q : Nat → Nat) (oO : Nat → Nat) (oT : Nat → Nat) (hh : Nat → Nat → Nat) (wo : OW) (wt : OW) (hs : Nat → OW) (hp : Nat → Nat) (kp : Int32) (fp : Int32) (fr : Int32) (sc : Nat → Int32) (sl : Int32) (sp : Int32) (sv : Int32) (sf : Int32) (ss : Int32) (x1 : Int32) (K : Nat) (R : Int32) (hf : f_X4_next K wo x1 = some R) : KI l D (TY cI cC cK cO) (gE tL tM adK adV) yX4_next wsX4_next 3 [.ref (q 0), .int x1] (wB cI cC cK cO q oO oT hh wo wt hs hp kp fp fr sc sl sp sv sf ss) (fun (r : Int32) (u : Unit) => r = R) (fun u => (wB cI cC cK cO q oO oT hh wo wt hs hp kp fp fr sc sl sp sv sf ss)) := by
  refine KI.ofI (cc := cX4_next) (maxL := 2) (C := RX4) (by decide) rfl rfl (Nat.le_of_ble_eq_true rfl) ?_
  intro p e s m args below meth c A Q hx hb hml hts hown hP hK hD hA hE hS hret ls hl
  replace hl : lv_has ls 2 [(0, .ref (q 0)), (1, .int x1)] := hl
  have w10 := hts (.fieldLink RX4 10 "BlockClerks" "office" "LBlockClerks$Office;") (by decide +kernel)
  have iX4 : ∀ w ∈ wsX40, w ∈ wsX4_next := by decide +kernel
  rw [f_X4_next] at hf
  refine lv_aload_n hx hb dX4_next_0 rfl (lv_at hl 0 rfl) ?_
  refine va_get (D := D) (ci := 4) (v := .ref (oO 0)) (C := RX4) (T := TX4) (N := 7) hx hb hts iX4 hown hK hP 0 rfl rfl 0 (by decide) w10 (fun _ h9 => h9) rfl dX4_next_1 ?_
  refine lv_iload_n hx hb dX4_next_4 rfl (lv_at hl 1 rfl) ?_
  obtain ⟨r1, h2, hf⟩ := op_b hf
  refine ck_VIp (st := [.int x1, .ref (oO 0)]) (rest := []) (As := [.int x1]) (C := RX2) (ci := 2) (ws1 := (fun (u : Unit) => (wB cI cC cK cO q oO oT hh wo wt hs hp kp fp fr sc sl sp sv sf ss))) ⟨hx, hb, hml, hown, hts⟩ (gE_ok tL tM adK adV) (c_X2_upcoming l D cI cC cK cO tL tM adK adV oO (wo.1) (wo.2.1) (wo.2.2.1) (wo.2.2.2.1) (wo.2.2.2.2.1) (wo.2.2.2.2.2.1) (wo.2.2.2.2.2.2.1) (wo.2.2.2.2.2.2.2.1) (wo.2.2.2.2.2.2.2.2.1) (wo.2.2.2.2.2.2.2.2.2.1) (wo.2.2.2.2.2.2.2.2.2.2.1) (wo.2.2.2.2.2.2.2.2.2.2.2) x1 K _ h2) (cwV 1 hts gX4_next_X2_upcoming rfl rfl rfl hv_X2_upcoming ⟨Nat.le_of_ble_eq_true rfl, Nat.le_of_ble_eq_true rfl⟩) hK hP hD hS hA hE (pm_a _ _ _) (fun _ => (pm_a _ _ _)) rfl rfl rfl (fun _ => rfl) rfl hl.1 rfl (Nat.le_of_ble_eq_true rfl) dX4_next_5 ⟨Nat.zero_le _, Nat.zero_le _⟩ (fun r u H locs hw hP hD hS => ?_)
  cases hw
  replace hP : va_P D vwCl (wB cI cC cK cO q oO oT hh wo wt hs hp kp fp fr sc sl sp sv sf ss) H := hP
  replace hD : va_D A (wB cI cC cK cO q oO oT hh wo wt hs hp kp fp fr sc sl sp sv sf ss) := hD
  exact hret _ _ _ _ _ () dX4_next_8 (op_k hf) hP hS
set_option maxHeartbeats 4000000 in
set_option maxRecDepth 100000 in
theorem c_X4_cost (l : Launch) (D : va_G) (cI cC cK cO : ClassId) (tL tM : Nat) (adK adV : Nat → Nat) (q : Nat → Nat) (oO : Nat → Nat) (oT : Nat → Nat) (hh : Nat → Nat → Nat) (wo : OW) (wt : OW) (hs : Nat → OW) (hp : Nat → Nat) (kp : Int32) (fp : Int32) (fr : Int32) (sc : Nat → Int32) (sl : Int32) (sp : Int32) (sv : Int32) (sf : Int32) (ss : Int32) (x1 : Int32) (x2 : Int32) (K : Nat) (R : Int32 × OW) (hf : f_X4_cost K wo wt x1 x2 = some R) : KI l D (TY cI cC cK cO) (gE tL tM adK adV) yX4_cost wsX4_cost 4 [.ref (q 0), .int x1, .int x2] (wB cI cC cK cO q oO oT hh wo wt hs hp kp fp fr sc sl sp sv sf ss) (fun (r : Int32) (u : OW) => (r, u) = R) (fun u => (wB cI cC cK cO q oO oT hh wo u hs hp kp fp fr sc sl sp sv sf ss)) := by
  refine KI.ofI (cc := cX4_cost) (maxL := 4) (C := RX4) (by decide) rfl rfl (Nat.le_of_ble_eq_true rfl) ?_
  intro p e s m args below meth c A Q hx hb hml hts hown hP hK hD hA hE hS hret ls hl
  replace hl : lv_has ls 4 [(0, .ref (q 0)), (1, .int x1), (2, .int x2)] := hl
  have w10 := hts (.fieldLink RX4 10 "BlockClerks" "office" "LBlockClerks$Office;") (by decide +kernel)
  have w16 := hts (.fieldLink RX4 16 "BlockClerks" "trial" "LBlockClerks$Office;") (by decide +kernel)
  have iX4 : ∀ w ∈ wsX40, w ∈ wsX4_cost := by decide +kernel
  rw [f_X4_cost] at hf
  refine lv_aload_n hx hb dX4_cost_0 rfl (lv_at hl 0 rfl) ?_
  refine va_get (D := D) (ci := 4) (v := .ref (oO 0)) (C := RX4) (T := TX4) (N := 7) hx hb hts iX4 hown hK hP 0 rfl rfl 0 (by decide) w10 (fun _ h9 => h9) rfl dX4_cost_1 ?_
  refine lv_iload_n hx hb dX4_cost_4 rfl (lv_at hl 1 rfl) ?_
  refine ck_VIp (st := [.int x1, .ref (oO 0)]) (rest := []) (As := [.int x1]) (C := RX2) (ci := 2) (ws1 := (fun (u : Unit) => (wB cI cC cK cO q oO oT hh wo wt hs hp kp fp fr sc sl sp sv sf ss))) ⟨hx, hb, hml, hown, hts⟩ (gE_ok tL tM adK adV) (c_X2_isClerk l D cI cC cK cO tL tM adK adV oO (wo.1) (wo.2.1) (wo.2.2.1) (wo.2.2.2.1) (wo.2.2.2.2.1) (wo.2.2.2.2.2.1) (wo.2.2.2.2.2.2.1) (wo.2.2.2.2.2.2.2.1) (wo.2.2.2.2.2.2.2.2.1) (wo.2.2.2.2.2.2.2.2.2.1) (wo.2.2.2.2.2.2.2.2.2.2.1) (wo.2.2.2.2.2.2.2.2.2.2.2) x1 _ rfl) (cwV 1 hts gX4_cost_X2_isClerk rfl rfl rfl hv_X2_isClerk ⟨Nat.le_of_ble_eq_true rfl, Nat.le_of_ble_eq_true rfl⟩) hK hP hD hS hA hE (pm_a _ _ _) (fun _ => (pm_a _ _ _)) rfl rfl rfl (fun _ => rfl) rfl hl.1 rfl (Nat.le_of_ble_eq_true rfl) dX4_cost_5 ⟨Nat.zero_le _, Nat.zero_le _⟩ (fun r u H locs hw hP hD hS => ?_)
  obtain ⟨hw, z2⟩ := hw
  cases hw
  replace hP : va_P D vwCl (wB cI cC cK cO q oO oT hh wo wt hs hp kp fp fr sc sl sp sv sf ss) H := hP
  replace hD : va_D A (wB cI cC cK cO q oO oT hh wo wt hs hp kp fp fr sc sl sp sv sf ss) := hD
  refine lv_if_eq (tgt := 21) hx hb dX4_cost_8 (by decide) (fun c3 => ?_) (fun c3 => ?_)
  · replace hf := op_t c3 hf
    refine lv_iconst (v := (-1)) hx hb dX4_cost_21 (by decide) ?_
    exact hret _ _ _ _ _ (wt) dX4_cost_22 (op_k hf) hP hS
  · replace hf := op_f c3 hf
    refine lv_iload_n hx hb dX4_cost_11 rfl (lv_at hl 2 rfl) ?_
    refine lv_if_lt (tgt := 21) hx hb dX4_cost_12 (by decide) (fun c4 => ?_) (fun c4 => ?_)
    · replace hf := op_t c4 hf
      refine lv_iconst (v := (-1)) hx hb dX4_cost_21 (by decide) ?_
      exact hret _ _ _ _ _ (wt) dX4_cost_22 (op_k hf) hP hS
    · replace hf := op_f c4 hf
      refine lv_iload_n hx hb dX4_cost_15 rfl (lv_at hl 2 rfl) ?_
      refine lv_bipush (v := 50) hx hb dX4_cost_16 (by decide) ?_
      refine lv_icmp_le (tgt := 23) hx hb dX4_cost_18 (by decide) (fun c5 => ?_) (fun c5 => ?_)
      · replace hf := op_t c5 hf
        refine lv_aload_n hx hb dX4_cost_23 rfl (lv_at hl 0 rfl) ?_
        refine va_get (D := D) (ci := 4) (v := .ref (oT 0)) (C := RX4) (T := TX4) (N := 7) hx hb hts iX4 hown hK hP 0 rfl rfl 1 (by decide) w16 (fun _ h9 => h9) rfl dX4_cost_24 ?_
        refine lv_aload_n hx hb dX4_cost_27 rfl (lv_at hl 0 rfl) ?_
        refine va_get (D := D) (ci := 4) (v := .ref (oO 0)) (C := RX4) (T := TX4) (N := 7) hx hb hts iX4 hown hK hP 0 rfl rfl 0 (by decide) w10 (fun _ h9 => h9) rfl dX4_cost_28 ?_
        obtain ⟨⟨y7, y8, y9, y10, y11, y12, y13, y14, y15, y16, y17, y18⟩, h19, hf⟩ := op_b hf
        refine ck_VVp (st := [.ref (oO 0), .ref (oT 0)]) (rest := []) (As := [.ref (oO 0)]) (C := RX2) (ci := 2) (ws1 := (fun (u : (Nat → Int32) × (Nat → Int32) × (Nat → Int32) × (Nat → Int32) × (Nat → Int32) × (Nat → Int32) × Int32 × Int32 × (Nat → Nat → Int32) × Int32 × (Nat → Int32) × Int32) => (wB cI cC cK cO q oO oT hh wo (u.1, u.2.1, u.2.2.1, u.2.2.2.1, u.2.2.2.2.1, u.2.2.2.2.2.1, u.2.2.2.2.2.2.1, u.2.2.2.2.2.2.2.1, u.2.2.2.2.2.2.2.2.1, u.2.2.2.2.2.2.2.2.2.1, u.2.2.2.2.2.2.2.2.2.2.1, u.2.2.2.2.2.2.2.2.2.2.2) hs hp kp fp fr sc sl sp sv sf ss))) ⟨hx, hb, hml, hown, hts⟩ (gE_ok tL tM adK adV) (c_X2_become l D cI cC cK cO tL tM adK adV oT oO (wt.1) (wt.2.1) (wt.2.2.1) (wt.2.2.2.1) (wt.2.2.2.2.1) (wt.2.2.2.2.2.1) (wt.2.2.2.2.2.2.1) (wt.2.2.2.2.2.2.2.1) (wt.2.2.2.2.2.2.2.2.1) (wt.2.2.2.2.2.2.2.2.2.1) (wt.2.2.2.2.2.2.2.2.2.2.1) (wt.2.2.2.2.2.2.2.2.2.2.2) (wo.1) (wo.2.1) (wo.2.2.1) (wo.2.2.2.1) (wo.2.2.2.2.1) (wo.2.2.2.2.2.1) (wo.2.2.2.2.2.2.1) (wo.2.2.2.2.2.2.2.1) (wo.2.2.2.2.2.2.2.2.1) (wo.2.2.2.2.2.2.2.2.2.1) (wo.2.2.2.2.2.2.2.2.2.2.1) (wo.2.2.2.2.2.2.2.2.2.2.2)  _ h19) (cwV 1 hts gX4_cost_X2_become rfl rfl rfl hv_X2_become ⟨Nat.le_of_ble_eq_true rfl, Nat.le_of_ble_eq_true rfl⟩) hK hP hD hS hA hE (pm_ta _ _ _ _) (fun _ => (pm_ta _ _ _ _)) rfl rfl rfl (fun _ => rfl) rfl hl.1 rfl (Nat.le_of_ble_eq_true rfl) dX4_cost_31 ⟨Nat.zero_le _, Nat.zero_le _⟩ (fun u H locs hw hP hD hS => ?_)
        cases hw
        replace hP : va_P D vwCl (wB cI cC cK cO q oO oT hh wo (y7, y8, y9, y10, y11, y12, y13, y14, y15, y16, y17, y18) hs hp kp fp fr sc sl sp sv sf ss) H := hP
        replace hD : va_D A (wB cI cC cK cO q oO oT hh wo (y7, y8, y9, y10, y11, y12, y13, y14, y15, y16, y17, y18) hs hp kp fp fr sc sl sp sv sf ss) := hD
        refine lv_iload_n hx hb dX4_cost_34 rfl (lv_at hl 2 rfl) ?_
        refine lv_if_ne (tgt := 42) hx hb dX4_cost_35 (by decide) (fun c21 => ?_) (fun c21 => ?_)
        · replace hf := op_f c21 hf
          refine lv_aload_n hx hb dX4_cost_42 rfl (lv_at hl 0 rfl) ?_
          refine va_get (D := D) (ci := 4) (v := .ref (oT 0)) (C := RX4) (T := TX4) (N := 7) hx hb hts iX4 hown hK hP 0 rfl rfl 1 (by decide) w16 (fun _ h9 => h9) rfl dX4_cost_43 ?_
          refine lv_iload_n hx hb dX4_cost_46 rfl (lv_at hl 1 rfl) ?_
          refine lv_iload_n hx hb dX4_cost_47 rfl (lv_at hl 2 rfl) ?_
          obtain ⟨⟨r22, y23, y24, y25, y26, y27, y28, y29, y30, y31⟩, h32, hf⟩ := op_b hf
          refine ck_VIp (st := [.int x2, .int x1, .ref (oT 0)]) (rest := []) (As := [.int x1, .int x2]) (C := RX2) (ci := 2) (ws1 := (fun (u : (Nat → Int32) × (Nat → Int32) × (Nat → Int32) × (Nat → Int32) × (Nat → Int32) × (Nat → Int32) × Int32 × Int32 × (Nat → Nat → Int32)) => (wB cI cC cK cO q oO oT hh wo (u.1, u.2.1, u.2.2.1, u.2.2.2.1, u.2.2.2.2.1, u.2.2.2.2.2.1, u.2.2.2.2.2.2.1, u.2.2.2.2.2.2.2.1, u.2.2.2.2.2.2.2.2, y16, y17, y18) hs hp kp fp fr sc sl sp sv sf ss))) ⟨hx, hb, hml, hown, hts⟩ (gE_ok tL tM adK adV) (c_X2_serve l D cI cC cK cO tL tM adK adV oT y7 y8 y9 y10 y11 y12 y13 y14 y15 y16 y17 y18 x1 x2 K _ h32) (cwV 2 hts gX4_cost_X2_serve rfl rfl rfl hv_X2_serve ⟨Nat.le_of_ble_eq_true rfl, Nat.le_of_ble_eq_true rfl⟩) hK hP hD hS hA hE (pm_t _ _ _ _) (fun _ => (pm_t _ _ _ _)) rfl rfl rfl (fun _ => rfl) rfl hl.1 rfl (Nat.le_of_ble_eq_true rfl) dX4_cost_48 ⟨Nat.zero_le _, Nat.zero_le _⟩ (fun r u H locs hw hP hD hS => ?_)
          cases hw
          replace hP : va_P D vwCl (wB cI cC cK cO q oO oT hh wo (y23, y24, y25, y26, y27, y28, y29, y30, y31, y16, y17, y18) hs hp kp fp fr sc sl sp sv sf ss) H := hP
          replace hD : va_D A (wB cI cC cK cO q oO oT hh wo (y23, y24, y25, y26, y27, y28, y29, y30, y31, y16, y17, y18) hs hp kp fp fr sc sl sp sv sf ss) := hD
          refine lv_istore_n (lv' := [(3, .int r22), (0, .ref (q 0)), (1, .int x1), (2, .int x2)]) hx hb dX4_cost_51 rfl hl (by decide) rfl (fun ls hl => ?_)
          refine lv_iload_n hx hb dX4_cost_52 rfl (lv_at hl 0 rfl) ?_
          refine lv_if_ge (tgt := 60) hx hb dX4_cost_53 (by decide) (fun c34 => ?_) (fun c34 => ?_)
          · replace hf := op_t c34 hf
            refine lv_aload_n hx hb dX4_cost_60 rfl (lv_at hl 1 rfl) ?_
            refine va_get (D := D) (ci := 4) (v := .ref (oT 0)) (C := RX4) (T := TX4) (N := 7) hx hb hts iX4 hown hK hP 0 rfl rfl 1 (by decide) w16 (fun _ h9 => h9) rfl dX4_cost_61 ?_
            refine lv_iload_n hx hb dX4_cost_64 rfl (lv_at hl 2 rfl) ?_
            obtain ⟨r35, h36, hf⟩ := op_b hf
            refine ck_VIp (st := [.int x1, .ref (oT 0)]) (rest := []) (As := [.int x1]) (C := RX2) (ci := 2) (ws1 := (fun (u : Unit) => (wB cI cC cK cO q oO oT hh wo (y23, y24, y25, y26, y27, y28, y29, y30, y31, y16, y17, y18) hs hp kp fp fr sc sl sp sv sf ss))) ⟨hx, hb, hml, hown, hts⟩ (gE_ok tL tM adK adV) (c_X2_lossOf l D cI cC cK cO tL tM adK adV oT y23 y24 y25 y26 y27 y28 y29 y30 y31 y16 y17 y18 x1 _ h36) (cwV 1 hts gX4_cost_X2_lossOf rfl rfl rfl hv_X2_lossOf ⟨Nat.le_of_ble_eq_true rfl, Nat.le_of_ble_eq_true rfl⟩) hK hP hD hS hA hE (pm_t _ _ _ _) (fun _ => (pm_t _ _ _ _)) rfl rfl rfl (fun _ => rfl) rfl hl.1 rfl (Nat.le_of_ble_eq_true rfl) dX4_cost_65 ⟨Nat.zero_le _, Nat.zero_le _⟩ (fun r u H locs hw hP hD hS => ?_)
            cases hw
            replace hP : va_P D vwCl (wB cI cC cK cO q oO oT hh wo (y23, y24, y25, y26, y27, y28, y29, y30, y31, y16, y17, y18) hs hp kp fp fr sc sl sp sv sf ss) H := hP
            replace hD : va_D A (wB cI cC cK cO q oO oT hh wo (y23, y24, y25, y26, y27, y28, y29, y30, y31, y16, y17, y18) hs hp kp fp fr sc sl sp sv sf ss) := hD
            exact hret _ _ _ _ _ ((y23, y24, y25, y26, y27, y28, y29, y30, y31, y16, y17, y18)) dX4_cost_68 (op_k hf) hP hS
          · replace hf := op_f c34 hf
            refine lv_iload_n hx hb dX4_cost_56 rfl (lv_at hl 0 rfl) ?_
            refine lv_goto (tgt := 68) hx hb dX4_cost_57 (by decide) ?_
            exact hret _ _ _ _ _ ((y23, y24, y25, y26, y27, y28, y29, y30, y31, y16, y17, y18)) dX4_cost_68 (op_k hf) hP hS
        · replace hf := op_t c21 hf
          refine lv_iconst (v := 0) hx hb dX4_cost_38 (by decide) ?_
          refine lv_goto (tgt := 51) hx hb dX4_cost_39 (by decide) ?_
          refine lv_istore_n (lv' := [(3, .int 0), (0, .ref (q 0)), (1, .int x1), (2, .int x2)]) hx hb dX4_cost_51 rfl hl (by decide) rfl (fun ls hl => ?_)
          refine lv_iload_n hx hb dX4_cost_52 rfl (lv_at hl 0 rfl) ?_
          refine lv_if_ge (tgt := 60) hx hb dX4_cost_53 (by decide) (fun _ => ?_) (fun c9 => absurd c9 (by decide))
          refine lv_aload_n hx hb dX4_cost_60 rfl (lv_at hl 1 rfl) ?_
          refine va_get (D := D) (ci := 4) (v := .ref (oT 0)) (C := RX4) (T := TX4) (N := 7) hx hb hts iX4 hown hK hP 0 rfl rfl 1 (by decide) w16 (fun _ h9 => h9) rfl dX4_cost_61 ?_
          refine lv_iload_n hx hb dX4_cost_64 rfl (lv_at hl 2 rfl) ?_
          obtain ⟨r38, h39, hf⟩ := op_b hf
          refine ck_VIp (st := [.int x1, .ref (oT 0)]) (rest := []) (As := [.int x1]) (C := RX2) (ci := 2) (ws1 := (fun (u : Unit) => (wB cI cC cK cO q oO oT hh wo (y7, y8, y9, y10, y11, y12, y13, y14, y15, y16, y17, y18) hs hp kp fp fr sc sl sp sv sf ss))) ⟨hx, hb, hml, hown, hts⟩ (gE_ok tL tM adK adV) (c_X2_lossOf l D cI cC cK cO tL tM adK adV oT y7 y8 y9 y10 y11 y12 y13 y14 y15 y16 y17 y18 x1 _ h39) (cwV 1 hts gX4_cost_X2_lossOf rfl rfl rfl hv_X2_lossOf ⟨Nat.le_of_ble_eq_true rfl, Nat.le_of_ble_eq_true rfl⟩) hK hP hD hS hA hE (pm_t _ _ _ _) (fun _ => (pm_t _ _ _ _)) rfl rfl rfl (fun _ => rfl) rfl hl.1 rfl (Nat.le_of_ble_eq_true rfl) dX4_cost_65 ⟨Nat.zero_le _, Nat.zero_le _⟩ (fun r u H locs hw hP hD hS => ?_)
          cases hw
          replace hP : va_P D vwCl (wB cI cC cK cO q oO oT hh wo (y7, y8, y9, y10, y11, y12, y13, y14, y15, y16, y17, y18) hs hp kp fp fr sc sl sp sv sf ss) H := hP
          replace hD : va_D A (wB cI cC cK cO q oO oT hh wo (y7, y8, y9, y10, y11, y12, y13, y14, y15, y16, y17, y18) hs hp kp fp fr sc sl sp sv sf ss) := hD
          exact hret _ _ _ _ _ ((y7, y8, y9, y10, y11, y12, y13, y14, y15, y16, y17, y18)) dX4_cost_68 (op_k hf) hP hS
      · replace hf := op_f c5 hf
        refine lv_iconst (v := (-1)) hx hb dX4_cost_21 (by decide) ?_
        exact hret _ _ _ _ _ (wt) dX4_cost_22 (op_k hf) hP hS
set_option maxHeartbeats 4000000 in
set_option maxRecDepth 100000 in
theorem c_X4_worst (l : Launch) (D : va_G) (cI cC cK cO : ClassId) (tL tM : Nat) (adK adV : Nat → Nat) (q : Nat → Nat) (oO : Nat → Nat) (oT : Nat → Nat) (hh : Nat → Nat → Nat) (wo : OW) (wt : OW) (hs : Nat → OW) (hp : Nat → Nat) (kp : Int32) (fp : Int32) (fr : Int32) (sc : Nat → Int32) (sl : Int32) (sp : Int32) (sv : Int32) (sf : Int32) (ss : Int32) (K : Nat) (R : Int32) (hf : f_X4_worst K wo = some R) : KI l D (TY cI cC cK cO) (gE tL tM adK adV) yX4_worst wsX4_worst 4 [.ref (q 0)] (wB cI cC cK cO q oO oT hh wo wt hs hp kp fp fr sc sl sp sv sf ss) (fun (r : Int32) (u : Unit) => r = R) (fun u => (wB cI cC cK cO q oO oT hh wo wt hs hp kp fp fr sc sl sp sv sf ss)) := by
  refine KI.ofI (cc := cX4_worst) (maxL := 1) (C := RX4) (by decide) rfl rfl (Nat.le_of_ble_eq_true rfl) ?_
  intro p e s m args below meth c A Q hx hb hml hts hown hP hK hD hA hE hS hret ls hl
  replace hl : lv_has ls 1 [(0, .ref (q 0))] := hl
  have w10 := hts (.fieldLink RX4 10 "BlockClerks" "office" "LBlockClerks$Office;") (by decide +kernel)
  have iX4 : ∀ w ∈ wsX40, w ∈ wsX4_worst := by decide +kernel
  rw [f_X4_worst] at hf
  refine lv_aload_n hx hb dX4_worst_0 rfl (lv_at hl 0 rfl) ?_
  refine va_get (D := D) (ci := 4) (v := .ref (oO 0)) (C := RX4) (T := TX4) (N := 7) hx hb hts iX4 hown hK hP 0 rfl rfl 0 (by decide) w10 (fun _ h9 => h9) rfl dX4_worst_1 ?_
  obtain ⟨r1, h2, hf⟩ := op_b hf
  refine ck_VIp (st := [.ref (oO 0)]) (rest := []) (As := []) (C := RX2) (ci := 2) (ws1 := (fun (u : Unit) => (wB cI cC cK cO q oO oT hh wo wt hs hp kp fp fr sc sl sp sv sf ss))) ⟨hx, hb, hml, hown, hts⟩ (gE_ok tL tM adK adV) (c_X2_mostForgetful l D cI cC cK cO tL tM adK adV oO (wo.1) (wo.2.1) (wo.2.2.1) (wo.2.2.2.1) (wo.2.2.2.2.1) (wo.2.2.2.2.2.1) (wo.2.2.2.2.2.2.1) (wo.2.2.2.2.2.2.2.1) (wo.2.2.2.2.2.2.2.2.1) (wo.2.2.2.2.2.2.2.2.2.1) (wo.2.2.2.2.2.2.2.2.2.2.1) (wo.2.2.2.2.2.2.2.2.2.2.2)  K _ h2) (cwV 0 hts gX4_worst_X2_mostForgetful rfl rfl rfl hv_X2_mostForgetful ⟨Nat.le_of_ble_eq_true rfl, Nat.le_of_ble_eq_true rfl⟩) hK hP hD hS hA hE (pm_a _ _ _) (fun _ => (pm_a _ _ _)) rfl rfl rfl (fun _ => rfl) rfl hl.1 rfl (Nat.le_of_ble_eq_true rfl) dX4_worst_4 ⟨Nat.zero_le _, Nat.zero_le _⟩ (fun r u H locs hw hP hD hS => ?_)
  cases hw
  replace hP : va_P D vwCl (wB cI cC cK cO q oO oT hh wo wt hs hp kp fp fr sc sl sp sv sf ss) H := hP
  replace hD : va_D A (wB cI cC cK cO q oO oT hh wo wt hs hp kp fp fr sc sl sp sv sf ss) := hD
  exact hret _ _ _ _ _ () dX4_worst_7 (op_k hf) hP hS
set_option maxHeartbeats 4000000 in
set_option maxRecDepth 100000 in
theorem c_X4_undo (l : Launch) (D : va_G) (cI cC cK cO : ClassId) (tL tM : Nat) (adK adV : Nat → Nat) (q : Nat → Nat) (oO : Nat → Nat) (oT : Nat → Nat) (hh : Nat → Nat → Nat) (wo : OW) (wt : OW) (hs : Nat → OW) (hp : Nat → Nat) (kp : Int32) (fp : Int32) (fr : Int32) (sc : Nat → Int32) (sl : Int32) (sp : Int32) (sv : Int32) (sf : Int32) (ss : Int32) (R : Int32 × OW × Int32) (hf : f_X4_undo wo hs hp kp = some R) : KI l D (TY cI cC cK cO) (gE tL tM adK adV) yX4_undo wsX4_undo 4 [.ref (q 0)] (wB cI cC cK cO q oO oT hh wo wt hs hp kp fp fr sc sl sp sv sf ss) (fun (r : Int32) (u : OW × Int32) => (r, u) = R) (fun u => (wB cI cC cK cO q oO oT hh (u.1) wt hs hp (u.2) fp fr sc sl sp sv sf ss)) := by
  refine KI.ofI (cc := cX4_undo) (maxL := 1) (C := RX4) (by decide) rfl rfl (Nat.le_of_ble_eq_true rfl) ?_
  intro p e s m args below meth c A Q hx hb hml hts hown hP hK hD hA hE hS hret ls hl
  replace hl : lv_has ls 1 [(0, .ref (q 0))] := hl
  have w10 := hts (.fieldLink RX4 10 "BlockClerks" "office" "LBlockClerks$Office;") (by decide +kernel)
  have w19 := hts (.fieldLink RX4 19 "BlockClerks" "history" "[LBlockClerks$Office;") (by decide +kernel)
  have w23 := hts (.fieldLink RX4 23 "BlockClerks" "kept" "I") (by decide +kernel)
  have iX4 : ∀ w ∈ wsX40, w ∈ wsX4_undo := by decide +kernel
  rw [f_X4_undo] at hf
  refine lv_aload_n hx hb dX4_undo_0 rfl (lv_at hl 0 rfl) ?_
  refine va_get (D := D) (ci := 4) (v := .int kp) (C := RX4) (T := TX4) (N := 7) hx hb hts iX4 hown hK hP 0 rfl rfl 3 (by decide) w23 (fun _ h9 => h9) rfl dX4_undo_1 ?_
  refine lv_if_le (tgt := 19) hx hb dX4_undo_4 (by decide) (fun c1 => ?_) (fun c1 => ?_)
  · replace hf := op_t c1 hf
    refine lv_bipush (v := (-2)) hx hb dX4_undo_19 (by decide) ?_
    exact hret _ _ _ _ _ (wo, kp) dX4_undo_21 (op_k hf) hP hS
  · replace hf := op_f c1 hf
    refine lv_aload_n hx hb dX4_undo_7 rfl (lv_at hl 0 rfl) ?_
    refine va_get (D := D) (ci := 4) (v := .int kp) (C := RX4) (T := TX4) (N := 7) hx hb hts iX4 hown hK hP 0 rfl rfl 3 (by decide) w23 (fun _ h9 => h9) rfl dX4_undo_8 ?_
    refine lv_aload_n hx hb dX4_undo_11 rfl (lv_at hl 0 rfl) ?_
    refine va_get (D := D) (ci := 4) (v := .ref (q 1)) (C := RX4) (T := TX4) (N := 7) hx hb hts iX4 hown hK hP 0 rfl rfl 2 (by decide) w19 (fun _ h9 => h9) rfl dX4_undo_12 ?_
    refine va_alen (D := D) hx hb hK hP 1 3 rfl rfl (v := 4) rfl dX4_undo_15 ?_
    refine lv_icmp_le (tgt := 22) hx hb dX4_undo_16 (by decide) (fun c2 => ?_) (fun c2 => ?_)
    · replace hf := op_t c2 hf
      refine lv_aload_n hx hb dX4_undo_22 rfl (lv_at hl 0 rfl) ?_
      refine lv_dup hx hb dX4_undo_23 rfl ?_
      refine va_get (D := D) (ci := 4) (v := .int kp) (C := RX4) (T := TX4) (N := 7) hx hb hts iX4 hown hK hP 0 rfl rfl 3 (by decide) w23 (fun _ h9 => h9) rfl dX4_undo_24 ?_
      refine lv_iconst (v := 1) hx hb dX4_undo_27 (by decide) ?_
      refine lv_isub hx hb dX4_undo_28 ?_
      refine va_put (D := D) (ci := 4) (v := .int (kp - 1)) (ty := .int) (C := RX4) (T := TX4) (N := 7) hx hb hts iX4 tyX4 tyX4_ok nmX4 hown hK hP hD hS 0 rfl rfl 3 (by decide) w23 (fun _ h9 => h9) rfl (by decide +kernel) rfl rfl (Nat.le_of_ble_eq_true rfl) dX4_undo_29 (fun H locs hP hD hS => ?_)
      replace hP : va_P D vwCl (wB cI cC cK cO q oO oT hh wo wt hs hp (kp - 1) fp fr sc sl sp sv sf ss) H := hP
      replace hD : va_D A (wB cI cC cK cO q oO oT hh wo wt hs hp (kp - 1) fp fr sc sl sp sv sf ss) := hD
      refine lv_aload_n hx hb dX4_undo_32 rfl (lv_at hl 0 rfl) ?_
      refine va_get (D := D) (ci := 4) (v := .ref (oO 0)) (C := RX4) (T := TX4) (N := 7) hx hb hts iX4 hown hK hP 0 rfl rfl 0 (by decide) w10 (fun _ h9 => h9) rfl dX4_undo_33 ?_
      refine lv_aload_n hx hb dX4_undo_36 rfl (lv_at hl 0 rfl) ?_
      refine va_get (D := D) (ci := 4) (v := .ref (q 1)) (C := RX4) (T := TX4) (N := 7) hx hb hts iX4 hown hK hP 0 rfl rfl 2 (by decide) w19 (fun _ h9 => h9) rfl dX4_undo_37 ?_
      refine lv_aload_n hx hb dX4_undo_40 rfl (lv_at hl 0 rfl) ?_
      refine va_get (D := D) (ci := 4) (v := .int (kp - 1)) (C := RX4) (T := TX4) (N := 7) hx hb hts iX4 hown hK hP 0 rfl rfl 3 (by decide) w23 (fun _ h9 => h9) rfl dX4_undo_41 ?_
      obtain ⟨q3, hf⟩ := op_x hf
      refine ck_aald (j := (kp - 1).toNatClampNeg) (v := hh (hp (kp - 1).toNatClampNeg) 0) hx hb hK hP 1 3 rfl rfl q3 rfl rfl dX4_undo_44 ?_
      by_cases c4 : (hp (kp - 1).toNatClampNeg) = 0
      · replace hf := op_t c4 hf
        rw [c4]
        obtain ⟨⟨y6, y7, y8, y9, y10, y11, y12, y13, y14, y15, y16, y17⟩, h18, hf⟩ := op_b hf
        refine ck_VVp (st := [.ref (hh 0 0), .ref (oO 0)]) (rest := []) (As := [.ref (hh 0 0)]) (C := RX2) (ci := 2) (ws1 := (fun (u : (Nat → Int32) × (Nat → Int32) × (Nat → Int32) × (Nat → Int32) × (Nat → Int32) × (Nat → Int32) × Int32 × Int32 × (Nat → Nat → Int32) × Int32 × (Nat → Int32) × Int32) => (wB cI cC cK cO q oO oT hh (u.1, u.2.1, u.2.2.1, u.2.2.2.1, u.2.2.2.2.1, u.2.2.2.2.2.1, u.2.2.2.2.2.2.1, u.2.2.2.2.2.2.2.1, u.2.2.2.2.2.2.2.2.1, u.2.2.2.2.2.2.2.2.2.1, u.2.2.2.2.2.2.2.2.2.2.1, u.2.2.2.2.2.2.2.2.2.2.2) wt hs hp (kp - 1) fp fr sc sl sp sv sf ss))) ⟨hx, hb, hml, hown, hts⟩ (gE_ok tL tM adK adV) (c_X2_become l D cI cC cK cO tL tM adK adV oO (hh 0) (wo.1) (wo.2.1) (wo.2.2.1) (wo.2.2.2.1) (wo.2.2.2.2.1) (wo.2.2.2.2.2.1) (wo.2.2.2.2.2.2.1) (wo.2.2.2.2.2.2.2.1) (wo.2.2.2.2.2.2.2.2.1) (wo.2.2.2.2.2.2.2.2.2.1) (wo.2.2.2.2.2.2.2.2.2.2.1) (wo.2.2.2.2.2.2.2.2.2.2.2) ((hs 0).1) ((hs 0).2.1) ((hs 0).2.2.1) ((hs 0).2.2.2.1) ((hs 0).2.2.2.2.1) ((hs 0).2.2.2.2.2.1) ((hs 0).2.2.2.2.2.2.1) ((hs 0).2.2.2.2.2.2.2.1) ((hs 0).2.2.2.2.2.2.2.2.1) ((hs 0).2.2.2.2.2.2.2.2.2.1) ((hs 0).2.2.2.2.2.2.2.2.2.2.1) ((hs 0).2.2.2.2.2.2.2.2.2.2.2)  _ h18) (cwV 1 hts gX4_undo_X2_become rfl rfl rfl hv_X2_become ⟨Nat.le_of_ble_eq_true rfl, Nat.le_of_ble_eq_true rfl⟩) hK hP hD hS hA hE (pm_ah0 _ _ _ _ _) (fun _ => (pm_ah0 _ _ _ _ _)) rfl rfl rfl (fun _ => rfl) rfl hl.1 rfl (Nat.le_of_ble_eq_true rfl) dX4_undo_45 ⟨Nat.zero_le _, Nat.zero_le _⟩ (fun u H locs hw hP hD hS => ?_)
        cases hw
        replace hP : va_P D vwCl (wB cI cC cK cO q oO oT hh (y6, y7, y8, y9, y10, y11, y12, y13, y14, y15, y16, y17) wt hs hp (kp - 1) fp fr sc sl sp sv sf ss) H := hP
        replace hD : va_D A (wB cI cC cK cO q oO oT hh (y6, y7, y8, y9, y10, y11, y12, y13, y14, y15, y16, y17) wt hs hp (kp - 1) fp fr sc sl sp sv sf ss) := hD
        refine lv_aload_n hx hb dX4_undo_48 rfl (lv_at hl 0 rfl) ?_
        refine va_get (D := D) (ci := 4) (v := .int (kp - 1)) (C := RX4) (T := TX4) (N := 7) hx hb hts iX4 hown hK hP 0 rfl rfl 3 (by decide) w23 (fun _ h9 => h9) rfl dX4_undo_49 ?_
        exact hret _ _ _ _ _ ((y6, y7, y8, y9, y10, y11, y12, y13, y14, y15, y16, y17), (kp - 1)) dX4_undo_52 (op_k hf) hP hS
      replace hf := op_f c4 hf
      by_cases c20 : (hp (kp - 1).toNatClampNeg) = 1
      · replace hf := op_t c20 hf
        rw [c20]
        obtain ⟨⟨y22, y23, y24, y25, y26, y27, y28, y29, y30, y31, y32, y33⟩, h34, hf⟩ := op_b hf
        refine ck_VVp (st := [.ref (hh 1 0), .ref (oO 0)]) (rest := []) (As := [.ref (hh 1 0)]) (C := RX2) (ci := 2) (ws1 := (fun (u : (Nat → Int32) × (Nat → Int32) × (Nat → Int32) × (Nat → Int32) × (Nat → Int32) × (Nat → Int32) × Int32 × Int32 × (Nat → Nat → Int32) × Int32 × (Nat → Int32) × Int32) => (wB cI cC cK cO q oO oT hh (u.1, u.2.1, u.2.2.1, u.2.2.2.1, u.2.2.2.2.1, u.2.2.2.2.2.1, u.2.2.2.2.2.2.1, u.2.2.2.2.2.2.2.1, u.2.2.2.2.2.2.2.2.1, u.2.2.2.2.2.2.2.2.2.1, u.2.2.2.2.2.2.2.2.2.2.1, u.2.2.2.2.2.2.2.2.2.2.2) wt hs hp (kp - 1) fp fr sc sl sp sv sf ss))) ⟨hx, hb, hml, hown, hts⟩ (gE_ok tL tM adK adV) (c_X2_become l D cI cC cK cO tL tM adK adV oO (hh 1) (wo.1) (wo.2.1) (wo.2.2.1) (wo.2.2.2.1) (wo.2.2.2.2.1) (wo.2.2.2.2.2.1) (wo.2.2.2.2.2.2.1) (wo.2.2.2.2.2.2.2.1) (wo.2.2.2.2.2.2.2.2.1) (wo.2.2.2.2.2.2.2.2.2.1) (wo.2.2.2.2.2.2.2.2.2.2.1) (wo.2.2.2.2.2.2.2.2.2.2.2) ((hs 1).1) ((hs 1).2.1) ((hs 1).2.2.1) ((hs 1).2.2.2.1) ((hs 1).2.2.2.2.1) ((hs 1).2.2.2.2.2.1) ((hs 1).2.2.2.2.2.2.1) ((hs 1).2.2.2.2.2.2.2.1) ((hs 1).2.2.2.2.2.2.2.2.1) ((hs 1).2.2.2.2.2.2.2.2.2.1) ((hs 1).2.2.2.2.2.2.2.2.2.2.1) ((hs 1).2.2.2.2.2.2.2.2.2.2.2)  _ h34) (cwV 1 hts gX4_undo_X2_become rfl rfl rfl hv_X2_become ⟨Nat.le_of_ble_eq_true rfl, Nat.le_of_ble_eq_true rfl⟩) hK hP hD hS hA hE (pm_ah1 _ _ _ _ _ _) (fun _ => (pm_ah1 _ _ _ _ _ _)) rfl rfl rfl (fun _ => rfl) rfl hl.1 rfl (Nat.le_of_ble_eq_true rfl) dX4_undo_45 ⟨Nat.zero_le _, Nat.zero_le _⟩ (fun u H locs hw hP hD hS => ?_)
        cases hw
        replace hP : va_P D vwCl (wB cI cC cK cO q oO oT hh (y22, y23, y24, y25, y26, y27, y28, y29, y30, y31, y32, y33) wt hs hp (kp - 1) fp fr sc sl sp sv sf ss) H := hP
        replace hD : va_D A (wB cI cC cK cO q oO oT hh (y22, y23, y24, y25, y26, y27, y28, y29, y30, y31, y32, y33) wt hs hp (kp - 1) fp fr sc sl sp sv sf ss) := hD
        refine lv_aload_n hx hb dX4_undo_48 rfl (lv_at hl 0 rfl) ?_
        refine va_get (D := D) (ci := 4) (v := .int (kp - 1)) (C := RX4) (T := TX4) (N := 7) hx hb hts iX4 hown hK hP 0 rfl rfl 3 (by decide) w23 (fun _ h9 => h9) rfl dX4_undo_49 ?_
        exact hret _ _ _ _ _ ((y22, y23, y24, y25, y26, y27, y28, y29, y30, y31, y32, y33), (kp - 1)) dX4_undo_52 (op_k hf) hP hS
      replace hf := op_f c20 hf
      by_cases c36 : (hp (kp - 1).toNatClampNeg) = 2
      · replace hf := op_t c36 hf
        rw [c36]
        obtain ⟨⟨y38, y39, y40, y41, y42, y43, y44, y45, y46, y47, y48, y49⟩, h50, hf⟩ := op_b hf
        refine ck_VVp (st := [.ref (hh 2 0), .ref (oO 0)]) (rest := []) (As := [.ref (hh 2 0)]) (C := RX2) (ci := 2) (ws1 := (fun (u : (Nat → Int32) × (Nat → Int32) × (Nat → Int32) × (Nat → Int32) × (Nat → Int32) × (Nat → Int32) × Int32 × Int32 × (Nat → Nat → Int32) × Int32 × (Nat → Int32) × Int32) => (wB cI cC cK cO q oO oT hh (u.1, u.2.1, u.2.2.1, u.2.2.2.1, u.2.2.2.2.1, u.2.2.2.2.2.1, u.2.2.2.2.2.2.1, u.2.2.2.2.2.2.2.1, u.2.2.2.2.2.2.2.2.1, u.2.2.2.2.2.2.2.2.2.1, u.2.2.2.2.2.2.2.2.2.2.1, u.2.2.2.2.2.2.2.2.2.2.2) wt hs hp (kp - 1) fp fr sc sl sp sv sf ss))) ⟨hx, hb, hml, hown, hts⟩ (gE_ok tL tM adK adV) (c_X2_become l D cI cC cK cO tL tM adK adV oO (hh 2) (wo.1) (wo.2.1) (wo.2.2.1) (wo.2.2.2.1) (wo.2.2.2.2.1) (wo.2.2.2.2.2.1) (wo.2.2.2.2.2.2.1) (wo.2.2.2.2.2.2.2.1) (wo.2.2.2.2.2.2.2.2.1) (wo.2.2.2.2.2.2.2.2.2.1) (wo.2.2.2.2.2.2.2.2.2.2.1) (wo.2.2.2.2.2.2.2.2.2.2.2) ((hs 2).1) ((hs 2).2.1) ((hs 2).2.2.1) ((hs 2).2.2.2.1) ((hs 2).2.2.2.2.1) ((hs 2).2.2.2.2.2.1) ((hs 2).2.2.2.2.2.2.1) ((hs 2).2.2.2.2.2.2.2.1) ((hs 2).2.2.2.2.2.2.2.2.1) ((hs 2).2.2.2.2.2.2.2.2.2.1) ((hs 2).2.2.2.2.2.2.2.2.2.2.1) ((hs 2).2.2.2.2.2.2.2.2.2.2.2)  _ h50) (cwV 1 hts gX4_undo_X2_become rfl rfl rfl hv_X2_become ⟨Nat.le_of_ble_eq_true rfl, Nat.le_of_ble_eq_true rfl⟩) hK hP hD hS hA hE (pm_ah2 _ _ _ _ _ _ _) (fun _ => (pm_ah2 _ _ _ _ _ _ _)) rfl rfl rfl (fun _ => rfl) rfl hl.1 rfl (Nat.le_of_ble_eq_true rfl) dX4_undo_45 ⟨Nat.zero_le _, Nat.zero_le _⟩ (fun u H locs hw hP hD hS => ?_)
        cases hw
        replace hP : va_P D vwCl (wB cI cC cK cO q oO oT hh (y38, y39, y40, y41, y42, y43, y44, y45, y46, y47, y48, y49) wt hs hp (kp - 1) fp fr sc sl sp sv sf ss) H := hP
        replace hD : va_D A (wB cI cC cK cO q oO oT hh (y38, y39, y40, y41, y42, y43, y44, y45, y46, y47, y48, y49) wt hs hp (kp - 1) fp fr sc sl sp sv sf ss) := hD
        refine lv_aload_n hx hb dX4_undo_48 rfl (lv_at hl 0 rfl) ?_
        refine va_get (D := D) (ci := 4) (v := .int (kp - 1)) (C := RX4) (T := TX4) (N := 7) hx hb hts iX4 hown hK hP 0 rfl rfl 3 (by decide) w23 (fun _ h9 => h9) rfl dX4_undo_49 ?_
        exact hret _ _ _ _ _ ((y38, y39, y40, y41, y42, y43, y44, y45, y46, y47, y48, y49), (kp - 1)) dX4_undo_52 (op_k hf) hP hS
      replace hf := op_f c36 hf
      by_cases c52 : (hp (kp - 1).toNatClampNeg) = 3
      · replace hf := op_t c52 hf
        rw [c52]
        obtain ⟨⟨y54, y55, y56, y57, y58, y59, y60, y61, y62, y63, y64, y65⟩, h66, hf⟩ := op_b hf
        refine ck_VVp (st := [.ref (hh 3 0), .ref (oO 0)]) (rest := []) (As := [.ref (hh 3 0)]) (C := RX2) (ci := 2) (ws1 := (fun (u : (Nat → Int32) × (Nat → Int32) × (Nat → Int32) × (Nat → Int32) × (Nat → Int32) × (Nat → Int32) × Int32 × Int32 × (Nat → Nat → Int32) × Int32 × (Nat → Int32) × Int32) => (wB cI cC cK cO q oO oT hh (u.1, u.2.1, u.2.2.1, u.2.2.2.1, u.2.2.2.2.1, u.2.2.2.2.2.1, u.2.2.2.2.2.2.1, u.2.2.2.2.2.2.2.1, u.2.2.2.2.2.2.2.2.1, u.2.2.2.2.2.2.2.2.2.1, u.2.2.2.2.2.2.2.2.2.2.1, u.2.2.2.2.2.2.2.2.2.2.2) wt hs hp (kp - 1) fp fr sc sl sp sv sf ss))) ⟨hx, hb, hml, hown, hts⟩ (gE_ok tL tM adK adV) (c_X2_become l D cI cC cK cO tL tM adK adV oO (hh 3) (wo.1) (wo.2.1) (wo.2.2.1) (wo.2.2.2.1) (wo.2.2.2.2.1) (wo.2.2.2.2.2.1) (wo.2.2.2.2.2.2.1) (wo.2.2.2.2.2.2.2.1) (wo.2.2.2.2.2.2.2.2.1) (wo.2.2.2.2.2.2.2.2.2.1) (wo.2.2.2.2.2.2.2.2.2.2.1) (wo.2.2.2.2.2.2.2.2.2.2.2) ((hs 3).1) ((hs 3).2.1) ((hs 3).2.2.1) ((hs 3).2.2.2.1) ((hs 3).2.2.2.2.1) ((hs 3).2.2.2.2.2.1) ((hs 3).2.2.2.2.2.2.1) ((hs 3).2.2.2.2.2.2.2.1) ((hs 3).2.2.2.2.2.2.2.2.1) ((hs 3).2.2.2.2.2.2.2.2.2.1) ((hs 3).2.2.2.2.2.2.2.2.2.2.1) ((hs 3).2.2.2.2.2.2.2.2.2.2.2)  _ h66) (cwV 1 hts gX4_undo_X2_become rfl rfl rfl hv_X2_become ⟨Nat.le_of_ble_eq_true rfl, Nat.le_of_ble_eq_true rfl⟩) hK hP hD hS hA hE (pm_ah3 _ _ _ _ _ _ _) (fun _ => (pm_ah3 _ _ _ _ _ _ _)) rfl rfl rfl (fun _ => rfl) rfl hl.1 rfl (Nat.le_of_ble_eq_true rfl) dX4_undo_45 ⟨Nat.zero_le _, Nat.zero_le _⟩ (fun u H locs hw hP hD hS => ?_)
        cases hw
        replace hP : va_P D vwCl (wB cI cC cK cO q oO oT hh (y54, y55, y56, y57, y58, y59, y60, y61, y62, y63, y64, y65) wt hs hp (kp - 1) fp fr sc sl sp sv sf ss) H := hP
        replace hD : va_D A (wB cI cC cK cO q oO oT hh (y54, y55, y56, y57, y58, y59, y60, y61, y62, y63, y64, y65) wt hs hp (kp - 1) fp fr sc sl sp sv sf ss) := hD
        refine lv_aload_n hx hb dX4_undo_48 rfl (lv_at hl 0 rfl) ?_
        refine va_get (D := D) (ci := 4) (v := .int (kp - 1)) (C := RX4) (T := TX4) (N := 7) hx hb hts iX4 hown hK hP 0 rfl rfl 3 (by decide) w23 (fun _ h9 => h9) rfl dX4_undo_49 ?_
        exact hret _ _ _ _ _ ((y54, y55, y56, y57, y58, y59, y60, y61, y62, y63, y64, y65), (kp - 1)) dX4_undo_52 (op_k hf) hP hS
      replace hf := op_f c52 hf
      cases hf
    · replace hf := op_f c2 hf
      refine lv_bipush (v := (-2)) hx hb dX4_undo_19 (by decide) ?_
      exact hret _ _ _ _ _ (wo, kp) dX4_undo_21 (op_k hf) hP hS
set_option maxHeartbeats 4000000 in
set_option maxRecDepth 100000 in
theorem c_X4_type (l : Launch) (D : va_G) (cI cC cK cO : ClassId) (tL tM : Nat) (adK adV : Nat → Nat) (q : Nat → Nat) (oO : Nat → Nat) (oT : Nat → Nat) (hh : Nat → Nat → Nat) (wo : OW) (wt : OW) (hs : Nat → OW) (hp : Nat → Nat) (kp : Int32) (fp : Int32) (fr : Int32) (sc : Nat → Int32) (sl : Int32) (sp : Int32) (sv : Int32) (sf : Int32) (ss : Int32) (x1 : Int32) (R : Int32 × (Nat → Int32) × Int32) (hf : f_X4_type sc sl x1 = some R) : KI l D (TY cI cC cK cO) (gE tL tM adK adV) yX4_type wsX4_type 1 [.ref (q 0), .int x1] (wB cI cC cK cO q oO oT hh wo wt hs hp kp fp fr sc sl sp sv sf ss) (fun (r : Int32) (u : (Nat → Int32) × Int32) => (r, u) = R) (fun u => (wB cI cC cK cO q oO oT hh wo wt hs hp kp fp fr (u.1) (u.2) sp sv sf ss)) := by
  refine KI.ofI (cc := cX4_type) (maxL := 2) (C := RX4) (by decide) rfl rfl (Nat.le_of_ble_eq_true rfl) ?_
  intro p e s m args below meth c A Q hx hb hml hts hown hP hK hD hA hE hS hret ls hl
  replace hl : lv_has ls 2 [(0, .ref (q 0)), (1, .int x1)] := hl
  have w30 := hts (.fieldLink RX4 30 "BlockClerks" "script" "LBlockClerks$Script;") (by decide +kernel)
  have iX4 : ∀ w ∈ wsX40, w ∈ wsX4_type := by decide +kernel
  rw [f_X4_type] at hf
  refine lv_aload_n hx hb dX4_type_0 rfl (lv_at hl 0 rfl) ?_
  refine va_get (D := D) (ci := 4) (v := .ref (q 2)) (C := RX4) (T := TX4) (N := 7) hx hb hts iX4 hown hK hP 0 rfl rfl 4 (by decide) w30 (fun _ h9 => h9) rfl dX4_type_1 ?_
  refine lv_iload_n hx hb dX4_type_4 rfl (lv_at hl 1 rfl) ?_
  obtain ⟨⟨r1, y2, y3⟩, h4, hf⟩ := op_b hf
  refine ck_VI (st := [.int x1, .ref (q 2)]) (rest := []) (As := [.int x1]) (C := RX3) (ci := 3) ⟨hx, hb, hml, hown, hts⟩ (gE_ok tL tM adK adV) (c_X3_append l D cI cC cK cO tL tM adK adV (q 2) (q 3) sc sl sp sv sf ss x1 _ h4) (cwV 1 hts gX4_type_X3_append rfl rfl rfl hv_X3_append ⟨Nat.le_of_ble_eq_true rfl, Nat.le_of_ble_eq_true rfl⟩) hK hP hD hS hA hE [2, 3] rfl rfl rfl rfl rfl (fun _ => rfl) rfl hl.1 rfl (Nat.le_of_ble_eq_true rfl) dX4_type_5 ⟨Nat.zero_le _, Nat.zero_le _⟩ (fun r u H locs hw hP hD hS => ?_)
  cases hw
  replace hP : va_P D vwCl (wB cI cC cK cO q oO oT hh wo wt hs hp kp fp fr y2 y3 sp sv sf ss) H := hP
  replace hD : va_D A (wB cI cC cK cO q oO oT hh wo wt hs hp kp fp fr y2 y3 sp sv sf ss) := hD
  exact hret _ _ _ _ _ (y2, y3) dX4_type_8 (op_k hf) hP hS
set_option maxHeartbeats 4000000 in
set_option maxRecDepth 100000 in
theorem c_X4_clearText (l : Launch) (D : va_G) (cI cC cK cO : ClassId) (tL tM : Nat) (adK adV : Nat → Nat) (q : Nat → Nat) (oO : Nat → Nat) (oT : Nat → Nat) (hh : Nat → Nat → Nat) (wo : OW) (wt : OW) (hs : Nat → OW) (hp : Nat → Nat) (kp : Int32) (fp : Int32) (fr : Int32) (sc : Nat → Int32) (sl : Int32) (sp : Int32) (sv : Int32) (sf : Int32) (ss : Int32) (R : Int32 × Int32) (hf : f_X4_clearText sl = some R) : KI l D (TY cI cC cK cO) (gE tL tM adK adV) yX4_clearText wsX4_clearText 0 [.ref (q 0)] (wB cI cC cK cO q oO oT hh wo wt hs hp kp fp fr sc sl sp sv sf ss) (fun (r : Int32) (u : Int32) => (r, u) = R) (fun u => (wB cI cC cK cO q oO oT hh wo wt hs hp kp fp fr sc u sp sv sf ss)) := by
  refine KI.ofI (cc := cX4_clearText) (maxL := 2) (C := RX4) (by decide) rfl rfl (Nat.le_of_ble_eq_true rfl) ?_
  intro p e s m args below meth c A Q hx hb hml hts hown hP hK hD hA hE hS hret ls hl
  replace hl : lv_has ls 2 [(0, .ref (q 0))] := hl
  have w30 := hts (.fieldLink RX4 30 "BlockClerks" "script" "LBlockClerks$Script;") (by decide +kernel)
  have w96 := hts (.fieldLink RX4 96 "BlockClerks$Script" "length" "I") (by decide +kernel)
  have iX3 : ∀ w ∈ wsX30, w ∈ wsX4_clearText := by decide +kernel
  have iX4 : ∀ w ∈ wsX40, w ∈ wsX4_clearText := by decide +kernel
  rw [f_X4_clearText] at hf
  refine lv_aload_n hx hb dX4_clearText_0 rfl (lv_at hl 0 rfl) ?_
  refine va_get (D := D) (ci := 4) (v := .ref (q 2)) (C := RX4) (T := TX4) (N := 7) hx hb hts iX4 hown hK hP 0 rfl rfl 4 (by decide) w30 (fun _ h9 => h9) rfl dX4_clearText_1 ?_
  refine va_get (D := D) (ci := 3) (v := .int sl) (C := RX3) (T := TX3) (N := 6) hx hb hts iX3 hown hK hP 2 rfl rfl 1 (by decide) w96 (fun _ h9 => h9) rfl dX4_clearText_4 ?_
  refine lv_istore_n (lv' := [(1, .int sl), (0, .ref (q 0))]) hx hb dX4_clearText_7 rfl hl (by decide) rfl (fun ls hl => ?_)
  refine lv_aload_n hx hb dX4_clearText_8 rfl (lv_at hl 1 rfl) ?_
  refine va_get (D := D) (ci := 4) (v := .ref (q 2)) (C := RX4) (T := TX4) (N := 7) hx hb hts iX4 hown hK hP 0 rfl rfl 4 (by decide) w30 (fun _ h9 => h9) rfl dX4_clearText_9 ?_
  refine lv_iconst (v := 0) hx hb dX4_clearText_12 (by decide) ?_
  refine va_put (D := D) (ci := 3) (v := .int 0) (ty := .int) (C := RX3) (T := TX3) (N := 6) hx hb hts iX3 tyX3 tyX3_ok nmX3 hown hK hP hD hS 2 rfl rfl 1 (by decide) w96 (fun _ h9 => h9) rfl (by decide +kernel) rfl rfl (Nat.le_of_ble_eq_true rfl) dX4_clearText_13 (fun H locs hP hD hS => ?_)
  replace hP : va_P D vwCl (wB cI cC cK cO q oO oT hh wo wt hs hp kp fp fr sc 0 sp sv sf ss) H := hP
  replace hD : va_D A (wB cI cC cK cO q oO oT hh wo wt hs hp kp fp fr sc 0 sp sv sf ss) := hD
  refine lv_iload_n hx hb dX4_clearText_16 rfl (lv_at hl 0 rfl) ?_
  exact hret _ _ _ _ _ (0) dX4_clearText_17 (op_k hf) hP hS
set_option maxHeartbeats 4000000 in
set_option maxRecDepth 100000 in
theorem c_X4_perform (l : Launch) (D : va_G) (cI cC cK cO : ClassId) (tL tM : Nat) (adK adV : Nat → Nat) (q : Nat → Nat) (oO : Nat → Nat) (oT : Nat → Nat) (hh : Nat → Nat → Nat) (wo : OW) (wt : OW) (hs : Nat → OW) (hp : Nat → Nat) (kp : Int32) (fp : Int32) (fr : Int32) (sc : Nat → Int32) (sl : Int32) (sp : Int32) (sv : Int32) (sf : Int32) (ss : Int32) (K : Nat) (R : Int32 × OW) (hf : f_X4_perform K wt sv sf ss = some R) : KI l D (TY cI cC cK cO) (gE tL tM adK adV) yX4_perform wsX4_perform 4 [.ref (q 0)] (wB cI cC cK cO q oO oT hh wo wt hs hp kp fp fr sc sl sp sv sf ss) (fun (r : Int32) (u : OW) => (r, u) = R) (fun u => (wB cI cC cK cO q oO oT hh wo u hs hp kp fp fr sc sl sp sv sf ss)) := by
  refine KI.ofI (cc := cX4_perform) (maxL := 1) (C := RX4) (by decide) rfl rfl (Nat.le_of_ble_eq_true rfl) ?_
  intro p e s m args below meth c A Q hx hb hml hts hown hP hK hD hA hE hS hret ls hl
  replace hl : lv_has ls 1 [(0, .ref (q 0))] := hl
  have w143 := hts (.fieldLink RX4 143 "BlockClerks$Script" "verb" "I") (by decide +kernel)
  have w146 := hts (.fieldLink RX4 146 "BlockClerks$Script" "first" "I") (by decide +kernel)
  have w149 := hts (.fieldLink RX4 149 "BlockClerks$Script" "second" "I") (by decide +kernel)
  have w16 := hts (.fieldLink RX4 16 "BlockClerks" "trial" "LBlockClerks$Office;") (by decide +kernel)
  have w30 := hts (.fieldLink RX4 30 "BlockClerks" "script" "LBlockClerks$Script;") (by decide +kernel)
  have iX3 : ∀ w ∈ wsX30, w ∈ wsX4_perform := by decide +kernel
  have iX4 : ∀ w ∈ wsX40, w ∈ wsX4_perform := by decide +kernel
  rw [f_X4_perform] at hf
  refine lv_aload_n hx hb dX4_perform_0 rfl (lv_at hl 0 rfl) ?_
  refine va_get (D := D) (ci := 4) (v := .ref (q 2)) (C := RX4) (T := TX4) (N := 7) hx hb hts iX4 hown hK hP 0 rfl rfl 4 (by decide) w30 (fun _ h9 => h9) rfl dX4_perform_1 ?_
  refine va_get (D := D) (ci := 3) (v := .int sv) (C := RX3) (T := TX3) (N := 6) hx hb hts iX3 hown hK hP 2 rfl rfl 3 (by decide) w143 (fun _ h9 => h9) rfl dX4_perform_4 ?_
  by_cases c1 : sv = 0
  · replace hf := op_t c1 hf
    refine sw_in (v := 0) (tgt := 40) hx hb dX4_perform_7 c1 (by decide) (by decide) rfl (by decide) ?_
    refine lv_aload_n hx hb dX4_perform_40 rfl (lv_at hl 0 rfl) ?_
    refine va_get (D := D) (ci := 4) (v := .ref (oT 0)) (C := RX4) (T := TX4) (N := 7) hx hb hts iX4 hown hK hP 0 rfl rfl 1 (by decide) w16 (fun _ h9 => h9) rfl dX4_perform_41 ?_
    refine lv_aload_n hx hb dX4_perform_44 rfl (lv_at hl 0 rfl) ?_
    refine va_get (D := D) (ci := 4) (v := .ref (q 2)) (C := RX4) (T := TX4) (N := 7) hx hb hts iX4 hown hK hP 0 rfl rfl 4 (by decide) w30 (fun _ h9 => h9) rfl dX4_perform_45 ?_
    refine va_get (D := D) (ci := 3) (v := .int sf) (C := RX3) (T := TX3) (N := 6) hx hb hts iX3 hown hK hP 2 rfl rfl 4 (by decide) w146 (fun _ h9 => h9) rfl dX4_perform_48 ?_
    obtain ⟨⟨r2, y3, y4⟩, h5, hf⟩ := op_b hf
    refine ck_VIp (st := [.int sf, .ref (oT 0)]) (rest := []) (As := [.int sf]) (C := RX2) (ci := 2) (ws1 := (fun (u : (Nat → Nat → Int32) × Int32) => (wB cI cC cK cO q oO oT hh wo (wt.1, wt.2.1, wt.2.2.1, wt.2.2.2.1, wt.2.2.2.2.1, wt.2.2.2.2.2.1, wt.2.2.2.2.2.2.1, wt.2.2.2.2.2.2.2.1, u.1, u.2, wt.2.2.2.2.2.2.2.2.2.2.1, wt.2.2.2.2.2.2.2.2.2.2.2) hs hp kp fp fr sc sl sp sv sf ss))) ⟨hx, hb, hml, hown, hts⟩ (gE_ok tL tM adK adV) (c_X2_addClerk l D cI cC cK cO tL tM adK adV oT (wt.1) (wt.2.1) (wt.2.2.1) (wt.2.2.2.1) (wt.2.2.2.2.1) (wt.2.2.2.2.2.1) (wt.2.2.2.2.2.2.1) (wt.2.2.2.2.2.2.2.1) (wt.2.2.2.2.2.2.2.2.1) (wt.2.2.2.2.2.2.2.2.2.1) (wt.2.2.2.2.2.2.2.2.2.2.1) (wt.2.2.2.2.2.2.2.2.2.2.2) sf _ h5) (cwV 1 hts gX4_perform_X2_addClerk rfl rfl rfl hv_X2_addClerk ⟨Nat.le_of_ble_eq_true rfl, Nat.le_of_ble_eq_true rfl⟩) hK hP hD hS hA hE (pm_t _ _ _ _) (fun _ => (pm_t _ _ _ _)) rfl rfl rfl (fun _ => rfl) rfl hl.1 rfl (Nat.le_of_ble_eq_true rfl) dX4_perform_51 ⟨Nat.zero_le _, Nat.zero_le _⟩ (fun r u H locs hw hP hD hS => ?_)
    cases hw
    replace hP : va_P D vwCl (wB cI cC cK cO q oO oT hh wo (wt.1, wt.2.1, wt.2.2.1, wt.2.2.2.1, wt.2.2.2.2.1, wt.2.2.2.2.2.1, wt.2.2.2.2.2.2.1, wt.2.2.2.2.2.2.2.1, y3, y4, wt.2.2.2.2.2.2.2.2.2.2.1, wt.2.2.2.2.2.2.2.2.2.2.2) hs hp kp fp fr sc sl sp sv sf ss) H := hP
    replace hD : va_D A (wB cI cC cK cO q oO oT hh wo (wt.1, wt.2.1, wt.2.2.1, wt.2.2.2.1, wt.2.2.2.2.1, wt.2.2.2.2.2.1, wt.2.2.2.2.2.2.1, wt.2.2.2.2.2.2.2.1, y3, y4, wt.2.2.2.2.2.2.2.2.2.2.1, wt.2.2.2.2.2.2.2.2.2.2.2) hs hp kp fp fr sc sl sp sv sf ss) := hD
    exact hret _ _ _ _ _ ((wt.1, wt.2.1, wt.2.2.1, wt.2.2.2.1, wt.2.2.2.2.1, wt.2.2.2.2.2.1, wt.2.2.2.2.2.2.1, wt.2.2.2.2.2.2.2.1, y3, y4, wt.2.2.2.2.2.2.2.2.2.2.1, wt.2.2.2.2.2.2.2.2.2.2.2)) dX4_perform_54 (op_k hf) hP hS
  replace hf := op_f c1 hf
  by_cases c7 : sv = 1
  · replace hf := op_t c7 hf
    refine sw_in (v := 1) (tgt := 55) hx hb dX4_perform_7 c7 (by decide) (by decide) rfl (by decide) ?_
    refine lv_aload_n hx hb dX4_perform_55 rfl (lv_at hl 0 rfl) ?_
    refine va_get (D := D) (ci := 4) (v := .ref (oT 0)) (C := RX4) (T := TX4) (N := 7) hx hb hts iX4 hown hK hP 0 rfl rfl 1 (by decide) w16 (fun _ h9 => h9) rfl dX4_perform_56 ?_
    refine lv_aload_n hx hb dX4_perform_59 rfl (lv_at hl 0 rfl) ?_
    refine va_get (D := D) (ci := 4) (v := .ref (q 2)) (C := RX4) (T := TX4) (N := 7) hx hb hts iX4 hown hK hP 0 rfl rfl 4 (by decide) w30 (fun _ h9 => h9) rfl dX4_perform_60 ?_
    refine va_get (D := D) (ci := 3) (v := .int sf) (C := RX3) (T := TX3) (N := 6) hx hb hts iX3 hown hK hP 2 rfl rfl 4 (by decide) w146 (fun _ h9 => h9) rfl dX4_perform_63 ?_
    refine lv_aload_n hx hb dX4_perform_66 rfl (lv_at hl 0 rfl) ?_
    refine va_get (D := D) (ci := 4) (v := .ref (q 2)) (C := RX4) (T := TX4) (N := 7) hx hb hts iX4 hown hK hP 0 rfl rfl 4 (by decide) w30 (fun _ h9 => h9) rfl dX4_perform_67 ?_
    refine va_get (D := D) (ci := 3) (v := .int ss) (C := RX3) (T := TX3) (N := 6) hx hb hts iX3 hown hK hP 2 rfl rfl 5 (by decide) w149 (fun _ h9 => h9) rfl dX4_perform_70 ?_
    obtain ⟨⟨r8, y9, y10, y11, y12, y13, y14, y15, y16, y17⟩, h18, hf⟩ := op_b hf
    refine ck_VIp (st := [.int ss, .int sf, .ref (oT 0)]) (rest := []) (As := [.int sf, .int ss]) (C := RX2) (ci := 2) (ws1 := (fun (u : (Nat → Int32) × (Nat → Int32) × (Nat → Int32) × (Nat → Int32) × (Nat → Int32) × (Nat → Int32) × Int32 × Int32 × (Nat → Nat → Int32)) => (wB cI cC cK cO q oO oT hh wo (u.1, u.2.1, u.2.2.1, u.2.2.2.1, u.2.2.2.2.1, u.2.2.2.2.2.1, u.2.2.2.2.2.2.1, u.2.2.2.2.2.2.2.1, u.2.2.2.2.2.2.2.2, wt.2.2.2.2.2.2.2.2.2.1, wt.2.2.2.2.2.2.2.2.2.2.1, wt.2.2.2.2.2.2.2.2.2.2.2) hs hp kp fp fr sc sl sp sv sf ss))) ⟨hx, hb, hml, hown, hts⟩ (gE_ok tL tM adK adV) (c_X2_serve l D cI cC cK cO tL tM adK adV oT (wt.1) (wt.2.1) (wt.2.2.1) (wt.2.2.2.1) (wt.2.2.2.2.1) (wt.2.2.2.2.2.1) (wt.2.2.2.2.2.2.1) (wt.2.2.2.2.2.2.2.1) (wt.2.2.2.2.2.2.2.2.1) (wt.2.2.2.2.2.2.2.2.2.1) (wt.2.2.2.2.2.2.2.2.2.2.1) (wt.2.2.2.2.2.2.2.2.2.2.2) sf ss K _ h18) (cwV 2 hts gX4_perform_X2_serve rfl rfl rfl hv_X2_serve ⟨Nat.le_of_ble_eq_true rfl, Nat.le_of_ble_eq_true rfl⟩) hK hP hD hS hA hE (pm_t _ _ _ _) (fun _ => (pm_t _ _ _ _)) rfl rfl rfl (fun _ => rfl) rfl hl.1 rfl (Nat.le_of_ble_eq_true rfl) dX4_perform_73 ⟨Nat.zero_le _, Nat.zero_le _⟩ (fun r u H locs hw hP hD hS => ?_)
    cases hw
    replace hP : va_P D vwCl (wB cI cC cK cO q oO oT hh wo (y9, y10, y11, y12, y13, y14, y15, y16, y17, wt.2.2.2.2.2.2.2.2.2.1, wt.2.2.2.2.2.2.2.2.2.2.1, wt.2.2.2.2.2.2.2.2.2.2.2) hs hp kp fp fr sc sl sp sv sf ss) H := hP
    replace hD : va_D A (wB cI cC cK cO q oO oT hh wo (y9, y10, y11, y12, y13, y14, y15, y16, y17, wt.2.2.2.2.2.2.2.2.2.1, wt.2.2.2.2.2.2.2.2.2.2.1, wt.2.2.2.2.2.2.2.2.2.2.2) hs hp kp fp fr sc sl sp sv sf ss) := hD
    exact hret _ _ _ _ _ ((y9, y10, y11, y12, y13, y14, y15, y16, y17, wt.2.2.2.2.2.2.2.2.2.1, wt.2.2.2.2.2.2.2.2.2.2.1, wt.2.2.2.2.2.2.2.2.2.2.2)) dX4_perform_76 (op_k hf) hP hS
  replace hf := op_f c7 hf
  by_cases c20 : sv = 2
  · replace hf := op_t c20 hf
    refine sw_in (v := 2) (tgt := 77) hx hb dX4_perform_7 c20 (by decide) (by decide) rfl (by decide) ?_
    refine lv_aload_n hx hb dX4_perform_77 rfl (lv_at hl 0 rfl) ?_
    refine va_get (D := D) (ci := 4) (v := .ref (oT 0)) (C := RX4) (T := TX4) (N := 7) hx hb hts iX4 hown hK hP 0 rfl rfl 1 (by decide) w16 (fun _ h9 => h9) rfl dX4_perform_78 ?_
    refine lv_aload_n hx hb dX4_perform_81 rfl (lv_at hl 0 rfl) ?_
    refine va_get (D := D) (ci := 4) (v := .ref (q 2)) (C := RX4) (T := TX4) (N := 7) hx hb hts iX4 hown hK hP 0 rfl rfl 4 (by decide) w30 (fun _ h9 => h9) rfl dX4_perform_82 ?_
    refine va_get (D := D) (ci := 3) (v := .int sf) (C := RX3) (T := TX3) (N := 6) hx hb hts iX3 hown hK hP 2 rfl rfl 4 (by decide) w146 (fun _ h9 => h9) rfl dX4_perform_85 ?_
    obtain ⟨⟨r21, y22, y23, y24, y25, y26⟩, h27, hf⟩ := op_b hf
    refine ck_VIp (st := [.int sf, .ref (oT 0)]) (rest := []) (As := [.int sf]) (C := RX2) (ci := 2) (ws1 := (fun (u : (Nat → Int32) × (Nat → Int32) × (Nat → Int32) × Int32 × (Nat → Nat → Int32)) => (wB cI cC cK cO q oO oT hh wo (u.1, u.2.1, u.2.2.1, wt.2.2.2.1, wt.2.2.2.2.1, wt.2.2.2.2.2.1, wt.2.2.2.2.2.2.1, u.2.2.2.1, u.2.2.2.2, wt.2.2.2.2.2.2.2.2.2.1, wt.2.2.2.2.2.2.2.2.2.2.1, wt.2.2.2.2.2.2.2.2.2.2.2) hs hp kp fp fr sc sl sp sv sf ss))) ⟨hx, hb, hml, hown, hts⟩ (gE_ok tL tM adK adV) (c_X2_letForget l D cI cC cK cO tL tM adK adV oT (wt.1) (wt.2.1) (wt.2.2.1) (wt.2.2.2.1) (wt.2.2.2.2.1) (wt.2.2.2.2.2.1) (wt.2.2.2.2.2.2.1) (wt.2.2.2.2.2.2.2.1) (wt.2.2.2.2.2.2.2.2.1) (wt.2.2.2.2.2.2.2.2.2.1) (wt.2.2.2.2.2.2.2.2.2.2.1) (wt.2.2.2.2.2.2.2.2.2.2.2) sf K _ h27) (cwV 1 hts gX4_perform_X2_letForget rfl rfl rfl hv_X2_letForget ⟨Nat.le_of_ble_eq_true rfl, Nat.le_of_ble_eq_true rfl⟩) hK hP hD hS hA hE (pm_t _ _ _ _) (fun _ => (pm_t _ _ _ _)) rfl rfl rfl (fun _ => rfl) rfl hl.1 rfl (Nat.le_of_ble_eq_true rfl) dX4_perform_88 ⟨Nat.zero_le _, Nat.zero_le _⟩ (fun r u H locs hw hP hD hS => ?_)
    cases hw
    replace hP : va_P D vwCl (wB cI cC cK cO q oO oT hh wo (y22, y23, y24, wt.2.2.2.1, wt.2.2.2.2.1, wt.2.2.2.2.2.1, wt.2.2.2.2.2.2.1, y25, y26, wt.2.2.2.2.2.2.2.2.2.1, wt.2.2.2.2.2.2.2.2.2.2.1, wt.2.2.2.2.2.2.2.2.2.2.2) hs hp kp fp fr sc sl sp sv sf ss) H := hP
    replace hD : va_D A (wB cI cC cK cO q oO oT hh wo (y22, y23, y24, wt.2.2.2.1, wt.2.2.2.2.1, wt.2.2.2.2.2.1, wt.2.2.2.2.2.2.1, y25, y26, wt.2.2.2.2.2.2.2.2.2.1, wt.2.2.2.2.2.2.2.2.2.2.1, wt.2.2.2.2.2.2.2.2.2.2.2) hs hp kp fp fr sc sl sp sv sf ss) := hD
    exact hret _ _ _ _ _ ((y22, y23, y24, wt.2.2.2.1, wt.2.2.2.2.1, wt.2.2.2.2.2.1, wt.2.2.2.2.2.2.1, y25, y26, wt.2.2.2.2.2.2.2.2.2.1, wt.2.2.2.2.2.2.2.2.2.2.1, wt.2.2.2.2.2.2.2.2.2.2.2)) dX4_perform_91 (op_k hf) hP hS
  replace hf := op_f c20 hf
  by_cases c29 : sv = 3
  · replace hf := op_t c29 hf
    refine sw_in (v := 3) (tgt := 92) hx hb dX4_perform_7 c29 (by decide) (by decide) rfl (by decide) ?_
    refine lv_aload_n hx hb dX4_perform_92 rfl (lv_at hl 0 rfl) ?_
    refine va_get (D := D) (ci := 4) (v := .ref (oT 0)) (C := RX4) (T := TX4) (N := 7) hx hb hts iX4 hown hK hP 0 rfl rfl 1 (by decide) w16 (fun _ h9 => h9) rfl dX4_perform_93 ?_
    refine lv_aload_n hx hb dX4_perform_96 rfl (lv_at hl 0 rfl) ?_
    refine va_get (D := D) (ci := 4) (v := .ref (q 2)) (C := RX4) (T := TX4) (N := 7) hx hb hts iX4 hown hK hP 0 rfl rfl 4 (by decide) w30 (fun _ h9 => h9) rfl dX4_perform_97 ?_
    refine va_get (D := D) (ci := 3) (v := .int sf) (C := RX3) (T := TX3) (N := 6) hx hb hts iX3 hown hK hP 2 rfl rfl 4 (by decide) w146 (fun _ h9 => h9) rfl dX4_perform_100 ?_
    obtain ⟨⟨r30, y31, y32, y33, y34, y35⟩, h36, hf⟩ := op_b hf
    refine ck_VIp (st := [.int sf, .ref (oT 0)]) (rest := []) (As := [.int sf]) (C := RX2) (ci := 2) (ws1 := (fun (u : (Nat → Int32) × (Nat → Int32) × (Nat → Int32) × Int32 × (Nat → Nat → Int32)) => (wB cI cC cK cO q oO oT hh wo (u.1, u.2.1, u.2.2.1, wt.2.2.2.1, wt.2.2.2.2.1, wt.2.2.2.2.2.1, wt.2.2.2.2.2.2.1, u.2.2.2.1, u.2.2.2.2, wt.2.2.2.2.2.2.2.2.2.1, wt.2.2.2.2.2.2.2.2.2.2.1, wt.2.2.2.2.2.2.2.2.2.2.2) hs hp kp fp fr sc sl sp sv sf ss))) ⟨hx, hb, hml, hown, hts⟩ (gE_ok tL tM adK adV) (c_X2_takeBack l D cI cC cK cO tL tM adK adV oT (wt.1) (wt.2.1) (wt.2.2.1) (wt.2.2.2.1) (wt.2.2.2.2.1) (wt.2.2.2.2.2.1) (wt.2.2.2.2.2.2.1) (wt.2.2.2.2.2.2.2.1) (wt.2.2.2.2.2.2.2.2.1) (wt.2.2.2.2.2.2.2.2.2.1) (wt.2.2.2.2.2.2.2.2.2.2.1) (wt.2.2.2.2.2.2.2.2.2.2.2) sf K _ h36) (cwV 1 hts gX4_perform_X2_takeBack rfl rfl rfl hv_X2_takeBack ⟨Nat.le_of_ble_eq_true rfl, Nat.le_of_ble_eq_true rfl⟩) hK hP hD hS hA hE (pm_t _ _ _ _) (fun _ => (pm_t _ _ _ _)) rfl rfl rfl (fun _ => rfl) rfl hl.1 rfl (Nat.le_of_ble_eq_true rfl) dX4_perform_103 ⟨Nat.zero_le _, Nat.zero_le _⟩ (fun r u H locs hw hP hD hS => ?_)
    cases hw
    replace hP : va_P D vwCl (wB cI cC cK cO q oO oT hh wo (y31, y32, y33, wt.2.2.2.1, wt.2.2.2.2.1, wt.2.2.2.2.2.1, wt.2.2.2.2.2.2.1, y34, y35, wt.2.2.2.2.2.2.2.2.2.1, wt.2.2.2.2.2.2.2.2.2.2.1, wt.2.2.2.2.2.2.2.2.2.2.2) hs hp kp fp fr sc sl sp sv sf ss) H := hP
    replace hD : va_D A (wB cI cC cK cO q oO oT hh wo (y31, y32, y33, wt.2.2.2.1, wt.2.2.2.2.1, wt.2.2.2.2.2.1, wt.2.2.2.2.2.2.1, y34, y35, wt.2.2.2.2.2.2.2.2.2.1, wt.2.2.2.2.2.2.2.2.2.2.1, wt.2.2.2.2.2.2.2.2.2.2.2) hs hp kp fp fr sc sl sp sv sf ss) := hD
    exact hret _ _ _ _ _ ((y31, y32, y33, wt.2.2.2.1, wt.2.2.2.2.1, wt.2.2.2.2.2.1, wt.2.2.2.2.2.2.1, y34, y35, wt.2.2.2.2.2.2.2.2.2.1, wt.2.2.2.2.2.2.2.2.2.2.1, wt.2.2.2.2.2.2.2.2.2.2.2)) dX4_perform_106 (op_k hf) hP hS
  replace hf := op_f c29 hf
  by_cases c38 : sv = 4
  · replace hf := op_t c38 hf
    refine sw_in (v := 4) (tgt := 107) hx hb dX4_perform_7 c38 (by decide) (by decide) rfl (by decide) ?_
    refine lv_aload_n hx hb dX4_perform_107 rfl (lv_at hl 0 rfl) ?_
    refine va_get (D := D) (ci := 4) (v := .ref (oT 0)) (C := RX4) (T := TX4) (N := 7) hx hb hts iX4 hown hK hP 0 rfl rfl 1 (by decide) w16 (fun _ h9 => h9) rfl dX4_perform_108 ?_
    refine lv_aload_n hx hb dX4_perform_111 rfl (lv_at hl 0 rfl) ?_
    refine va_get (D := D) (ci := 4) (v := .ref (q 2)) (C := RX4) (T := TX4) (N := 7) hx hb hts iX4 hown hK hP 0 rfl rfl 4 (by decide) w30 (fun _ h9 => h9) rfl dX4_perform_112 ?_
    refine va_get (D := D) (ci := 3) (v := .int sf) (C := RX3) (T := TX3) (N := 6) hx hb hts iX3 hown hK hP 2 rfl rfl 4 (by decide) w146 (fun _ h9 => h9) rfl dX4_perform_115 ?_
    obtain ⟨⟨r39, y40, y41, y42, y43⟩, h44, hf⟩ := op_b hf
    refine ck_VIp (st := [.int sf, .ref (oT 0)]) (rest := []) (As := [.int sf]) (C := RX2) (ci := 2) (ws1 := (fun (u : (Nat → Int32) × (Nat → Int32) × (Nat → Int32) × Int32) => (wB cI cC cK cO q oO oT hh wo (u.1, u.2.1, u.2.2.1, wt.2.2.2.1, wt.2.2.2.2.1, wt.2.2.2.2.2.1, wt.2.2.2.2.2.2.1, u.2.2.2, wt.2.2.2.2.2.2.2.2.1, wt.2.2.2.2.2.2.2.2.2.1, wt.2.2.2.2.2.2.2.2.2.2.1, wt.2.2.2.2.2.2.2.2.2.2.2) hs hp kp fp fr sc sl sp sv sf ss))) ⟨hx, hb, hml, hown, hts⟩ (gE_ok tL tM adK adV) (c_X2_cancel l D cI cC cK cO tL tM adK adV oT (wt.1) (wt.2.1) (wt.2.2.1) (wt.2.2.2.1) (wt.2.2.2.2.1) (wt.2.2.2.2.2.1) (wt.2.2.2.2.2.2.1) (wt.2.2.2.2.2.2.2.1) (wt.2.2.2.2.2.2.2.2.1) (wt.2.2.2.2.2.2.2.2.2.1) (wt.2.2.2.2.2.2.2.2.2.2.1) (wt.2.2.2.2.2.2.2.2.2.2.2) sf K _ h44) (cwV 1 hts gX4_perform_X2_cancel rfl rfl rfl hv_X2_cancel ⟨Nat.le_of_ble_eq_true rfl, Nat.le_of_ble_eq_true rfl⟩) hK hP hD hS hA hE (pm_t _ _ _ _) (fun _ => (pm_t _ _ _ _)) rfl rfl rfl (fun _ => rfl) rfl hl.1 rfl (Nat.le_of_ble_eq_true rfl) dX4_perform_118 ⟨Nat.zero_le _, Nat.zero_le _⟩ (fun r u H locs hw hP hD hS => ?_)
    cases hw
    replace hP : va_P D vwCl (wB cI cC cK cO q oO oT hh wo (y40, y41, y42, wt.2.2.2.1, wt.2.2.2.2.1, wt.2.2.2.2.2.1, wt.2.2.2.2.2.2.1, y43, wt.2.2.2.2.2.2.2.2.1, wt.2.2.2.2.2.2.2.2.2.1, wt.2.2.2.2.2.2.2.2.2.2.1, wt.2.2.2.2.2.2.2.2.2.2.2) hs hp kp fp fr sc sl sp sv sf ss) H := hP
    replace hD : va_D A (wB cI cC cK cO q oO oT hh wo (y40, y41, y42, wt.2.2.2.1, wt.2.2.2.2.1, wt.2.2.2.2.2.1, wt.2.2.2.2.2.2.1, y43, wt.2.2.2.2.2.2.2.2.1, wt.2.2.2.2.2.2.2.2.2.1, wt.2.2.2.2.2.2.2.2.2.2.1, wt.2.2.2.2.2.2.2.2.2.2.2) hs hp kp fp fr sc sl sp sv sf ss) := hD
    exact hret _ _ _ _ _ ((y40, y41, y42, wt.2.2.2.1, wt.2.2.2.2.1, wt.2.2.2.2.2.1, wt.2.2.2.2.2.2.1, y43, wt.2.2.2.2.2.2.2.2.1, wt.2.2.2.2.2.2.2.2.2.1, wt.2.2.2.2.2.2.2.2.2.2.1, wt.2.2.2.2.2.2.2.2.2.2.2)) dX4_perform_121 (op_k hf) hP hS
  replace hf := op_f c38 hf
  refine lv_tableOut (tgt := 122) hx hb dX4_perform_7 (sw_o_0_5 c1 c7 c20 c29 c38) (by decide) ?_
  refine lv_aload_n hx hb dX4_perform_122 rfl (lv_at hl 0 rfl) ?_
  refine va_get (D := D) (ci := 4) (v := .ref (oT 0)) (C := RX4) (T := TX4) (N := 7) hx hb hts iX4 hown hK hP 0 rfl rfl 1 (by decide) w16 (fun _ h9 => h9) rfl dX4_perform_123 ?_
  obtain ⟨⟨r46, y47, y48, y49, y50, y51, y52⟩, h53, hf⟩ := op_b hf
  refine ck_VIp (st := [.ref (oT 0)]) (rest := []) (As := []) (C := RX2) (ci := 2) (ws1 := (fun (u : (Nat → Int32) × (Nat → Int32) × (Nat → Int32) × Int32 × (Nat → Nat → Int32) × Int32) => (wB cI cC cK cO q oO oT hh wo (u.1, u.2.1, u.2.2.1, wt.2.2.2.1, wt.2.2.2.2.1, wt.2.2.2.2.2.1, wt.2.2.2.2.2.2.1, u.2.2.2.1, u.2.2.2.2.1, wt.2.2.2.2.2.2.2.2.2.1, wt.2.2.2.2.2.2.2.2.2.2.1, u.2.2.2.2.2) hs hp kp fp fr sc sl sp sv sf ss))) ⟨hx, hb, hml, hown, hts⟩ (gE_ok tL tM adK adV) (c_X2_endDay l D cI cC cK cO tL tM adK adV oT (wt.1) (wt.2.1) (wt.2.2.1) (wt.2.2.2.1) (wt.2.2.2.2.1) (wt.2.2.2.2.2.1) (wt.2.2.2.2.2.2.1) (wt.2.2.2.2.2.2.2.1) (wt.2.2.2.2.2.2.2.2.1) (wt.2.2.2.2.2.2.2.2.2.1) (wt.2.2.2.2.2.2.2.2.2.2.1) (wt.2.2.2.2.2.2.2.2.2.2.2)  K _ h53) (cwV 0 hts gX4_perform_X2_endDay rfl rfl rfl hv_X2_endDay ⟨Nat.le_of_ble_eq_true rfl, Nat.le_of_ble_eq_true rfl⟩) hK hP hD hS hA hE (pm_t _ _ _ _) (fun _ => (pm_t _ _ _ _)) rfl rfl rfl (fun _ => rfl) rfl hl.1 rfl (Nat.le_of_ble_eq_true rfl) dX4_perform_126 ⟨Nat.zero_le _, Nat.zero_le _⟩ (fun r u H locs hw hP hD hS => ?_)
  cases hw
  replace hP : va_P D vwCl (wB cI cC cK cO q oO oT hh wo (y47, y48, y49, wt.2.2.2.1, wt.2.2.2.2.1, wt.2.2.2.2.2.1, wt.2.2.2.2.2.2.1, y50, y51, wt.2.2.2.2.2.2.2.2.2.1, wt.2.2.2.2.2.2.2.2.2.2.1, y52) hs hp kp fp fr sc sl sp sv sf ss) H := hP
  replace hD : va_D A (wB cI cC cK cO q oO oT hh wo (y47, y48, y49, wt.2.2.2.1, wt.2.2.2.2.1, wt.2.2.2.2.2.1, wt.2.2.2.2.2.2.1, y50, y51, wt.2.2.2.2.2.2.2.2.2.1, wt.2.2.2.2.2.2.2.2.2.2.1, y52) hs hp kp fp fr sc sl sp sv sf ss) := hD
  exact hret _ _ _ _ _ ((y47, y48, y49, wt.2.2.2.1, wt.2.2.2.2.1, wt.2.2.2.2.2.1, wt.2.2.2.2.2.2.1, y50, y51, wt.2.2.2.2.2.2.2.2.2.1, wt.2.2.2.2.2.2.2.2.2.2.1, y52)) dX4_perform_129 (op_k hf) hP hS
set_option maxHeartbeats 4000000 in
set_option maxRecDepth 100000 in
theorem c_X4_rehearse (l : Launch) (D : va_G) (cI cC cK cO : ClassId) (tL tM : Nat) (adK adV : Nat → Nat) (q : Nat → Nat) (oO : Nat → Nat) (oT : Nat → Nat) (hh : Nat → Nat → Nat) (wo : OW) (wt : OW) (hs : Nat → OW) (hp : Nat → Nat) (kp : Int32) (fp : Int32) (fr : Int32) (sc : Nat → Int32) (sl : Int32) (sp : Int32) (sv : Int32) (sf : Int32) (ss : Int32) (K : Nat) (R : Int32 × OW × Int32 × Int32 × Int32 × Int32 × Int32 × Int32) (hf : f_X4_rehearse K wo wt sc sl sv sf ss = some R) : KI l D (TY cI cC cK cO) (gE tL tM adK adV) yX4_rehearse wsX4_rehearse 7 [.ref (q 0)] (wB cI cC cK cO q oO oT hh wo wt hs hp kp fp fr sc sl sp sv sf ss) (fun (r : Int32) (u : OW × Int32 × Int32 × Int32 × Int32 × Int32 × Int32) => (r, u) = R) (fun u => (wB cI cC cK cO q oO oT hh wo (u.1) hs hp kp (u.2.1) (u.2.2.1) sc sl (u.2.2.2.1) (u.2.2.2.2.1) (u.2.2.2.2.2.1) (u.2.2.2.2.2.2))) := by
  refine KI.ofI (cc := cX4_rehearse) (maxL := 4) (C := RX4) (by decide) rfl rfl (Nat.le_of_ble_eq_true rfl) ?_
  intro p e s m args below meth c A Q hx hb hml hts hown hP hK hD hA hE hS hret ls hl
  replace hl : lv_has ls 4 [(0, .ref (q 0))] := hl
  have w10 := hts (.fieldLink RX4 10 "BlockClerks" "office" "LBlockClerks$Office;") (by decide +kernel)
  have w130 := hts (.fieldLink RX4 130 "BlockClerks$Script" "at" "I") (by decide +kernel)
  have w16 := hts (.fieldLink RX4 16 "BlockClerks" "trial" "LBlockClerks$Office;") (by decide +kernel)
  have w30 := hts (.fieldLink RX4 30 "BlockClerks" "script" "LBlockClerks$Script;") (by decide +kernel)
  have w34 := hts (.fieldLink RX4 34 "BlockClerks" "faultPosition" "I") (by decide +kernel)
  have w37 := hts (.fieldLink RX4 37 "BlockClerks" "faultReason" "I") (by decide +kernel)
  have w96 := hts (.fieldLink RX4 96 "BlockClerks$Script" "length" "I") (by decide +kernel)
  have iX3 : ∀ w ∈ wsX30, w ∈ wsX4_rehearse := by decide +kernel
  have iX4 : ∀ w ∈ wsX40, w ∈ wsX4_rehearse := by decide +kernel
  have L_30 : ∀ (n : Nat) (wt : OW) (fp : Int32) (fr : Int32) (sp : Int32) (sv : Int32) (sf : Int32) (ss : Int32) (x1 : Int32) (hf : f_X4_rehearse_30 K fp fr sc sl n x1 wt sp sv sf ss = some R) (H : Heap) (locs : List Loc) (ls : Array Slot), va_P D vwCl (wB cI cC cK cO q oO oT hh wo wt hs hp kp fp fr sc sl sp sv sf ss) H → va_D A (wB cI cC cK cO q oO oT hh wo wt hs hp kp fp fr sc sl sp sv sf ss) → va_S A s.heap H locs → lv_has ls 4 [(0, .ref (q 0)), (1, .int x1)] → W p l e (rm 7) s m args below meth c H locs 0 0 Q (F0 m 30 ls []) := by
    intro n
    induction n with
    | zero =>
      intro wt fp fr sp sv sf ss x1 hf
      cases hf
    | succ n ih =>
      intro wt fp fr sp sv sf ss x1 hf H locs ls hP hD hS hl
      rw [f_X4_rehearse_30] at hf
      refine lv_iload_n hx hb dX4_rehearse_30 rfl (lv_at hl 1 rfl) ?_
      refine lv_bipush (v := 80) hx hb dX4_rehearse_31 (by decide) ?_
      refine lv_icmp_ge (tgt := 105) hx hb dX4_rehearse_33 (by decide) (fun c20 => ?_) (fun c20 => ?_)
      · replace hf := op_t c20 hf
        refine lv_iload_n hx hb dX4_rehearse_105 rfl (lv_at hl 1 rfl) ?_
        exact hret _ _ _ _ _ (wt, fp, fr, sp, sv, sf, ss) dX4_rehearse_106 (op_k hf) hP hS
      · replace hf := op_f c20 hf
        refine lv_aload_n hx hb dX4_rehearse_36 rfl (lv_at hl 0 rfl) ?_
        refine va_get (D := D) (ci := 4) (v := .ref (q 2)) (C := RX4) (T := TX4) (N := 7) hx hb hts iX4 hown hK hP 0 rfl rfl 4 (by decide) w30 (fun _ h9 => h9) rfl dX4_rehearse_37 ?_
        refine va_get (D := D) (ci := 3) (v := .int sp) (C := RX3) (T := TX3) (N := 6) hx hb hts iX3 hown hK hP 2 rfl rfl 2 (by decide) w130 (fun _ h9 => h9) rfl dX4_rehearse_40 ?_
        refine lv_aload_n hx hb dX4_rehearse_43 rfl (lv_at hl 0 rfl) ?_
        refine va_get (D := D) (ci := 4) (v := .ref (q 2)) (C := RX4) (T := TX4) (N := 7) hx hb hts iX4 hown hK hP 0 rfl rfl 4 (by decide) w30 (fun _ h9 => h9) rfl dX4_rehearse_44 ?_
        refine va_get (D := D) (ci := 3) (v := .int sl) (C := RX3) (T := TX3) (N := 6) hx hb hts iX3 hown hK hP 2 rfl rfl 1 (by decide) w96 (fun _ h9 => h9) rfl dX4_rehearse_47 ?_
        refine lv_icmp_ge (tgt := 105) hx hb dX4_rehearse_50 (by decide) (fun c21 => ?_) (fun c21 => ?_)
        · replace hf := op_t c21 hf
          refine lv_iload_n hx hb dX4_rehearse_105 rfl (lv_at hl 1 rfl) ?_
          exact hret _ _ _ _ _ (wt, fp, fr, sp, sv, sf, ss) dX4_rehearse_106 (op_k hf) hP hS
        · replace hf := op_f c21 hf
          refine lv_aload_n hx hb dX4_rehearse_53 rfl (lv_at hl 0 rfl) ?_
          refine va_get (D := D) (ci := 4) (v := .ref (q 2)) (C := RX4) (T := TX4) (N := 7) hx hb hts iX4 hown hK hP 0 rfl rfl 4 (by decide) w30 (fun _ h9 => h9) rfl dX4_rehearse_54 ?_
          refine va_get (D := D) (ci := 3) (v := .int sp) (C := RX3) (T := TX3) (N := 6) hx hb hts iX3 hown hK hP 2 rfl rfl 2 (by decide) w130 (fun _ h9 => h9) rfl dX4_rehearse_57 ?_
          refine lv_istore_n (lv' := [(2, .int sp), (0, .ref (q 0)), (1, .int x1)]) hx hb dX4_rehearse_60 rfl hl (by decide) rfl (fun ls hl => ?_)
          refine lv_aload_n hx hb dX4_rehearse_61 rfl (lv_at hl 1 rfl) ?_
          refine va_get (D := D) (ci := 4) (v := .ref (q 2)) (C := RX4) (T := TX4) (N := 7) hx hb hts iX4 hown hK hP 0 rfl rfl 4 (by decide) w30 (fun _ h9 => h9) rfl dX4_rehearse_62 ?_
          obtain ⟨⟨r22, y23, y24, y25, y26⟩, h27, hf⟩ := op_b hf
          refine ck_VI (st := [.ref (q 2)]) (rest := []) (As := []) (C := RX3) (ci := 3) ⟨hx, hb, hml, hown, hts⟩ (gE_ok tL tM adK adV) (c_X3_readCommand l D cI cC cK cO tL tM adK adV (q 2) (q 3) sc sl sp sv sf ss  K _ h27) (cwV 0 hts gX4_rehearse_X3_readCommand rfl rfl rfl hv_X3_readCommand ⟨Nat.le_of_ble_eq_true rfl, Nat.le_of_ble_eq_true rfl⟩) hK hP hD hS hA hE [2, 3] rfl rfl rfl rfl rfl (fun _ => rfl) rfl hl.1 rfl (Nat.le_of_ble_eq_true rfl) dX4_rehearse_65 ⟨Nat.zero_le _, Nat.zero_le _⟩ (fun r u H locs hw hP hD hS => ?_)
          obtain ⟨hw, z28⟩ := hw
          cases hw
          replace hP : va_P D vwCl (wB cI cC cK cO q oO oT hh wo wt hs hp kp fp fr sc sl y23 y24 y25 y26) H := hP
          replace hD : va_D A (wB cI cC cK cO q oO oT hh wo wt hs hp kp fp fr sc sl y23 y24 y25 y26) := hD
          refine lv_if_eq (tgt := 81) hx hb dX4_rehearse_68 (by decide) (fun c29 => ?_) (fun c29 => ?_)
          · replace hf := op_t c29 hf
            refine lv_iconst (v := 1) hx hb dX4_rehearse_81 (by decide) ?_
            refine lv_istore_n (lv' := [(3, .int 1), (2, .int sp), (0, .ref (q 0)), (1, .int x1)]) hx hb dX4_rehearse_82 rfl hl (by decide) rfl (fun ls hl => ?_)
            refine lv_iload_n hx hb dX4_rehearse_83 rfl (lv_at hl 0 rfl) ?_
            refine lv_if_eq (tgt := 99) hx hb dX4_rehearse_84 (by decide) (fun c9 => absurd c9 (by decide)) (fun _ => ?_)
            refine lv_aload_n hx hb dX4_rehearse_87 rfl (lv_at hl 2 rfl) ?_
            refine lv_iload_n hx hb dX4_rehearse_88 rfl (lv_at hl 1 rfl) ?_
            refine va_put (D := D) (ci := 4) (v := .int sp) (ty := .int) (C := RX4) (T := TX4) (N := 7) hx hb hts iX4 tyX4 tyX4_ok nmX4 hown hK hP hD hS 0 rfl rfl 5 (by decide) w34 (fun _ h9 => h9) rfl (by decide +kernel) rfl rfl (Nat.le_of_ble_eq_true rfl) dX4_rehearse_89 (fun H locs hP hD hS => ?_)
            replace hP : va_P D vwCl (wB cI cC cK cO q oO oT hh wo wt hs hp kp sp fr sc sl y23 y24 y25 y26) H := hP
            replace hD : va_D A (wB cI cC cK cO q oO oT hh wo wt hs hp kp sp fr sc sl y23 y24 y25 y26) := hD
            refine lv_aload_n hx hb dX4_rehearse_92 rfl (lv_at hl 2 rfl) ?_
            refine lv_iload_n hx hb dX4_rehearse_93 rfl (lv_at hl 0 rfl) ?_
            refine va_put (D := D) (ci := 4) (v := .int 1) (ty := .int) (C := RX4) (T := TX4) (N := 7) hx hb hts iX4 tyX4 tyX4_ok nmX4 hown hK hP hD hS 0 rfl rfl 6 (by decide) w37 (fun _ h9 => h9) rfl (by decide +kernel) rfl rfl (Nat.le_of_ble_eq_true rfl) dX4_rehearse_94 (fun H locs hP hD hS => ?_)
            replace hP : va_P D vwCl (wB cI cC cK cO q oO oT hh wo wt hs hp kp sp 1 sc sl y23 y24 y25 y26) H := hP
            replace hD : va_D A (wB cI cC cK cO q oO oT hh wo wt hs hp kp sp 1 sc sl y23 y24 y25 y26) := hD
            refine lv_iload_n hx hb dX4_rehearse_97 rfl (lv_at hl 3 rfl) ?_
            exact hret _ _ _ _ _ (wt, sp, 1, y23, y24, y25, y26) dX4_rehearse_98 (op_k hf) hP hS
          · replace hf := op_f c29 hf
            refine lv_aload_n hx hb dX4_rehearse_71 rfl (lv_at hl 1 rfl) ?_
            obtain ⟨⟨r30, y31⟩, h32, hf⟩ := op_b hf
            refine ck_VIw (st := [.ref (q 0)]) (rest := []) (As := []) (C := RX4) (ci := 4) ⟨hx, hb, hml, hown, hts⟩ (gE_ok tL tM adK adV) (c_X4_perform l D cI cC cK cO tL tM adK adV q oO oT hh wo wt hs hp kp fp fr sc sl y23 y24 y25 y26  K _ h32) (cwV 0 hts gX4_rehearse_X4_perform rfl rfl rfl hv_X4_perform ⟨Nat.le_of_ble_eq_true rfl, Nat.le_of_ble_eq_true rfl⟩) hK hP hD hS hA hE rfl rfl rfl (fun _ => rfl) rfl hl.1 rfl (Nat.le_of_ble_eq_true rfl) dX4_rehearse_72 ⟨Nat.zero_le _, Nat.zero_le _⟩ (fun r u H locs hw hP hD hS => ?_)
            cases hw
            replace hP : va_P D vwCl (wB cI cC cK cO q oO oT hh wo y31 hs hp kp fp fr sc sl y23 y24 y25 y26) H := hP
            replace hD : va_D A (wB cI cC cK cO q oO oT hh wo y31 hs hp kp fp fr sc sl y23 y24 y25 y26) := hD
            refine ck_SI (st := [.int r30]) (rest := []) (As := [.int r30]) ⟨hx, hb, hml, hown, hts⟩ (gE_ok tL tM adK adV) (c_X4_reasonOf l D cI cC cK cO tL tM adK adV  r30 _ rfl) (va_cwS 1 hts gX4_rehearse_X4_reasonOf rfl rfl rfl hs_X4_reasonOf ⟨Nat.le_of_ble_eq_true rfl, Nat.le_of_ble_eq_true rfl⟩) hK hP hD hS hA hE rfl hl.1 rfl (Nat.le_of_ble_eq_true rfl) dX4_rehearse_75 ⟨Nat.zero_le _, Nat.zero_le _⟩ (fun r H locs hw hP hS => ?_)
            cases hw
            refine lv_goto (tgt := 82) hx hb dX4_rehearse_78 (by decide) ?_
            refine lv_istore_n (lv' := [(3, .int (f_X4_reasonOf r30)), (2, .int sp), (0, .ref (q 0)), (1, .int x1)]) hx hb dX4_rehearse_82 rfl hl (by decide) rfl (fun ls hl => ?_)
            refine lv_iload_n hx hb dX4_rehearse_83 rfl (lv_at hl 0 rfl) ?_
            refine lv_if_eq (tgt := 99) hx hb dX4_rehearse_84 (by decide) (fun c36 => ?_) (fun c36 => ?_)
            · replace hf := op_t c36 hf
              refine lv_iinc (v := (x1 + 1)) (lv' := [(1, .int (x1 + 1)), (3, .int (f_X4_reasonOf r30)), (2, .int sp), (0, .ref (q 0))]) hx hb dX4_rehearse_99 hl (k := 3) rfl rfl (by decide) rfl (fun ls hl => ?_)
              refine lv_goto (tgt := 30) hx hb dX4_rehearse_102 (by decide) ?_
              exact ih y31 fp fr y23 y24 y25 y26 (x1 + 1) hf _ _ _ hP hD hS (lv_sub hl [3, 0] rfl)
            · replace hf := op_f c36 hf
              refine lv_aload_n hx hb dX4_rehearse_87 rfl (lv_at hl 2 rfl) ?_
              refine lv_iload_n hx hb dX4_rehearse_88 rfl (lv_at hl 1 rfl) ?_
              refine va_put (D := D) (ci := 4) (v := .int sp) (ty := .int) (C := RX4) (T := TX4) (N := 7) hx hb hts iX4 tyX4 tyX4_ok nmX4 hown hK hP hD hS 0 rfl rfl 5 (by decide) w34 (fun _ h9 => h9) rfl (by decide +kernel) rfl rfl (Nat.le_of_ble_eq_true rfl) dX4_rehearse_89 (fun H locs hP hD hS => ?_)
              replace hP : va_P D vwCl (wB cI cC cK cO q oO oT hh wo y31 hs hp kp sp fr sc sl y23 y24 y25 y26) H := hP
              replace hD : va_D A (wB cI cC cK cO q oO oT hh wo y31 hs hp kp sp fr sc sl y23 y24 y25 y26) := hD
              refine lv_aload_n hx hb dX4_rehearse_92 rfl (lv_at hl 2 rfl) ?_
              refine lv_iload_n hx hb dX4_rehearse_93 rfl (lv_at hl 0 rfl) ?_
              refine va_put (D := D) (ci := 4) (v := .int (f_X4_reasonOf r30)) (ty := .int) (C := RX4) (T := TX4) (N := 7) hx hb hts iX4 tyX4 tyX4_ok nmX4 hown hK hP hD hS 0 rfl rfl 6 (by decide) w37 (fun _ h9 => h9) rfl (by decide +kernel) rfl rfl (Nat.le_of_ble_eq_true rfl) dX4_rehearse_94 (fun H locs hP hD hS => ?_)
              replace hP : va_P D vwCl (wB cI cC cK cO q oO oT hh wo y31 hs hp kp sp (f_X4_reasonOf r30) sc sl y23 y24 y25 y26) H := hP
              replace hD : va_D A (wB cI cC cK cO q oO oT hh wo y31 hs hp kp sp (f_X4_reasonOf r30) sc sl y23 y24 y25 y26) := hD
              refine lv_iload_n hx hb dX4_rehearse_97 rfl (lv_at hl 3 rfl) ?_
              exact hret _ _ _ _ _ (y31, sp, (f_X4_reasonOf r30), y23, y24, y25, y26) dX4_rehearse_98 (op_k hf) hP hS
  rw [f_X4_rehearse] at hf
  refine lv_aload_n hx hb dX4_rehearse_0 rfl (lv_at hl 0 rfl) ?_
  refine va_get (D := D) (ci := 4) (v := .ref (oT 0)) (C := RX4) (T := TX4) (N := 7) hx hb hts iX4 hown hK hP 0 rfl rfl 1 (by decide) w16 (fun _ h9 => h9) rfl dX4_rehearse_1 ?_
  refine lv_aload_n hx hb dX4_rehearse_4 rfl (lv_at hl 0 rfl) ?_
  refine va_get (D := D) (ci := 4) (v := .ref (oO 0)) (C := RX4) (T := TX4) (N := 7) hx hb hts iX4 hown hK hP 0 rfl rfl 0 (by decide) w10 (fun _ h9 => h9) rfl dX4_rehearse_5 ?_
  obtain ⟨⟨y2, y3, y4, y5, y6, y7, y8, y9, y10, y11, y12, y13⟩, h14, hf⟩ := op_b hf
  refine ck_VVp (st := [.ref (oO 0), .ref (oT 0)]) (rest := []) (As := [.ref (oO 0)]) (C := RX2) (ci := 2) (ws1 := (fun (u : (Nat → Int32) × (Nat → Int32) × (Nat → Int32) × (Nat → Int32) × (Nat → Int32) × (Nat → Int32) × Int32 × Int32 × (Nat → Nat → Int32) × Int32 × (Nat → Int32) × Int32) => (wB cI cC cK cO q oO oT hh wo (u.1, u.2.1, u.2.2.1, u.2.2.2.1, u.2.2.2.2.1, u.2.2.2.2.2.1, u.2.2.2.2.2.2.1, u.2.2.2.2.2.2.2.1, u.2.2.2.2.2.2.2.2.1, u.2.2.2.2.2.2.2.2.2.1, u.2.2.2.2.2.2.2.2.2.2.1, u.2.2.2.2.2.2.2.2.2.2.2) hs hp kp fp fr sc sl sp sv sf ss))) ⟨hx, hb, hml, hown, hts⟩ (gE_ok tL tM adK adV) (c_X2_become l D cI cC cK cO tL tM adK adV oT oO (wt.1) (wt.2.1) (wt.2.2.1) (wt.2.2.2.1) (wt.2.2.2.2.1) (wt.2.2.2.2.2.1) (wt.2.2.2.2.2.2.1) (wt.2.2.2.2.2.2.2.1) (wt.2.2.2.2.2.2.2.2.1) (wt.2.2.2.2.2.2.2.2.2.1) (wt.2.2.2.2.2.2.2.2.2.2.1) (wt.2.2.2.2.2.2.2.2.2.2.2) (wo.1) (wo.2.1) (wo.2.2.1) (wo.2.2.2.1) (wo.2.2.2.2.1) (wo.2.2.2.2.2.1) (wo.2.2.2.2.2.2.1) (wo.2.2.2.2.2.2.2.1) (wo.2.2.2.2.2.2.2.2.1) (wo.2.2.2.2.2.2.2.2.2.1) (wo.2.2.2.2.2.2.2.2.2.2.1) (wo.2.2.2.2.2.2.2.2.2.2.2)  _ h14) (cwV 1 hts gX4_rehearse_X2_become rfl rfl rfl hv_X2_become ⟨Nat.le_of_ble_eq_true rfl, Nat.le_of_ble_eq_true rfl⟩) hK hP hD hS hA hE (pm_ta _ _ _ _) (fun _ => (pm_ta _ _ _ _)) rfl rfl rfl (fun _ => rfl) rfl hl.1 rfl (Nat.le_of_ble_eq_true rfl) dX4_rehearse_8 ⟨Nat.zero_le _, Nat.zero_le _⟩ (fun u H locs hw hP hD hS => ?_)
  cases hw
  replace hP : va_P D vwCl (wB cI cC cK cO q oO oT hh wo (y2, y3, y4, y5, y6, y7, y8, y9, y10, y11, y12, y13) hs hp kp fp fr sc sl sp sv sf ss) H := hP
  replace hD : va_D A (wB cI cC cK cO q oO oT hh wo (y2, y3, y4, y5, y6, y7, y8, y9, y10, y11, y12, y13) hs hp kp fp fr sc sl sp sv sf ss) := hD
  refine lv_aload_n hx hb dX4_rehearse_11 rfl (lv_at hl 0 rfl) ?_
  refine va_get (D := D) (ci := 4) (v := .ref (q 2)) (C := RX4) (T := TX4) (N := 7) hx hb hts iX4 hown hK hP 0 rfl rfl 4 (by decide) w30 (fun _ h9 => h9) rfl dX4_rehearse_12 ?_
  obtain ⟨y17, h18, hf⟩ := op_b hf
  refine ck_VV (st := [.ref (q 2)]) (rest := []) (As := []) (C := RX3) (ci := 3) ⟨hx, hb, hml, hown, hts⟩ (gE_ok tL tM adK adV) (c_X3_rewind l D cI cC cK cO tL tM adK adV (q 2) (q 3) sc sl sp sv sf ss  _ h18) (cwV 0 hts gX4_rehearse_X3_rewind rfl rfl rfl hv_X3_rewind ⟨Nat.le_of_ble_eq_true rfl, Nat.le_of_ble_eq_true rfl⟩) hK hP hD hS hA hE [2, 3] rfl rfl rfl rfl rfl (fun _ => rfl) rfl hl.1 rfl (Nat.le_of_ble_eq_true rfl) dX4_rehearse_15 ⟨Nat.zero_le _, Nat.zero_le _⟩ (fun u H locs hw hP hD hS => ?_)
  cases hw
  replace hP : va_P D vwCl (wB cI cC cK cO q oO oT hh wo (y2, y3, y4, y5, y6, y7, y8, y9, y10, y11, y12, y13) hs hp kp fp fr sc sl y17 sv sf ss) H := hP
  replace hD : va_D A (wB cI cC cK cO q oO oT hh wo (y2, y3, y4, y5, y6, y7, y8, y9, y10, y11, y12, y13) hs hp kp fp fr sc sl y17 sv sf ss) := hD
  refine lv_aload_n hx hb dX4_rehearse_18 rfl (lv_at hl 0 rfl) ?_
  refine lv_iconst (v := (-1)) hx hb dX4_rehearse_19 (by decide) ?_
  refine va_put (D := D) (ci := 4) (v := .int (-1)) (ty := .int) (C := RX4) (T := TX4) (N := 7) hx hb hts iX4 tyX4 tyX4_ok nmX4 hown hK hP hD hS 0 rfl rfl 5 (by decide) w34 (fun _ h9 => h9) rfl (by decide +kernel) rfl rfl (Nat.le_of_ble_eq_true rfl) dX4_rehearse_20 (fun H locs hP hD hS => ?_)
  replace hP : va_P D vwCl (wB cI cC cK cO q oO oT hh wo (y2, y3, y4, y5, y6, y7, y8, y9, y10, y11, y12, y13) hs hp kp (-1) fr sc sl y17 sv sf ss) H := hP
  replace hD : va_D A (wB cI cC cK cO q oO oT hh wo (y2, y3, y4, y5, y6, y7, y8, y9, y10, y11, y12, y13) hs hp kp (-1) fr sc sl y17 sv sf ss) := hD
  refine lv_aload_n hx hb dX4_rehearse_23 rfl (lv_at hl 0 rfl) ?_
  refine lv_iconst (v := 0) hx hb dX4_rehearse_24 (by decide) ?_
  refine va_put (D := D) (ci := 4) (v := .int 0) (ty := .int) (C := RX4) (T := TX4) (N := 7) hx hb hts iX4 tyX4 tyX4_ok nmX4 hown hK hP hD hS 0 rfl rfl 6 (by decide) w37 (fun _ h9 => h9) rfl (by decide +kernel) rfl rfl (Nat.le_of_ble_eq_true rfl) dX4_rehearse_25 (fun H locs hP hD hS => ?_)
  replace hP : va_P D vwCl (wB cI cC cK cO q oO oT hh wo (y2, y3, y4, y5, y6, y7, y8, y9, y10, y11, y12, y13) hs hp kp (-1) 0 sc sl y17 sv sf ss) H := hP
  replace hD : va_D A (wB cI cC cK cO q oO oT hh wo (y2, y3, y4, y5, y6, y7, y8, y9, y10, y11, y12, y13) hs hp kp (-1) 0 sc sl y17 sv sf ss) := hD
  refine lv_iconst (v := 0) hx hb dX4_rehearse_28 (by decide) ?_
  refine lv_istore_n (lv' := [(1, .int 0), (0, .ref (q 0))]) hx hb dX4_rehearse_29 rfl hl (by decide) rfl (fun ls hl => ?_)
  exact L_30 K (y2, y3, y4, y5, y6, y7, y8, y9, y10, y11, y12, y13) (-1) 0 y17 sv sf ss 0 hf _ _ _ hP hD hS (lv_sub hl [1, 0] rfl)
