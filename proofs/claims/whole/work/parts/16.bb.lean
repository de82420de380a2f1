/-! laid by wip/whole/gen.py: walks of the class itself -/
set_option maxHeartbeats 4000000 in
set_option maxRecDepth 100000 in
theorem c_X4_forget (l : Launch) (D : va_G) (cI cC cK cO : ClassId) (tL tM : Nat) (adK adV : Nat → Nat) (q : Nat → Nat) (oO : Nat → Nat) (oT : Nat → Nat) (hh : Nat → Nat → Nat) (wo : OW) (wt : OW) (hs : Nat → OW) (hp : Nat → Nat) (kp : Int32) (fp : Int32) (fr : Int32) (sc : Nat → Int32) (sl : Int32) (sp : Int32) (sv : Int32) (sf : Int32) (ss : Int32) (x1 : Int32) (K : Nat) (R : Int32 × OW × OW × (Nat → OW) × (Nat → Nat) × Int32) (hf : f_X4_forget K wo wt hs hp kp x1 = some R) : KI l D (TY cI cC cK cO) (gE tL tM adK adV) yX4_forget wsX4_forget 6 [.ref (q 0), .int x1] (wB cI cC cK cO q oO oT hh wo wt hs hp kp fp fr sc sl sp sv sf ss) (fun (r : Int32) (u : OW × OW × (Nat → OW) × (Nat → Nat) × Int32) => (r, u) = R) (fun u => (wB cI cC cK cO q oO oT hh (u.1) (u.2.1) (u.2.2.1) (u.2.2.2.1) (u.2.2.2.2) fp fr sc sl sp sv sf ss)) := by
  refine KI.ofI (cc := cX4_forget) (maxL := 2) (C := RX4) (by decide) rfl rfl (Nat.le_of_ble_eq_true rfl) ?_
  intro p e s m args below meth c A Q hx hb hml hts hown hP hK hD hA hE hS hret ls hl
  replace hl : lv_has ls 2 [(0, .ref (q 0)), (1, .int x1)] := hl
  have w10 := hts (.fieldLink RX4 10 "BlockClerks" "office" "LBlockClerks$Office;") (by decide +kernel)
  have w16 := hts (.fieldLink RX4 16 "BlockClerks" "trial" "LBlockClerks$Office;") (by decide +kernel)
  have iX4 : ∀ w ∈ wsX40, w ∈ wsX4_forget := by decide +kernel
  rw [f_X4_forget] at hf
  refine lv_aload_n hx hb dX4_forget_0 rfl (lv_at hl 0 rfl) ?_
  refine va_get (D := D) (ci := 4) (v := .ref (oT 0)) (C := RX4) (T := TX4) (N := 7) hx hb hts iX4 hown hK hP 0 rfl rfl 1 (by decide) w16 (fun _ h9 => h9) rfl dX4_forget_1 ?_
  refine lv_aload_n hx hb dX4_forget_4 rfl (lv_at hl 0 rfl) ?_
  refine va_get (D := D) (ci := 4) (v := .ref (oO 0)) (C := RX4) (T := TX4) (N := 7) hx hb hts iX4 hown hK hP 0 rfl rfl 0 (by decide) w10 (fun _ h9 => h9) rfl dX4_forget_5 ?_
  obtain ⟨⟨y2, y3, y4, y5, y6, y7, y8, y9, y10, y11, y12, y13⟩, h14, hf⟩ := op_b hf
  refine ck_VVp (st := [.ref (oO 0), .ref (oT 0)]) (rest := []) (As := [.ref (oO 0)]) (C := RX2) (ci := 2) (ws1 := (fun (u : (Nat → Int32) × (Nat → Int32) × (Nat → Int32) × (Nat → Int32) × (Nat → Int32) × (Nat → Int32) × Int32 × Int32 × (Nat → Nat → Int32) × Int32 × (Nat → Int32) × Int32) => (wB cI cC cK cO q oO oT hh wo (u.1, u.2.1, u.2.2.1, u.2.2.2.1, u.2.2.2.2.1, u.2.2.2.2.2.1, u.2.2.2.2.2.2.1, u.2.2.2.2.2.2.2.1, u.2.2.2.2.2.2.2.2.1, u.2.2.2.2.2.2.2.2.2.1, u.2.2.2.2.2.2.2.2.2.2.1, u.2.2.2.2.2.2.2.2.2.2.2) hs hp kp fp fr sc sl sp sv sf ss))) ⟨hx, hb, hml, hown, hts⟩ (gE_ok tL tM adK adV) (c_X2_become l D cI cC cK cO tL tM adK adV oT oO (wt.1) (wt.2.1) (wt.2.2.1) (wt.2.2.2.1) (wt.2.2.2.2.1) (wt.2.2.2.2.2.1) (wt.2.2.2.2.2.2.1) (wt.2.2.2.2.2.2.2.1) (wt.2.2.2.2.2.2.2.2.1) (wt.2.2.2.2.2.2.2.2.2.1) (wt.2.2.2.2.2.2.2.2.2.2.1) (wt.2.2.2.2.2.2.2.2.2.2.2) (wo.1) (wo.2.1) (wo.2.2.1) (wo.2.2.2.1) (wo.2.2.2.2.1) (wo.2.2.2.2.2.1) (wo.2.2.2.2.2.2.1) (wo.2.2.2.2.2.2.2.1) (wo.2.2.2.2.2.2.2.2.1) (wo.2.2.2.2.2.2.2.2.2.1) (wo.2.2.2.2.2.2.2.2.2.2.1) (wo.2.2.2.2.2.2.2.2.2.2.2)  _ h14) (cwV 1 hts gX4_forget_X2_become rfl rfl rfl hv_X2_become ⟨Nat.le_of_ble_eq_true rfl, Nat.le_of_ble_eq_true rfl⟩) hK hP hD hS hA hE (pm_ta _ _ _ _) (fun _ => (pm_ta _ _ _ _)) rfl rfl rfl (fun _ => rfl) rfl hl.1 rfl (Nat.le_of_ble_eq_true rfl) dX4_forget_8 ⟨Nat.zero_le _, Nat.zero_le _⟩ (fun u H locs hw hP hD hS => ?_)
  cases hw
  replace hP : va_P D vwCl (wB cI cC cK cO q oO oT hh wo (y2, y3, y4, y5, y6, y7, y8, y9, y10, y11, y12, y13) hs hp kp fp fr sc sl sp sv sf ss) H := hP
  replace hD : va_D A (wB cI cC cK cO q oO oT hh wo (y2, y3, y4, y5, y6, y7, y8, y9, y10, y11, y12, y13) hs hp kp fp fr sc sl sp sv sf ss) := hD
  refine lv_aload_n hx hb dX4_forget_11 rfl (lv_at hl 0 rfl) ?_
  refine lv_aload_n hx hb dX4_forget_12 rfl (lv_at hl 0 rfl) ?_
  refine va_get (D := D) (ci := 4) (v := .ref (oT 0)) (C := RX4) (T := TX4) (N := 7) hx hb hts iX4 hown hK hP 0 rfl rfl 1 (by decide) w16 (fun _ h9 => h9) rfl dX4_forget_13 ?_
  refine lv_iload_n hx hb dX4_forget_16 rfl (lv_at hl 1 rfl) ?_
  obtain ⟨⟨r16, y17, y18, y19, y20, y21⟩, h22, hf⟩ := op_b hf
  refine ck_VIp (st := [.int x1, .ref (oT 0), .ref (q 0)]) (rest := [.ref (q 0)]) (As := [.int x1]) (C := RX2) (ci := 2) (ws1 := (fun (u : (Nat → Int32) × (Nat → Int32) × (Nat → Int32) × Int32 × (Nat → Nat → Int32)) => (wB cI cC cK cO q oO oT hh wo (u.1, u.2.1, u.2.2.1, y5, y6, y7, y8, u.2.2.2.1, u.2.2.2.2, y11, y12, y13) hs hp kp fp fr sc sl sp sv sf ss))) ⟨hx, hb, hml, hown, hts⟩ (gE_ok tL tM adK adV) (c_X2_letForget l D cI cC cK cO tL tM adK adV oT y2 y3 y4 y5 y6 y7 y8 y9 y10 y11 y12 y13 x1 K _ h22) (cwV 1 hts gX4_forget_X2_letForget rfl rfl rfl hv_X2_letForget ⟨Nat.le_of_ble_eq_true rfl, Nat.le_of_ble_eq_true rfl⟩) hK hP hD hS hA hE (pm_t _ _ _ _) (fun _ => (pm_t _ _ _ _)) rfl rfl rfl (fun _ => rfl) rfl hl.1 rfl (Nat.le_of_ble_eq_true rfl) dX4_forget_17 ⟨Nat.zero_le _, Nat.zero_le _⟩ (fun r u H locs hw hP hD hS => ?_)
  cases hw
  replace hP : va_P D vwCl (wB cI cC cK cO q oO oT hh wo (y17, y18, y19, y5, y6, y7, y8, y20, y21, y11, y12, y13) hs hp kp fp fr sc sl sp sv sf ss) H := hP
  replace hD : va_D A (wB cI cC cK cO q oO oT hh wo (y17, y18, y19, y5, y6, y7, y8, y20, y21, y11, y12, y13) hs hp kp fp fr sc sl sp sv sf ss) := hD
  obtain ⟨⟨r24, y25, y26, y27, y28⟩, h29, hf⟩ := op_b hf
  refine ck_VIw (st := [.int r16, .ref (q 0)]) (rest := []) (As := [.int r16]) (C := RX4) (ci := 4) ⟨hx, hb, hml, hown, hts⟩ (gE_ok tL tM adK adV) (c_X4_adopt l D cI cC cK cO tL tM adK adV q oO oT hh wo (y17, y18, y19, y5, y6, y7, y8, y20, y21, y11, y12, y13) hs hp kp fp fr sc sl sp sv sf ss r16 _ h29) (cwV 1 hts gX4_forget_X4_adopt rfl rfl rfl hv_X4_adopt ⟨Nat.le_of_ble_eq_true rfl, Nat.le_of_ble_eq_true rfl⟩) hK hP hD hS hA hE rfl rfl rfl (fun _ => rfl) rfl hl.1 rfl (Nat.le_of_ble_eq_true rfl) dX4_forget_20 ⟨Nat.zero_le _, Nat.zero_le _⟩ (fun r u H locs hw hP hD hS => ?_)
  cases hw
  replace hP : va_P D vwCl (wB cI cC cK cO q oO oT hh y25 (y17, y18, y19, y5, y6, y7, y8, y20, y21, y11, y12, y13) y26 y27 y28 fp fr sc sl sp sv sf ss) H := hP
  replace hD : va_D A (wB cI cC cK cO q oO oT hh y25 (y17, y18, y19, y5, y6, y7, y8, y20, y21, y11, y12, y13) y26 y27 y28 fp fr sc sl sp sv sf ss) := hD
  exact hret _ _ _ _ _ (y25, (y17, y18, y19, y5, y6, y7, y8, y20, y21, y11, y12, y13), y26, y27, y28) dX4_forget_23 (op_k hf) hP hS
set_option maxHeartbeats 4000000 in
set_option maxRecDepth 100000 in
theorem c_X4_giveBack (l : Launch) (D : va_G) (cI cC cK cO : ClassId) (tL tM : Nat) (adK adV : Nat → Nat) (q : Nat → Nat) (oO : Nat → Nat) (oT : Nat → Nat) (hh : Nat → Nat → Nat) (wo : OW) (wt : OW) (hs : Nat → OW) (hp : Nat → Nat) (kp : Int32) (fp : Int32) (fr : Int32) (sc : Nat → Int32) (sl : Int32) (sp : Int32) (sv : Int32) (sf : Int32) (ss : Int32) (x1 : Int32) (K : Nat) (R : Int32 × OW × OW × (Nat → OW) × (Nat → Nat) × Int32) (hf : f_X4_giveBack K wo wt hs hp kp x1 = some R) : KI l D (TY cI cC cK cO) (gE tL tM adK adV) yX4_giveBack wsX4_giveBack 6 [.ref (q 0), .int x1] (wB cI cC cK cO q oO oT hh wo wt hs hp kp fp fr sc sl sp sv sf ss) (fun (r : Int32) (u : OW × OW × (Nat → OW) × (Nat → Nat) × Int32) => (r, u) = R) (fun u => (wB cI cC cK cO q oO oT hh (u.1) (u.2.1) (u.2.2.1) (u.2.2.2.1) (u.2.2.2.2) fp fr sc sl sp sv sf ss)) := by
  refine KI.ofI (cc := cX4_giveBack) (maxL := 2) (C := RX4) (by decide) rfl rfl (Nat.le_of_ble_eq_true rfl) ?_
  intro p e s m args below meth c A Q hx hb hml hts hown hP hK hD hA hE hS hret ls hl
  replace hl : lv_has ls 2 [(0, .ref (q 0)), (1, .int x1)] := hl
  have w10 := hts (.fieldLink RX4 10 "BlockClerks" "office" "LBlockClerks$Office;") (by decide +kernel)
  have w16 := hts (.fieldLink RX4 16 "BlockClerks" "trial" "LBlockClerks$Office;") (by decide +kernel)
  have iX4 : ∀ w ∈ wsX40, w ∈ wsX4_giveBack := by decide +kernel
  rw [f_X4_giveBack] at hf
  refine lv_aload_n hx hb dX4_giveBack_0 rfl (lv_at hl 0 rfl) ?_
  refine va_get (D := D) (ci := 4) (v := .ref (oT 0)) (C := RX4) (T := TX4) (N := 7) hx hb hts iX4 hown hK hP 0 rfl rfl 1 (by decide) w16 (fun _ h9 => h9) rfl dX4_giveBack_1 ?_
  refine lv_aload_n hx hb dX4_giveBack_4 rfl (lv_at hl 0 rfl) ?_
  refine va_get (D := D) (ci := 4) (v := .ref (oO 0)) (C := RX4) (T := TX4) (N := 7) hx hb hts iX4 hown hK hP 0 rfl rfl 0 (by decide) w10 (fun _ h9 => h9) rfl dX4_giveBack_5 ?_
  obtain ⟨⟨y2, y3, y4, y5, y6, y7, y8, y9, y10, y11, y12, y13⟩, h14, hf⟩ := op_b hf
  refine ck_VVp (st := [.ref (oO 0), .ref (oT 0)]) (rest := []) (As := [.ref (oO 0)]) (C := RX2) (ci := 2) (ws1 := (fun (u : (Nat → Int32) × (Nat → Int32) × (Nat → Int32) × (Nat → Int32) × (Nat → Int32) × (Nat → Int32) × Int32 × Int32 × (Nat → Nat → Int32) × Int32 × (Nat → Int32) × Int32) => (wB cI cC cK cO q oO oT hh wo (u.1, u.2.1, u.2.2.1, u.2.2.2.1, u.2.2.2.2.1, u.2.2.2.2.2.1, u.2.2.2.2.2.2.1, u.2.2.2.2.2.2.2.1, u.2.2.2.2.2.2.2.2.1, u.2.2.2.2.2.2.2.2.2.1, u.2.2.2.2.2.2.2.2.2.2.1, u.2.2.2.2.2.2.2.2.2.2.2) hs hp kp fp fr sc sl sp sv sf ss))) ⟨hx, hb, hml, hown, hts⟩ (gE_ok tL tM adK adV) (c_X2_become l D cI cC cK cO tL tM adK adV oT oO (wt.1) (wt.2.1) (wt.2.2.1) (wt.2.2.2.1) (wt.2.2.2.2.1) (wt.2.2.2.2.2.1) (wt.2.2.2.2.2.2.1) (wt.2.2.2.2.2.2.2.1) (wt.2.2.2.2.2.2.2.2.1) (wt.2.2.2.2.2.2.2.2.2.1) (wt.2.2.2.2.2.2.2.2.2.2.1) (wt.2.2.2.2.2.2.2.2.2.2.2) (wo.1) (wo.2.1) (wo.2.2.1) (wo.2.2.2.1) (wo.2.2.2.2.1) (wo.2.2.2.2.2.1) (wo.2.2.2.2.2.2.1) (wo.2.2.2.2.2.2.2.1) (wo.2.2.2.2.2.2.2.2.1) (wo.2.2.2.2.2.2.2.2.2.1) (wo.2.2.2.2.2.2.2.2.2.2.1) (wo.2.2.2.2.2.2.2.2.2.2.2)  _ h14) (cwV 1 hts gX4_giveBack_X2_become rfl rfl rfl hv_X2_become ⟨Nat.le_of_ble_eq_true rfl, Nat.le_of_ble_eq_true rfl⟩) hK hP hD hS hA hE (pm_ta _ _ _ _) (fun _ => (pm_ta _ _ _ _)) rfl rfl rfl (fun _ => rfl) rfl hl.1 rfl (Nat.le_of_ble_eq_true rfl) dX4_giveBack_8 ⟨Nat.zero_le _, Nat.zero_le _⟩ (fun u H locs hw hP hD hS => ?_)
  cases hw
  replace hP : va_P D vwCl (wB cI cC cK cO q oO oT hh wo (y2, y3, y4, y5, y6, y7, y8, y9, y10, y11, y12, y13) hs hp kp fp fr sc sl sp sv sf ss) H := hP
  replace hD : va_D A (wB cI cC cK cO q oO oT hh wo (y2, y3, y4, y5, y6, y7, y8, y9, y10, y11, y12, y13) hs hp kp fp fr sc sl sp sv sf ss) := hD
  refine lv_aload_n hx hb dX4_giveBack_11 rfl (lv_at hl 0 rfl) ?_
  refine lv_aload_n hx hb dX4_giveBack_12 rfl (lv_at hl 0 rfl) ?_
  refine va_get (D := D) (ci := 4) (v := .ref (oT 0)) (C := RX4) (T := TX4) (N := 7) hx hb hts iX4 hown hK hP 0 rfl rfl 1 (by decide) w16 (fun _ h9 => h9) rfl dX4_giveBack_13 ?_
  refine lv_iload_n hx hb dX4_giveBack_16 rfl (lv_at hl 1 rfl) ?_
  obtain ⟨⟨r16, y17, y18, y19, y20, y21⟩, h22, hf⟩ := op_b hf
  refine ck_VIp (st := [.int x1, .ref (oT 0), .ref (q 0)]) (rest := [.ref (q 0)]) (As := [.int x1]) (C := RX2) (ci := 2) (ws1 := (fun (u : (Nat → Int32) × (Nat → Int32) × (Nat → Int32) × Int32 × (Nat → Nat → Int32)) => (wB cI cC cK cO q oO oT hh wo (u.1, u.2.1, u.2.2.1, y5, y6, y7, y8, u.2.2.2.1, u.2.2.2.2, y11, y12, y13) hs hp kp fp fr sc sl sp sv sf ss))) ⟨hx, hb, hml, hown, hts⟩ (gE_ok tL tM adK adV) (c_X2_takeBack l D cI cC cK cO tL tM adK adV oT y2 y3 y4 y5 y6 y7 y8 y9 y10 y11 y12 y13 x1 K _ h22) (cwV 1 hts gX4_giveBack_X2_takeBack rfl rfl rfl hv_X2_takeBack ⟨Nat.le_of_ble_eq_true rfl, Nat.le_of_ble_eq_true rfl⟩) hK hP hD hS hA hE (pm_t _ _ _ _) (fun _ => (pm_t _ _ _ _)) rfl rfl rfl (fun _ => rfl) rfl hl.1 rfl (Nat.le_of_ble_eq_true rfl) dX4_giveBack_17 ⟨Nat.zero_le _, Nat.zero_le _⟩ (fun r u H locs hw hP hD hS => ?_)
  cases hw
  replace hP : va_P D vwCl (wB cI cC cK cO q oO oT hh wo (y17, y18, y19, y5, y6, y7, y8, y20, y21, y11, y12, y13) hs hp kp fp fr sc sl sp sv sf ss) H := hP
  replace hD : va_D A (wB cI cC cK cO q oO oT hh wo (y17, y18, y19, y5, y6, y7, y8, y20, y21, y11, y12, y13) hs hp kp fp fr sc sl sp sv sf ss) := hD
  obtain ⟨⟨r24, y25, y26, y27, y28⟩, h29, hf⟩ := op_b hf
  refine ck_VIw (st := [.int r16, .ref (q 0)]) (rest := []) (As := [.int r16]) (C := RX4) (ci := 4) ⟨hx, hb, hml, hown, hts⟩ (gE_ok tL tM adK adV) (c_X4_adopt l D cI cC cK cO tL tM adK adV q oO oT hh wo (y17, y18, y19, y5, y6, y7, y8, y20, y21, y11, y12, y13) hs hp kp fp fr sc sl sp sv sf ss r16 _ h29) (cwV 1 hts gX4_giveBack_X4_adopt rfl rfl rfl hv_X4_adopt ⟨Nat.le_of_ble_eq_true rfl, Nat.le_of_ble_eq_true rfl⟩) hK hP hD hS hA hE rfl rfl rfl (fun _ => rfl) rfl hl.1 rfl (Nat.le_of_ble_eq_true rfl) dX4_giveBack_20 ⟨Nat.zero_le _, Nat.zero_le _⟩ (fun r u H locs hw hP hD hS => ?_)
  cases hw
  replace hP : va_P D vwCl (wB cI cC cK cO q oO oT hh y25 (y17, y18, y19, y5, y6, y7, y8, y20, y21, y11, y12, y13) y26 y27 y28 fp fr sc sl sp sv sf ss) H := hP
  replace hD : va_D A (wB cI cC cK cO q oO oT hh y25 (y17, y18, y19, y5, y6, y7, y8, y20, y21, y11, y12, y13) y26 y27 y28 fp fr sc sl sp sv sf ss) := hD
  exact hret _ _ _ _ _ (y25, (y17, y18, y19, y5, y6, y7, y8, y20, y21, y11, y12, y13), y26, y27, y28) dX4_giveBack_23 (op_k hf) hP hS
set_option maxHeartbeats 4000000 in
set_option maxRecDepth 100000 in
theorem c_X4_makeVoid (l : Launch) (D : va_G) (cI cC cK cO : ClassId) (tL tM : Nat) (adK adV : Nat → Nat) (q : Nat → Nat) (oO : Nat → Nat) (oT : Nat → Nat) (hh : Nat → Nat → Nat) (wo : OW) (wt : OW) (hs : Nat → OW) (hp : Nat → Nat) (kp : Int32) (fp : Int32) (fr : Int32) (sc : Nat → Int32) (sl : Int32) (sp : Int32) (sv : Int32) (sf : Int32) (ss : Int32) (x1 : Int32) (K : Nat) (R : Int32 × OW × OW × (Nat → OW) × (Nat → Nat) × Int32) (hf : f_X4_makeVoid K wo wt hs hp kp x1 = some R) : KI l D (TY cI cC cK cO) (gE tL tM adK adV) yX4_makeVoid wsX4_makeVoid 6 [.ref (q 0), .int x1] (wB cI cC cK cO q oO oT hh wo wt hs hp kp fp fr sc sl sp sv sf ss) (fun (r : Int32) (u : OW × OW × (Nat → OW) × (Nat → Nat) × Int32) => (r, u) = R) (fun u => (wB cI cC cK cO q oO oT hh (u.1) (u.2.1) (u.2.2.1) (u.2.2.2.1) (u.2.2.2.2) fp fr sc sl sp sv sf ss)) := by
  refine KI.ofI (cc := cX4_makeVoid) (maxL := 2) (C := RX4) (by decide) rfl rfl (Nat.le_of_ble_eq_true rfl) ?_
  intro p e s m args below meth c A Q hx hb hml hts hown hP hK hD hA hE hS hret ls hl
  replace hl : lv_has ls 2 [(0, .ref (q 0)), (1, .int x1)] := hl
  have w10 := hts (.fieldLink RX4 10 "BlockClerks" "office" "LBlockClerks$Office;") (by decide +kernel)
  have w16 := hts (.fieldLink RX4 16 "BlockClerks" "trial" "LBlockClerks$Office;") (by decide +kernel)
  have iX4 : ∀ w ∈ wsX40, w ∈ wsX4_makeVoid := by decide +kernel
  rw [f_X4_makeVoid] at hf
  refine lv_aload_n hx hb dX4_makeVoid_0 rfl (lv_at hl 0 rfl) ?_
  refine va_get (D := D) (ci := 4) (v := .ref (oT 0)) (C := RX4) (T := TX4) (N := 7) hx hb hts iX4 hown hK hP 0 rfl rfl 1 (by decide) w16 (fun _ h9 => h9) rfl dX4_makeVoid_1 ?_
  refine lv_aload_n hx hb dX4_makeVoid_4 rfl (lv_at hl 0 rfl) ?_
  refine va_get (D := D) (ci := 4) (v := .ref (oO 0)) (C := RX4) (T := TX4) (N := 7) hx hb hts iX4 hown hK hP 0 rfl rfl 0 (by decide) w10 (fun _ h9 => h9) rfl dX4_makeVoid_5 ?_
  obtain ⟨⟨y2, y3, y4, y5, y6, y7, y8, y9, y10, y11, y12, y13⟩, h14, hf⟩ := op_b hf
  refine ck_VVp (st := [.ref (oO 0), .ref (oT 0)]) (rest := []) (As := [.ref (oO 0)]) (C := RX2) (ci := 2) (ws1 := (fun (u : (Nat → Int32) × (Nat → Int32) × (Nat → Int32) × (Nat → Int32) × (Nat → Int32) × (Nat → Int32) × Int32 × Int32 × (Nat → Nat → Int32) × Int32 × (Nat → Int32) × Int32) => (wB cI cC cK cO q oO oT hh wo (u.1, u.2.1, u.2.2.1, u.2.2.2.1, u.2.2.2.2.1, u.2.2.2.2.2.1, u.2.2.2.2.2.2.1, u.2.2.2.2.2.2.2.1, u.2.2.2.2.2.2.2.2.1, u.2.2.2.2.2.2.2.2.2.1, u.2.2.2.2.2.2.2.2.2.2.1, u.2.2.2.2.2.2.2.2.2.2.2) hs hp kp fp fr sc sl sp sv sf ss))) ⟨hx, hb, hml, hown, hts⟩ (gE_ok tL tM adK adV) (c_X2_become l D cI cC cK cO tL tM adK adV oT oO (wt.1) (wt.2.1) (wt.2.2.1) (wt.2.2.2.1) (wt.2.2.2.2.1) (wt.2.2.2.2.2.1) (wt.2.2.2.2.2.2.1) (wt.2.2.2.2.2.2.2.1) (wt.2.2.2.2.2.2.2.2.1) (wt.2.2.2.2.2.2.2.2.2.1) (wt.2.2.2.2.2.2.2.2.2.2.1) (wt.2.2.2.2.2.2.2.2.2.2.2) (wo.1) (wo.2.1) (wo.2.2.1) (wo.2.2.2.1) (wo.2.2.2.2.1) (wo.2.2.2.2.2.1) (wo.2.2.2.2.2.2.1) (wo.2.2.2.2.2.2.2.1) (wo.2.2.2.2.2.2.2.2.1) (wo.2.2.2.2.2.2.2.2.2.1) (wo.2.2.2.2.2.2.2.2.2.2.1) (wo.2.2.2.2.2.2.2.2.2.2.2)  _ h14) (cwV 1 hts gX4_makeVoid_X2_become rfl rfl rfl hv_X2_become ⟨Nat.le_of_ble_eq_true rfl, Nat.le_of_ble_eq_true rfl⟩) hK hP hD hS hA hE (pm_ta _ _ _ _) (fun _ => (pm_ta _ _ _ _)) rfl rfl rfl (fun _ => rfl) rfl hl.1 rfl (Nat.le_of_ble_eq_true rfl) dX4_makeVoid_8 ⟨Nat.zero_le _, Nat.zero_le _⟩ (fun u H locs hw hP hD hS => ?_)
  cases hw
  replace hP : va_P D vwCl (wB cI cC cK cO q oO oT hh wo (y2, y3, y4, y5, y6, y7, y8, y9, y10, y11, y12, y13) hs hp kp fp fr sc sl sp sv sf ss) H := hP
  replace hD : va_D A (wB cI cC cK cO q oO oT hh wo (y2, y3, y4, y5, y6, y7, y8, y9, y10, y11, y12, y13) hs hp kp fp fr sc sl sp sv sf ss) := hD
  refine lv_aload_n hx hb dX4_makeVoid_11 rfl (lv_at hl 0 rfl) ?_
  refine lv_aload_n hx hb dX4_makeVoid_12 rfl (lv_at hl 0 rfl) ?_
  refine va_get (D := D) (ci := 4) (v := .ref (oT 0)) (C := RX4) (T := TX4) (N := 7) hx hb hts iX4 hown hK hP 0 rfl rfl 1 (by decide) w16 (fun _ h9 => h9) rfl dX4_makeVoid_13 ?_
  refine lv_iload_n hx hb dX4_makeVoid_16 rfl (lv_at hl 1 rfl) ?_
  obtain ⟨⟨r16, y17, y18, y19, y20⟩, h21, hf⟩ := op_b hf
  refine ck_VIp (st := [.int x1, .ref (oT 0), .ref (q 0)]) (rest := [.ref (q 0)]) (As := [.int x1]) (C := RX2) (ci := 2) (ws1 := (fun (u : (Nat → Int32) × (Nat → Int32) × (Nat → Int32) × Int32) => (wB cI cC cK cO q oO oT hh wo (u.1, u.2.1, u.2.2.1, y5, y6, y7, y8, u.2.2.2, y10, y11, y12, y13) hs hp kp fp fr sc sl sp sv sf ss))) ⟨hx, hb, hml, hown, hts⟩ (gE_ok tL tM adK adV) (c_X2_cancel l D cI cC cK cO tL tM adK adV oT y2 y3 y4 y5 y6 y7 y8 y9 y10 y11 y12 y13 x1 K _ h21) (cwV 1 hts gX4_makeVoid_X2_cancel rfl rfl rfl hv_X2_cancel ⟨Nat.le_of_ble_eq_true rfl, Nat.le_of_ble_eq_true rfl⟩) hK hP hD hS hA hE (pm_t _ _ _ _) (fun _ => (pm_t _ _ _ _)) rfl rfl rfl (fun _ => rfl) rfl hl.1 rfl (Nat.le_of_ble_eq_true rfl) dX4_makeVoid_17 ⟨Nat.zero_le _, Nat.zero_le _⟩ (fun r u H locs hw hP hD hS => ?_)
  cases hw
  replace hP : va_P D vwCl (wB cI cC cK cO q oO oT hh wo (y17, y18, y19, y5, y6, y7, y8, y20, y10, y11, y12, y13) hs hp kp fp fr sc sl sp sv sf ss) H := hP
  replace hD : va_D A (wB cI cC cK cO q oO oT hh wo (y17, y18, y19, y5, y6, y7, y8, y20, y10, y11, y12, y13) hs hp kp fp fr sc sl sp sv sf ss) := hD
  obtain ⟨⟨r23, y24, y25, y26, y27⟩, h28, hf⟩ := op_b hf
  refine ck_VIw (st := [.int r16, .ref (q 0)]) (rest := []) (As := [.int r16]) (C := RX4) (ci := 4) ⟨hx, hb, hml, hown, hts⟩ (gE_ok tL tM adK adV) (c_X4_adopt l D cI cC cK cO tL tM adK adV q oO oT hh wo (y17, y18, y19, y5, y6, y7, y8, y20, y10, y11, y12, y13) hs hp kp fp fr sc sl sp sv sf ss r16 _ h28) (cwV 1 hts gX4_makeVoid_X4_adopt rfl rfl rfl hv_X4_adopt ⟨Nat.le_of_ble_eq_true rfl, Nat.le_of_ble_eq_true rfl⟩) hK hP hD hS hA hE rfl rfl rfl (fun _ => rfl) rfl hl.1 rfl (Nat.le_of_ble_eq_true rfl) dX4_makeVoid_20 ⟨Nat.zero_le _, Nat.zero_le _⟩ (fun r u H locs hw hP hD hS => ?_)
  cases hw
  replace hP : va_P D vwCl (wB cI cC cK cO q oO oT hh y24 (y17, y18, y19, y5, y6, y7, y8, y20, y10, y11, y12, y13) y25 y26 y27 fp fr sc sl sp sv sf ss) H := hP
  replace hD : va_D A (wB cI cC cK cO q oO oT hh y24 (y17, y18, y19, y5, y6, y7, y8, y20, y10, y11, y12, y13) y25 y26 y27 fp fr sc sl sp sv sf ss) := hD
  exact hret _ _ _ _ _ (y24, (y17, y18, y19, y5, y6, y7, y8, y20, y10, y11, y12, y13), y25, y26, y27) dX4_makeVoid_23 (op_k hf) hP hS
set_option maxHeartbeats 4000000 in
set_option maxRecDepth 100000 in
theorem c_X4_close (l : Launch) (D : va_G) (cI cC cK cO : ClassId) (tL tM : Nat) (adK adV : Nat → Nat) (q : Nat → Nat) (oO : Nat → Nat) (oT : Nat → Nat) (hh : Nat → Nat → Nat) (wo : OW) (wt : OW) (hs : Nat → OW) (hp : Nat → Nat) (kp : Int32) (fp : Int32) (fr : Int32) (sc : Nat → Int32) (sl : Int32) (sp : Int32) (sv : Int32) (sf : Int32) (ss : Int32) (K : Nat) (R : Int32 × OW × OW × (Nat → OW) × (Nat → Nat) × Int32) (hf : f_X4_close K wo wt hs hp kp = some R) : KI l D (TY cI cC cK cO) (gE tL tM adK adV) yX4_close wsX4_close 6 [.ref (q 0)] (wB cI cC cK cO q oO oT hh wo wt hs hp kp fp fr sc sl sp sv sf ss) (fun (r : Int32) (u : OW × OW × (Nat → OW) × (Nat → Nat) × Int32) => (r, u) = R) (fun u => (wB cI cC cK cO q oO oT hh (u.1) (u.2.1) (u.2.2.1) (u.2.2.2.1) (u.2.2.2.2) fp fr sc sl sp sv sf ss)) := by
  refine KI.ofI (cc := cX4_close) (maxL := 1) (C := RX4) (by decide) rfl rfl (Nat.le_of_ble_eq_true rfl) ?_
  intro p e s m args below meth c A Q hx hb hml hts hown hP hK hD hA hE hS hret ls hl
  replace hl : lv_has ls 1 [(0, .ref (q 0))] := hl
  have w10 := hts (.fieldLink RX4 10 "BlockClerks" "office" "LBlockClerks$Office;") (by decide +kernel)
  have w16 := hts (.fieldLink RX4 16 "BlockClerks" "trial" "LBlockClerks$Office;") (by decide +kernel)
  have iX4 : ∀ w ∈ wsX40, w ∈ wsX4_close := by decide +kernel
  rw [f_X4_close] at hf
  refine lv_aload_n hx hb dX4_close_0 rfl (lv_at hl 0 rfl) ?_
  refine va_get (D := D) (ci := 4) (v := .ref (oT 0)) (C := RX4) (T := TX4) (N := 7) hx hb hts iX4 hown hK hP 0 rfl rfl 1 (by decide) w16 (fun _ h9 => h9) rfl dX4_close_1 ?_
  refine lv_aload_n hx hb dX4_close_4 rfl (lv_at hl 0 rfl) ?_
  refine va_get (D := D) (ci := 4) (v := .ref (oO 0)) (C := RX4) (T := TX4) (N := 7) hx hb hts iX4 hown hK hP 0 rfl rfl 0 (by decide) w10 (fun _ h9 => h9) rfl dX4_close_5 ?_
  obtain ⟨⟨y2, y3, y4, y5, y6, y7, y8, y9, y10, y11, y12, y13⟩, h14, hf⟩ := op_b hf
  refine ck_VVp (st := [.ref (oO 0), .ref (oT 0)]) (rest := []) (As := [.ref (oO 0)]) (C := RX2) (ci := 2) (ws1 := (fun (u : (Nat → Int32) × (Nat → Int32) × (Nat → Int32) × (Nat → Int32) × (Nat → Int32) × (Nat → Int32) × Int32 × Int32 × (Nat → Nat → Int32) × Int32 × (Nat → Int32) × Int32) => (wB cI cC cK cO q oO oT hh wo (u.1, u.2.1, u.2.2.1, u.2.2.2.1, u.2.2.2.2.1, u.2.2.2.2.2.1, u.2.2.2.2.2.2.1, u.2.2.2.2.2.2.2.1, u.2.2.2.2.2.2.2.2.1, u.2.2.2.2.2.2.2.2.2.1, u.2.2.2.2.2.2.2.2.2.2.1, u.2.2.2.2.2.2.2.2.2.2.2) hs hp kp fp fr sc sl sp sv sf ss))) ⟨hx, hb, hml, hown, hts⟩ (gE_ok tL tM adK adV) (c_X2_become l D cI cC cK cO tL tM adK adV oT oO (wt.1) (wt.2.1) (wt.2.2.1) (wt.2.2.2.1) (wt.2.2.2.2.1) (wt.2.2.2.2.2.1) (wt.2.2.2.2.2.2.1) (wt.2.2.2.2.2.2.2.1) (wt.2.2.2.2.2.2.2.2.1) (wt.2.2.2.2.2.2.2.2.2.1) (wt.2.2.2.2.2.2.2.2.2.2.1) (wt.2.2.2.2.2.2.2.2.2.2.2) (wo.1) (wo.2.1) (wo.2.2.1) (wo.2.2.2.1) (wo.2.2.2.2.1) (wo.2.2.2.2.2.1) (wo.2.2.2.2.2.2.1) (wo.2.2.2.2.2.2.2.1) (wo.2.2.2.2.2.2.2.2.1) (wo.2.2.2.2.2.2.2.2.2.1) (wo.2.2.2.2.2.2.2.2.2.2.1) (wo.2.2.2.2.2.2.2.2.2.2.2)  _ h14) (cwV 1 hts gX4_close_X2_become rfl rfl rfl hv_X2_become ⟨Nat.le_of_ble_eq_true rfl, Nat.le_of_ble_eq_true rfl⟩) hK hP hD hS hA hE (pm_ta _ _ _ _) (fun _ => (pm_ta _ _ _ _)) rfl rfl rfl (fun _ => rfl) rfl hl.1 rfl (Nat.le_of_ble_eq_true rfl) dX4_close_8 ⟨Nat.zero_le _, Nat.zero_le _⟩ (fun u H locs hw hP hD hS => ?_)
  cases hw
  replace hP : va_P D vwCl (wB cI cC cK cO q oO oT hh wo (y2, y3, y4, y5, y6, y7, y8, y9, y10, y11, y12, y13) hs hp kp fp fr sc sl sp sv sf ss) H := hP
  replace hD : va_D A (wB cI cC cK cO q oO oT hh wo (y2, y3, y4, y5, y6, y7, y8, y9, y10, y11, y12, y13) hs hp kp fp fr sc sl sp sv sf ss) := hD
  refine lv_aload_n hx hb dX4_close_11 rfl (lv_at hl 0 rfl) ?_
  refine lv_aload_n hx hb dX4_close_12 rfl (lv_at hl 0 rfl) ?_
  refine va_get (D := D) (ci := 4) (v := .ref (oT 0)) (C := RX4) (T := TX4) (N := 7) hx hb hts iX4 hown hK hP 0 rfl rfl 1 (by decide) w16 (fun _ h9 => h9) rfl dX4_close_13 ?_
  obtain ⟨⟨r16, y17, y18, y19, y20, y21, y22⟩, h23, hf⟩ := op_b hf
  refine ck_VIp (st := [.ref (oT 0), .ref (q 0)]) (rest := [.ref (q 0)]) (As := []) (C := RX2) (ci := 2) (ws1 := (fun (u : (Nat → Int32) × (Nat → Int32) × (Nat → Int32) × Int32 × (Nat → Nat → Int32) × Int32) => (wB cI cC cK cO q oO oT hh wo (u.1, u.2.1, u.2.2.1, y5, y6, y7, y8, u.2.2.2.1, u.2.2.2.2.1, y11, y12, u.2.2.2.2.2) hs hp kp fp fr sc sl sp sv sf ss))) ⟨hx, hb, hml, hown, hts⟩ (gE_ok tL tM adK adV) (c_X2_endDay l D cI cC cK cO tL tM adK adV oT y2 y3 y4 y5 y6 y7 y8 y9 y10 y11 y12 y13  K _ h23) (cwV 0 hts gX4_close_X2_endDay rfl rfl rfl hv_X2_endDay ⟨Nat.le_of_ble_eq_true rfl, Nat.le_of_ble_eq_true rfl⟩) hK hP hD hS hA hE (pm_t _ _ _ _) (fun _ => (pm_t _ _ _ _)) rfl rfl rfl (fun _ => rfl) rfl hl.1 rfl (Nat.le_of_ble_eq_true rfl) dX4_close_16 ⟨Nat.zero_le _, Nat.zero_le _⟩ (fun r u H locs hw hP hD hS => ?_)
  cases hw
  replace hP : va_P D vwCl (wB cI cC cK cO q oO oT hh wo (y17, y18, y19, y5, y6, y7, y8, y20, y21, y11, y12, y22) hs hp kp fp fr sc sl sp sv sf ss) H := hP
  replace hD : va_D A (wB cI cC cK cO q oO oT hh wo (y17, y18, y19, y5, y6, y7, y8, y20, y21, y11, y12, y22) hs hp kp fp fr sc sl sp sv sf ss) := hD
  obtain ⟨⟨r25, y26, y27, y28, y29⟩, h30, hf⟩ := op_b hf
  refine ck_VIw (st := [.int r16, .ref (q 0)]) (rest := []) (As := [.int r16]) (C := RX4) (ci := 4) ⟨hx, hb, hml, hown, hts⟩ (gE_ok tL tM adK adV) (c_X4_adopt l D cI cC cK cO tL tM adK adV q oO oT hh wo (y17, y18, y19, y5, y6, y7, y8, y20, y21, y11, y12, y22) hs hp kp fp fr sc sl sp sv sf ss r16 _ h30) (cwV 1 hts gX4_close_X4_adopt rfl rfl rfl hv_X4_adopt ⟨Nat.le_of_ble_eq_true rfl, Nat.le_of_ble_eq_true rfl⟩) hK hP hD hS hA hE rfl rfl rfl (fun _ => rfl) rfl hl.1 rfl (Nat.le_of_ble_eq_true rfl) dX4_close_19 ⟨Nat.zero_le _, Nat.zero_le _⟩ (fun r u H locs hw hP hD hS => ?_)
  cases hw
  replace hP : va_P D vwCl (wB cI cC cK cO q oO oT hh y26 (y17, y18, y19, y5, y6, y7, y8, y20, y21, y11, y12, y22) y27 y28 y29 fp fr sc sl sp sv sf ss) H := hP
  replace hD : va_D A (wB cI cC cK cO q oO oT hh y26 (y17, y18, y19, y5, y6, y7, y8, y20, y21, y11, y12, y22) y27 y28 y29 fp fr sc sl sp sv sf ss) := hD
  exact hret _ _ _ _ _ (y26, (y17, y18, y19, y5, y6, y7, y8, y20, y21, y11, y12, y22), y27, y28, y29) dX4_close_22 (op_k hf) hP hS
set_option maxHeartbeats 4000000 in
set_option maxRecDepth 100000 in
theorem c_X4_set (l : Launch) (D : va_G) (cI cC cK cO : ClassId) (tL tM : Nat) (adK adV : Nat → Nat) (q : Nat → Nat) (oO : Nat → Nat) (oT : Nat → Nat) (hh : Nat → Nat → Nat) (wo : OW) (wt : OW) (hs : Nat → OW) (hp : Nat → Nat) (kp : Int32) (fp : Int32) (fr : Int32) (sc : Nat → Int32) (sl : Int32) (sp : Int32) (sv : Int32) (sf : Int32) (ss : Int32) (x1 : Int32) (x2 : Int32) (R : Int32 × OW × OW × (Nat → OW) × (Nat → Nat) × Int32) (hf : f_X4_set wo wt hs hp kp x1 x2 = some R) : KI l D (TY cI cC cK cO) (gE tL tM adK adV) yX4_set wsX4_set 6 [.ref (q 0), .int x1, .int x2] (wB cI cC cK cO q oO oT hh wo wt hs hp kp fp fr sc sl sp sv sf ss) (fun (r : Int32) (u : OW × OW × (Nat → OW) × (Nat → Nat) × Int32) => (r, u) = R) (fun u => (wB cI cC cK cO q oO oT hh (u.1) (u.2.1) (u.2.2.1) (u.2.2.2.1) (u.2.2.2.2) fp fr sc sl sp sv sf ss)) := by
  refine KI.ofI (cc := cX4_set) (maxL := 3) (C := RX4) (by decide) rfl rfl (Nat.le_of_ble_eq_true rfl) ?_
  intro p e s m args below meth c A Q hx hb hml hts hown hP hK hD hA hE hS hret ls hl
  replace hl : lv_has ls 3 [(0, .ref (q 0)), (1, .int x1), (2, .int x2)] := hl
  have w10 := hts (.fieldLink RX4 10 "BlockClerks" "office" "LBlockClerks$Office;") (by decide +kernel)
  have w16 := hts (.fieldLink RX4 16 "BlockClerks" "trial" "LBlockClerks$Office;") (by decide +kernel)
  have iX4 : ∀ w ∈ wsX40, w ∈ wsX4_set := by decide +kernel
  rw [f_X4_set] at hf
  refine lv_aload_n hx hb dX4_set_0 rfl (lv_at hl 0 rfl) ?_
  refine va_get (D := D) (ci := 4) (v := .ref (oT 0)) (C := RX4) (T := TX4) (N := 7) hx hb hts iX4 hown hK hP 0 rfl rfl 1 (by decide) w16 (fun _ h9 => h9) rfl dX4_set_1 ?_
  refine lv_aload_n hx hb dX4_set_4 rfl (lv_at hl 0 rfl) ?_
  refine va_get (D := D) (ci := 4) (v := .ref (oO 0)) (C := RX4) (T := TX4) (N := 7) hx hb hts iX4 hown hK hP 0 rfl rfl 0 (by decide) w10 (fun _ h9 => h9) rfl dX4_set_5 ?_
  obtain ⟨⟨y2, y3, y4, y5, y6, y7, y8, y9, y10, y11, y12, y13⟩, h14, hf⟩ := op_b hf
  refine ck_VVp (st := [.ref (oO 0), .ref (oT 0)]) (rest := []) (As := [.ref (oO 0)]) (C := RX2) (ci := 2) (ws1 := (fun (u : (Nat → Int32) × (Nat → Int32) × (Nat → Int32) × (Nat → Int32) × (Nat → Int32) × (Nat → Int32) × Int32 × Int32 × (Nat → Nat → Int32) × Int32 × (Nat → Int32) × Int32) => (wB cI cC cK cO q oO oT hh wo (u.1, u.2.1, u.2.2.1, u.2.2.2.1, u.2.2.2.2.1, u.2.2.2.2.2.1, u.2.2.2.2.2.2.1, u.2.2.2.2.2.2.2.1, u.2.2.2.2.2.2.2.2.1, u.2.2.2.2.2.2.2.2.2.1, u.2.2.2.2.2.2.2.2.2.2.1, u.2.2.2.2.2.2.2.2.2.2.2) hs hp kp fp fr sc sl sp sv sf ss))) ⟨hx, hb, hml, hown, hts⟩ (gE_ok tL tM adK adV) (c_X2_become l D cI cC cK cO tL tM adK adV oT oO (wt.1) (wt.2.1) (wt.2.2.1) (wt.2.2.2.1) (wt.2.2.2.2.1) (wt.2.2.2.2.2.1) (wt.2.2.2.2.2.2.1) (wt.2.2.2.2.2.2.2.1) (wt.2.2.2.2.2.2.2.2.1) (wt.2.2.2.2.2.2.2.2.2.1) (wt.2.2.2.2.2.2.2.2.2.2.1) (wt.2.2.2.2.2.2.2.2.2.2.2) (wo.1) (wo.2.1) (wo.2.2.1) (wo.2.2.2.1) (wo.2.2.2.2.1) (wo.2.2.2.2.2.1) (wo.2.2.2.2.2.2.1) (wo.2.2.2.2.2.2.2.1) (wo.2.2.2.2.2.2.2.2.1) (wo.2.2.2.2.2.2.2.2.2.1) (wo.2.2.2.2.2.2.2.2.2.2.1) (wo.2.2.2.2.2.2.2.2.2.2.2)  _ h14) (cwV 1 hts gX4_set_X2_become rfl rfl rfl hv_X2_become ⟨Nat.le_of_ble_eq_true rfl, Nat.le_of_ble_eq_true rfl⟩) hK hP hD hS hA hE (pm_ta _ _ _ _) (fun _ => (pm_ta _ _ _ _)) rfl rfl rfl (fun _ => rfl) rfl hl.1 rfl (Nat.le_of_ble_eq_true rfl) dX4_set_8 ⟨Nat.zero_le _, Nat.zero_le _⟩ (fun u H locs hw hP hD hS => ?_)
  cases hw
  replace hP : va_P D vwCl (wB cI cC cK cO q oO oT hh wo (y2, y3, y4, y5, y6, y7, y8, y9, y10, y11, y12, y13) hs hp kp fp fr sc sl sp sv sf ss) H := hP
  replace hD : va_D A (wB cI cC cK cO q oO oT hh wo (y2, y3, y4, y5, y6, y7, y8, y9, y10, y11, y12, y13) hs hp kp fp fr sc sl sp sv sf ss) := hD
  refine lv_aload_n hx hb dX4_set_11 rfl (lv_at hl 0 rfl) ?_
  refine lv_aload_n hx hb dX4_set_12 rfl (lv_at hl 0 rfl) ?_
  refine va_get (D := D) (ci := 4) (v := .ref (oT 0)) (C := RX4) (T := TX4) (N := 7) hx hb hts iX4 hown hK hP 0 rfl rfl 1 (by decide) w16 (fun _ h9 => h9) rfl dX4_set_13 ?_
  refine lv_iload_n hx hb dX4_set_16 rfl (lv_at hl 1 rfl) ?_
  refine lv_iload_n hx hb dX4_set_17 rfl (lv_at hl 2 rfl) ?_
  obtain ⟨⟨r16, y17⟩, h18, hf⟩ := op_b hf
  refine ck_VIp (st := [.int x2, .int x1, .ref (oT 0), .ref (q 0)]) (rest := [.ref (q 0)]) (As := [.int x1, .int x2]) (C := RX2) (ci := 2) (ws1 := (fun (u : (Nat → Int32)) => (wB cI cC cK cO q oO oT hh wo (y2, y3, y4, y5, y6, y7, y8, y9, y10, y11, u, y13) hs hp kp fp fr sc sl sp sv sf ss))) ⟨hx, hb, hml, hown, hts⟩ (gE_ok tL tM adK adV) (c_X2_change l D cI cC cK cO tL tM adK adV oT y2 y3 y4 y5 y6 y7 y8 y9 y10 y11 y12 y13 x1 x2 _ h18) (cwV 2 hts gX4_set_X2_change rfl rfl rfl hv_X2_change ⟨Nat.le_of_ble_eq_true rfl, Nat.le_of_ble_eq_true rfl⟩) hK hP hD hS hA hE (pm_t _ _ _ _) (fun _ => (pm_t _ _ _ _)) rfl rfl rfl (fun _ => rfl) rfl hl.1 rfl (Nat.le_of_ble_eq_true rfl) dX4_set_18 ⟨Nat.zero_le _, Nat.zero_le _⟩ (fun r u H locs hw hP hD hS => ?_)
  cases hw
  replace hP : va_P D vwCl (wB cI cC cK cO q oO oT hh wo (y2, y3, y4, y5, y6, y7, y8, y9, y10, y11, y17, y13) hs hp kp fp fr sc sl sp sv sf ss) H := hP
  replace hD : va_D A (wB cI cC cK cO q oO oT hh wo (y2, y3, y4, y5, y6, y7, y8, y9, y10, y11, y17, y13) hs hp kp fp fr sc sl sp sv sf ss) := hD
  obtain ⟨⟨r20, y21, y22, y23, y24⟩, h25, hf⟩ := op_b hf
  refine ck_VIw (st := [.int r16, .ref (q 0)]) (rest := []) (As := [.int r16]) (C := RX4) (ci := 4) ⟨hx, hb, hml, hown, hts⟩ (gE_ok tL tM adK adV) (c_X4_adopt l D cI cC cK cO tL tM adK adV q oO oT hh wo (y2, y3, y4, y5, y6, y7, y8, y9, y10, y11, y17, y13) hs hp kp fp fr sc sl sp sv sf ss r16 _ h25) (cwV 1 hts gX4_set_X4_adopt rfl rfl rfl hv_X4_adopt ⟨Nat.le_of_ble_eq_true rfl, Nat.le_of_ble_eq_true rfl⟩) hK hP hD hS hA hE rfl rfl rfl (fun _ => rfl) rfl hl.1 rfl (Nat.le_of_ble_eq_true rfl) dX4_set_21 ⟨Nat.zero_le _, Nat.zero_le _⟩ (fun r u H locs hw hP hD hS => ?_)
  cases hw
  replace hP : va_P D vwCl (wB cI cC cK cO q oO oT hh y21 (y2, y3, y4, y5, y6, y7, y8, y9, y10, y11, y17, y13) y22 y23 y24 fp fr sc sl sp sv sf ss) H := hP
  replace hD : va_D A (wB cI cC cK cO q oO oT hh y21 (y2, y3, y4, y5, y6, y7, y8, y9, y10, y11, y17, y13) y22 y23 y24 fp fr sc sl sp sv sf ss) := hD
  exact hret _ _ _ _ _ (y21, (y2, y3, y4, y5, y6, y7, y8, y9, y10, y11, y17, y13), y22, y23, y24) dX4_set_24 (op_k hf) hP hS
set_option maxHeartbeats 4000000 in
set_option maxRecDepth 100000 in
theorem c_X4_numberOf (l : Launch) (D : va_G) (cI cC cK cO : ClassId) (tL tM : Nat) (adK adV : Nat → Nat) (q : Nat → Nat) (oO : Nat → Nat) (oT : Nat → Nat) (hh : Nat → Nat → Nat) (wo : OW) (wt : OW) (hs : Nat → OW) (hp : Nat → Nat) (kp : Int32) (fp : Int32) (fr : Int32) (sc : Nat → Int32) (sl : Int32) (sp : Int32) (sv : Int32) (sf : Int32) (ss : Int32) (x1 : Int32) (x2 : Int32) (K : Nat) (R : Int32) (hf : f_X4_numberOf K wo x1 x2 = some R) : KI l D (TY cI cC cK cO) (gE tL tM adK adV) yX4_numberOf wsX4_numberOf 3 [.ref (q 0), .int x1, .int x2] (wB cI cC cK cO q oO oT hh wo wt hs hp kp fp fr sc sl sp sv sf ss) (fun (r : Int32) (u : Unit) => r = R) (fun u => (wB cI cC cK cO q oO oT hh wo wt hs hp kp fp fr sc sl sp sv sf ss)) := by
  refine KI.ofI (cc := cX4_numberOf) (maxL := 3) (C := RX4) (by decide) rfl rfl (Nat.le_of_ble_eq_true rfl) ?_
  intro p e s m args below meth c A Q hx hb hml hts hown hP hK hD hA hE hS hret ls hl
  replace hl : lv_has ls 3 [(0, .ref (q 0)), (1, .int x1), (2, .int x2)] := hl
  have w10 := hts (.fieldLink RX4 10 "BlockClerks" "office" "LBlockClerks$Office;") (by decide +kernel)
  have w71 := hts (.fieldLink RX4 71 "BlockClerks$Office" "numbers" "LBlockClerks$Numbers;") (by decide +kernel)
  have iX2 : ∀ w ∈ wsX20, w ∈ wsX4_numberOf := by decide +kernel
  have iX4 : ∀ w ∈ wsX40, w ∈ wsX4_numberOf := by decide +kernel
  rw [f_X4_numberOf] at hf
  refine lv_aload_n hx hb dX4_numberOf_0 rfl (lv_at hl 0 rfl) ?_
  refine va_get (D := D) (ci := 4) (v := .ref (oO 0)) (C := RX4) (T := TX4) (N := 7) hx hb hts iX4 hown hK hP 0 rfl rfl 0 (by decide) w10 (fun _ h9 => h9) rfl dX4_numberOf_1 ?_
  refine va_get (D := D) (ci := 2) (v := .ref (oO 1)) (C := RX2) (T := TX2) (N := 5) hx hb hts iX2 hown hK hP 4 rfl rfl 0 (by decide) w71 (fun _ h9 => h9) rfl dX4_numberOf_4 ?_
  refine lv_iload_n hx hb dX4_numberOf_7 rfl (lv_at hl 1 rfl) ?_
  refine lv_iload_n hx hb dX4_numberOf_8 rfl (lv_at hl 2 rfl) ?_
  obtain ⟨r1, h2, hf⟩ := op_b hf
  refine ck_VI (st := [.int x2, .int x1, .ref (oO 1)]) (rest := []) (As := [.int x1, .int x2]) (C := RX1) (ci := 1) ⟨hx, hb, hml, hown, hts⟩ (gE_ok tL tM adK adV) (c_X1_tell l D cI cC cK cO tL tM adK adV (oO 1) (oO 2) (oO 3) (oO 4) (oO 5) (oO 6) (oO 7) (wo.1) (wo.2.1) (wo.2.2.1) (wo.2.2.2.1) (wo.2.2.2.2.1) (wo.2.2.2.2.2.1) (wo.2.2.2.2.2.2.1) (wo.2.2.2.2.2.2.2.1) x1 x2 K _ h2) (cwV 2 hts gX4_numberOf_X1_tell rfl rfl rfl hv_X1_tell ⟨Nat.le_of_ble_eq_true rfl, Nat.le_of_ble_eq_true rfl⟩) hK hP hD hS hA hE [5, 6, 7, 8, 9, 10, 11] rfl rfl rfl rfl rfl (fun _ => rfl) rfl hl.1 rfl (Nat.le_of_ble_eq_true rfl) dX4_numberOf_9 ⟨Nat.zero_le _, Nat.zero_le _⟩ (fun r u H locs hw hP hD hS => ?_)
  cases hw
  replace hP : va_P D vwCl (wB cI cC cK cO q oO oT hh wo wt hs hp kp fp fr sc sl sp sv sf ss) H := hP
  replace hD : va_D A (wB cI cC cK cO q oO oT hh wo wt hs hp kp fp fr sc sl sp sv sf ss) := hD
  exact hret _ _ _ _ _ () dX4_numberOf_12 (op_k hf) hP hS
set_option maxHeartbeats 4000000 in
set_option maxRecDepth 100000 in
theorem c_X4_clerkOf (l : Launch) (D : va_G) (cI cC cK cO : ClassId) (tL tM : Nat) (adK adV : Nat → Nat) (q : Nat → Nat) (oO : Nat → Nat) (oT : Nat → Nat) (hh : Nat → Nat → Nat) (wo : OW) (wt : OW) (hs : Nat → OW) (hp : Nat → Nat) (kp : Int32) (fp : Int32) (fr : Int32) (sc : Nat → Int32) (sl : Int32) (sp : Int32) (sv : Int32) (sf : Int32) (ss : Int32) (x1 : Int32) (x2 : Int32) (K : Nat) (R : Int32) (hf : f_X4_clerkOf K wo x1 x2 = some R) : KI l D (TY cI cC cK cO) (gE tL tM adK adV) yX4_clerkOf wsX4_clerkOf 2 [.ref (q 0), .int x1, .int x2] (wB cI cC cK cO q oO oT hh wo wt hs hp kp fp fr sc sl sp sv sf ss) (fun (r : Int32) (u : Unit) => r = R) (fun u => (wB cI cC cK cO q oO oT hh wo wt hs hp kp fp fr sc sl sp sv sf ss)) := by
  refine KI.ofI (cc := cX4_clerkOf) (maxL := 3) (C := RX4) (by decide) rfl rfl (Nat.le_of_ble_eq_true rfl) ?_
  intro p e s m args below meth c A Q hx hb hml hts hown hP hK hD hA hE hS hret ls hl
  replace hl : lv_has ls 3 [(0, .ref (q 0)), (1, .int x1), (2, .int x2)] := hl
  have w10 := hts (.fieldLink RX4 10 "BlockClerks" "office" "LBlockClerks$Office;") (by decide +kernel)
  have iX4 : ∀ w ∈ wsX40, w ∈ wsX4_clerkOf := by decide +kernel
  rw [f_X4_clerkOf] at hf
  refine lv_aload_n hx hb dX4_clerkOf_0 rfl (lv_at hl 0 rfl) ?_
  refine va_get (D := D) (ci := 4) (v := .ref (oO 0)) (C := RX4) (T := TX4) (N := 7) hx hb hts iX4 hown hK hP 0 rfl rfl 0 (by decide) w10 (fun _ h9 => h9) rfl dX4_clerkOf_1 ?_
  refine lv_iload_n hx hb dX4_clerkOf_4 rfl (lv_at hl 1 rfl) ?_
  refine lv_iload_n hx hb dX4_clerkOf_5 rfl (lv_at hl 2 rfl) ?_
  obtain ⟨r1, h2, hf⟩ := op_b hf
  refine ck_VIp (st := [.int x2, .int x1, .ref (oO 0)]) (rest := []) (As := [.int x1, .int x2]) (C := RX2) (ci := 2) (ws1 := (fun (u : Unit) => (wB cI cC cK cO q oO oT hh wo wt hs hp kp fp fr sc sl sp sv sf ss))) ⟨hx, hb, hml, hown, hts⟩ (gE_ok tL tM adK adV) (c_X2_tellOfClerk l D cI cC cK cO tL tM adK adV oO (wo.1) (wo.2.1) (wo.2.2.1) (wo.2.2.2.1) (wo.2.2.2.2.1) (wo.2.2.2.2.2.1) (wo.2.2.2.2.2.2.1) (wo.2.2.2.2.2.2.2.1) (wo.2.2.2.2.2.2.2.2.1) (wo.2.2.2.2.2.2.2.2.2.1) (wo.2.2.2.2.2.2.2.2.2.2.1) (wo.2.2.2.2.2.2.2.2.2.2.2) x1 x2 K _ h2) (cwV 2 hts gX4_clerkOf_X2_tellOfClerk rfl rfl rfl hv_X2_tellOfClerk ⟨Nat.le_of_ble_eq_true rfl, Nat.le_of_ble_eq_true rfl⟩) hK hP hD hS hA hE (pm_a _ _ _) (fun _ => (pm_a _ _ _)) rfl rfl rfl (fun _ => rfl) rfl hl.1 rfl (Nat.le_of_ble_eq_true rfl) dX4_clerkOf_6 ⟨Nat.zero_le _, Nat.zero_le _⟩ (fun r u H locs hw hP hD hS => ?_)
  cases hw
  replace hP : va_P D vwCl (wB cI cC cK cO q oO oT hh wo wt hs hp kp fp fr sc sl sp sv sf ss) H := hP
  replace hD : va_D A (wB cI cC cK cO q oO oT hh wo wt hs hp kp fp fr sc sl sp sv sf ss) := hD
  exact hret _ _ _ _ _ () dX4_clerkOf_9 (op_k hf) hP hS
set_option maxHeartbeats 4000000 in
set_option maxRecDepth 100000 in
theorem c_X4_holesAt (l : Launch) (D : va_G) (cI cC cK cO : ClassId) (tL tM : Nat) (adK adV : Nat → Nat) (q : Nat → Nat) (oO : Nat → Nat) (oT : Nat → Nat) (hh : Nat → Nat → Nat) (wo : OW) (wt : OW) (hs : Nat → OW) (hp : Nat → Nat) (kp : Int32) (fp : Int32) (fr : Int32) (sc : Nat → Int32) (sl : Int32) (sp : Int32) (sv : Int32) (sf : Int32) (ss : Int32) (x1 : Int32) (x2 : Int32) (K : Nat) (R : Int32) (hf : f_X4_holesAt K wo x1 x2 = some R) : KI l D (TY cI cC cK cO) (gE tL tM adK adV) yX4_holesAt wsX4_holesAt 4 [.ref (q 0), .int x1, .int x2] (wB cI cC cK cO q oO oT hh wo wt hs hp kp fp fr sc sl sp sv sf ss) (fun (r : Int32) (u : Unit) => r = R) (fun u => (wB cI cC cK cO q oO oT hh wo wt hs hp kp fp fr sc sl sp sv sf ss)) := by
  refine KI.ofI (cc := cX4_holesAt) (maxL := 3) (C := RX4) (by decide) rfl rfl (Nat.le_of_ble_eq_true rfl) ?_
  intro p e s m args below meth c A Q hx hb hml hts hown hP hK hD hA hE hS hret ls hl
  replace hl : lv_has ls 3 [(0, .ref (q 0)), (1, .int x1), (2, .int x2)] := hl
  have w10 := hts (.fieldLink RX4 10 "BlockClerks" "office" "LBlockClerks$Office;") (by decide +kernel)
  have w71 := hts (.fieldLink RX4 71 "BlockClerks$Office" "numbers" "LBlockClerks$Numbers;") (by decide +kernel)
  have iX2 : ∀ w ∈ wsX20, w ∈ wsX4_holesAt := by decide +kernel
  have iX4 : ∀ w ∈ wsX40, w ∈ wsX4_holesAt := by decide +kernel
  rw [f_X4_holesAt] at hf
  refine lv_iload_n hx hb dX4_holesAt_0 rfl (lv_at hl 1 rfl) ?_
  refine lv_if_lt (tgt := 13) hx hb dX4_holesAt_1 (by decide) (fun c1 => ?_) (fun c1 => ?_)
  · replace hf := op_t c1 hf
    refine lv_iconst (v := (-1)) hx hb dX4_holesAt_13 (by decide) ?_
    exact hret _ _ _ _ _ () dX4_holesAt_14 (op_k hf) hP hS
  · replace hf := op_f c1 hf
    refine lv_iload_n hx hb dX4_holesAt_4 rfl (lv_at hl 2 rfl) ?_
    refine lv_if_lt (tgt := 13) hx hb dX4_holesAt_5 (by decide) (fun c2 => ?_) (fun c2 => ?_)
    · replace hf := op_t c2 hf
      refine lv_iconst (v := (-1)) hx hb dX4_holesAt_13 (by decide) ?_
      exact hret _ _ _ _ _ () dX4_holesAt_14 (op_k hf) hP hS
    · replace hf := op_f c2 hf
      refine lv_iload_n hx hb dX4_holesAt_8 rfl (lv_at hl 2 rfl) ?_
      refine lv_iconst (v := 3) hx hb dX4_holesAt_9 (by decide) ?_
      refine lv_icmp_le (tgt := 15) hx hb dX4_holesAt_10 (by decide) (fun c3 => ?_) (fun c3 => ?_)
      · replace hf := op_t c3 hf
        refine lv_aload_n hx hb dX4_holesAt_15 rfl (lv_at hl 0 rfl) ?_
        refine va_get (D := D) (ci := 4) (v := .ref (oO 0)) (C := RX4) (T := TX4) (N := 7) hx hb hts iX4 hown hK hP 0 rfl rfl 0 (by decide) w10 (fun _ h9 => h9) rfl dX4_holesAt_16 ?_
        refine va_get (D := D) (ci := 2) (v := .ref (oO 1)) (C := RX2) (T := TX2) (N := 5) hx hb hts iX2 hown hK hP 4 rfl rfl 0 (by decide) w71 (fun _ h9 => h9) rfl dX4_holesAt_19 ?_
        refine lv_iconst (v := 4) hx hb dX4_holesAt_22 (by decide) ?_
        refine lv_iload_n hx hb dX4_holesAt_23 rfl (lv_at hl 1 rfl) ?_
        refine lv_iload_n hx hb dX4_holesAt_24 rfl (lv_at hl 2 rfl) ?_
        obtain ⟨r4, h5, hf⟩ := op_b hf
        refine ck_VI (st := [.int x2, .int x1, .int 4, .ref (oO 1)]) (rest := []) (As := [.int 4, .int x1, .int x2]) (C := RX1) (ci := 1) ⟨hx, hb, hml, hown, hts⟩ (gE_ok tL tM adK adV) (c_X1_tellOfRow l D cI cC cK cO tL tM adK adV (oO 1) (oO 2) (oO 3) (oO 4) (oO 5) (oO 6) (oO 7) (wo.1) (wo.2.1) (wo.2.2.1) (wo.2.2.2.1) (wo.2.2.2.2.1) (wo.2.2.2.2.2.1) (wo.2.2.2.2.2.2.1) (wo.2.2.2.2.2.2.2.1) 4 x1 x2 K _ h5) (cwV 3 hts gX4_holesAt_X1_tellOfRow rfl rfl rfl hv_X1_tellOfRow ⟨Nat.le_of_ble_eq_true rfl, Nat.le_of_ble_eq_true rfl⟩) hK hP hD hS hA hE [5, 6, 7, 8, 9, 10, 11] rfl rfl rfl rfl rfl (fun _ => rfl) rfl hl.1 rfl (Nat.le_of_ble_eq_true rfl) dX4_holesAt_25 ⟨Nat.zero_le _, Nat.zero_le _⟩ (fun r u H locs hw hP hD hS => ?_)
        cases hw
        replace hP : va_P D vwCl (wB cI cC cK cO q oO oT hh wo wt hs hp kp fp fr sc sl sp sv sf ss) H := hP
        replace hD : va_D A (wB cI cC cK cO q oO oT hh wo wt hs hp kp fp fr sc sl sp sv sf ss) := hD
        exact hret _ _ _ _ _ () dX4_holesAt_28 (op_k hf) hP hS
      · replace hf := op_f c3 hf
        refine lv_iconst (v := (-1)) hx hb dX4_holesAt_13 (by decide) ?_
        exact hret _ _ _ _ _ () dX4_holesAt_14 (op_k hf) hP hS
set_option maxHeartbeats 4000000 in
set_option maxRecDepth 100000 in
theorem c_X4_freeAt (l : Launch) (D : va_G) (cI cC cK cO : ClassId) (tL tM : Nat) (adK adV : Nat → Nat) (q : Nat → Nat) (oO : Nat → Nat) (oT : Nat → Nat) (hh : Nat → Nat → Nat) (wo : OW) (wt : OW) (hs : Nat → OW) (hp : Nat → Nat) (kp : Int32) (fp : Int32) (fr : Int32) (sc : Nat → Int32) (sl : Int32) (sp : Int32) (sv : Int32) (sf : Int32) (ss : Int32) (x1 : Int32) (x2 : Int32) (K : Nat) (R : Int32) (hf : f_X4_freeAt K wo x1 x2 = some R) : KI l D (TY cI cC cK cO) (gE tL tM adK adV) yX4_freeAt wsX4_freeAt 4 [.ref (q 0), .int x1, .int x2] (wB cI cC cK cO q oO oT hh wo wt hs hp kp fp fr sc sl sp sv sf ss) (fun (r : Int32) (u : Unit) => r = R) (fun u => (wB cI cC cK cO q oO oT hh wo wt hs hp kp fp fr sc sl sp sv sf ss)) := by
  refine KI.ofI (cc := cX4_freeAt) (maxL := 3) (C := RX4) (by decide) rfl rfl (Nat.le_of_ble_eq_true rfl) ?_
  intro p e s m args below meth c A Q hx hb hml hts hown hP hK hD hA hE hS hret ls hl
  replace hl : lv_has ls 3 [(0, .ref (q 0)), (1, .int x1), (2, .int x2)] := hl
  have w10 := hts (.fieldLink RX4 10 "BlockClerks" "office" "LBlockClerks$Office;") (by decide +kernel)
  have w71 := hts (.fieldLink RX4 71 "BlockClerks$Office" "numbers" "LBlockClerks$Numbers;") (by decide +kernel)
  have iX2 : ∀ w ∈ wsX20, w ∈ wsX4_freeAt := by decide +kernel
  have iX4 : ∀ w ∈ wsX40, w ∈ wsX4_freeAt := by decide +kernel
  rw [f_X4_freeAt] at hf
  refine lv_iload_n hx hb dX4_freeAt_0 rfl (lv_at hl 1 rfl) ?_
  refine lv_if_lt (tgt := 13) hx hb dX4_freeAt_1 (by decide) (fun c1 => ?_) (fun c1 => ?_)
  · replace hf := op_t c1 hf
    refine lv_iconst (v := (-1)) hx hb dX4_freeAt_13 (by decide) ?_
    exact hret _ _ _ _ _ () dX4_freeAt_14 (op_k hf) hP hS
  · replace hf := op_f c1 hf
    refine lv_iload_n hx hb dX4_freeAt_4 rfl (lv_at hl 2 rfl) ?_
    refine lv_if_lt (tgt := 13) hx hb dX4_freeAt_5 (by decide) (fun c2 => ?_) (fun c2 => ?_)
    · replace hf := op_t c2 hf
      refine lv_iconst (v := (-1)) hx hb dX4_freeAt_13 (by decide) ?_
      exact hret _ _ _ _ _ () dX4_freeAt_14 (op_k hf) hP hS
    · replace hf := op_f c2 hf
      refine lv_iload_n hx hb dX4_freeAt_8 rfl (lv_at hl 2 rfl) ?_
      refine lv_iconst (v := 1) hx hb dX4_freeAt_9 (by decide) ?_
      refine lv_icmp_le (tgt := 15) hx hb dX4_freeAt_10 (by decide) (fun c3 => ?_) (fun c3 => ?_)
      · replace hf := op_t c3 hf
        refine lv_aload_n hx hb dX4_freeAt_15 rfl (lv_at hl 0 rfl) ?_
        refine va_get (D := D) (ci := 4) (v := .ref (oO 0)) (C := RX4) (T := TX4) (N := 7) hx hb hts iX4 hown hK hP 0 rfl rfl 0 (by decide) w10 (fun _ h9 => h9) rfl dX4_freeAt_16 ?_
        refine va_get (D := D) (ci := 2) (v := .ref (oO 1)) (C := RX2) (T := TX2) (N := 5) hx hb hts iX2 hown hK hP 4 rfl rfl 0 (by decide) w71 (fun _ h9 => h9) rfl dX4_freeAt_19 ?_
        refine lv_iconst (v := 3) hx hb dX4_freeAt_22 (by decide) ?_
        refine lv_iload_n hx hb dX4_freeAt_23 rfl (lv_at hl 1 rfl) ?_
        refine lv_iload_n hx hb dX4_freeAt_24 rfl (lv_at hl 2 rfl) ?_
        obtain ⟨r4, h5, hf⟩ := op_b hf
        refine ck_VI (st := [.int x2, .int x1, .int 3, .ref (oO 1)]) (rest := []) (As := [.int 3, .int x1, .int x2]) (C := RX1) (ci := 1) ⟨hx, hb, hml, hown, hts⟩ (gE_ok tL tM adK adV) (c_X1_tellOfRow l D cI cC cK cO tL tM adK adV (oO 1) (oO 2) (oO 3) (oO 4) (oO 5) (oO 6) (oO 7) (wo.1) (wo.2.1) (wo.2.2.1) (wo.2.2.2.1) (wo.2.2.2.2.1) (wo.2.2.2.2.2.1) (wo.2.2.2.2.2.2.1) (wo.2.2.2.2.2.2.2.1) 3 x1 x2 K _ h5) (cwV 3 hts gX4_freeAt_X1_tellOfRow rfl rfl rfl hv_X1_tellOfRow ⟨Nat.le_of_ble_eq_true rfl, Nat.le_of_ble_eq_true rfl⟩) hK hP hD hS hA hE [5, 6, 7, 8, 9, 10, 11] rfl rfl rfl rfl rfl (fun _ => rfl) rfl hl.1 rfl (Nat.le_of_ble_eq_true rfl) dX4_freeAt_25 ⟨Nat.zero_le _, Nat.zero_le _⟩ (fun r u H locs hw hP hD hS => ?_)
        cases hw
        replace hP : va_P D vwCl (wB cI cC cK cO q oO oT hh wo wt hs hp kp fp fr sc sl sp sv sf ss) H := hP
        replace hD : va_D A (wB cI cC cK cO q oO oT hh wo wt hs hp kp fp fr sc sl sp sv sf ss) := hD
        exact hret _ _ _ _ _ () dX4_freeAt_28 (op_k hf) hP hS
      · replace hf := op_f c3 hf
        refine lv_iconst (v := (-1)) hx hb dX4_freeAt_13 (by decide) ?_
        exact hret _ _ _ _ _ () dX4_freeAt_14 (op_k hf) hP hS
set_option maxHeartbeats 4000000 in
set_option maxRecDepth 100000 in
theorem c_X4_turnAt (l : Launch) (D : va_G) (cI cC cK cO : ClassId) (tL tM : Nat) (adK adV : Nat → Nat) (q : Nat → Nat) (oO : Nat → Nat) (oT : Nat → Nat) (hh : Nat → Nat → Nat) (wo : OW) (wt : OW) (hs : Nat → OW) (hp : Nat → Nat) (kp : Int32) (fp : Int32) (fr : Int32) (sc : Nat → Int32) (sl : Int32) (sp : Int32) (sv : Int32) (sf : Int32) (ss : Int32) (x1 : Int32) (R : Int32) (hf : f_X4_turnAt wo x1 = some R) : KI l D (TY cI cC cK cO) (gE tL tM adK adV) yX4_turnAt wsX4_turnAt 1 [.ref (q 0), .int x1] (wB cI cC cK cO q oO oT hh wo wt hs hp kp fp fr sc sl sp sv sf ss) (fun (r : Int32) (u : Unit) => r = R) (fun u => (wB cI cC cK cO q oO oT hh wo wt hs hp kp fp fr sc sl sp sv sf ss)) := by
  refine KI.ofI (cc := cX4_turnAt) (maxL := 2) (C := RX4) (by decide) rfl rfl (Nat.le_of_ble_eq_true rfl) ?_
  intro p e s m args below meth c A Q hx hb hml hts hown hP hK hD hA hE hS hret ls hl
  replace hl : lv_has ls 2 [(0, .ref (q 0)), (1, .int x1)] := hl
  have w10 := hts (.fieldLink RX4 10 "BlockClerks" "office" "LBlockClerks$Office;") (by decide +kernel)
  have w71 := hts (.fieldLink RX4 71 "BlockClerks$Office" "numbers" "LBlockClerks$Numbers;") (by decide +kernel)
  have iX2 : ∀ w ∈ wsX20, w ∈ wsX4_turnAt := by decide +kernel
  have iX4 : ∀ w ∈ wsX40, w ∈ wsX4_turnAt := by decide +kernel
  rw [f_X4_turnAt] at hf
  refine lv_iload_n hx hb dX4_turnAt_0 rfl (lv_at hl 1 rfl) ?_
  refine lv_if_ge (tgt := 8) hx hb dX4_turnAt_1 (by decide) (fun c1 => ?_) (fun c1 => ?_)
  · replace hf := op_t c1 hf
    refine lv_aload_n hx hb dX4_turnAt_8 rfl (lv_at hl 0 rfl) ?_
    refine va_get (D := D) (ci := 4) (v := .ref (oO 0)) (C := RX4) (T := TX4) (N := 7) hx hb hts iX4 hown hK hP 0 rfl rfl 0 (by decide) w10 (fun _ h9 => h9) rfl dX4_turnAt_9 ?_
    refine va_get (D := D) (ci := 2) (v := .ref (oO 1)) (C := RX2) (T := TX2) (N := 5) hx hb hts iX2 hown hK hP 4 rfl rfl 0 (by decide) w71 (fun _ h9 => h9) rfl dX4_turnAt_12 ?_
    refine lv_iload_n hx hb dX4_turnAt_15 rfl (lv_at hl 1 rfl) ?_
    obtain ⟨r2, h3, hf⟩ := op_b hf
    refine ck_VI (st := [.int x1, .ref (oO 1)]) (rest := []) (As := [.int x1]) (C := RX1) (ci := 1) ⟨hx, hb, hml, hown, hts⟩ (gE_ok tL tM adK adV) (c_X1_givenIn l D cI cC cK cO tL tM adK adV (oO 1) (oO 2) (oO 3) (oO 4) (oO 5) (oO 6) (oO 7) (wo.1) (wo.2.1) (wo.2.2.1) (wo.2.2.2.1) (wo.2.2.2.2.1) (wo.2.2.2.2.2.1) (wo.2.2.2.2.2.2.1) (wo.2.2.2.2.2.2.2.1) x1 _ h3) (cwV 1 hts gX4_turnAt_X1_givenIn rfl rfl rfl hv_X1_givenIn ⟨Nat.le_of_ble_eq_true rfl, Nat.le_of_ble_eq_true rfl⟩) hK hP hD hS hA hE [5, 6, 7, 8, 9, 10, 11] rfl rfl rfl rfl rfl (fun _ => rfl) rfl hl.1 rfl (Nat.le_of_ble_eq_true rfl) dX4_turnAt_16 ⟨Nat.zero_le _, Nat.zero_le _⟩ (fun r u H locs hw hP hD hS => ?_)
    cases hw
    replace hP : va_P D vwCl (wB cI cC cK cO q oO oT hh wo wt hs hp kp fp fr sc sl sp sv sf ss) H := hP
    replace hD : va_D A (wB cI cC cK cO q oO oT hh wo wt hs hp kp fp fr sc sl sp sv sf ss) := hD
    exact hret _ _ _ _ _ () dX4_turnAt_19 (op_k hf) hP hS
  · replace hf := op_f c1 hf
    refine lv_iconst (v := (-1)) hx hb dX4_turnAt_4 (by decide) ?_
    refine lv_goto (tgt := 19) hx hb dX4_turnAt_5 (by decide) ?_
    exact hret _ _ _ _ _ () dX4_turnAt_19 (op_k hf) hP hS
set_option maxHeartbeats 4000000 in
set_option maxRecDepth 100000 in
theorem c_X4_among (l : Launch) (D : va_G) (cI cC cK cO : ClassId) (tL tM : Nat) (adK adV : Nat → Nat) (q : Nat → Nat) (oO : Nat → Nat) (oT : Nat → Nat) (hh : Nat → Nat → Nat) (wo : OW) (wt : OW) (hs : Nat → OW) (hp : Nat → Nat) (kp : Int32) (fp : Int32) (fr : Int32) (sc : Nat → Int32) (sl : Int32) (sp : Int32) (sv : Int32) (sf : Int32) (ss : Int32) (x1 : Int32) (x2 : Int32) (x3 : Int32) (K : Nat) (R : Int32) (hf : f_X4_among K wo x1 x2 x3 = some R) : KI l D (TY cI cC cK cO) (gE tL tM adK adV) yX4_among wsX4_among 2 [.ref (q 0), .int x1, .int x2, .int x3] (wB cI cC cK cO q oO oT hh wo wt hs hp kp fp fr sc sl sp sv sf ss) (fun (r : Int32) (u : Unit) => r = R) (fun u => (wB cI cC cK cO q oO oT hh wo wt hs hp kp fp fr sc sl sp sv sf ss)) := by
  refine KI.ofI (cc := cX4_among) (maxL := 6) (C := RX4) (by decide) rfl rfl (Nat.le_of_ble_eq_true rfl) ?_
  intro p e s m args below meth c A Q hx hb hml hts hown hP hK hD hA hE hS hret ls hl
  replace hl : lv_has ls 6 [(0, .ref (q 0)), (1, .int x1), (2, .int x2), (3, .int x3)] := hl
  have w10 := hts (.fieldLink RX4 10 "BlockClerks" "office" "LBlockClerks$Office;") (by decide +kernel)
  have w71 := hts (.fieldLink RX4 71 "BlockClerks$Office" "numbers" "LBlockClerks$Numbers;") (by decide +kernel)
  have iX2 : ∀ w ∈ wsX20, w ∈ wsX4_among := by decide +kernel
  have iX4 : ∀ w ∈ wsX40, w ∈ wsX4_among := by decide +kernel
  rw [f_X4_among] at hf
  refine lv_iload_n hx hb dX4_among_0 rfl (lv_at hl 3 rfl) ?_
  refine lv_if_lt (tgt := 13) hx hb dX4_among_1 (by decide) (fun c1 => ?_) (fun c1 => ?_)
  · replace hf := op_t c1 hf
    refine lv_iconst (v := 0) hx hb dX4_among_13 (by decide) ?_
    refine lv_istore (lv' := [(4, .int 0), (0, .ref (q 0)), (1, .int x1), (2, .int x2), (3, .int x3)]) hx hb dX4_among_14 hl (by decide) rfl (fun ls hl => ?_)
    refine lv_iload_n hx hb dX4_among_16 rfl (lv_at hl 4 rfl) ?_
    refine lv_bipush (v := 10) hx hb dX4_among_17 (by decide) ?_
    refine lv_icmp_lt (tgt := 32) hx hb dX4_among_19 (by decide) (fun c2 => ?_) (fun c2 => ?_)
    · replace hf := op_t c2 hf
      refine lv_iconst (v := 0) hx hb dX4_among_32 (by decide) ?_
      refine lv_istore (lv' := [(5, .int 0), (4, .int 0), (0, .ref (q 0)), (1, .int x1), (2, .int x2), (3, .int x3)]) hx hb dX4_among_33 hl (by decide) rfl (fun ls hl => ?_)
      refine lv_iload_n hx hb dX4_among_35 rfl (lv_at hl 3 rfl) ?_
      refine lv_iconst (v := 1) hx hb dX4_among_36 (by decide) ?_
      refine lv_icmp_lt (tgt := 62) hx hb dX4_among_37 (by decide) (fun c3 => ?_) (fun c3 => ?_)
      · replace hf := op_t c3 hf
        refine lv_iconst (v := (-1)) hx hb dX4_among_62 (by decide) ?_
        exact hret _ _ _ _ _ () dX4_among_63 (op_k hf) hP hS
      · replace hf := op_f c3 hf
        refine lv_iload_n hx hb dX4_among_40 rfl (lv_at hl 4 rfl) ?_
        refine lv_iload_n hx hb dX4_among_41 rfl (lv_at hl 3 rfl) ?_
        refine lv_icmp_lt (tgt := 62) hx hb dX4_among_42 (by decide) (fun c4 => ?_) (fun c4 => ?_)
        · replace hf := op_t c4 hf
          refine lv_iconst (v := (-1)) hx hb dX4_among_62 (by decide) ?_
          exact hret _ _ _ _ _ () dX4_among_63 (op_k hf) hP hS
        · replace hf := op_f c4 hf
          refine lv_iload_n hx hb dX4_among_45 rfl (lv_at hl 4 rfl) ?_
          refine lv_sipush (v := 600) hx hb dX4_among_46 (by decide) ?_
          refine lv_icmp_gt (tgt := 62) hx hb dX4_among_49 (by decide) (fun c5 => ?_) (fun c5 => ?_)
          · replace hf := op_t c5 hf
            refine lv_iconst (v := (-1)) hx hb dX4_among_62 (by decide) ?_
            exact hret _ _ _ _ _ () dX4_among_63 (op_k hf) hP hS
          · replace hf := op_f c5 hf
            refine lv_iload hx hb dX4_among_52 (lv_at hl 1 rfl) ?_
            refine lv_if_ne (tgt := 64) hx hb dX4_among_54 (by decide) (fun c9 => absurd c9 (by decide)) (fun _ => ?_)
            refine lv_iload hx hb dX4_among_57 (lv_at hl 0 rfl) ?_
            refine lv_if_ne (tgt := 64) hx hb dX4_among_59 (by decide) (fun c9 => absurd c9 (by decide)) (fun _ => ?_)
            refine lv_iconst (v := (-1)) hx hb dX4_among_62 (by decide) ?_
            exact hret _ _ _ _ _ () dX4_among_63 (op_k hf) hP hS
    · replace hf := op_f c2 hf
      refine lv_iload_n hx hb dX4_among_22 rfl (lv_at hl 4 rfl) ?_
      refine lv_bipush (v := 13) hx hb dX4_among_23 (by decide) ?_
      refine lv_icmp_gt (tgt := 32) hx hb dX4_among_25 (by decide) (fun c6 => ?_) (fun c6 => ?_)
      · replace hf := op_t c6 hf
        refine lv_iconst (v := 0) hx hb dX4_among_32 (by decide) ?_
        refine lv_istore (lv' := [(5, .int 0), (4, .int 0), (0, .ref (q 0)), (1, .int x1), (2, .int x2), (3, .int x3)]) hx hb dX4_among_33 hl (by decide) rfl (fun ls hl => ?_)
        refine lv_iload_n hx hb dX4_among_35 rfl (lv_at hl 3 rfl) ?_
        refine lv_iconst (v := 1) hx hb dX4_among_36 (by decide) ?_
        refine lv_icmp_lt (tgt := 62) hx hb dX4_among_37 (by decide) (fun c7 => ?_) (fun c7 => ?_)
        · replace hf := op_t c7 hf
          refine lv_iconst (v := (-1)) hx hb dX4_among_62 (by decide) ?_
          exact hret _ _ _ _ _ () dX4_among_63 (op_k hf) hP hS
        · replace hf := op_f c7 hf
          refine lv_iload_n hx hb dX4_among_40 rfl (lv_at hl 4 rfl) ?_
          refine lv_iload_n hx hb dX4_among_41 rfl (lv_at hl 3 rfl) ?_
          refine lv_icmp_lt (tgt := 62) hx hb dX4_among_42 (by decide) (fun c8 => ?_) (fun c8 => ?_)
          · replace hf := op_t c8 hf
            refine lv_iconst (v := (-1)) hx hb dX4_among_62 (by decide) ?_
            exact hret _ _ _ _ _ () dX4_among_63 (op_k hf) hP hS
          · replace hf := op_f c8 hf
            refine lv_iload_n hx hb dX4_among_45 rfl (lv_at hl 4 rfl) ?_
            refine lv_sipush (v := 600) hx hb dX4_among_46 (by decide) ?_
            refine lv_icmp_gt (tgt := 62) hx hb dX4_among_49 (by decide) (fun c9 => ?_) (fun c9 => ?_)
            · replace hf := op_t c9 hf
              refine lv_iconst (v := (-1)) hx hb dX4_among_62 (by decide) ?_
              exact hret _ _ _ _ _ () dX4_among_63 (op_k hf) hP hS
            · replace hf := op_f c9 hf
              refine lv_iload hx hb dX4_among_52 (lv_at hl 1 rfl) ?_
              refine lv_if_ne (tgt := 64) hx hb dX4_among_54 (by decide) (fun c9 => absurd c9 (by decide)) (fun _ => ?_)
              refine lv_iload hx hb dX4_among_57 (lv_at hl 0 rfl) ?_
              refine lv_if_ne (tgt := 64) hx hb dX4_among_59 (by decide) (fun c9 => absurd c9 (by decide)) (fun _ => ?_)
              refine lv_iconst (v := (-1)) hx hb dX4_among_62 (by decide) ?_
              exact hret _ _ _ _ _ () dX4_among_63 (op_k hf) hP hS
      · replace hf := op_f c6 hf
        refine lv_iconst (v := 1) hx hb dX4_among_28 (by decide) ?_
        refine lv_goto (tgt := 33) hx hb dX4_among_29 (by decide) ?_
        refine lv_istore (lv' := [(5, .int 1), (4, .int 0), (0, .ref (q 0)), (1, .int x1), (2, .int x2), (3, .int x3)]) hx hb dX4_among_33 hl (by decide) rfl (fun ls hl => ?_)
        refine lv_iload_n hx hb dX4_among_35 rfl (lv_at hl 3 rfl) ?_
        refine lv_iconst (v := 1) hx hb dX4_among_36 (by decide) ?_
        refine lv_icmp_lt (tgt := 62) hx hb dX4_among_37 (by decide) (fun c10 => ?_) (fun c10 => ?_)
        · replace hf := op_t c10 hf
          refine lv_iconst (v := (-1)) hx hb dX4_among_62 (by decide) ?_
          exact hret _ _ _ _ _ () dX4_among_63 (op_k hf) hP hS
        · replace hf := op_f c10 hf
          refine lv_iload_n hx hb dX4_among_40 rfl (lv_at hl 4 rfl) ?_
          refine lv_iload_n hx hb dX4_among_41 rfl (lv_at hl 3 rfl) ?_
          refine lv_icmp_lt (tgt := 62) hx hb dX4_among_42 (by decide) (fun c11 => ?_) (fun c11 => ?_)
          · replace hf := op_t c11 hf
            refine lv_iconst (v := (-1)) hx hb dX4_among_62 (by decide) ?_
            exact hret _ _ _ _ _ () dX4_among_63 (op_k hf) hP hS
          · replace hf := op_f c11 hf
            refine lv_iload_n hx hb dX4_among_45 rfl (lv_at hl 4 rfl) ?_
            refine lv_sipush (v := 600) hx hb dX4_among_46 (by decide) ?_
            refine lv_icmp_gt (tgt := 62) hx hb dX4_among_49 (by decide) (fun c12 => ?_) (fun c12 => ?_)
            · replace hf := op_t c12 hf
              refine lv_iconst (v := (-1)) hx hb dX4_among_62 (by decide) ?_
              exact hret _ _ _ _ _ () dX4_among_63 (op_k hf) hP hS
            · replace hf := op_f c12 hf
              refine lv_iload hx hb dX4_among_52 (lv_at hl 1 rfl) ?_
              refine lv_if_ne (tgt := 64) hx hb dX4_among_54 (by decide) (fun c9 => absurd c9 (by decide)) (fun _ => ?_)
              refine lv_iload hx hb dX4_among_57 (lv_at hl 0 rfl) ?_
              refine lv_if_ne (tgt := 64) hx hb dX4_among_59 (by decide) (fun _ => ?_) (fun c9 => absurd c9 (by decide))
              refine lv_iload hx hb dX4_among_64 (lv_at hl 1 rfl) ?_
              refine lv_if_eq (tgt := 85) hx hb dX4_among_66 (by decide) (fun _ => ?_) (fun c9 => absurd c9 (by decide))
              refine lv_aload_n hx hb dX4_among_85 rfl (lv_at hl 2 rfl) ?_
              refine va_get (D := D) (ci := 4) (v := .ref (oO 0)) (C := RX4) (T := TX4) (N := 7) hx hb hts iX4 hown hK hP 0 rfl rfl 0 (by decide) w10 (fun _ h9 => h9) rfl dX4_among_86 ?_
              refine va_get (D := D) (ci := 2) (v := .ref (oO 1)) (C := RX2) (T := TX2) (N := 5) hx hb hts iX2 hown hK hP 4 rfl rfl 0 (by decide) w71 (fun _ h9 => h9) rfl dX4_among_89 ?_
              refine lv_iload_n hx hb dX4_among_92 rfl (lv_at hl 3 rfl) ?_
              refine lv_iload_n hx hb dX4_among_93 rfl (lv_at hl 4 rfl) ?_
              refine lv_iload_n hx hb dX4_among_94 rfl (lv_at hl 5 rfl) ?_
              refine lv_bipush (v := 10) hx hb dX4_among_95 (by decide) ?_
              refine lv_isub hx hb dX4_among_97 ?_
              obtain ⟨r13, h14, hf⟩ := op_b hf
              refine ck_VI (st := [.int (x3 - 10), .int x2, .int x1, .ref (oO 1)]) (rest := []) (As := [.int x1, .int x2, .int (x3 - 10)]) (C := RX1) (ci := 1) ⟨hx, hb, hml, hown, hts⟩ (gE_ok tL tM adK adV) (c_X1_withReason l D cI cC cK cO tL tM adK adV (oO 1) (oO 2) (oO 3) (oO 4) (oO 5) (oO 6) (oO 7) (wo.1) (wo.2.1) (wo.2.2.1) (wo.2.2.2.1) (wo.2.2.2.2.1) (wo.2.2.2.2.2.1) (wo.2.2.2.2.2.2.1) (wo.2.2.2.2.2.2.2.1) x1 x2 (x3 - 10) K _ h14) (cwV 3 hts gX4_among_X1_withReason rfl rfl rfl hv_X1_withReason ⟨Nat.le_of_ble_eq_true rfl, Nat.le_of_ble_eq_true rfl⟩) hK hP hD hS hA hE [5, 6, 7, 8, 9, 10, 11] rfl rfl rfl rfl rfl (fun _ => rfl) rfl hl.1 rfl (Nat.le_of_ble_eq_true rfl) dX4_among_98 ⟨Nat.zero_le _, Nat.zero_le _⟩ (fun r u H locs hw hP hD hS => ?_)
              cases hw
              replace hP : va_P D vwCl (wB cI cC cK cO q oO oT hh wo wt hs hp kp fp fr sc sl sp sv sf ss) H := hP
              replace hD : va_D A (wB cI cC cK cO q oO oT hh wo wt hs hp kp fp fr sc sl sp sv sf ss) := hD
              exact hret _ _ _ _ _ () dX4_among_101 (op_k hf) hP hS
  · replace hf := op_f c1 hf
    refine lv_iload_n hx hb dX4_among_4 rfl (lv_at hl 3 rfl) ?_
    refine lv_iconst (v := 4) hx hb dX4_among_5 (by decide) ?_
    refine lv_icmp_gt (tgt := 13) hx hb dX4_among_6 (by decide) (fun c16 => ?_) (fun c16 => ?_)
    · replace hf := op_t c16 hf
      refine lv_iconst (v := 0) hx hb dX4_among_13 (by decide) ?_
      refine lv_istore (lv' := [(4, .int 0), (0, .ref (q 0)), (1, .int x1), (2, .int x2), (3, .int x3)]) hx hb dX4_among_14 hl (by decide) rfl (fun ls hl => ?_)
      refine lv_iload_n hx hb dX4_among_16 rfl (lv_at hl 4 rfl) ?_
      refine lv_bipush (v := 10) hx hb dX4_among_17 (by decide) ?_
      refine lv_icmp_lt (tgt := 32) hx hb dX4_among_19 (by decide) (fun c17 => ?_) (fun c17 => ?_)
      · replace hf := op_t c17 hf
        refine lv_iconst (v := 0) hx hb dX4_among_32 (by decide) ?_
        refine lv_istore (lv' := [(5, .int 0), (4, .int 0), (0, .ref (q 0)), (1, .int x1), (2, .int x2), (3, .int x3)]) hx hb dX4_among_33 hl (by decide) rfl (fun ls hl => ?_)
        refine lv_iload_n hx hb dX4_among_35 rfl (lv_at hl 3 rfl) ?_
        refine lv_iconst (v := 1) hx hb dX4_among_36 (by decide) ?_
        refine lv_icmp_lt (tgt := 62) hx hb dX4_among_37 (by decide) (fun c18 => ?_) (fun c18 => ?_)
        · replace hf := op_t c18 hf
          refine lv_iconst (v := (-1)) hx hb dX4_among_62 (by decide) ?_
          exact hret _ _ _ _ _ () dX4_among_63 (op_k hf) hP hS
        · replace hf := op_f c18 hf
          refine lv_iload_n hx hb dX4_among_40 rfl (lv_at hl 4 rfl) ?_
          refine lv_iload_n hx hb dX4_among_41 rfl (lv_at hl 3 rfl) ?_
          refine lv_icmp_lt (tgt := 62) hx hb dX4_among_42 (by decide) (fun c19 => ?_) (fun c19 => ?_)
          · replace hf := op_t c19 hf
            refine lv_iconst (v := (-1)) hx hb dX4_among_62 (by decide) ?_
            exact hret _ _ _ _ _ () dX4_among_63 (op_k hf) hP hS
          · replace hf := op_f c19 hf
            refine lv_iload_n hx hb dX4_among_45 rfl (lv_at hl 4 rfl) ?_
            refine lv_sipush (v := 600) hx hb dX4_among_46 (by decide) ?_
            refine lv_icmp_gt (tgt := 62) hx hb dX4_among_49 (by decide) (fun c20 => ?_) (fun c20 => ?_)
            · replace hf := op_t c20 hf
              refine lv_iconst (v := (-1)) hx hb dX4_among_62 (by decide) ?_
              exact hret _ _ _ _ _ () dX4_among_63 (op_k hf) hP hS
            · replace hf := op_f c20 hf
              refine lv_iload hx hb dX4_among_52 (lv_at hl 1 rfl) ?_
              refine lv_if_ne (tgt := 64) hx hb dX4_among_54 (by decide) (fun c9 => absurd c9 (by decide)) (fun _ => ?_)
              refine lv_iload hx hb dX4_among_57 (lv_at hl 0 rfl) ?_
              refine lv_if_ne (tgt := 64) hx hb dX4_among_59 (by decide) (fun c9 => absurd c9 (by decide)) (fun _ => ?_)
              refine lv_iconst (v := (-1)) hx hb dX4_among_62 (by decide) ?_
              exact hret _ _ _ _ _ () dX4_among_63 (op_k hf) hP hS
      · replace hf := op_f c17 hf
        refine lv_iload_n hx hb dX4_among_22 rfl (lv_at hl 4 rfl) ?_
        refine lv_bipush (v := 13) hx hb dX4_among_23 (by decide) ?_
        refine lv_icmp_gt (tgt := 32) hx hb dX4_among_25 (by decide) (fun c21 => ?_) (fun c21 => ?_)
        · replace hf := op_t c21 hf
          refine lv_iconst (v := 0) hx hb dX4_among_32 (by decide) ?_
          refine lv_istore (lv' := [(5, .int 0), (4, .int 0), (0, .ref (q 0)), (1, .int x1), (2, .int x2), (3, .int x3)]) hx hb dX4_among_33 hl (by decide) rfl (fun ls hl => ?_)
          refine lv_iload_n hx hb dX4_among_35 rfl (lv_at hl 3 rfl) ?_
          refine lv_iconst (v := 1) hx hb dX4_among_36 (by decide) ?_
          refine lv_icmp_lt (tgt := 62) hx hb dX4_among_37 (by decide) (fun c22 => ?_) (fun c22 => ?_)
          · replace hf := op_t c22 hf
            refine lv_iconst (v := (-1)) hx hb dX4_among_62 (by decide) ?_
            exact hret _ _ _ _ _ () dX4_among_63 (op_k hf) hP hS
          · replace hf := op_f c22 hf
            refine lv_iload_n hx hb dX4_among_40 rfl (lv_at hl 4 rfl) ?_
            refine lv_iload_n hx hb dX4_among_41 rfl (lv_at hl 3 rfl) ?_
            refine lv_icmp_lt (tgt := 62) hx hb dX4_among_42 (by decide) (fun c23 => ?_) (fun c23 => ?_)
            · replace hf := op_t c23 hf
              refine lv_iconst (v := (-1)) hx hb dX4_among_62 (by decide) ?_
              exact hret _ _ _ _ _ () dX4_among_63 (op_k hf) hP hS
            · replace hf := op_f c23 hf
              refine lv_iload_n hx hb dX4_among_45 rfl (lv_at hl 4 rfl) ?_
              refine lv_sipush (v := 600) hx hb dX4_among_46 (by decide) ?_
              refine lv_icmp_gt (tgt := 62) hx hb dX4_among_49 (by decide) (fun c24 => ?_) (fun c24 => ?_)
              · replace hf := op_t c24 hf
                refine lv_iconst (v := (-1)) hx hb dX4_among_62 (by decide) ?_
                exact hret _ _ _ _ _ () dX4_among_63 (op_k hf) hP hS
              · replace hf := op_f c24 hf
                refine lv_iload hx hb dX4_among_52 (lv_at hl 1 rfl) ?_
                refine lv_if_ne (tgt := 64) hx hb dX4_among_54 (by decide) (fun c9 => absurd c9 (by decide)) (fun _ => ?_)
                refine lv_iload hx hb dX4_among_57 (lv_at hl 0 rfl) ?_
                refine lv_if_ne (tgt := 64) hx hb dX4_among_59 (by decide) (fun c9 => absurd c9 (by decide)) (fun _ => ?_)
                refine lv_iconst (v := (-1)) hx hb dX4_among_62 (by decide) ?_
                exact hret _ _ _ _ _ () dX4_among_63 (op_k hf) hP hS
        · replace hf := op_f c21 hf
          refine lv_iconst (v := 1) hx hb dX4_among_28 (by decide) ?_
          refine lv_goto (tgt := 33) hx hb dX4_among_29 (by decide) ?_
          refine lv_istore (lv' := [(5, .int 1), (4, .int 0), (0, .ref (q 0)), (1, .int x1), (2, .int x2), (3, .int x3)]) hx hb dX4_among_33 hl (by decide) rfl (fun ls hl => ?_)
          refine lv_iload_n hx hb dX4_among_35 rfl (lv_at hl 3 rfl) ?_
          refine lv_iconst (v := 1) hx hb dX4_among_36 (by decide) ?_
          refine lv_icmp_lt (tgt := 62) hx hb dX4_among_37 (by decide) (fun c25 => ?_) (fun c25 => ?_)
          · replace hf := op_t c25 hf
            refine lv_iconst (v := (-1)) hx hb dX4_among_62 (by decide) ?_
            exact hret _ _ _ _ _ () dX4_among_63 (op_k hf) hP hS
          · replace hf := op_f c25 hf
            refine lv_iload_n hx hb dX4_among_40 rfl (lv_at hl 4 rfl) ?_
            refine lv_iload_n hx hb dX4_among_41 rfl (lv_at hl 3 rfl) ?_
            refine lv_icmp_lt (tgt := 62) hx hb dX4_among_42 (by decide) (fun c26 => ?_) (fun c26 => ?_)
            · replace hf := op_t c26 hf
              refine lv_iconst (v := (-1)) hx hb dX4_among_62 (by decide) ?_
              exact hret _ _ _ _ _ () dX4_among_63 (op_k hf) hP hS
            · replace hf := op_f c26 hf
              refine lv_iload_n hx hb dX4_among_45 rfl (lv_at hl 4 rfl) ?_
              refine lv_sipush (v := 600) hx hb dX4_among_46 (by decide) ?_
              refine lv_icmp_gt (tgt := 62) hx hb dX4_among_49 (by decide) (fun c27 => ?_) (fun c27 => ?_)
              · replace hf := op_t c27 hf
                refine lv_iconst (v := (-1)) hx hb dX4_among_62 (by decide) ?_
                exact hret _ _ _ _ _ () dX4_among_63 (op_k hf) hP hS
              · replace hf := op_f c27 hf
                refine lv_iload hx hb dX4_among_52 (lv_at hl 1 rfl) ?_
                refine lv_if_ne (tgt := 64) hx hb dX4_among_54 (by decide) (fun c9 => absurd c9 (by decide)) (fun _ => ?_)
                refine lv_iload hx hb dX4_among_57 (lv_at hl 0 rfl) ?_
                refine lv_if_ne (tgt := 64) hx hb dX4_among_59 (by decide) (fun _ => ?_) (fun c9 => absurd c9 (by decide))
                refine lv_iload hx hb dX4_among_64 (lv_at hl 1 rfl) ?_
                refine lv_if_eq (tgt := 85) hx hb dX4_among_66 (by decide) (fun _ => ?_) (fun c9 => absurd c9 (by decide))
                refine lv_aload_n hx hb dX4_among_85 rfl (lv_at hl 2 rfl) ?_
                refine va_get (D := D) (ci := 4) (v := .ref (oO 0)) (C := RX4) (T := TX4) (N := 7) hx hb hts iX4 hown hK hP 0 rfl rfl 0 (by decide) w10 (fun _ h9 => h9) rfl dX4_among_86 ?_
                refine va_get (D := D) (ci := 2) (v := .ref (oO 1)) (C := RX2) (T := TX2) (N := 5) hx hb hts iX2 hown hK hP 4 rfl rfl 0 (by decide) w71 (fun _ h9 => h9) rfl dX4_among_89 ?_
                refine lv_iload_n hx hb dX4_among_92 rfl (lv_at hl 3 rfl) ?_
                refine lv_iload_n hx hb dX4_among_93 rfl (lv_at hl 4 rfl) ?_
                refine lv_iload_n hx hb dX4_among_94 rfl (lv_at hl 5 rfl) ?_
                refine lv_bipush (v := 10) hx hb dX4_among_95 (by decide) ?_
                refine lv_isub hx hb dX4_among_97 ?_
                obtain ⟨r28, h29, hf⟩ := op_b hf
                refine ck_VI (st := [.int (x3 - 10), .int x2, .int x1, .ref (oO 1)]) (rest := []) (As := [.int x1, .int x2, .int (x3 - 10)]) (C := RX1) (ci := 1) ⟨hx, hb, hml, hown, hts⟩ (gE_ok tL tM adK adV) (c_X1_withReason l D cI cC cK cO tL tM adK adV (oO 1) (oO 2) (oO 3) (oO 4) (oO 5) (oO 6) (oO 7) (wo.1) (wo.2.1) (wo.2.2.1) (wo.2.2.2.1) (wo.2.2.2.2.1) (wo.2.2.2.2.2.1) (wo.2.2.2.2.2.2.1) (wo.2.2.2.2.2.2.2.1) x1 x2 (x3 - 10) K _ h29) (cwV 3 hts gX4_among_X1_withReason rfl rfl rfl hv_X1_withReason ⟨Nat.le_of_ble_eq_true rfl, Nat.le_of_ble_eq_true rfl⟩) hK hP hD hS hA hE [5, 6, 7, 8, 9, 10, 11] rfl rfl rfl rfl rfl (fun _ => rfl) rfl hl.1 rfl (Nat.le_of_ble_eq_true rfl) dX4_among_98 ⟨Nat.zero_le _, Nat.zero_le _⟩ (fun r u H locs hw hP hD hS => ?_)
                cases hw
                replace hP : va_P D vwCl (wB cI cC cK cO q oO oT hh wo wt hs hp kp fp fr sc sl sp sv sf ss) H := hP
                replace hD : va_D A (wB cI cC cK cO q oO oT hh wo wt hs hp kp fp fr sc sl sp sv sf ss) := hD
                exact hret _ _ _ _ _ () dX4_among_101 (op_k hf) hP hS
    · replace hf := op_f c16 hf
      refine lv_iconst (v := 1) hx hb dX4_among_9 (by decide) ?_
      refine lv_goto (tgt := 14) hx hb dX4_among_10 (by decide) ?_
      refine lv_istore (lv' := [(4, .int 1), (0, .ref (q 0)), (1, .int x1), (2, .int x2), (3, .int x3)]) hx hb dX4_among_14 hl (by decide) rfl (fun ls hl => ?_)
      refine lv_iload_n hx hb dX4_among_16 rfl (lv_at hl 4 rfl) ?_
      refine lv_bipush (v := 10) hx hb dX4_among_17 (by decide) ?_
      refine lv_icmp_lt (tgt := 32) hx hb dX4_among_19 (by decide) (fun c31 => ?_) (fun c31 => ?_)
      · replace hf := op_t c31 hf
        refine lv_iconst (v := 0) hx hb dX4_among_32 (by decide) ?_
        refine lv_istore (lv' := [(5, .int 0), (4, .int 1), (0, .ref (q 0)), (1, .int x1), (2, .int x2), (3, .int x3)]) hx hb dX4_among_33 hl (by decide) rfl (fun ls hl => ?_)
        refine lv_iload_n hx hb dX4_among_35 rfl (lv_at hl 3 rfl) ?_
        refine lv_iconst (v := 1) hx hb dX4_among_36 (by decide) ?_
        refine lv_icmp_lt (tgt := 62) hx hb dX4_among_37 (by decide) (fun c32 => ?_) (fun c32 => ?_)
        · replace hf := op_t c32 hf
          refine lv_iconst (v := (-1)) hx hb dX4_among_62 (by decide) ?_
          exact hret _ _ _ _ _ () dX4_among_63 (op_k hf) hP hS
        · replace hf := op_f c32 hf
          refine lv_iload_n hx hb dX4_among_40 rfl (lv_at hl 4 rfl) ?_
          refine lv_iload_n hx hb dX4_among_41 rfl (lv_at hl 3 rfl) ?_
          refine lv_icmp_lt (tgt := 62) hx hb dX4_among_42 (by decide) (fun c33 => ?_) (fun c33 => ?_)
          · replace hf := op_t c33 hf
            refine lv_iconst (v := (-1)) hx hb dX4_among_62 (by decide) ?_
            exact hret _ _ _ _ _ () dX4_among_63 (op_k hf) hP hS
          · replace hf := op_f c33 hf
            refine lv_iload_n hx hb dX4_among_45 rfl (lv_at hl 4 rfl) ?_
            refine lv_sipush (v := 600) hx hb dX4_among_46 (by decide) ?_
            refine lv_icmp_gt (tgt := 62) hx hb dX4_among_49 (by decide) (fun c34 => ?_) (fun c34 => ?_)
            · replace hf := op_t c34 hf
              refine lv_iconst (v := (-1)) hx hb dX4_among_62 (by decide) ?_
              exact hret _ _ _ _ _ () dX4_among_63 (op_k hf) hP hS
            · replace hf := op_f c34 hf
              refine lv_iload hx hb dX4_among_52 (lv_at hl 1 rfl) ?_
              refine lv_if_ne (tgt := 64) hx hb dX4_among_54 (by decide) (fun _ => ?_) (fun c9 => absurd c9 (by decide))
              refine lv_iload hx hb dX4_among_64 (lv_at hl 1 rfl) ?_
              refine lv_if_eq (tgt := 85) hx hb dX4_among_66 (by decide) (fun c9 => absurd c9 (by decide)) (fun _ => ?_)
              refine lv_aload_n hx hb dX4_among_69 rfl (lv_at hl 2 rfl) ?_
              refine va_get (D := D) (ci := 4) (v := .ref (oO 0)) (C := RX4) (T := TX4) (N := 7) hx hb hts iX4 hown hK hP 0 rfl rfl 0 (by decide) w10 (fun _ h9 => h9) rfl dX4_among_70 ?_
              refine va_get (D := D) (ci := 2) (v := .ref (oO 1)) (C := RX2) (T := TX2) (N := 5) hx hb hts iX2 hown hK hP 4 rfl rfl 0 (by decide) w71 (fun _ h9 => h9) rfl dX4_among_73 ?_
              refine lv_iload_n hx hb dX4_among_76 rfl (lv_at hl 3 rfl) ?_
              refine lv_iload_n hx hb dX4_among_77 rfl (lv_at hl 4 rfl) ?_
              refine lv_iload_n hx hb dX4_among_78 rfl (lv_at hl 5 rfl) ?_
              obtain ⟨r35, h36, hf⟩ := op_b hf
              refine ck_VI (st := [.int x3, .int x2, .int x1, .ref (oO 1)]) (rest := []) (As := [.int x1, .int x2, .int x3]) (C := RX1) (ci := 1) ⟨hx, hb, hml, hown, hts⟩ (gE_ok tL tM adK adV) (c_X1_inState l D cI cC cK cO tL tM adK adV (oO 1) (oO 2) (oO 3) (oO 4) (oO 5) (oO 6) (oO 7) (wo.1) (wo.2.1) (wo.2.2.1) (wo.2.2.2.1) (wo.2.2.2.2.1) (wo.2.2.2.2.2.1) (wo.2.2.2.2.2.2.1) (wo.2.2.2.2.2.2.2.1) x1 x2 x3 K _ h36) (cwV 3 hts gX4_among_X1_inState rfl rfl rfl hv_X1_inState ⟨Nat.le_of_ble_eq_true rfl, Nat.le_of_ble_eq_true rfl⟩) hK hP hD hS hA hE [5, 6, 7, 8, 9, 10, 11] rfl rfl rfl rfl rfl (fun _ => rfl) rfl hl.1 rfl (Nat.le_of_ble_eq_true rfl) dX4_among_79 ⟨Nat.zero_le _, Nat.zero_le _⟩ (fun r u H locs hw hP hD hS => ?_)
              cases hw
              replace hP : va_P D vwCl (wB cI cC cK cO q oO oT hh wo wt hs hp kp fp fr sc sl sp sv sf ss) H := hP
              replace hD : va_D A (wB cI cC cK cO q oO oT hh wo wt hs hp kp fp fr sc sl sp sv sf ss) := hD
              refine lv_goto (tgt := 101) hx hb dX4_among_82 (by decide) ?_
              exact hret _ _ _ _ _ () dX4_among_101 (op_k hf) hP hS
      · replace hf := op_f c31 hf
        refine lv_iload_n hx hb dX4_among_22 rfl (lv_at hl 4 rfl) ?_
        refine lv_bipush (v := 13) hx hb dX4_among_23 (by decide) ?_
        refine lv_icmp_gt (tgt := 32) hx hb dX4_among_25 (by decide) (fun c38 => ?_) (fun c38 => ?_)
        · replace hf := op_t c38 hf
          refine lv_iconst (v := 0) hx hb dX4_among_32 (by decide) ?_
          refine lv_istore (lv' := [(5, .int 0), (4, .int 1), (0, .ref (q 0)), (1, .int x1), (2, .int x2), (3, .int x3)]) hx hb dX4_among_33 hl (by decide) rfl (fun ls hl => ?_)
          refine lv_iload_n hx hb dX4_among_35 rfl (lv_at hl 3 rfl) ?_
          refine lv_iconst (v := 1) hx hb dX4_among_36 (by decide) ?_
          refine lv_icmp_lt (tgt := 62) hx hb dX4_among_37 (by decide) (fun c39 => ?_) (fun c39 => ?_)
          · replace hf := op_t c39 hf
            refine lv_iconst (v := (-1)) hx hb dX4_among_62 (by decide) ?_
            exact hret _ _ _ _ _ () dX4_among_63 (op_k hf) hP hS
          · replace hf := op_f c39 hf
            refine lv_iload_n hx hb dX4_among_40 rfl (lv_at hl 4 rfl) ?_
            refine lv_iload_n hx hb dX4_among_41 rfl (lv_at hl 3 rfl) ?_
            refine lv_icmp_lt (tgt := 62) hx hb dX4_among_42 (by decide) (fun c40 => ?_) (fun c40 => ?_)
            · replace hf := op_t c40 hf
              refine lv_iconst (v := (-1)) hx hb dX4_among_62 (by decide) ?_
              exact hret _ _ _ _ _ () dX4_among_63 (op_k hf) hP hS
            · replace hf := op_f c40 hf
              refine lv_iload_n hx hb dX4_among_45 rfl (lv_at hl 4 rfl) ?_
              refine lv_sipush (v := 600) hx hb dX4_among_46 (by decide) ?_
              refine lv_icmp_gt (tgt := 62) hx hb dX4_among_49 (by decide) (fun c41 => ?_) (fun c41 => ?_)
              · replace hf := op_t c41 hf
                refine lv_iconst (v := (-1)) hx hb dX4_among_62 (by decide) ?_
                exact hret _ _ _ _ _ () dX4_among_63 (op_k hf) hP hS
              · replace hf := op_f c41 hf
                refine lv_iload hx hb dX4_among_52 (lv_at hl 1 rfl) ?_
                refine lv_if_ne (tgt := 64) hx hb dX4_among_54 (by decide) (fun _ => ?_) (fun c9 => absurd c9 (by decide))
                refine lv_iload hx hb dX4_among_64 (lv_at hl 1 rfl) ?_
                refine lv_if_eq (tgt := 85) hx hb dX4_among_66 (by decide) (fun c9 => absurd c9 (by decide)) (fun _ => ?_)
                refine lv_aload_n hx hb dX4_among_69 rfl (lv_at hl 2 rfl) ?_
                refine va_get (D := D) (ci := 4) (v := .ref (oO 0)) (C := RX4) (T := TX4) (N := 7) hx hb hts iX4 hown hK hP 0 rfl rfl 0 (by decide) w10 (fun _ h9 => h9) rfl dX4_among_70 ?_
                refine va_get (D := D) (ci := 2) (v := .ref (oO 1)) (C := RX2) (T := TX2) (N := 5) hx hb hts iX2 hown hK hP 4 rfl rfl 0 (by decide) w71 (fun _ h9 => h9) rfl dX4_among_73 ?_
                refine lv_iload_n hx hb dX4_among_76 rfl (lv_at hl 3 rfl) ?_
                refine lv_iload_n hx hb dX4_among_77 rfl (lv_at hl 4 rfl) ?_
                refine lv_iload_n hx hb dX4_among_78 rfl (lv_at hl 5 rfl) ?_
                obtain ⟨r42, h43, hf⟩ := op_b hf
                refine ck_VI (st := [.int x3, .int x2, .int x1, .ref (oO 1)]) (rest := []) (As := [.int x1, .int x2, .int x3]) (C := RX1) (ci := 1) ⟨hx, hb, hml, hown, hts⟩ (gE_ok tL tM adK adV) (c_X1_inState l D cI cC cK cO tL tM adK adV (oO 1) (oO 2) (oO 3) (oO 4) (oO 5) (oO 6) (oO 7) (wo.1) (wo.2.1) (wo.2.2.1) (wo.2.2.2.1) (wo.2.2.2.2.1) (wo.2.2.2.2.2.1) (wo.2.2.2.2.2.2.1) (wo.2.2.2.2.2.2.2.1) x1 x2 x3 K _ h43) (cwV 3 hts gX4_among_X1_inState rfl rfl rfl hv_X1_inState ⟨Nat.le_of_ble_eq_true rfl, Nat.le_of_ble_eq_true rfl⟩) hK hP hD hS hA hE [5, 6, 7, 8, 9, 10, 11] rfl rfl rfl rfl rfl (fun _ => rfl) rfl hl.1 rfl (Nat.le_of_ble_eq_true rfl) dX4_among_79 ⟨Nat.zero_le _, Nat.zero_le _⟩ (fun r u H locs hw hP hD hS => ?_)
                cases hw
                replace hP : va_P D vwCl (wB cI cC cK cO q oO oT hh wo wt hs hp kp fp fr sc sl sp sv sf ss) H := hP
                replace hD : va_D A (wB cI cC cK cO q oO oT hh wo wt hs hp kp fp fr sc sl sp sv sf ss) := hD
                refine lv_goto (tgt := 101) hx hb dX4_among_82 (by decide) ?_
                exact hret _ _ _ _ _ () dX4_among_101 (op_k hf) hP hS
        · replace hf := op_f c38 hf
          refine lv_iconst (v := 1) hx hb dX4_among_28 (by decide) ?_
          refine lv_goto (tgt := 33) hx hb dX4_among_29 (by decide) ?_
          refine lv_istore (lv' := [(5, .int 1), (4, .int 1), (0, .ref (q 0)), (1, .int x1), (2, .int x2), (3, .int x3)]) hx hb dX4_among_33 hl (by decide) rfl (fun ls hl => ?_)
          refine lv_iload_n hx hb dX4_among_35 rfl (lv_at hl 3 rfl) ?_
          refine lv_iconst (v := 1) hx hb dX4_among_36 (by decide) ?_
          refine lv_icmp_lt (tgt := 62) hx hb dX4_among_37 (by decide) (fun c45 => ?_) (fun c45 => ?_)
          · replace hf := op_t c45 hf
            refine lv_iconst (v := (-1)) hx hb dX4_among_62 (by decide) ?_
            exact hret _ _ _ _ _ () dX4_among_63 (op_k hf) hP hS
          · replace hf := op_f c45 hf
            refine lv_iload_n hx hb dX4_among_40 rfl (lv_at hl 4 rfl) ?_
            refine lv_iload_n hx hb dX4_among_41 rfl (lv_at hl 3 rfl) ?_
            refine lv_icmp_lt (tgt := 62) hx hb dX4_among_42 (by decide) (fun c46 => ?_) (fun c46 => ?_)
            · replace hf := op_t c46 hf
              refine lv_iconst (v := (-1)) hx hb dX4_among_62 (by decide) ?_
              exact hret _ _ _ _ _ () dX4_among_63 (op_k hf) hP hS
            · replace hf := op_f c46 hf
              refine lv_iload_n hx hb dX4_among_45 rfl (lv_at hl 4 rfl) ?_
              refine lv_sipush (v := 600) hx hb dX4_among_46 (by decide) ?_
              refine lv_icmp_gt (tgt := 62) hx hb dX4_among_49 (by decide) (fun c47 => ?_) (fun c47 => ?_)
              · replace hf := op_t c47 hf
                refine lv_iconst (v := (-1)) hx hb dX4_among_62 (by decide) ?_
                exact hret _ _ _ _ _ () dX4_among_63 (op_k hf) hP hS
              · replace hf := op_f c47 hf
                refine lv_iload hx hb dX4_among_52 (lv_at hl 1 rfl) ?_
                refine lv_if_ne (tgt := 64) hx hb dX4_among_54 (by decide) (fun _ => ?_) (fun c9 => absurd c9 (by decide))
                refine lv_iload hx hb dX4_among_64 (lv_at hl 1 rfl) ?_
                refine lv_if_eq (tgt := 85) hx hb dX4_among_66 (by decide) (fun c9 => absurd c9 (by decide)) (fun _ => ?_)
                refine lv_aload_n hx hb dX4_among_69 rfl (lv_at hl 2 rfl) ?_
                refine va_get (D := D) (ci := 4) (v := .ref (oO 0)) (C := RX4) (T := TX4) (N := 7) hx hb hts iX4 hown hK hP 0 rfl rfl 0 (by decide) w10 (fun _ h9 => h9) rfl dX4_among_70 ?_
                refine va_get (D := D) (ci := 2) (v := .ref (oO 1)) (C := RX2) (T := TX2) (N := 5) hx hb hts iX2 hown hK hP 4 rfl rfl 0 (by decide) w71 (fun _ h9 => h9) rfl dX4_among_73 ?_
                refine lv_iload_n hx hb dX4_among_76 rfl (lv_at hl 3 rfl) ?_
                refine lv_iload_n hx hb dX4_among_77 rfl (lv_at hl 4 rfl) ?_
                refine lv_iload_n hx hb dX4_among_78 rfl (lv_at hl 5 rfl) ?_
                obtain ⟨r48, h49, hf⟩ := op_b hf
                refine ck_VI (st := [.int x3, .int x2, .int x1, .ref (oO 1)]) (rest := []) (As := [.int x1, .int x2, .int x3]) (C := RX1) (ci := 1) ⟨hx, hb, hml, hown, hts⟩ (gE_ok tL tM adK adV) (c_X1_inState l D cI cC cK cO tL tM adK adV (oO 1) (oO 2) (oO 3) (oO 4) (oO 5) (oO 6) (oO 7) (wo.1) (wo.2.1) (wo.2.2.1) (wo.2.2.2.1) (wo.2.2.2.2.1) (wo.2.2.2.2.2.1) (wo.2.2.2.2.2.2.1) (wo.2.2.2.2.2.2.2.1) x1 x2 x3 K _ h49) (cwV 3 hts gX4_among_X1_inState rfl rfl rfl hv_X1_inState ⟨Nat.le_of_ble_eq_true rfl, Nat.le_of_ble_eq_true rfl⟩) hK hP hD hS hA hE [5, 6, 7, 8, 9, 10, 11] rfl rfl rfl rfl rfl (fun _ => rfl) rfl hl.1 rfl (Nat.le_of_ble_eq_true rfl) dX4_among_79 ⟨Nat.zero_le _, Nat.zero_le _⟩ (fun r u H locs hw hP hD hS => ?_)
                cases hw
                replace hP : va_P D vwCl (wB cI cC cK cO q oO oT hh wo wt hs hp kp fp fr sc sl sp sv sf ss) H := hP
                replace hD : va_D A (wB cI cC cK cO q oO oT hh wo wt hs hp kp fp fr sc sl sp sv sf ss) := hD
                refine lv_goto (tgt := 101) hx hb dX4_among_82 (by decide) ?_
                exact hret _ _ _ _ _ () dX4_among_101 (op_k hf) hP hS
