/-! laid by wip/whole/gen.py: walks of the reference's methods -/
set_option maxHeartbeats 4000000 in
set_option maxRecDepth 100000 in
theorem c_X5_in (l : Launch) (D : va_G) (cI cC cK cO : ClassId) (x0 : Int32) (x1 : Int32) (x2 : Int32) (R : Int32) (hf : f_X5_in x0 x1 x2 = R) : KI l D (TY cI cC cK cO) E0 yX5_in wsX5_in 0 [.int x0, .int x1, .int x2] [] (fun (r : Int32) (u : Unit) => r = R ∧ (r = 0 ∨ r = 1)) (fun u => []) := by
  refine KI.ofZ (cc := cX5_in) (maxL := 3) (C := RX5) (by decide) rfl rfl (Nat.le_of_ble_eq_true rfl) (fun _ _ h => h.2) ?_
  intro p e s m args below meth c A Q hx hb hml hts hown hP hK hD hA hE hS hret ls hl
  replace hl : lv_has ls 3 [(0, .int x0), (1, .int x1), (2, .int x2)] := hl
  rw [f_X5_in] at hf
  refine lv_iload_n hx hb dX5_in_0 rfl (lv_at hl 0 rfl) ?_
  refine lv_iload_n hx hb dX5_in_1 rfl (lv_at hl 1 rfl) ?_
  refine lv_icmp_lt (tgt := 14) hx hb dX5_in_2 (by decide) (fun c1 => ?_) (fun c1 => ?_)
  · replace hf := op_t c1 hf
    refine lv_iconst (v := 0) hx hb dX5_in_14 (by decide) ?_
    exact hret _ _ _ _ _ () dX5_in_15 ⟨hf, (Or.inl rfl)⟩ hP hS
  · replace hf := op_f c1 hf
    refine lv_iload_n hx hb dX5_in_5 rfl (lv_at hl 0 rfl) ?_
    refine lv_iload_n hx hb dX5_in_6 rfl (lv_at hl 2 rfl) ?_
    refine lv_icmp_gt (tgt := 14) hx hb dX5_in_7 (by decide) (fun c2 => ?_) (fun c2 => ?_)
    · replace hf := op_t c2 hf
      refine lv_iconst (v := 0) hx hb dX5_in_14 (by decide) ?_
      exact hret _ _ _ _ _ () dX5_in_15 ⟨hf, (Or.inl rfl)⟩ hP hS
    · replace hf := op_f c2 hf
      refine lv_iconst (v := 1) hx hb dX5_in_10 (by decide) ?_
      refine lv_goto (tgt := 15) hx hb dX5_in_11 (by decide) ?_
      exact hret _ _ _ _ _ () dX5_in_15 ⟨hf, (Or.inr rfl)⟩ hP hS
set_option maxHeartbeats 4000000 in
set_option maxRecDepth 100000 in
theorem c_X5_record (l : Launch) (D : va_G) (cI cC cK cO : ClassId) (h : Nat) (a1 : Nat) (a2 : Nat) (a3 : Nat) (a4 : Nat) (zs : Nat → Int32) (zb : Nat → Int32) (za : Nat → Int32) (zt : Nat → Int32) (zl : Int32) (zu : Int32) (zp : Int32) (zw : Int32) (zf : Int32) (zg : Int32) (zc : Int32) (K : Nat) (R : (Nat → Int32) × Int32) (hf : f_X5_record K zs zb zu = some R) : KV l D (TY cI cC cK cO) E0 yX5_record wsX5_record 0 [.ref h] (wM cI h a1 a2 a3 a4 zs zb za zt zl zu zp zw zf zg zc) (fun (u : (Nat → Int32) × Int32) => u = R) (fun u => (wM cI h a1 a2 a3 a4 zs (u.1) za zt zl (u.2) zp zw zf zg zc)) := by
  refine KV.of (cc := cX5_record) (maxL := 2) (C := RX5) (by decide) rfl rfl (Nat.le_of_ble_eq_true rfl) ?_
  intro p e s m args below meth c A Q hx hb hml hts hown hP hK hD hA hE hS hret ls hl
  replace hl : lv_has ls 2 [(0, .ref h)] := hl
  have w13 := hts (.fieldLink RX5 13 "BlockClerksModel" "before" "[I") (by decide +kernel)
  have w26 := hts (.fieldLink RX5 26 "BlockClerksModel" "undoMany" "I") (by decide +kernel)
  have w7 := hts (.fieldLink RX5 7 "BlockClerksModel" "s" "[I") (by decide +kernel)
  have iX5 : ∀ w ∈ wsX50, w ∈ wsX5_record := by decide +kernel
  have L_51 : ∀ (n : Nat) (zb : Nat → Int32) (zu : Int32) (x1 : Int32) (hf : f_X5_record_51 zs zu n x1 zb = some R) (H : Heap) (locs : List Loc) (ls : Array Slot), va_P D vwCl (wM cI h a1 a2 a3 a4 zs zb za zt zl zu zp zw zf zg zc) H → va_D A (wM cI h a1 a2 a3 a4 zs zb za zt zl zu zp zw zf zg zc) → va_S A s.heap H locs → lv_has ls 2 [(0, .ref h), (1, .int x1)] → W p l e (rm 0) s m args below meth c H locs 0 0 Q (F0 m 51 ls []) := by
    intro n
    induction n with
    | zero =>
      intro zb zu x1 hf
      cases hf
    | succ n ih =>
      intro zb zu x1 hf H locs ls hP hD hS hl
      rw [f_X5_record_51] at hf
      refine lv_iload_n hx hb dX5_record_51 rfl (lv_at hl 1 rfl) ?_
      refine lv_sipush (v := 3053) hx hb dX5_record_52 (by decide) ?_
      refine lv_icmp_ge (tgt := 85) hx hb dX5_record_55 (by decide) (fun c7 => ?_) (fun c7 => ?_)
      · replace hf := op_t c7 hf
        refine lv_aload_n hx hb dX5_record_85 rfl (lv_at hl 0 rfl) ?_
        refine lv_dup hx hb dX5_record_86 rfl ?_
        refine va_get (D := D) (ci := 5) (v := .int zu) (C := RX5) (T := TX5) (N := 11) hx hb hts iX5 hown hK hP 0 rfl rfl 5 (by decide) w26 (fun _ h9 => h9) rfl dX5_record_87 ?_
        refine lv_iconst (v := 1) hx hb dX5_record_90 (by decide) ?_
        refine lv_iadd hx hb dX5_record_91 ?_
        refine va_put (D := D) (ci := 5) (v := .int (zu + 1)) (ty := .int) (C := RX5) (T := TX5) (N := 11) hx hb hts iX5 tyX5 tyX5_ok nmX5 hown hK hP hD hS 0 rfl rfl 5 (by decide) w26 (fun _ h9 => h9) rfl (by decide +kernel) rfl rfl (Nat.le_of_ble_eq_true rfl) dX5_record_92 (fun H locs hP hD hS => ?_)
        replace hP : va_P D vwCl (wM cI h a1 a2 a3 a4 zs zb za zt zl (zu + 1) zp zw zf zg zc) H := hP
        replace hD : va_D A (wM cI h a1 a2 a3 a4 zs zb za zt zl (zu + 1) zp zw zf zg zc) := hD
        exact hret _ _ _ _ (zb, (zu + 1)) dX5_record_95 (op_k hf) hP hS
      · replace hf := op_f c7 hf
        refine lv_aload_n hx hb dX5_record_58 rfl (lv_at hl 0 rfl) ?_
        refine va_get (D := D) (ci := 5) (v := .ref a2) (C := RX5) (T := TX5) (N := 11) hx hb hts iX5 hown hK hP 0 rfl rfl 1 (by decide) w13 (fun _ h9 => h9) rfl dX5_record_59 ?_
        refine lv_sipush (v := 3053) hx hb dX5_record_62 (by decide) ?_
        refine lv_aload_n hx hb dX5_record_65 rfl (lv_at hl 0 rfl) ?_
        refine va_get (D := D) (ci := 5) (v := .int zu) (C := RX5) (T := TX5) (N := 11) hx hb hts iX5 hown hK hP 0 rfl rfl 5 (by decide) w26 (fun _ h9 => h9) rfl dX5_record_66 ?_
        refine lv_imul hx hb dX5_record_69 ?_
        refine lv_iload_n hx hb dX5_record_70 rfl (lv_at hl 1 rfl) ?_
        refine lv_iadd hx hb dX5_record_71 ?_
        refine lv_aload_n hx hb dX5_record_72 rfl (lv_at hl 0 rfl) ?_
        refine va_get (D := D) (ci := 5) (v := .ref a1) (C := RX5) (T := TX5) (N := 11) hx hb hts iX5 hown hK hP 0 rfl rfl 0 (by decide) w7 (fun _ h9 => h9) rfl dX5_record_73 ?_
        refine lv_iload_n hx hb dX5_record_76 rfl (lv_at hl 1 rfl) ?_
        obtain ⟨q8, hf⟩ := op_x hf
        refine ck_iald (j := (x1).toNatClampNeg) hx hb hK hP 1 0 rfl rfl q8 rfl dX5_record_77 ?_
        obtain ⟨q9, hf⟩ := op_x hf
        obtain ⟨y10, e11, hf⟩ := nb_o hf
        refine ck_iast (f' := y10) hx hb hK hP hD hS 2 0 rfl rfl q9 dX5_record_78 e11 (fun H locs hP hD hS => ?_)
        replace hP : va_P D vwCl (wM cI h a1 a2 a3 a4 zs y10 za zt zl zu zp zw zf zg zc) H := hP
        replace hD : va_D A (wM cI h a1 a2 a3 a4 zs y10 za zt zl zu zp zw zf zg zc) := hD
        refine lv_iinc (v := (x1 + 1)) (lv' := [(1, .int (x1 + 1)), (0, .ref h)]) hx hb dX5_record_79 hl (k := 1) rfl rfl (by decide) rfl (fun ls hl => ?_)
        refine lv_goto (tgt := 51) hx hb dX5_record_82 (by decide) ?_
        exact ih y10 zu (x1 + 1) hf _ _ _ hP hD hS (lv_sub hl [1, 0] rfl)
  have L_10 : ∀ (n : Nat) (zb : Nat → Int32) (zu : Int32) (x1 : Int32) (hf : f_X5_record_10 K zs zu n x1 zb = some R) (H : Heap) (locs : List Loc) (ls : Array Slot), va_P D vwCl (wM cI h a1 a2 a3 a4 zs zb za zt zl zu zp zw zf zg zc) H → va_D A (wM cI h a1 a2 a3 a4 zs zb za zt zl zu zp zw zf zg zc) → va_S A s.heap H locs → lv_has ls 2 [(0, .ref h), (1, .int x1)] → W p l e (rm 0) s m args below meth c H locs 0 0 Q (F0 m 10 ls []) := by
    intro n
    induction n with
    | zero =>
      intro zb zu x1 hf
      cases hf
    | succ n ih =>
      intro zb zu x1 hf H locs ls hP hD hS hl
      rw [f_X5_record_10] at hf
      refine lv_iload_n hx hb dX5_record_10 rfl (lv_at hl 1 rfl) ?_
      refine lv_sipush (v := 9159) hx hb dX5_record_11 (by decide) ?_
      refine lv_icmp_ge (tgt := 39) hx hb dX5_record_14 (by decide) (fun c2 => ?_) (fun c2 => ?_)
      · replace hf := op_t c2 hf
        refine lv_aload_n hx hb dX5_record_39 rfl (lv_at hl 0 rfl) ?_
        refine lv_dup hx hb dX5_record_40 rfl ?_
        refine va_get (D := D) (ci := 5) (v := .int zu) (C := RX5) (T := TX5) (N := 11) hx hb hts iX5 hown hK hP 0 rfl rfl 5 (by decide) w26 (fun _ h9 => h9) rfl dX5_record_41 ?_
        refine lv_iconst (v := 1) hx hb dX5_record_44 (by decide) ?_
        refine lv_isub hx hb dX5_record_45 ?_
        refine va_put (D := D) (ci := 5) (v := .int (zu - 1)) (ty := .int) (C := RX5) (T := TX5) (N := 11) hx hb hts iX5 tyX5 tyX5_ok nmX5 hown hK hP hD hS 0 rfl rfl 5 (by decide) w26 (fun _ h9 => h9) rfl (by decide +kernel) rfl rfl (Nat.le_of_ble_eq_true rfl) dX5_record_46 (fun H locs hP hD hS => ?_)
        replace hP : va_P D vwCl (wM cI h a1 a2 a3 a4 zs zb za zt zl (zu - 1) zp zw zf zg zc) H := hP
        replace hD : va_D A (wM cI h a1 a2 a3 a4 zs zb za zt zl (zu - 1) zp zw zf zg zc) := hD
        refine lv_iconst (v := 0) hx hb dX5_record_49 (by decide) ?_
        refine lv_istore_n (lv' := [(1, .int 0), (0, .ref h)]) hx hb dX5_record_50 rfl hl (by decide) rfl (fun ls hl => ?_)
        exact L_51 K zb (zu - 1) 0 hf _ _ _ hP hD hS (lv_sub hl [1, 0] rfl)
      · replace hf := op_f c2 hf
        refine lv_aload_n hx hb dX5_record_17 rfl (lv_at hl 0 rfl) ?_
        refine va_get (D := D) (ci := 5) (v := .ref a2) (C := RX5) (T := TX5) (N := 11) hx hb hts iX5 hown hK hP 0 rfl rfl 1 (by decide) w13 (fun _ h9 => h9) rfl dX5_record_18 ?_
        refine lv_iload_n hx hb dX5_record_21 rfl (lv_at hl 1 rfl) ?_
        refine lv_aload_n hx hb dX5_record_22 rfl (lv_at hl 0 rfl) ?_
        refine va_get (D := D) (ci := 5) (v := .ref a2) (C := RX5) (T := TX5) (N := 11) hx hb hts iX5 hown hK hP 0 rfl rfl 1 (by decide) w13 (fun _ h9 => h9) rfl dX5_record_23 ?_
        refine lv_sipush (v := 3053) hx hb dX5_record_26 (by decide) ?_
        refine lv_iload_n hx hb dX5_record_29 rfl (lv_at hl 1 rfl) ?_
        refine lv_iadd hx hb dX5_record_30 ?_
        obtain ⟨q3, hf⟩ := op_x hf
        refine ck_iald (j := (3053 + x1).toNatClampNeg) hx hb hK hP 2 0 rfl rfl q3 rfl dX5_record_31 ?_
        obtain ⟨q4, hf⟩ := op_x hf
        obtain ⟨y5, e6, hf⟩ := nb_o hf
        refine ck_iast (f' := y5) hx hb hK hP hD hS 2 0 rfl rfl q4 dX5_record_32 e6 (fun H locs hP hD hS => ?_)
        replace hP : va_P D vwCl (wM cI h a1 a2 a3 a4 zs y5 za zt zl zu zp zw zf zg zc) H := hP
        replace hD : va_D A (wM cI h a1 a2 a3 a4 zs y5 za zt zl zu zp zw zf zg zc) := hD
        refine lv_iinc (v := (x1 + 1)) (lv' := [(1, .int (x1 + 1)), (0, .ref h)]) hx hb dX5_record_33 hl (k := 1) rfl rfl (by decide) rfl (fun ls hl => ?_)
        refine lv_goto (tgt := 10) hx hb dX5_record_36 (by decide) ?_
        exact ih y5 zu (x1 + 1) hf _ _ _ hP hD hS (lv_sub hl [1, 0] rfl)
  rw [f_X5_record] at hf
  refine lv_aload_n hx hb dX5_record_0 rfl (lv_at hl 0 rfl) ?_
  refine va_get (D := D) (ci := 5) (v := .int zu) (C := RX5) (T := TX5) (N := 11) hx hb hts iX5 hown hK hP 0 rfl rfl 5 (by decide) w26 (fun _ h9 => h9) rfl dX5_record_1 ?_
  refine lv_iconst (v := 4) hx hb dX5_record_4 (by decide) ?_
  refine lv_icmp_ne (tgt := 49) hx hb dX5_record_5 (by decide) (fun c1 => ?_) (fun c1 => ?_)
  · replace hf := op_f c1 hf
    refine lv_iconst (v := 0) hx hb dX5_record_49 (by decide) ?_
    refine lv_istore_n (lv' := [(1, .int 0), (0, .ref h)]) hx hb dX5_record_50 rfl hl (by decide) rfl (fun ls hl => ?_)
    exact L_51 K zb zu 0 hf _ _ _ hP hD hS (lv_sub hl [1, 0] rfl)
  · replace hf := op_t c1 hf
    refine lv_iconst (v := 0) hx hb dX5_record_8 (by decide) ?_
    refine lv_istore_n (lv' := [(1, .int 0), (0, .ref h)]) hx hb dX5_record_9 rfl hl (by decide) rfl (fun ls hl => ?_)
    exact L_10 K zb zu 0 hf _ _ _ hP hD hS (lv_sub hl [1, 0] rfl)
set_option maxHeartbeats 4000000 in
set_option maxRecDepth 100000 in
theorem c_X5_layAside (l : Launch) (D : va_G) (cI cC cK cO : ClassId) (h : Nat) (a1 : Nat) (a2 : Nat) (a3 : Nat) (a4 : Nat) (zs : Nat → Int32) (zb : Nat → Int32) (za : Nat → Int32) (zt : Nat → Int32) (zl : Int32) (zu : Int32) (zp : Int32) (zw : Int32) (zf : Int32) (zg : Int32) (zc : Int32) (K : Nat) (R : (Nat → Int32)) (hf : f_X5_layAside K zs za = some R) : KV l D (TY cI cC cK cO) E0 yX5_layAside wsX5_layAside 0 [.ref h] (wM cI h a1 a2 a3 a4 zs zb za zt zl zu zp zw zf zg zc) (fun (u : (Nat → Int32)) => u = R) (fun u => (wM cI h a1 a2 a3 a4 zs zb u zt zl zu zp zw zf zg zc)) := by
  refine KV.of (cc := cX5_layAside) (maxL := 2) (C := RX5) (by decide) rfl rfl (Nat.le_of_ble_eq_true rfl) ?_
  intro p e s m args below meth c A Q hx hb hml hts hown hP hK hD hA hE hS hret ls hl
  replace hl : lv_has ls 2 [(0, .ref h)] := hl
  have w16 := hts (.fieldLink RX5 16 "BlockClerksModel" "aside" "[I") (by decide +kernel)
  have w7 := hts (.fieldLink RX5 7 "BlockClerksModel" "s" "[I") (by decide +kernel)
  have iX5 : ∀ w ∈ wsX50, w ∈ wsX5_layAside := by decide +kernel
  have L_2 : ∀ (n : Nat) (za : Nat → Int32) (x1 : Int32) (hf : f_X5_layAside_2 zs n x1 za = some R) (H : Heap) (locs : List Loc) (ls : Array Slot), va_P D vwCl (wM cI h a1 a2 a3 a4 zs zb za zt zl zu zp zw zf zg zc) H → va_D A (wM cI h a1 a2 a3 a4 zs zb za zt zl zu zp zw zf zg zc) → va_S A s.heap H locs → lv_has ls 2 [(0, .ref h), (1, .int x1)] → W p l e (rm 0) s m args below meth c H locs 0 0 Q (F0 m 2 ls []) := by
    intro n
    induction n with
    | zero =>
      intro za x1 hf
      cases hf
    | succ n ih =>
      intro za x1 hf H locs ls hP hD hS hl
      rw [f_X5_layAside_2] at hf
      refine lv_iload_n hx hb dX5_layAside_2 rfl (lv_at hl 1 rfl) ?_
      refine lv_sipush (v := 3053) hx hb dX5_layAside_3 (by decide) ?_
      refine lv_icmp_ge (tgt := 27) hx hb dX5_layAside_6 (by decide) (fun c1 => ?_) (fun c1 => ?_)
      · replace hf := op_t c1 hf
        exact hret _ _ _ _ (za) dX5_layAside_27 (op_k hf) hP hS
      · replace hf := op_f c1 hf
        refine lv_aload_n hx hb dX5_layAside_9 rfl (lv_at hl 0 rfl) ?_
        refine va_get (D := D) (ci := 5) (v := .ref a3) (C := RX5) (T := TX5) (N := 11) hx hb hts iX5 hown hK hP 0 rfl rfl 2 (by decide) w16 (fun _ h9 => h9) rfl dX5_layAside_10 ?_
        refine lv_iload_n hx hb dX5_layAside_13 rfl (lv_at hl 1 rfl) ?_
        refine lv_aload_n hx hb dX5_layAside_14 rfl (lv_at hl 0 rfl) ?_
        refine va_get (D := D) (ci := 5) (v := .ref a1) (C := RX5) (T := TX5) (N := 11) hx hb hts iX5 hown hK hP 0 rfl rfl 0 (by decide) w7 (fun _ h9 => h9) rfl dX5_layAside_15 ?_
        refine lv_iload_n hx hb dX5_layAside_18 rfl (lv_at hl 1 rfl) ?_
        obtain ⟨q2, hf⟩ := op_x hf
        refine ck_iald (j := (x1).toNatClampNeg) hx hb hK hP 1 0 rfl rfl q2 rfl dX5_layAside_19 ?_
        obtain ⟨q3, hf⟩ := op_x hf
        obtain ⟨y4, e5, hf⟩ := nb_o hf
        refine ck_iast (f' := y4) hx hb hK hP hD hS 3 0 rfl rfl q3 dX5_layAside_20 e5 (fun H locs hP hD hS => ?_)
        replace hP : va_P D vwCl (wM cI h a1 a2 a3 a4 zs zb y4 zt zl zu zp zw zf zg zc) H := hP
        replace hD : va_D A (wM cI h a1 a2 a3 a4 zs zb y4 zt zl zu zp zw zf zg zc) := hD
        refine lv_iinc (v := (x1 + 1)) (lv' := [(1, .int (x1 + 1)), (0, .ref h)]) hx hb dX5_layAside_21 hl (k := 1) rfl rfl (by decide) rfl (fun ls hl => ?_)
        refine lv_goto (tgt := 2) hx hb dX5_layAside_24 (by decide) ?_
        exact ih y4 (x1 + 1) hf _ _ _ hP hD hS (lv_sub hl [1, 0] rfl)
  rw [f_X5_layAside] at hf
  refine lv_iconst (v := 0) hx hb dX5_layAside_0 (by decide) ?_
  refine lv_istore_n (lv' := [(1, .int 0), (0, .ref h)]) hx hb dX5_layAside_1 rfl hl (by decide) rfl (fun ls hl => ?_)
  exact L_2 K za 0 hf _ _ _ hP hD hS (lv_sub hl [1, 0] rfl)
set_option maxHeartbeats 4000000 in
set_option maxRecDepth 100000 in
theorem c_X5_layBack (l : Launch) (D : va_G) (cI cC cK cO : ClassId) (h : Nat) (a1 : Nat) (a2 : Nat) (a3 : Nat) (a4 : Nat) (zs : Nat → Int32) (zb : Nat → Int32) (za : Nat → Int32) (zt : Nat → Int32) (zl : Int32) (zu : Int32) (zp : Int32) (zw : Int32) (zf : Int32) (zg : Int32) (zc : Int32) (K : Nat) (R : (Nat → Int32)) (hf : f_X5_layBack K zs za = some R) : KV l D (TY cI cC cK cO) E0 yX5_layBack wsX5_layBack 0 [.ref h] (wM cI h a1 a2 a3 a4 zs zb za zt zl zu zp zw zf zg zc) (fun (u : (Nat → Int32)) => u = R) (fun u => (wM cI h a1 a2 a3 a4 u zb za zt zl zu zp zw zf zg zc)) := by
  refine KV.of (cc := cX5_layBack) (maxL := 2) (C := RX5) (by decide) rfl rfl (Nat.le_of_ble_eq_true rfl) ?_
  intro p e s m args below meth c A Q hx hb hml hts hown hP hK hD hA hE hS hret ls hl
  replace hl : lv_has ls 2 [(0, .ref h)] := hl
  have w16 := hts (.fieldLink RX5 16 "BlockClerksModel" "aside" "[I") (by decide +kernel)
  have w7 := hts (.fieldLink RX5 7 "BlockClerksModel" "s" "[I") (by decide +kernel)
  have iX5 : ∀ w ∈ wsX50, w ∈ wsX5_layBack := by decide +kernel
  have L_2 : ∀ (n : Nat) (zs : Nat → Int32) (x1 : Int32) (hf : f_X5_layBack_2 za n x1 zs = some R) (H : Heap) (locs : List Loc) (ls : Array Slot), va_P D vwCl (wM cI h a1 a2 a3 a4 zs zb za zt zl zu zp zw zf zg zc) H → va_D A (wM cI h a1 a2 a3 a4 zs zb za zt zl zu zp zw zf zg zc) → va_S A s.heap H locs → lv_has ls 2 [(0, .ref h), (1, .int x1)] → W p l e (rm 0) s m args below meth c H locs 0 0 Q (F0 m 2 ls []) := by
    intro n
    induction n with
    | zero =>
      intro zs x1 hf
      cases hf
    | succ n ih =>
      intro zs x1 hf H locs ls hP hD hS hl
      rw [f_X5_layBack_2] at hf
      refine lv_iload_n hx hb dX5_layBack_2 rfl (lv_at hl 1 rfl) ?_
      refine lv_sipush (v := 3053) hx hb dX5_layBack_3 (by decide) ?_
      refine lv_icmp_ge (tgt := 27) hx hb dX5_layBack_6 (by decide) (fun c1 => ?_) (fun c1 => ?_)
      · replace hf := op_t c1 hf
        exact hret _ _ _ _ (zs) dX5_layBack_27 (op_k hf) hP hS
      · replace hf := op_f c1 hf
        refine lv_aload_n hx hb dX5_layBack_9 rfl (lv_at hl 0 rfl) ?_
        refine va_get (D := D) (ci := 5) (v := .ref a1) (C := RX5) (T := TX5) (N := 11) hx hb hts iX5 hown hK hP 0 rfl rfl 0 (by decide) w7 (fun _ h9 => h9) rfl dX5_layBack_10 ?_
        refine lv_iload_n hx hb dX5_layBack_13 rfl (lv_at hl 1 rfl) ?_
        refine lv_aload_n hx hb dX5_layBack_14 rfl (lv_at hl 0 rfl) ?_
        refine va_get (D := D) (ci := 5) (v := .ref a3) (C := RX5) (T := TX5) (N := 11) hx hb hts iX5 hown hK hP 0 rfl rfl 2 (by decide) w16 (fun _ h9 => h9) rfl dX5_layBack_15 ?_
        refine lv_iload_n hx hb dX5_layBack_18 rfl (lv_at hl 1 rfl) ?_
        obtain ⟨q2, hf⟩ := op_x hf
        refine ck_iald (j := (x1).toNatClampNeg) hx hb hK hP 3 0 rfl rfl q2 rfl dX5_layBack_19 ?_
        obtain ⟨q3, hf⟩ := op_x hf
        obtain ⟨y4, e5, hf⟩ := nb_o hf
        refine ck_iast (f' := y4) hx hb hK hP hD hS 1 0 rfl rfl q3 dX5_layBack_20 e5 (fun H locs hP hD hS => ?_)
        replace hP : va_P D vwCl (wM cI h a1 a2 a3 a4 y4 zb za zt zl zu zp zw zf zg zc) H := hP
        replace hD : va_D A (wM cI h a1 a2 a3 a4 y4 zb za zt zl zu zp zw zf zg zc) := hD
        refine lv_iinc (v := (x1 + 1)) (lv' := [(1, .int (x1 + 1)), (0, .ref h)]) hx hb dX5_layBack_21 hl (k := 1) rfl rfl (by decide) rfl (fun ls hl => ?_)
        refine lv_goto (tgt := 2) hx hb dX5_layBack_24 (by decide) ?_
        exact ih y4 (x1 + 1) hf _ _ _ hP hD hS (lv_sub hl [1, 0] rfl)
  rw [f_X5_layBack] at hf
  refine lv_iconst (v := 0) hx hb dX5_layBack_0 (by decide) ?_
  refine lv_istore_n (lv' := [(1, .int 0), (0, .ref h)]) hx hb dX5_layBack_1 rfl hl (by decide) rfl (fun ls hl => ?_)
  exact L_2 K zs 0 hf _ _ _ hP hD hS (lv_sub hl [1, 0] rfl)
set_option maxHeartbeats 4000000 in
set_option maxRecDepth 100000 in
theorem c_X5_n (l : Launch) (D : va_G) (cI cC cK cO : ClassId) (x0 : Int32) (R : Int32) (hf : f_X5_n x0 = R) : KI l D (TY cI cC cK cO) E0 yX5_n wsX5_n 0 [.int x0] [] (fun (r : Int32) (u : Unit) => r = R) (fun u => []) := by
  refine KI.ofI (cc := cX5_n) (maxL := 1) (C := RX5) (by decide) rfl rfl (Nat.le_of_ble_eq_true rfl) ?_
  intro p e s m args below meth c A Q hx hb hml hts hown hP hK hD hA hE hS hret ls hl
  replace hl : lv_has ls 1 [(0, .int x0)] := hl
  rw [f_X5_n] at hf
  refine lv_bipush (v := 48) hx hb dX5_n_0 (by decide) ?_
  refine lv_iconst (v := 5) hx hb dX5_n_2 (by decide) ?_
  refine lv_iload_n hx hb dX5_n_3 rfl (lv_at hl 0 rfl) ?_
  refine lv_imul hx hb dX5_n_4 ?_
  refine lv_iadd hx hb dX5_n_5 ?_
  exact hret _ _ _ _ _ () dX5_n_6 hf hP hS
set_option maxHeartbeats 4000000 in
set_option maxRecDepth 100000 in
theorem c_X5_c (l : Launch) (D : va_G) (cI cC cK cO : ClassId) (x0 : Int32) (R : Int32) (hf : f_X5_c x0 = R) : KI l D (TY cI cC cK cO) E0 yX5_c wsX5_c 0 [.int x0] [] (fun (r : Int32) (u : Unit) => r = R) (fun u => []) := by
  refine KI.ofI (cc := cX5_c) (maxL := 1) (C := RX5) (by decide) rfl rfl (Nat.le_of_ble_eq_true rfl) ?_
  intro p e s m args below meth c A Q hx hb hml hts hown hP hK hD hA hE hS hret ls hl
  replace hl : lv_has ls 1 [(0, .int x0)] := hl
  rw [f_X5_c] at hf
  refine lv_bipush (v := 6) hx hb dX5_c_0 (by decide) ?_
  refine lv_bipush (v := 7) hx hb dX5_c_2 (by decide) ?_
  refine lv_iload_n hx hb dX5_c_4 rfl (lv_at hl 0 rfl) ?_
  refine lv_imul hx hb dX5_c_5 ?_
  refine lv_iadd hx hb dX5_c_6 ?_
  exact hret _ _ _ _ _ () dX5_c_7 hf hP hS
set_option maxHeartbeats 4000000 in
set_option maxRecDepth 100000 in
theorem c_X5_isClerk (l : Launch) (D : va_G) (cI cC cK cO : ClassId) (h : Nat) (a1 : Nat) (a2 : Nat) (a3 : Nat) (a4 : Nat) (zs : Nat → Int32) (zb : Nat → Int32) (za : Nat → Int32) (zt : Nat → Int32) (zl : Int32) (zu : Int32) (zp : Int32) (zw : Int32) (zf : Int32) (zg : Int32) (zc : Int32) (x1 : Int32) (R : Int32) (hf : f_X5_isClerk zs x1 = R) : KI l D (TY cI cC cK cO) E0 yX5_isClerk wsX5_isClerk 1 [.ref h, .int x1] (wM cI h a1 a2 a3 a4 zs zb za zt zl zu zp zw zf zg zc) (fun (r : Int32) (u : Unit) => r = R ∧ (r = 0 ∨ r = 1)) (fun u => (wM cI h a1 a2 a3 a4 zs zb za zt zl zu zp zw zf zg zc)) := by
  refine KI.ofZ (cc := cX5_isClerk) (maxL := 2) (C := RX5) (by decide) rfl rfl (Nat.le_of_ble_eq_true rfl) (fun _ _ h => h.2) ?_
  intro p e s m args below meth c A Q hx hb hml hts hown hP hK hD hA hE hS hret ls hl
  replace hl : lv_has ls 2 [(0, .ref h), (1, .int x1)] := hl
  have w7 := hts (.fieldLink RX5 7 "BlockClerksModel" "s" "[I") (by decide +kernel)
  have iX5 : ∀ w ∈ wsX50, w ∈ wsX5_isClerk := by decide +kernel
  rw [f_X5_isClerk] at hf
  refine lv_iload_n hx hb dX5_isClerk_0 rfl (lv_at hl 1 rfl) ?_
  refine lv_iconst (v := 0) hx hb dX5_isClerk_1 (by decide) ?_
  refine lv_aload_n hx hb dX5_isClerk_2 rfl (lv_at hl 0 rfl) ?_
  refine va_get (D := D) (ci := 5) (v := .ref a1) (C := RX5) (T := TX5) (N := 11) hx hb hts iX5 hown hK hP 0 rfl rfl 0 (by decide) w7 (fun _ h9 => h9) rfl dX5_isClerk_3 ?_
  refine lv_iconst (v := 3) hx hb dX5_isClerk_6 (by decide) ?_
  refine ck_iald (j := 3) hx hb hK hP 1 0 rfl rfl (in_lit (by decide)) (by decide) dX5_isClerk_7 ?_
  refine lv_iconst (v := 1) hx hb dX5_isClerk_8 (by decide) ?_
  refine lv_isub hx hb dX5_isClerk_9 ?_
  refine ck_SI (st := [.int ((zs 3) - 1), .int 0, .int x1]) (rest := []) (As := [.int x1, .int 0, .int ((zs 3) - 1)]) ⟨hx, hb, hml, hown, hts⟩ E0_ok (c_X5_in l D cI cC cK cO  x1 0 ((zs 3) - 1) _ rfl) (va_cwS 3 hts gX5_isClerk_X5_in rfl rfl rfl hs_X5_in ⟨Nat.le_of_ble_eq_true rfl, Nat.le_of_ble_eq_true rfl⟩) hK hP hD hS hA hE rfl hl.1 rfl (Nat.le_of_ble_eq_true rfl) dX5_isClerk_10 ⟨Nat.zero_le _, Nat.zero_le _⟩ (fun r H locs hw hP hS => ?_)
  obtain ⟨hw, z2⟩ := hw
  cases hw
  exact hret _ _ _ _ _ () dX5_isClerk_13 ⟨hf, z2⟩ hP hS
set_option maxHeartbeats 4000000 in
set_option maxRecDepth 100000 in
theorem c_X5_isNumber (l : Launch) (D : va_G) (cI cC cK cO : ClassId) (x0 : Int32) (R : Int32) (hf : f_X5_isNumber x0 = R) : KI l D (TY cI cC cK cO) E0 yX5_isNumber wsX5_isNumber 1 [.int x0] [] (fun (r : Int32) (u : Unit) => r = R ∧ (r = 0 ∨ r = 1)) (fun u => []) := by
  refine KI.ofZ (cc := cX5_isNumber) (maxL := 1) (C := RX5) (by decide) rfl rfl (Nat.le_of_ble_eq_true rfl) (fun _ _ h => h.2) ?_
  intro p e s m args below meth c A Q hx hb hml hts hown hP hK hD hA hE hS hret ls hl
  replace hl : lv_has ls 1 [(0, .int x0)] := hl
  rw [f_X5_isNumber] at hf
  refine lv_iload_n hx hb dX5_isNumber_0 rfl (lv_at hl 0 rfl) ?_
  refine lv_iconst (v := 1) hx hb dX5_isNumber_1 (by decide) ?_
  refine lv_sipush (v := 600) hx hb dX5_isNumber_2 (by decide) ?_
  refine ck_SI (st := [.int 600, .int 1, .int x0]) (rest := []) (As := [.int x0, .int 1, .int 600]) ⟨hx, hb, hml, hown, hts⟩ E0_ok (c_X5_in l D cI cC cK cO  x0 1 600 _ rfl) (va_cwS 3 hts gX5_isNumber_X5_in rfl rfl rfl hs_X5_in ⟨Nat.le_of_ble_eq_true rfl, Nat.le_of_ble_eq_true rfl⟩) hK hP hD hS hA hE rfl hl.1 rfl (Nat.le_of_ble_eq_true rfl) dX5_isNumber_5 ⟨Nat.zero_le _, Nat.zero_le _⟩ (fun r H locs hw hP hS => ?_)
  obtain ⟨hw, z2⟩ := hw
  cases hw
  exact hret _ _ _ _ _ () dX5_isNumber_8 ⟨hf, z2⟩ hP hS
set_option maxHeartbeats 4000000 in
set_option maxRecDepth 100000 in
theorem c_X5_holds (l : Launch) (D : va_G) (cI cC cK cO : ClassId) (h : Nat) (a1 : Nat) (a2 : Nat) (a3 : Nat) (a4 : Nat) (zs : Nat → Int32) (zb : Nat → Int32) (za : Nat → Int32) (zt : Nat → Int32) (zl : Int32) (zu : Int32) (zp : Int32) (zw : Int32) (zf : Int32) (zg : Int32) (zc : Int32) (x1 : Int32) (R : Int32) (hf : f_X5_holds zs x1 = some R) : KI l D (TY cI cC cK cO) E0 yX5_holds wsX5_holds 1 [.ref h, .int x1] (wM cI h a1 a2 a3 a4 zs zb za zt zl zu zp zw zf zg zc) (fun (r : Int32) (u : Unit) => r = R) (fun u => (wM cI h a1 a2 a3 a4 zs zb za zt zl zu zp zw zf zg zc)) := by
  refine KI.ofI (cc := cX5_holds) (maxL := 2) (C := RX5) (by decide) rfl rfl (Nat.le_of_ble_eq_true rfl) ?_
  intro p e s m args below meth c A Q hx hb hml hts hown hP hK hD hA hE hS hret ls hl
  replace hl : lv_has ls 2 [(0, .ref h), (1, .int x1)] := hl
  have w7 := hts (.fieldLink RX5 7 "BlockClerksModel" "s" "[I") (by decide +kernel)
  have iX5 : ∀ w ∈ wsX50, w ∈ wsX5_holds := by decide +kernel
  rw [f_X5_holds] at hf
  refine lv_aload_n hx hb dX5_holds_0 rfl (lv_at hl 0 rfl) ?_
  refine va_get (D := D) (ci := 5) (v := .ref a1) (C := RX5) (T := TX5) (N := 11) hx hb hts iX5 hown hK hP 0 rfl rfl 0 (by decide) w7 (fun _ h9 => h9) rfl dX5_holds_1 ?_
  refine lv_iload_n hx hb dX5_holds_4 rfl (lv_at hl 1 rfl) ?_
  refine ck_SI (st := [.int x1, .ref a1]) (rest := [.ref a1]) (As := [.int x1]) ⟨hx, hb, hml, hown, hts⟩ E0_ok (c_X5_c l D cI cC cK cO  x1 _ rfl) (va_cwS 1 hts gX5_holds_X5_c rfl rfl rfl hs_X5_c ⟨Nat.le_of_ble_eq_true rfl, Nat.le_of_ble_eq_true rfl⟩) hK hP hD hS hA hE rfl hl.1 rfl (Nat.le_of_ble_eq_true rfl) dX5_holds_5 ⟨Nat.zero_le _, Nat.zero_le _⟩ (fun r H locs hw hP hS => ?_)
  cases hw
  refine lv_iconst (v := 2) hx hb dX5_holds_8 (by decide) ?_
  refine lv_iadd hx hb dX5_holds_9 ?_
  obtain ⟨q3, hf⟩ := op_x hf
  refine ck_iald (j := ((f_X5_c x1) + 2).toNatClampNeg) hx hb hK hP 1 0 rfl rfl q3 rfl dX5_holds_10 ?_
  refine lv_aload_n hx hb dX5_holds_11 rfl (lv_at hl 0 rfl) ?_
  refine va_get (D := D) (ci := 5) (v := .ref a1) (C := RX5) (T := TX5) (N := 11) hx hb hts iX5 hown hK hP 0 rfl rfl 0 (by decide) w7 (fun _ h9 => h9) rfl dX5_holds_12 ?_
  refine lv_iload_n hx hb dX5_holds_15 rfl (lv_at hl 1 rfl) ?_
  refine ck_SI (st := [.int x1, .ref a1, .int (zs ((f_X5_c x1) + 2).toNatClampNeg)]) (rest := [.ref a1, .int (zs ((f_X5_c x1) + 2).toNatClampNeg)]) (As := [.int x1]) ⟨hx, hb, hml, hown, hts⟩ E0_ok (c_X5_c l D cI cC cK cO  x1 _ rfl) (va_cwS 1 hts gX5_holds_X5_c rfl rfl rfl hs_X5_c ⟨Nat.le_of_ble_eq_true rfl, Nat.le_of_ble_eq_true rfl⟩) hK hP hD hS hA hE rfl hl.1 rfl (Nat.le_of_ble_eq_true rfl) dX5_holds_16 ⟨Nat.zero_le _, Nat.zero_le _⟩ (fun r H locs hw hP hS => ?_)
  cases hw
  refine lv_iconst (v := 1) hx hb dX5_holds_19 (by decide) ?_
  refine lv_iadd hx hb dX5_holds_20 ?_
  obtain ⟨q6, hf⟩ := op_x hf
  refine ck_iald (j := ((f_X5_c x1) + 1).toNatClampNeg) hx hb hK hP 1 0 rfl rfl q6 rfl dX5_holds_21 ?_
  refine lv_isub hx hb dX5_holds_22 ?_
  refine lv_iconst (v := 1) hx hb dX5_holds_23 (by decide) ?_
  refine lv_iadd hx hb dX5_holds_24 ?_
  exact hret _ _ _ _ _ () dX5_holds_25 (op_k hf) hP hS
set_option maxHeartbeats 4000000 in
set_option maxRecDepth 100000 in
theorem c_X5_many (l : Launch) (D : va_G) (cI cC cK cO : ClassId) (h : Nat) (a1 : Nat) (a2 : Nat) (a3 : Nat) (a4 : Nat) (zs : Nat → Int32) (zb : Nat → Int32) (za : Nat → Int32) (zt : Nat → Int32) (zl : Int32) (zu : Int32) (zp : Int32) (zw : Int32) (zf : Int32) (zg : Int32) (zc : Int32) (x1 : Int32) (K : Nat) (R : Int32) (hf : f_X5_many K zs x1 = some R) : KI l D (TY cI cC cK cO) E0 yX5_many wsX5_many 1 [.ref h, .int x1] (wM cI h a1 a2 a3 a4 zs zb za zt zl zu zp zw zf zg zc) (fun (r : Int32) (u : Unit) => r = R) (fun u => (wM cI h a1 a2 a3 a4 zs zb za zt zl zu zp zw zf zg zc)) := by
  refine KI.ofI (cc := cX5_many) (maxL := 4) (C := RX5) (by decide) rfl rfl (Nat.le_of_ble_eq_true rfl) ?_
  intro p e s m args below meth c A Q hx hb hml hts hown hP hK hD hA hE hS hret ls hl
  replace hl : lv_has ls 4 [(0, .ref h), (1, .int x1)] := hl
  have w7 := hts (.fieldLink RX5 7 "BlockClerksModel" "s" "[I") (by decide +kernel)
  have iX5 : ∀ w ∈ wsX50, w ∈ wsX5_many := by decide +kernel
  have L_4 : ∀ (n : Nat)  (x1 : Int32) (x2 : Int32) (x3 : Int32) (hf : f_X5_many_4 x1 zs n x2 x3 = some R) (H : Heap) (locs : List Loc) (ls : Array Slot), va_P D vwCl (wM cI h a1 a2 a3 a4 zs zb za zt zl zu zp zw zf zg zc) H → va_D A (wM cI h a1 a2 a3 a4 zs zb za zt zl zu zp zw zf zg zc) → va_S A s.heap H locs → lv_has ls 4 [(0, .ref h), (1, .int x1), (2, .int x2), (3, .int x3)] → W p l e (rm 1) s m args below meth c H locs 0 0 Q (F0 m 4 ls []) := by
    intro n
    induction n with
    | zero =>
      intro  x1 x2 x3 hf
      cases hf
    | succ n ih =>
      intro  x1 x2 x3 hf H locs ls hP hD hS hl
      rw [f_X5_many_4] at hf
      refine lv_iload_n hx hb dX5_many_4 rfl (lv_at hl 3 rfl) ?_
      refine lv_sipush (v := 600) hx hb dX5_many_5 (by decide) ?_
      refine lv_icmp_gt (tgt := 40) hx hb dX5_many_8 (by decide) (fun c1 => ?_) (fun c1 => ?_)
      · replace hf := op_t c1 hf
        refine lv_iload_n hx hb dX5_many_40 rfl (lv_at hl 2 rfl) ?_
        exact hret _ _ _ _ _ () dX5_many_41 (op_k hf) hP hS
      · replace hf := op_f c1 hf
        refine lv_iload_n hx hb dX5_many_11 rfl (lv_at hl 2 rfl) ?_
        refine lv_aload_n hx hb dX5_many_12 rfl (lv_at hl 0 rfl) ?_
        refine va_get (D := D) (ci := 5) (v := .ref a1) (C := RX5) (T := TX5) (N := 11) hx hb hts iX5 hown hK hP 0 rfl rfl 0 (by decide) w7 (fun _ h9 => h9) rfl dX5_many_13 ?_
        refine lv_iload_n hx hb dX5_many_16 rfl (lv_at hl 3 rfl) ?_
        refine ck_SI (st := [.int x3, .ref a1, .int x2]) (rest := [.ref a1, .int x2]) (As := [.int x3]) ⟨hx, hb, hml, hown, hts⟩ E0_ok (c_X5_n l D cI cC cK cO  x3 _ rfl) (va_cwS 1 hts gX5_many_X5_n rfl rfl rfl hs_X5_n ⟨Nat.le_of_ble_eq_true rfl, Nat.le_of_ble_eq_true rfl⟩) hK hP hD hS hA hE rfl hl.1 rfl (Nat.le_of_ble_eq_true rfl) dX5_many_17 ⟨Nat.zero_le _, Nat.zero_le _⟩ (fun r H locs hw hP hS => ?_)
        cases hw
        refine lv_iconst (v := 0) hx hb dX5_many_20 (by decide) ?_
        refine lv_iadd hx hb dX5_many_21 ?_
        obtain ⟨q4, hf⟩ := op_x hf
        refine ck_iald (j := ((f_X5_n x3) + 0).toNatClampNeg) hx hb hK hP 1 0 rfl rfl q4 rfl dX5_many_22 ?_
        refine lv_iload_n hx hb dX5_many_23 rfl (lv_at hl 1 rfl) ?_
        refine lv_icmp_ne (tgt := 31) hx hb dX5_many_24 (by decide) (fun c5 => ?_) (fun c5 => ?_)
        · replace hf := op_f c5 hf
          refine lv_iconst (v := 0) hx hb dX5_many_31 (by decide) ?_
          refine lv_iadd hx hb dX5_many_32 ?_
          refine lv_istore_n (lv' := [(2, .int (x2 + 0)), (0, .ref h), (1, .int x1), (3, .int x3)]) hx hb dX5_many_33 rfl hl (by decide) rfl (fun ls hl => ?_)
          refine lv_iinc (v := (x3 + 1)) (lv' := [(3, .int (x3 + 1)), (2, .int (x2 + 0)), (0, .ref h), (1, .int x1)]) hx hb dX5_many_34 hl (k := 3) rfl rfl (by decide) rfl (fun ls hl => ?_)
          refine lv_goto (tgt := 4) hx hb dX5_many_37 (by decide) ?_
          exact ih  x1 (x2 + 0) (x3 + 1) hf _ _ _ hP hD hS (lv_sub hl [2, 3, 1, 0] rfl)
        · replace hf := op_t c5 hf
          refine lv_iconst (v := 1) hx hb dX5_many_27 (by decide) ?_
          refine lv_goto (tgt := 32) hx hb dX5_many_28 (by decide) ?_
          refine lv_iadd hx hb dX5_many_32 ?_
          refine lv_istore_n (lv' := [(2, .int (x2 + 1)), (0, .ref h), (1, .int x1), (3, .int x3)]) hx hb dX5_many_33 rfl hl (by decide) rfl (fun ls hl => ?_)
          refine lv_iinc (v := (x3 + 1)) (lv' := [(3, .int (x3 + 1)), (2, .int (x2 + 1)), (0, .ref h), (1, .int x1)]) hx hb dX5_many_34 hl (k := 3) rfl rfl (by decide) rfl (fun ls hl => ?_)
          refine lv_goto (tgt := 4) hx hb dX5_many_37 (by decide) ?_
          exact ih  x1 (x2 + 1) (x3 + 1) hf _ _ _ hP hD hS (lv_sub hl [2, 3, 1, 0] rfl)
  rw [f_X5_many] at hf
  refine lv_iconst (v := 0) hx hb dX5_many_0 (by decide) ?_
  refine lv_istore_n (lv' := [(2, .int 0), (0, .ref h), (1, .int x1)]) hx hb dX5_many_1 rfl hl (by decide) rfl (fun ls hl => ?_)
  refine lv_iconst (v := 1) hx hb dX5_many_2 (by decide) ?_
  refine lv_istore_n (lv' := [(3, .int 1), (2, .int 0), (0, .ref h), (1, .int x1)]) hx hb dX5_many_3 rfl hl (by decide) rfl (fun ls hl => ?_)
  exact L_4 K  x1 0 1 hf _ _ _ hP hD hS (lv_sub hl [2, 3, 1, 0] rfl)
set_option maxHeartbeats 4000000 in
set_option maxRecDepth 100000 in
theorem c_X5_lowest (l : Launch) (D : va_G) (cI cC cK cO : ClassId) (h : Nat) (a1 : Nat) (a2 : Nat) (a3 : Nat) (a4 : Nat) (zs : Nat → Int32) (zb : Nat → Int32) (za : Nat → Int32) (zt : Nat → Int32) (zl : Int32) (zu : Int32) (zp : Int32) (zw : Int32) (zf : Int32) (zg : Int32) (zc : Int32) (x1 : Int32) (K : Nat) (R : Int32) (hf : f_X5_lowest K zs x1 = some R) : KI l D (TY cI cC cK cO) E0 yX5_lowest wsX5_lowest 1 [.ref h, .int x1] (wM cI h a1 a2 a3 a4 zs zb za zt zl zu zp zw zf zg zc) (fun (r : Int32) (u : Unit) => r = R) (fun u => (wM cI h a1 a2 a3 a4 zs zb za zt zl zu zp zw zf zg zc)) := by
  refine KI.ofI (cc := cX5_lowest) (maxL := 3) (C := RX5) (by decide) rfl rfl (Nat.le_of_ble_eq_true rfl) ?_
  intro p e s m args below meth c A Q hx hb hml hts hown hP hK hD hA hE hS hret ls hl
  replace hl : lv_has ls 3 [(0, .ref h), (1, .int x1)] := hl
  have w7 := hts (.fieldLink RX5 7 "BlockClerksModel" "s" "[I") (by decide +kernel)
  have iX5 : ∀ w ∈ wsX50, w ∈ wsX5_lowest := by decide +kernel
  have L_2 : ∀ (n : Nat)  (x1 : Int32) (x2 : Int32) (hf : f_X5_lowest_2 x1 zs n x2 = some R) (H : Heap) (locs : List Loc) (ls : Array Slot), va_P D vwCl (wM cI h a1 a2 a3 a4 zs zb za zt zl zu zp zw zf zg zc) H → va_D A (wM cI h a1 a2 a3 a4 zs zb za zt zl zu zp zw zf zg zc) → va_S A s.heap H locs → lv_has ls 3 [(0, .ref h), (1, .int x1), (2, .int x2)] → W p l e (rm 1) s m args below meth c H locs 0 0 Q (F0 m 2 ls []) := by
    intro n
    induction n with
    | zero =>
      intro  x1 x2 hf
      cases hf
    | succ n ih =>
      intro  x1 x2 hf H locs ls hP hD hS hl
      rw [f_X5_lowest_2] at hf
      refine lv_iload_n hx hb dX5_lowest_2 rfl (lv_at hl 2 rfl) ?_
      refine lv_sipush (v := 600) hx hb dX5_lowest_3 (by decide) ?_
      refine lv_icmp_gt (tgt := 30) hx hb dX5_lowest_6 (by decide) (fun c1 => ?_) (fun c1 => ?_)
      · replace hf := op_t c1 hf
        refine lv_iload_n hx hb dX5_lowest_30 rfl (lv_at hl 2 rfl) ?_
        exact hret _ _ _ _ _ () dX5_lowest_31 (op_k hf) hP hS
      · replace hf := op_f c1 hf
        refine lv_aload_n hx hb dX5_lowest_9 rfl (lv_at hl 0 rfl) ?_
        refine va_get (D := D) (ci := 5) (v := .ref a1) (C := RX5) (T := TX5) (N := 11) hx hb hts iX5 hown hK hP 0 rfl rfl 0 (by decide) w7 (fun _ h9 => h9) rfl dX5_lowest_10 ?_
        refine lv_iload_n hx hb dX5_lowest_13 rfl (lv_at hl 2 rfl) ?_
        refine ck_SI (st := [.int x2, .ref a1]) (rest := [.ref a1]) (As := [.int x2]) ⟨hx, hb, hml, hown, hts⟩ E0_ok (c_X5_n l D cI cC cK cO  x2 _ rfl) (va_cwS 1 hts gX5_lowest_X5_n rfl rfl rfl hs_X5_n ⟨Nat.le_of_ble_eq_true rfl, Nat.le_of_ble_eq_true rfl⟩) hK hP hD hS hA hE rfl hl.1 rfl (Nat.le_of_ble_eq_true rfl) dX5_lowest_14 ⟨Nat.zero_le _, Nat.zero_le _⟩ (fun r H locs hw hP hS => ?_)
        cases hw
        refine lv_iconst (v := 0) hx hb dX5_lowest_17 (by decide) ?_
        refine lv_iadd hx hb dX5_lowest_18 ?_
        obtain ⟨q4, hf⟩ := op_x hf
        refine ck_iald (j := ((f_X5_n x2) + 0).toNatClampNeg) hx hb hK hP 1 0 rfl rfl q4 rfl dX5_lowest_19 ?_
        refine lv_iload_n hx hb dX5_lowest_20 rfl (lv_at hl 1 rfl) ?_
        refine lv_icmp_eq (tgt := 30) hx hb dX5_lowest_21 (by decide) (fun c5 => ?_) (fun c5 => ?_)
        · replace hf := op_t c5 hf
          refine lv_iload_n hx hb dX5_lowest_30 rfl (lv_at hl 2 rfl) ?_
          exact hret _ _ _ _ _ () dX5_lowest_31 (op_k hf) hP hS
        · replace hf := op_f c5 hf
          refine lv_iinc (v := (x2 + 1)) (lv' := [(2, .int (x2 + 1)), (0, .ref h), (1, .int x1)]) hx hb dX5_lowest_24 hl (k := 2) rfl rfl (by decide) rfl (fun ls hl => ?_)
          refine lv_goto (tgt := 2) hx hb dX5_lowest_27 (by decide) ?_
          exact ih  x1 (x2 + 1) hf _ _ _ hP hD hS (lv_sub hl [1, 2, 0] rfl)
  rw [f_X5_lowest] at hf
  refine lv_iconst (v := 1) hx hb dX5_lowest_0 (by decide) ?_
  refine lv_istore_n (lv' := [(2, .int 1), (0, .ref h), (1, .int x1)]) hx hb dX5_lowest_1 rfl hl (by decide) rfl (fun ls hl => ?_)
  exact L_2 K  x1 1 hf _ _ _ hP hD hS (lv_sub hl [1, 2, 0] rfl)
set_option maxHeartbeats 4000000 in
set_option maxRecDepth 100000 in
theorem c_X5_goClerk (l : Launch) (D : va_G) (cI cC cK cO : ClassId) (h : Nat) (a1 : Nat) (a2 : Nat) (a3 : Nat) (a4 : Nat) (zs : Nat → Int32) (zb : Nat → Int32) (za : Nat → Int32) (zt : Nat → Int32) (zl : Int32) (zu : Int32) (zp : Int32) (zw : Int32) (zf : Int32) (zg : Int32) (zc : Int32) (x1 : Int32) (R : Int32 × (Nat → Int32)) (hf : f_X5_goClerk zs x1 = some R) : KI l D (TY cI cC cK cO) E0 yX5_goClerk wsX5_goClerk 1 [.ref h, .int x1] (wM cI h a1 a2 a3 a4 zs zb za zt zl zu zp zw zf zg zc) (fun (r : Int32) (u : (Nat → Int32)) => (r, u) = R) (fun u => (wM cI h a1 a2 a3 a4 u zb za zt zl zu zp zw zf zg zc)) := by
  refine KI.ofI (cc := cX5_goClerk) (maxL := 3) (C := RX5) (by decide) rfl rfl (Nat.le_of_ble_eq_true rfl) ?_
  intro p e s m args below meth c A Q hx hb hml hts hown hP hK hD hA hE hS hret ls hl
  replace hl : lv_has ls 3 [(0, .ref h), (1, .int x1)] := hl
  have w7 := hts (.fieldLink RX5 7 "BlockClerksModel" "s" "[I") (by decide +kernel)
  have iX5 : ∀ w ∈ wsX50, w ∈ wsX5_goClerk := by decide +kernel
  rw [f_X5_goClerk] at hf
  refine lv_aload_n hx hb dX5_goClerk_0 rfl (lv_at hl 0 rfl) ?_
  refine va_get (D := D) (ci := 5) (v := .ref a1) (C := RX5) (T := TX5) (N := 11) hx hb hts iX5 hown hK hP 0 rfl rfl 0 (by decide) w7 (fun _ h9 => h9) rfl dX5_goClerk_1 ?_
  refine lv_iconst (v := 3) hx hb dX5_goClerk_4 (by decide) ?_
  refine ck_iald (j := 3) hx hb hK hP 1 0 rfl rfl (in_lit (by decide)) (by decide) dX5_goClerk_5 ?_
  refine ck_SI (st := [.int (zs 3)]) (rest := []) (As := [.int (zs 3)]) ⟨hx, hb, hml, hown, hts⟩ E0_ok (c_X5_c l D cI cC cK cO  (zs 3) _ rfl) (va_cwS 1 hts gX5_goClerk_X5_c rfl rfl rfl hs_X5_c ⟨Nat.le_of_ble_eq_true rfl, Nat.le_of_ble_eq_true rfl⟩) hK hP hD hS hA hE rfl hl.1 rfl (Nat.le_of_ble_eq_true rfl) dX5_goClerk_6 ⟨Nat.zero_le _, Nat.zero_le _⟩ (fun r H locs hw hP hS => ?_)
  cases hw
  refine lv_istore_n (lv' := [(2, .int (f_X5_c (zs 3))), (0, .ref h), (1, .int x1)]) hx hb dX5_goClerk_9 rfl hl (by decide) rfl (fun ls hl => ?_)
  refine lv_aload_n hx hb dX5_goClerk_10 rfl (lv_at hl 1 rfl) ?_
  refine va_get (D := D) (ci := 5) (v := .ref a1) (C := RX5) (T := TX5) (N := 11) hx hb hts iX5 hown hK hP 0 rfl rfl 0 (by decide) w7 (fun _ h9 => h9) rfl dX5_goClerk_11 ?_
  refine lv_iload_n hx hb dX5_goClerk_14 rfl (lv_at hl 0 rfl) ?_
  refine lv_iconst (v := 0) hx hb dX5_goClerk_15 (by decide) ?_
  refine lv_iadd hx hb dX5_goClerk_16 ?_
  refine lv_iload_n hx hb dX5_goClerk_17 rfl (lv_at hl 2 rfl) ?_
  obtain ⟨q3, hf⟩ := op_x hf
  obtain ⟨y4, e5, hf⟩ := nb_o hf
  refine ck_iast (f' := y4) hx hb hK hP hD hS 1 0 rfl rfl q3 dX5_goClerk_18 e5 (fun H locs hP hD hS => ?_)
  replace hP : va_P D vwCl (wM cI h a1 a2 a3 a4 y4 zb za zt zl zu zp zw zf zg zc) H := hP
  replace hD : va_D A (wM cI h a1 a2 a3 a4 y4 zb za zt zl zu zp zw zf zg zc) := hD
  refine lv_aload_n hx hb dX5_goClerk_19 rfl (lv_at hl 1 rfl) ?_
  refine va_get (D := D) (ci := 5) (v := .ref a1) (C := RX5) (T := TX5) (N := 11) hx hb hts iX5 hown hK hP 0 rfl rfl 0 (by decide) w7 (fun _ h9 => h9) rfl dX5_goClerk_20 ?_
  refine lv_iload_n hx hb dX5_goClerk_23 rfl (lv_at hl 0 rfl) ?_
  refine lv_iconst (v := 1) hx hb dX5_goClerk_24 (by decide) ?_
  refine lv_iadd hx hb dX5_goClerk_25 ?_
  refine lv_iconst (v := 1) hx hb dX5_goClerk_26 (by decide) ?_
  obtain ⟨q6, hf⟩ := op_x hf
  obtain ⟨y7, e8, hf⟩ := nb_o hf
  refine ck_iast (f' := y7) hx hb hK hP hD hS 1 0 rfl rfl q6 dX5_goClerk_27 e8 (fun H locs hP hD hS => ?_)
  replace hP : va_P D vwCl (wM cI h a1 a2 a3 a4 y7 zb za zt zl zu zp zw zf zg zc) H := hP
  replace hD : va_D A (wM cI h a1 a2 a3 a4 y7 zb za zt zl zu zp zw zf zg zc) := hD
  refine lv_aload_n hx hb dX5_goClerk_28 rfl (lv_at hl 1 rfl) ?_
  refine va_get (D := D) (ci := 5) (v := .ref a1) (C := RX5) (T := TX5) (N := 11) hx hb hts iX5 hown hK hP 0 rfl rfl 0 (by decide) w7 (fun _ h9 => h9) rfl dX5_goClerk_29 ?_
  refine lv_iload_n hx hb dX5_goClerk_32 rfl (lv_at hl 0 rfl) ?_
  refine lv_iconst (v := 2) hx hb dX5_goClerk_33 (by decide) ?_
  refine lv_iadd hx hb dX5_goClerk_34 ?_
  refine lv_iconst (v := 0) hx hb dX5_goClerk_35 (by decide) ?_
  obtain ⟨q9, hf⟩ := op_x hf
  obtain ⟨y10, e11, hf⟩ := nb_o hf
  refine ck_iast (f' := y10) hx hb hK hP hD hS 1 0 rfl rfl q9 dX5_goClerk_36 e11 (fun H locs hP hD hS => ?_)
  replace hP : va_P D vwCl (wM cI h a1 a2 a3 a4 y10 zb za zt zl zu zp zw zf zg zc) H := hP
  replace hD : va_D A (wM cI h a1 a2 a3 a4 y10 zb za zt zl zu zp zw zf zg zc) := hD
  refine lv_aload_n hx hb dX5_goClerk_37 rfl (lv_at hl 1 rfl) ?_
  refine va_get (D := D) (ci := 5) (v := .ref a1) (C := RX5) (T := TX5) (N := 11) hx hb hts iX5 hown hK hP 0 rfl rfl 0 (by decide) w7 (fun _ h9 => h9) rfl dX5_goClerk_38 ?_
  refine lv_iload_n hx hb dX5_goClerk_41 rfl (lv_at hl 0 rfl) ?_
  refine lv_bipush (v := 6) hx hb dX5_goClerk_42 (by decide) ?_
  refine lv_iadd hx hb dX5_goClerk_44 ?_
  refine lv_iconst (v := (-1)) hx hb dX5_goClerk_45 (by decide) ?_
  obtain ⟨q12, hf⟩ := op_x hf
  obtain ⟨y13, e14, hf⟩ := nb_o hf
  refine ck_iast (f' := y13) hx hb hK hP hD hS 1 0 rfl rfl q12 dX5_goClerk_46 e14 (fun H locs hP hD hS => ?_)
  replace hP : va_P D vwCl (wM cI h a1 a2 a3 a4 y13 zb za zt zl zu zp zw zf zg zc) H := hP
  replace hD : va_D A (wM cI h a1 a2 a3 a4 y13 zb za zt zl zu zp zw zf zg zc) := hD
  refine lv_aload_n hx hb dX5_goClerk_47 rfl (lv_at hl 1 rfl) ?_
  refine va_get (D := D) (ci := 5) (v := .ref a1) (C := RX5) (T := TX5) (N := 11) hx hb hts iX5 hown hK hP 0 rfl rfl 0 (by decide) w7 (fun _ h9 => h9) rfl dX5_goClerk_48 ?_
  refine lv_iconst (v := 3) hx hb dX5_goClerk_51 (by decide) ?_
  refine lv_dup2_11 hx hb dX5_goClerk_52 rfl rfl ?_
  refine ck_iald (j := 3) hx hb hK hP 1 0 rfl rfl (in_lit (by decide)) (by decide) dX5_goClerk_53 ?_
  refine lv_iconst (v := 1) hx hb dX5_goClerk_54 (by decide) ?_
  refine lv_iadd hx hb dX5_goClerk_55 ?_
  obtain ⟨y15, e16, hf⟩ := nb_o hf
  refine ck_iast (f' := y15) hx hb hK hP hD hS 1 0 rfl rfl (in_lit (by decide)) dX5_goClerk_56 (by rw [e16, show (3 : Int32).toNatClampNeg = 3 from by decide]) (fun H locs hP hD hS => ?_)
  replace hP : va_P D vwCl (wM cI h a1 a2 a3 a4 y15 zb za zt zl zu zp zw zf zg zc) H := hP
  replace hD : va_D A (wM cI h a1 a2 a3 a4 y15 zb za zt zl zu zp zw zf zg zc) := hD
  refine lv_aload_n hx hb dX5_goClerk_57 rfl (lv_at hl 1 rfl) ?_
  refine va_get (D := D) (ci := 5) (v := .ref a1) (C := RX5) (T := TX5) (N := 11) hx hb hts iX5 hown hK hP 0 rfl rfl 0 (by decide) w7 (fun _ h9 => h9) rfl dX5_goClerk_58 ?_
  refine lv_iconst (v := 3) hx hb dX5_goClerk_61 (by decide) ?_
  refine ck_iald (j := 3) hx hb hK hP 1 0 rfl rfl (in_lit (by decide)) (by decide) dX5_goClerk_62 ?_
  refine lv_iconst (v := 1) hx hb dX5_goClerk_63 (by decide) ?_
  refine lv_isub hx hb dX5_goClerk_64 ?_
  exact hret _ _ _ _ _ (y15) dX5_goClerk_65 (op_k hf) hP hS
set_option maxHeartbeats 4000000 in
set_option maxRecDepth 100000 in
theorem c_X5_clerk (l : Launch) (D : va_G) (cI cC cK cO : ClassId) (h : Nat) (a1 : Nat) (a2 : Nat) (a3 : Nat) (a4 : Nat) (zs : Nat → Int32) (zb : Nat → Int32) (za : Nat → Int32) (zt : Nat → Int32) (zl : Int32) (zu : Int32) (zp : Int32) (zw : Int32) (zf : Int32) (zg : Int32) (zc : Int32) (x1 : Int32) (K : Nat) (R : Int32 × (Nat → Int32) × (Nat → Int32) × Int32) (hf : f_X5_clerk K zs zb zu x1 = some R) : KI l D (TY cI cC cK cO) E0 yX5_clerk wsX5_clerk 2 [.ref h, .int x1] (wM cI h a1 a2 a3 a4 zs zb za zt zl zu zp zw zf zg zc) (fun (r : Int32) (u : (Nat → Int32) × (Nat → Int32) × Int32) => (r, u) = R) (fun u => (wM cI h a1 a2 a3 a4 (u.1) (u.2.1) za zt zl (u.2.2) zp zw zf zg zc)) := by
  refine KI.ofI (cc := cX5_clerk) (maxL := 2) (C := RX5) (by decide) rfl rfl (Nat.le_of_ble_eq_true rfl) ?_
  intro p e s m args below meth c A Q hx hb hml hts hown hP hK hD hA hE hS hret ls hl
  replace hl : lv_has ls 2 [(0, .ref h), (1, .int x1)] := hl
  have w7 := hts (.fieldLink RX5 7 "BlockClerksModel" "s" "[I") (by decide +kernel)
  have iX5 : ∀ w ∈ wsX50, w ∈ wsX5_clerk := by decide +kernel
  rw [f_X5_clerk] at hf
  refine lv_iload_n hx hb dX5_clerk_0 rfl (lv_at hl 1 rfl) ?_
  refine lv_iconst (v := 0) hx hb dX5_clerk_1 (by decide) ?_
  refine lv_iconst (v := 2) hx hb dX5_clerk_2 (by decide) ?_
  refine ck_SI (st := [.int 2, .int 0, .int x1]) (rest := []) (As := [.int x1, .int 0, .int 2]) ⟨hx, hb, hml, hown, hts⟩ E0_ok (c_X5_in l D cI cC cK cO  x1 0 2 _ rfl) (va_cwS 3 hts gX5_clerk_X5_in rfl rfl rfl hs_X5_in ⟨Nat.le_of_ble_eq_true rfl, Nat.le_of_ble_eq_true rfl⟩) hK hP hD hS hA hE rfl hl.1 rfl (Nat.le_of_ble_eq_true rfl) dX5_clerk_3 ⟨Nat.zero_le _, Nat.zero_le _⟩ (fun r H locs hw hP hS => ?_)
  obtain ⟨hw, z2⟩ := hw
  cases hw
  refine lv_if_ne (tgt := 11) hx hb dX5_clerk_6 (by decide) (fun c3 => ?_) (fun c3 => ?_)
  · replace hf := op_f c3 hf
    refine lv_aload_n hx hb dX5_clerk_11 rfl (lv_at hl 0 rfl) ?_
    refine va_get (D := D) (ci := 5) (v := .ref a1) (C := RX5) (T := TX5) (N := 11) hx hb hts iX5 hown hK hP 0 rfl rfl 0 (by decide) w7 (fun _ h9 => h9) rfl dX5_clerk_12 ?_
    refine lv_iconst (v := 3) hx hb dX5_clerk_15 (by decide) ?_
    refine ck_iald (j := 3) hx hb hK hP 1 0 rfl rfl (in_lit (by decide)) (by decide) dX5_clerk_16 ?_
    refine lv_bipush (v := 6) hx hb dX5_clerk_17 (by decide) ?_
    refine lv_icmp_ne (tgt := 25) hx hb dX5_clerk_19 (by decide) (fun c4 => ?_) (fun c4 => ?_)
    · replace hf := op_f c4 hf
      refine lv_aload_n hx hb dX5_clerk_25 rfl (lv_at hl 0 rfl) ?_
      obtain ⟨⟨y6, y7⟩, h8, hf⟩ := op_b hf
      refine ck_VV (st := [.ref h]) (rest := []) (As := []) (C := RX5) (ci := 5) ⟨hx, hb, hml, hown, hts⟩ E0_ok (c_X5_record l D cI cC cK cO h a1 a2 a3 a4 zs zb za zt zl zu zp zw zf zg zc  K _ h8) (cwV 0 hts gX5_clerk_X5_record rfl rfl rfl hv_X5_record ⟨Nat.le_of_ble_eq_true rfl, Nat.le_of_ble_eq_true rfl⟩) hK hP hD hS hA hE [0, 1, 2, 3, 4] rfl rfl rfl rfl rfl (fun _ => rfl) rfl hl.1 rfl (Nat.le_of_ble_eq_true rfl) dX5_clerk_26 ⟨Nat.zero_le _, Nat.zero_le _⟩ (fun u H locs hw hP hD hS => ?_)
      cases hw
      replace hP : va_P D vwCl (wM cI h a1 a2 a3 a4 zs y6 za zt zl y7 zp zw zf zg zc) H := hP
      replace hD : va_D A (wM cI h a1 a2 a3 a4 zs y6 za zt zl y7 zp zw zf zg zc) := hD
      refine lv_aload_n hx hb dX5_clerk_29 rfl (lv_at hl 0 rfl) ?_
      refine lv_iload_n hx hb dX5_clerk_30 rfl (lv_at hl 1 rfl) ?_
      obtain ⟨⟨r10, y11⟩, h12, hf⟩ := op_b hf
      refine ck_VI (st := [.int x1, .ref h]) (rest := []) (As := [.int x1]) (C := RX5) (ci := 5) ⟨hx, hb, hml, hown, hts⟩ E0_ok (c_X5_goClerk l D cI cC cK cO h a1 a2 a3 a4 zs y6 za zt zl y7 zp zw zf zg zc x1 _ h12) (cwV 1 hts gX5_clerk_X5_goClerk rfl rfl rfl hv_X5_goClerk ⟨Nat.le_of_ble_eq_true rfl, Nat.le_of_ble_eq_true rfl⟩) hK hP hD hS hA hE [0, 1, 2, 3, 4] rfl rfl rfl rfl rfl (fun _ => rfl) rfl hl.1 rfl (Nat.le_of_ble_eq_true rfl) dX5_clerk_31 ⟨Nat.zero_le _, Nat.zero_le _⟩ (fun r u H locs hw hP hD hS => ?_)
      cases hw
      replace hP : va_P D vwCl (wM cI h a1 a2 a3 a4 y11 y6 za zt zl y7 zp zw zf zg zc) H := hP
      replace hD : va_D A (wM cI h a1 a2 a3 a4 y11 y6 za zt zl y7 zp zw zf zg zc) := hD
      exact hret _ _ _ _ _ (y11, y6, y7) dX5_clerk_34 (op_k hf) hP hS
    · replace hf := op_t c4 hf
      refine lv_bipush (v := (-3)) hx hb dX5_clerk_22 (by decide) ?_
      exact hret _ _ _ _ _ (zs, zb, zu) dX5_clerk_24 (op_k hf) hP hS
  · replace hf := op_t c3 hf
    refine lv_iconst (v := (-1)) hx hb dX5_clerk_9 (by decide) ?_
    exact hret _ _ _ _ _ (zs, zb, zu) dX5_clerk_10 (op_k hf) hP hS
set_option maxHeartbeats 4000000 in
set_option maxRecDepth 100000 in
theorem c_X5_blockFrom (l : Launch) (D : va_G) (cI cC cK cO : ClassId) (h : Nat) (a1 : Nat) (a2 : Nat) (a3 : Nat) (a4 : Nat) (zs : Nat → Int32) (zb : Nat → Int32) (za : Nat → Int32) (zt : Nat → Int32) (zl : Int32) (zu : Int32) (zp : Int32) (zw : Int32) (zf : Int32) (zg : Int32) (zc : Int32) (K : Nat) (R : Int32) (hf : f_X5_blockFrom K zs = some R) : KI l D (TY cI cC cK cO) E0 yX5_blockFrom wsX5_blockFrom 2 [.ref h] (wM cI h a1 a2 a3 a4 zs zb za zt zl zu zp zw zf zg zc) (fun (r : Int32) (u : Unit) => r = R) (fun u => (wM cI h a1 a2 a3 a4 zs zb za zt zl zu zp zw zf zg zc)) := by
  refine KI.ofI (cc := cX5_blockFrom) (maxL := 2) (C := RX5) (by decide) rfl rfl (Nat.le_of_ble_eq_true rfl) ?_
  intro p e s m args below meth c A Q hx hb hml hts hown hP hK hD hA hE hS hret ls hl
  replace hl : lv_has ls 2 [(0, .ref h)] := hl
  have w7 := hts (.fieldLink RX5 7 "BlockClerksModel" "s" "[I") (by decide +kernel)
  have iX5 : ∀ w ∈ wsX50, w ∈ wsX5_blockFrom := by decide +kernel
  rw [f_X5_blockFrom] at hf
  refine lv_aload_n hx hb dX5_blockFrom_0 rfl (lv_at hl 0 rfl) ?_
  refine va_get (D := D) (ci := 5) (v := .ref a1) (C := RX5) (T := TX5) (N := 11) hx hb hts iX5 hown hK hP 0 rfl rfl 0 (by decide) w7 (fun _ h9 => h9) rfl dX5_blockFrom_1 ?_
  refine lv_iconst (v := 1) hx hb dX5_blockFrom_4 (by decide) ?_
  refine ck_iald (j := 1) hx hb hK hP 1 0 rfl rfl (in_lit (by decide)) (by decide) dX5_blockFrom_5 ?_
  refine lv_iconst (v := 1) hx hb dX5_blockFrom_6 (by decide) ?_
  refine lv_icmp_ne (tgt := 18) hx hb dX5_blockFrom_7 (by decide) (fun c1 => ?_) (fun c1 => ?_)
  · replace hf := op_f c1 hf
    refine lv_sipush (v := 601) hx hb dX5_blockFrom_18 (by decide) ?_
    refine lv_istore_n (lv' := [(1, .int 601), (0, .ref h)]) hx hb dX5_blockFrom_21 rfl hl (by decide) rfl (fun ls hl => ?_)
    refine lv_iload_n hx hb dX5_blockFrom_22 rfl (lv_at hl 0 rfl) ?_
    refine lv_sipush (v := 600) hx hb dX5_blockFrom_23 (by decide) ?_
    refine lv_icmp_gt (tgt := 33) hx hb dX5_blockFrom_26 (by decide) (fun _ => ?_) (fun c9 => absurd c9 (by decide))
    refine lv_aload_n hx hb dX5_blockFrom_33 rfl (lv_at hl 1 rfl) ?_
    refine lv_iconst (v := 0) hx hb dX5_blockFrom_34 (by decide) ?_
    obtain ⟨r2, h3, hf⟩ := op_b hf
    refine ck_VI (st := [.int 0, .ref h]) (rest := []) (As := [.int 0]) (C := RX5) (ci := 5) ⟨hx, hb, hml, hown, hts⟩ E0_ok (c_X5_lowest l D cI cC cK cO h a1 a2 a3 a4 zs zb za zt zl zu zp zw zf zg zc 0 K _ h3) (cwV 1 hts gX5_blockFrom_X5_lowest rfl rfl rfl hv_X5_lowest ⟨Nat.le_of_ble_eq_true rfl, Nat.le_of_ble_eq_true rfl⟩) hK hP hD hS hA hE [0, 1, 2, 3, 4] rfl rfl rfl rfl rfl (fun _ => rfl) rfl hl.1 rfl (Nat.le_of_ble_eq_true rfl) dX5_blockFrom_35 ⟨Nat.zero_le _, Nat.zero_le _⟩ (fun r u H locs hw hP hD hS => ?_)
    cases hw
    replace hP : va_P D vwCl (wM cI h a1 a2 a3 a4 zs zb za zt zl zu zp zw zf zg zc) H := hP
    replace hD : va_D A (wM cI h a1 a2 a3 a4 zs zb za zt zl zu zp zw zf zg zc) := hD
    exact hret _ _ _ _ _ () dX5_blockFrom_38 (op_k hf) hP hS
  · replace hf := op_t c1 hf
    refine lv_aload_n hx hb dX5_blockFrom_10 rfl (lv_at hl 0 rfl) ?_
    refine lv_iconst (v := 3) hx hb dX5_blockFrom_11 (by decide) ?_
    obtain ⟨r5, h6, hf⟩ := op_b hf
    refine ck_VI (st := [.int 3, .ref h]) (rest := []) (As := [.int 3]) (C := RX5) (ci := 5) ⟨hx, hb, hml, hown, hts⟩ E0_ok (c_X5_lowest l D cI cC cK cO h a1 a2 a3 a4 zs zb za zt zl zu zp zw zf zg zc 3 K _ h6) (cwV 1 hts gX5_blockFrom_X5_lowest rfl rfl rfl hv_X5_lowest ⟨Nat.le_of_ble_eq_true rfl, Nat.le_of_ble_eq_true rfl⟩) hK hP hD hS hA hE [0, 1, 2, 3, 4] rfl rfl rfl rfl rfl (fun _ => rfl) rfl hl.1 rfl (Nat.le_of_ble_eq_true rfl) dX5_blockFrom_12 ⟨Nat.zero_le _, Nat.zero_le _⟩ (fun r u H locs hw hP hD hS => ?_)
    cases hw
    replace hP : va_P D vwCl (wM cI h a1 a2 a3 a4 zs zb za zt zl zu zp zw zf zg zc) H := hP
    replace hD : va_D A (wM cI h a1 a2 a3 a4 zs zb za zt zl zu zp zw zf zg zc) := hD
    refine lv_goto (tgt := 21) hx hb dX5_blockFrom_15 (by decide) ?_
    refine lv_istore_n (lv' := [(1, .int r5), (0, .ref h)]) hx hb dX5_blockFrom_21 rfl hl (by decide) rfl (fun ls hl => ?_)
    refine lv_iload_n hx hb dX5_blockFrom_22 rfl (lv_at hl 0 rfl) ?_
    refine lv_sipush (v := 600) hx hb dX5_blockFrom_23 (by decide) ?_
    refine lv_icmp_gt (tgt := 33) hx hb dX5_blockFrom_26 (by decide) (fun c8 => ?_) (fun c8 => ?_)
    · replace hf := op_t c8 hf
      refine lv_aload_n hx hb dX5_blockFrom_33 rfl (lv_at hl 1 rfl) ?_
      refine lv_iconst (v := 0) hx hb dX5_blockFrom_34 (by decide) ?_
      obtain ⟨r9, h10, hf⟩ := op_b hf
      refine ck_VI (st := [.int 0, .ref h]) (rest := []) (As := [.int 0]) (C := RX5) (ci := 5) ⟨hx, hb, hml, hown, hts⟩ E0_ok (c_X5_lowest l D cI cC cK cO h a1 a2 a3 a4 zs zb za zt zl zu zp zw zf zg zc 0 K _ h10) (cwV 1 hts gX5_blockFrom_X5_lowest rfl rfl rfl hv_X5_lowest ⟨Nat.le_of_ble_eq_true rfl, Nat.le_of_ble_eq_true rfl⟩) hK hP hD hS hA hE [0, 1, 2, 3, 4] rfl rfl rfl rfl rfl (fun _ => rfl) rfl hl.1 rfl (Nat.le_of_ble_eq_true rfl) dX5_blockFrom_35 ⟨Nat.zero_le _, Nat.zero_le _⟩ (fun r u H locs hw hP hD hS => ?_)
      cases hw
      replace hP : va_P D vwCl (wM cI h a1 a2 a3 a4 zs zb za zt zl zu zp zw zf zg zc) H := hP
      replace hD : va_D A (wM cI h a1 a2 a3 a4 zs zb za zt zl zu zp zw zf zg zc) := hD
      exact hret _ _ _ _ _ () dX5_blockFrom_38 (op_k hf) hP hS
    · replace hf := op_f c8 hf
      refine lv_iload_n hx hb dX5_blockFrom_29 rfl (lv_at hl 0 rfl) ?_
      refine lv_goto (tgt := 38) hx hb dX5_blockFrom_30 (by decide) ?_
      exact hret _ _ _ _ _ () dX5_blockFrom_38 (op_k hf) hP hS
set_option maxHeartbeats 4000000 in
set_option maxRecDepth 100000 in
theorem c_X5_getBlock (l : Launch) (D : va_G) (cI cC cK cO : ClassId) (h : Nat) (a1 : Nat) (a2 : Nat) (a3 : Nat) (a4 : Nat) (zs : Nat → Int32) (zb : Nat → Int32) (za : Nat → Int32) (zt : Nat → Int32) (zl : Int32) (zu : Int32) (zp : Int32) (zw : Int32) (zf : Int32) (zg : Int32) (zc : Int32) (x1 : Int32) (K : Nat) (R : (Nat → Int32)) (hf : f_X5_getBlock K zs x1 = some R) : KV l D (TY cI cC cK cO) E0 yX5_getBlock wsX5_getBlock 3 [.ref h, .int x1] (wM cI h a1 a2 a3 a4 zs zb za zt zl zu zp zw zf zg zc) (fun (u : (Nat → Int32)) => u = R) (fun u => (wM cI h a1 a2 a3 a4 u zb za zt zl zu zp zw zf zg zc)) := by
  refine KV.of (cc := cX5_getBlock) (maxL := 6) (C := RX5) (by decide) rfl rfl (Nat.le_of_ble_eq_true rfl) ?_
  intro p e s m args below meth c A Q hx hb hml hts hown hP hK hD hA hE hS hret ls hl
  replace hl : lv_has ls 6 [(0, .ref h), (1, .int x1)] := hl
  have w7 := hts (.fieldLink RX5 7 "BlockClerksModel" "s" "[I") (by decide +kernel)
  have iX5 : ∀ w ∈ wsX50, w ∈ wsX5_getBlock := by decide +kernel
  have L_26 : ∀ (n : Nat) (zs : Nat → Int32) (x1 : Int32) (x2 : Int32) (x3 : Int32) (x4 : Int32) (x5 : Int32) (hf : f_X5_getBlock_26 x1 x2 x3 x4 n x5 zs = some R) (H : Heap) (locs : List Loc) (ls : Array Slot), va_P D vwCl (wM cI h a1 a2 a3 a4 zs zb za zt zl zu zp zw zf zg zc) H → va_D A (wM cI h a1 a2 a3 a4 zs zb za zt zl zu zp zw zf zg zc) → va_S A s.heap H locs → lv_has ls 6 [(0, .ref h), (1, .int x1), (2, .int x2), (3, .int x3), (4, .int x4), (5, .int x5)] → W p l e (rm 3) s m args below meth c H locs 0 0 Q (F0 m 26 ls []) := by
    intro n
    induction n with
    | zero =>
      intro zs x1 x2 x3 x4 x5 hf
      cases hf
    | succ n ih =>
      intro zs x1 x2 x3 x4 x5 hf H locs ls hP hD hS hl
      rw [f_X5_getBlock_26] at hf
      refine lv_iload hx hb dX5_getBlock_26 (lv_at hl 5 rfl) ?_
      refine lv_sipush (v := 600) hx hb dX5_getBlock_28 (by decide) ?_
      refine lv_icmp_gt (tgt := 96) hx hb dX5_getBlock_31 (by decide) (fun c9 => ?_) (fun c9 => ?_)
      · replace hf := op_t c9 hf
        refine lv_aload_n hx hb dX5_getBlock_96 rfl (lv_at hl 0 rfl) ?_
        refine va_get (D := D) (ci := 5) (v := .ref a1) (C := RX5) (T := TX5) (N := 11) hx hb hts iX5 hown hK hP 0 rfl rfl 0 (by decide) w7 (fun _ h9 => h9) rfl dX5_getBlock_97 ?_
        refine lv_iload_n hx hb dX5_getBlock_100 rfl (lv_at hl 2 rfl) ?_
        refine lv_iconst (v := 1) hx hb dX5_getBlock_101 (by decide) ?_
        refine lv_iadd hx hb dX5_getBlock_102 ?_
        refine lv_iload_n hx hb dX5_getBlock_103 rfl (lv_at hl 3 rfl) ?_
        obtain ⟨q10, hf⟩ := op_x hf
        obtain ⟨y11, e12, hf⟩ := nb_o hf
        refine ck_iast (f' := y11) hx hb hK hP hD hS 1 0 rfl rfl q10 dX5_getBlock_104 e12 (fun H locs hP hD hS => ?_)
        replace hP : va_P D vwCl (wM cI h a1 a2 a3 a4 y11 zb za zt zl zu zp zw zf zg zc) H := hP
        replace hD : va_D A (wM cI h a1 a2 a3 a4 y11 zb za zt zl zu zp zw zf zg zc) := hD
        refine lv_aload_n hx hb dX5_getBlock_105 rfl (lv_at hl 0 rfl) ?_
        refine va_get (D := D) (ci := 5) (v := .ref a1) (C := RX5) (T := TX5) (N := 11) hx hb hts iX5 hown hK hP 0 rfl rfl 0 (by decide) w7 (fun _ h9 => h9) rfl dX5_getBlock_106 ?_
        refine lv_iload_n hx hb dX5_getBlock_109 rfl (lv_at hl 2 rfl) ?_
        refine lv_iconst (v := 2) hx hb dX5_getBlock_110 (by decide) ?_
        refine lv_iadd hx hb dX5_getBlock_111 ?_
        refine lv_iload hx hb dX5_getBlock_112 (lv_at hl 5 rfl) ?_
        refine lv_iconst (v := 1) hx hb dX5_getBlock_114 (by decide) ?_
        refine lv_isub hx hb dX5_getBlock_115 ?_
        obtain ⟨q13, hf⟩ := op_x hf
        obtain ⟨y14, e15, hf⟩ := nb_o hf
        refine ck_iast (f' := y14) hx hb hK hP hD hS 1 0 rfl rfl q13 dX5_getBlock_116 e15 (fun H locs hP hD hS => ?_)
        replace hP : va_P D vwCl (wM cI h a1 a2 a3 a4 y14 zb za zt zl zu zp zw zf zg zc) H := hP
        replace hD : va_D A (wM cI h a1 a2 a3 a4 y14 zb za zt zl zu zp zw zf zg zc) := hD
        refine lv_aload_n hx hb dX5_getBlock_117 rfl (lv_at hl 0 rfl) ?_
        refine va_get (D := D) (ci := 5) (v := .ref a1) (C := RX5) (T := TX5) (N := 11) hx hb hts iX5 hown hK hP 0 rfl rfl 0 (by decide) w7 (fun _ h9 => h9) rfl dX5_getBlock_118 ?_
        refine lv_iload_n hx hb dX5_getBlock_121 rfl (lv_at hl 2 rfl) ?_
        refine lv_iconst (v := 3) hx hb dX5_getBlock_122 (by decide) ?_
        refine lv_iadd hx hb dX5_getBlock_123 ?_
        refine lv_aload_n hx hb dX5_getBlock_124 rfl (lv_at hl 0 rfl) ?_
        refine va_get (D := D) (ci := 5) (v := .ref a1) (C := RX5) (T := TX5) (N := 11) hx hb hts iX5 hown hK hP 0 rfl rfl 0 (by decide) w7 (fun _ h9 => h9) rfl dX5_getBlock_125 ?_
        refine lv_iload_n hx hb dX5_getBlock_128 rfl (lv_at hl 2 rfl) ?_
        refine lv_iconst (v := 0) hx hb dX5_getBlock_129 (by decide) ?_
        refine lv_iadd hx hb dX5_getBlock_130 ?_
        obtain ⟨q16, hf⟩ := op_x hf
        refine ck_iald (j := (x2 + 0).toNatClampNeg) hx hb hK hP 1 0 rfl rfl q16 rfl dX5_getBlock_131 ?_
        refine lv_iconst (v := 2) hx hb dX5_getBlock_132 (by decide) ?_
        refine lv_icmp_ne (tgt := 143) hx hb dX5_getBlock_133 (by decide) (fun c17 => ?_) (fun c17 => ?_)
        · replace hf := op_f c17 hf
          refine lv_iload_n hx hb dX5_getBlock_143 rfl (lv_at hl 3 rfl) ?_
          refine lv_iconst (v := 1) hx hb dX5_getBlock_144 (by decide) ?_
          refine lv_isub hx hb dX5_getBlock_145 ?_
          obtain ⟨q18, hf⟩ := op_x hf
          obtain ⟨y19, e20, hf⟩ := nb_o hf
          refine ck_iast (f' := y19) hx hb hK hP hD hS 1 0 rfl rfl q18 dX5_getBlock_146 e20 (fun H locs hP hD hS => ?_)
          replace hP : va_P D vwCl (wM cI h a1 a2 a3 a4 y19 zb za zt zl zu zp zw zf zg zc) H := hP
          replace hD : va_D A (wM cI h a1 a2 a3 a4 y19 zb za zt zl zu zp zw zf zg zc) := hD
          refine lv_aload_n hx hb dX5_getBlock_147 rfl (lv_at hl 0 rfl) ?_
          refine va_get (D := D) (ci := 5) (v := .ref a1) (C := RX5) (T := TX5) (N := 11) hx hb hts iX5 hown hK hP 0 rfl rfl 0 (by decide) w7 (fun _ h9 => h9) rfl dX5_getBlock_148 ?_
          refine lv_iload_n hx hb dX5_getBlock_151 rfl (lv_at hl 2 rfl) ?_
          refine lv_iconst (v := 5) hx hb dX5_getBlock_152 (by decide) ?_
          refine lv_iadd hx hb dX5_getBlock_153 ?_
          refine lv_dup2_11 hx hb dX5_getBlock_154 rfl rfl ?_
          obtain ⟨q21, hf⟩ := op_x hf
          refine ck_iald (j := (x2 + 5).toNatClampNeg) hx hb hK hP 1 0 rfl rfl q21 rfl dX5_getBlock_155 ?_
          refine lv_iconst (v := 1) hx hb dX5_getBlock_156 (by decide) ?_
          refine lv_iadd hx hb dX5_getBlock_157 ?_
          obtain ⟨q22, hf⟩ := op_x hf
          obtain ⟨y23, e24, hf⟩ := nb_o hf
          refine ck_iast (f' := y23) hx hb hK hP hD hS 1 0 rfl rfl q22 dX5_getBlock_158 e24 (fun H locs hP hD hS => ?_)
          replace hP : va_P D vwCl (wM cI h a1 a2 a3 a4 y23 zb za zt zl zu zp zw zf zg zc) H := hP
          replace hD : va_D A (wM cI h a1 a2 a3 a4 y23 zb za zt zl zu zp zw zf zg zc) := hD
          exact hret _ _ _ _ (y23) dX5_getBlock_159 (op_k hf) hP hS
        · replace hf := op_t c17 hf
          refine lv_iload hx hb dX5_getBlock_136 (lv_at hl 5 rfl) ?_
          refine lv_iconst (v := 1) hx hb dX5_getBlock_138 (by decide) ?_
          refine lv_isub hx hb dX5_getBlock_139 ?_
          refine lv_goto (tgt := 146) hx hb dX5_getBlock_140 (by decide) ?_
          obtain ⟨q25, hf⟩ := op_x hf
          obtain ⟨y26, e27, hf⟩ := nb_o hf
          refine ck_iast (f' := y26) hx hb hK hP hD hS 1 0 rfl rfl q25 dX5_getBlock_146 e27 (fun H locs hP hD hS => ?_)
          replace hP : va_P D vwCl (wM cI h a1 a2 a3 a4 y26 zb za zt zl zu zp zw zf zg zc) H := hP
          replace hD : va_D A (wM cI h a1 a2 a3 a4 y26 zb za zt zl zu zp zw zf zg zc) := hD
          refine lv_aload_n hx hb dX5_getBlock_147 rfl (lv_at hl 0 rfl) ?_
          refine va_get (D := D) (ci := 5) (v := .ref a1) (C := RX5) (T := TX5) (N := 11) hx hb hts iX5 hown hK hP 0 rfl rfl 0 (by decide) w7 (fun _ h9 => h9) rfl dX5_getBlock_148 ?_
          refine lv_iload_n hx hb dX5_getBlock_151 rfl (lv_at hl 2 rfl) ?_
          refine lv_iconst (v := 5) hx hb dX5_getBlock_152 (by decide) ?_
          refine lv_iadd hx hb dX5_getBlock_153 ?_
          refine lv_dup2_11 hx hb dX5_getBlock_154 rfl rfl ?_
          obtain ⟨q28, hf⟩ := op_x hf
          refine ck_iald (j := (x2 + 5).toNatClampNeg) hx hb hK hP 1 0 rfl rfl q28 rfl dX5_getBlock_155 ?_
          refine lv_iconst (v := 1) hx hb dX5_getBlock_156 (by decide) ?_
          refine lv_iadd hx hb dX5_getBlock_157 ?_
          obtain ⟨q29, hf⟩ := op_x hf
          obtain ⟨y30, e31, hf⟩ := nb_o hf
          refine ck_iast (f' := y30) hx hb hK hP hD hS 1 0 rfl rfl q29 dX5_getBlock_158 e31 (fun H locs hP hD hS => ?_)
          replace hP : va_P D vwCl (wM cI h a1 a2 a3 a4 y30 zb za zt zl zu zp zw zf zg zc) H := hP
          replace hD : va_D A (wM cI h a1 a2 a3 a4 y30 zb za zt zl zu zp zw zf zg zc) := hD
          exact hret _ _ _ _ (y30) dX5_getBlock_159 (op_k hf) hP hS
      · replace hf := op_f c9 hf
        refine lv_iload hx hb dX5_getBlock_34 (lv_at hl 5 rfl) ?_
        refine lv_iload_n hx hb dX5_getBlock_36 rfl (lv_at hl 3 rfl) ?_
        refine lv_isub hx hb dX5_getBlock_37 ?_
        refine lv_aload_n hx hb dX5_getBlock_38 rfl (lv_at hl 0 rfl) ?_
        refine va_get (D := D) (ci := 5) (v := .ref a1) (C := RX5) (T := TX5) (N := 11) hx hb hts iX5 hown hK hP 0 rfl rfl 0 (by decide) w7 (fun _ h9 => h9) rfl dX5_getBlock_39 ?_
        refine lv_iconst (v := 0) hx hb dX5_getBlock_42 (by decide) ?_
        refine ck_iald (j := 0) hx hb hK hP 1 0 rfl rfl (in_lit (by decide)) (by decide) dX5_getBlock_43 ?_
        refine lv_icmp_ge (tgt := 96) hx hb dX5_getBlock_44 (by decide) (fun c32 => ?_) (fun c32 => ?_)
        · replace hf := op_t c32 hf
          refine lv_aload_n hx hb dX5_getBlock_96 rfl (lv_at hl 0 rfl) ?_
          refine va_get (D := D) (ci := 5) (v := .ref a1) (C := RX5) (T := TX5) (N := 11) hx hb hts iX5 hown hK hP 0 rfl rfl 0 (by decide) w7 (fun _ h9 => h9) rfl dX5_getBlock_97 ?_
          refine lv_iload_n hx hb dX5_getBlock_100 rfl (lv_at hl 2 rfl) ?_
          refine lv_iconst (v := 1) hx hb dX5_getBlock_101 (by decide) ?_
          refine lv_iadd hx hb dX5_getBlock_102 ?_
          refine lv_iload_n hx hb dX5_getBlock_103 rfl (lv_at hl 3 rfl) ?_
          obtain ⟨q33, hf⟩ := op_x hf
          obtain ⟨y34, e35, hf⟩ := nb_o hf
          refine ck_iast (f' := y34) hx hb hK hP hD hS 1 0 rfl rfl q33 dX5_getBlock_104 e35 (fun H locs hP hD hS => ?_)
          replace hP : va_P D vwCl (wM cI h a1 a2 a3 a4 y34 zb za zt zl zu zp zw zf zg zc) H := hP
          replace hD : va_D A (wM cI h a1 a2 a3 a4 y34 zb za zt zl zu zp zw zf zg zc) := hD
          refine lv_aload_n hx hb dX5_getBlock_105 rfl (lv_at hl 0 rfl) ?_
          refine va_get (D := D) (ci := 5) (v := .ref a1) (C := RX5) (T := TX5) (N := 11) hx hb hts iX5 hown hK hP 0 rfl rfl 0 (by decide) w7 (fun _ h9 => h9) rfl dX5_getBlock_106 ?_
          refine lv_iload_n hx hb dX5_getBlock_109 rfl (lv_at hl 2 rfl) ?_
          refine lv_iconst (v := 2) hx hb dX5_getBlock_110 (by decide) ?_
          refine lv_iadd hx hb dX5_getBlock_111 ?_
          refine lv_iload hx hb dX5_getBlock_112 (lv_at hl 5 rfl) ?_
          refine lv_iconst (v := 1) hx hb dX5_getBlock_114 (by decide) ?_
          refine lv_isub hx hb dX5_getBlock_115 ?_
          obtain ⟨q36, hf⟩ := op_x hf
          obtain ⟨y37, e38, hf⟩ := nb_o hf
          refine ck_iast (f' := y37) hx hb hK hP hD hS 1 0 rfl rfl q36 dX5_getBlock_116 e38 (fun H locs hP hD hS => ?_)
          replace hP : va_P D vwCl (wM cI h a1 a2 a3 a4 y37 zb za zt zl zu zp zw zf zg zc) H := hP
          replace hD : va_D A (wM cI h a1 a2 a3 a4 y37 zb za zt zl zu zp zw zf zg zc) := hD
          refine lv_aload_n hx hb dX5_getBlock_117 rfl (lv_at hl 0 rfl) ?_
          refine va_get (D := D) (ci := 5) (v := .ref a1) (C := RX5) (T := TX5) (N := 11) hx hb hts iX5 hown hK hP 0 rfl rfl 0 (by decide) w7 (fun _ h9 => h9) rfl dX5_getBlock_118 ?_
          refine lv_iload_n hx hb dX5_getBlock_121 rfl (lv_at hl 2 rfl) ?_
          refine lv_iconst (v := 3) hx hb dX5_getBlock_122 (by decide) ?_
          refine lv_iadd hx hb dX5_getBlock_123 ?_
          refine lv_aload_n hx hb dX5_getBlock_124 rfl (lv_at hl 0 rfl) ?_
          refine va_get (D := D) (ci := 5) (v := .ref a1) (C := RX5) (T := TX5) (N := 11) hx hb hts iX5 hown hK hP 0 rfl rfl 0 (by decide) w7 (fun _ h9 => h9) rfl dX5_getBlock_125 ?_
          refine lv_iload_n hx hb dX5_getBlock_128 rfl (lv_at hl 2 rfl) ?_
          refine lv_iconst (v := 0) hx hb dX5_getBlock_129 (by decide) ?_
          refine lv_iadd hx hb dX5_getBlock_130 ?_
          obtain ⟨q39, hf⟩ := op_x hf
          refine ck_iald (j := (x2 + 0).toNatClampNeg) hx hb hK hP 1 0 rfl rfl q39 rfl dX5_getBlock_131 ?_
          refine lv_iconst (v := 2) hx hb dX5_getBlock_132 (by decide) ?_
          refine lv_icmp_ne (tgt := 143) hx hb dX5_getBlock_133 (by decide) (fun c40 => ?_) (fun c40 => ?_)
          · replace hf := op_f c40 hf
            refine lv_iload_n hx hb dX5_getBlock_143 rfl (lv_at hl 3 rfl) ?_
            refine lv_iconst (v := 1) hx hb dX5_getBlock_144 (by decide) ?_
            refine lv_isub hx hb dX5_getBlock_145 ?_
            obtain ⟨q41, hf⟩ := op_x hf
            obtain ⟨y42, e43, hf⟩ := nb_o hf
            refine ck_iast (f' := y42) hx hb hK hP hD hS 1 0 rfl rfl q41 dX5_getBlock_146 e43 (fun H locs hP hD hS => ?_)
            replace hP : va_P D vwCl (wM cI h a1 a2 a3 a4 y42 zb za zt zl zu zp zw zf zg zc) H := hP
            replace hD : va_D A (wM cI h a1 a2 a3 a4 y42 zb za zt zl zu zp zw zf zg zc) := hD
            refine lv_aload_n hx hb dX5_getBlock_147 rfl (lv_at hl 0 rfl) ?_
            refine va_get (D := D) (ci := 5) (v := .ref a1) (C := RX5) (T := TX5) (N := 11) hx hb hts iX5 hown hK hP 0 rfl rfl 0 (by decide) w7 (fun _ h9 => h9) rfl dX5_getBlock_148 ?_
            refine lv_iload_n hx hb dX5_getBlock_151 rfl (lv_at hl 2 rfl) ?_
            refine lv_iconst (v := 5) hx hb dX5_getBlock_152 (by decide) ?_
            refine lv_iadd hx hb dX5_getBlock_153 ?_
            refine lv_dup2_11 hx hb dX5_getBlock_154 rfl rfl ?_
            obtain ⟨q44, hf⟩ := op_x hf
            refine ck_iald (j := (x2 + 5).toNatClampNeg) hx hb hK hP 1 0 rfl rfl q44 rfl dX5_getBlock_155 ?_
            refine lv_iconst (v := 1) hx hb dX5_getBlock_156 (by decide) ?_
            refine lv_iadd hx hb dX5_getBlock_157 ?_
            obtain ⟨q45, hf⟩ := op_x hf
            obtain ⟨y46, e47, hf⟩ := nb_o hf
            refine ck_iast (f' := y46) hx hb hK hP hD hS 1 0 rfl rfl q45 dX5_getBlock_158 e47 (fun H locs hP hD hS => ?_)
            replace hP : va_P D vwCl (wM cI h a1 a2 a3 a4 y46 zb za zt zl zu zp zw zf zg zc) H := hP
            replace hD : va_D A (wM cI h a1 a2 a3 a4 y46 zb za zt zl zu zp zw zf zg zc) := hD
            exact hret _ _ _ _ (y46) dX5_getBlock_159 (op_k hf) hP hS
          · replace hf := op_t c40 hf
            refine lv_iload hx hb dX5_getBlock_136 (lv_at hl 5 rfl) ?_
            refine lv_iconst (v := 1) hx hb dX5_getBlock_138 (by decide) ?_
            refine lv_isub hx hb dX5_getBlock_139 ?_
            refine lv_goto (tgt := 146) hx hb dX5_getBlock_140 (by decide) ?_
            obtain ⟨q48, hf⟩ := op_x hf
            obtain ⟨y49, e50, hf⟩ := nb_o hf
            refine ck_iast (f' := y49) hx hb hK hP hD hS 1 0 rfl rfl q48 dX5_getBlock_146 e50 (fun H locs hP hD hS => ?_)
            replace hP : va_P D vwCl (wM cI h a1 a2 a3 a4 y49 zb za zt zl zu zp zw zf zg zc) H := hP
            replace hD : va_D A (wM cI h a1 a2 a3 a4 y49 zb za zt zl zu zp zw zf zg zc) := hD
            refine lv_aload_n hx hb dX5_getBlock_147 rfl (lv_at hl 0 rfl) ?_
            refine va_get (D := D) (ci := 5) (v := .ref a1) (C := RX5) (T := TX5) (N := 11) hx hb hts iX5 hown hK hP 0 rfl rfl 0 (by decide) w7 (fun _ h9 => h9) rfl dX5_getBlock_148 ?_
            refine lv_iload_n hx hb dX5_getBlock_151 rfl (lv_at hl 2 rfl) ?_
            refine lv_iconst (v := 5) hx hb dX5_getBlock_152 (by decide) ?_
            refine lv_iadd hx hb dX5_getBlock_153 ?_
            refine lv_dup2_11 hx hb dX5_getBlock_154 rfl rfl ?_
            obtain ⟨q51, hf⟩ := op_x hf
            refine ck_iald (j := (x2 + 5).toNatClampNeg) hx hb hK hP 1 0 rfl rfl q51 rfl dX5_getBlock_155 ?_
            refine lv_iconst (v := 1) hx hb dX5_getBlock_156 (by decide) ?_
            refine lv_iadd hx hb dX5_getBlock_157 ?_
            obtain ⟨q52, hf⟩ := op_x hf
            obtain ⟨y53, e54, hf⟩ := nb_o hf
            refine ck_iast (f' := y53) hx hb hK hP hD hS 1 0 rfl rfl q52 dX5_getBlock_158 e54 (fun H locs hP hD hS => ?_)
            replace hP : va_P D vwCl (wM cI h a1 a2 a3 a4 y53 zb za zt zl zu zp zw zf zg zc) H := hP
            replace hD : va_D A (wM cI h a1 a2 a3 a4 y53 zb za zt zl zu zp zw zf zg zc) := hD
            exact hret _ _ _ _ (y53) dX5_getBlock_159 (op_k hf) hP hS
        · replace hf := op_f c32 hf
          refine lv_aload_n hx hb dX5_getBlock_47 rfl (lv_at hl 0 rfl) ?_
          refine va_get (D := D) (ci := 5) (v := .ref a1) (C := RX5) (T := TX5) (N := 11) hx hb hts iX5 hown hK hP 0 rfl rfl 0 (by decide) w7 (fun _ h9 => h9) rfl dX5_getBlock_48 ?_
          refine lv_iload hx hb dX5_getBlock_51 (lv_at hl 5 rfl) ?_
          refine ck_SI (st := [.int x5, .ref a1]) (rest := [.ref a1]) (As := [.int x5]) ⟨hx, hb, hml, hown, hts⟩ E0_ok (c_X5_n l D cI cC cK cO  x5 _ rfl) (va_cwS 1 hts gX5_getBlock_X5_n rfl rfl rfl hs_X5_n ⟨Nat.le_of_ble_eq_true rfl, Nat.le_of_ble_eq_true rfl⟩) hK hP hD hS hA hE rfl hl.1 rfl (Nat.le_of_ble_eq_true rfl) dX5_getBlock_53 ⟨Nat.zero_le _, Nat.zero_le _⟩ (fun r H locs hw hP hS => ?_)
          cases hw
          refine lv_iconst (v := 0) hx hb dX5_getBlock_56 (by decide) ?_
          refine lv_iadd hx hb dX5_getBlock_57 ?_
          obtain ⟨q57, hf⟩ := op_x hf
          refine ck_iald (j := ((f_X5_n x5) + 0).toNatClampNeg) hx hb hK hP 1 0 rfl rfl q57 rfl dX5_getBlock_58 ?_
          refine lv_iload hx hb dX5_getBlock_59 (lv_at hl 4 rfl) ?_
          refine lv_icmp_ne (tgt := 96) hx hb dX5_getBlock_61 (by decide) (fun c58 => ?_) (fun c58 => ?_)
          · replace hf := op_f c58 hf
            refine lv_aload_n hx hb dX5_getBlock_96 rfl (lv_at hl 0 rfl) ?_
            refine va_get (D := D) (ci := 5) (v := .ref a1) (C := RX5) (T := TX5) (N := 11) hx hb hts iX5 hown hK hP 0 rfl rfl 0 (by decide) w7 (fun _ h9 => h9) rfl dX5_getBlock_97 ?_
            refine lv_iload_n hx hb dX5_getBlock_100 rfl (lv_at hl 2 rfl) ?_
            refine lv_iconst (v := 1) hx hb dX5_getBlock_101 (by decide) ?_
            refine lv_iadd hx hb dX5_getBlock_102 ?_
            refine lv_iload_n hx hb dX5_getBlock_103 rfl (lv_at hl 3 rfl) ?_
            obtain ⟨q59, hf⟩ := op_x hf
            obtain ⟨y60, e61, hf⟩ := nb_o hf
            refine ck_iast (f' := y60) hx hb hK hP hD hS 1 0 rfl rfl q59 dX5_getBlock_104 e61 (fun H locs hP hD hS => ?_)
            replace hP : va_P D vwCl (wM cI h a1 a2 a3 a4 y60 zb za zt zl zu zp zw zf zg zc) H := hP
            replace hD : va_D A (wM cI h a1 a2 a3 a4 y60 zb za zt zl zu zp zw zf zg zc) := hD
            refine lv_aload_n hx hb dX5_getBlock_105 rfl (lv_at hl 0 rfl) ?_
            refine va_get (D := D) (ci := 5) (v := .ref a1) (C := RX5) (T := TX5) (N := 11) hx hb hts iX5 hown hK hP 0 rfl rfl 0 (by decide) w7 (fun _ h9 => h9) rfl dX5_getBlock_106 ?_
            refine lv_iload_n hx hb dX5_getBlock_109 rfl (lv_at hl 2 rfl) ?_
            refine lv_iconst (v := 2) hx hb dX5_getBlock_110 (by decide) ?_
            refine lv_iadd hx hb dX5_getBlock_111 ?_
            refine lv_iload hx hb dX5_getBlock_112 (lv_at hl 5 rfl) ?_
            refine lv_iconst (v := 1) hx hb dX5_getBlock_114 (by decide) ?_
            refine lv_isub hx hb dX5_getBlock_115 ?_
            obtain ⟨q62, hf⟩ := op_x hf
            obtain ⟨y63, e64, hf⟩ := nb_o hf
            refine ck_iast (f' := y63) hx hb hK hP hD hS 1 0 rfl rfl q62 dX5_getBlock_116 e64 (fun H locs hP hD hS => ?_)
            replace hP : va_P D vwCl (wM cI h a1 a2 a3 a4 y63 zb za zt zl zu zp zw zf zg zc) H := hP
            replace hD : va_D A (wM cI h a1 a2 a3 a4 y63 zb za zt zl zu zp zw zf zg zc) := hD
            refine lv_aload_n hx hb dX5_getBlock_117 rfl (lv_at hl 0 rfl) ?_
            refine va_get (D := D) (ci := 5) (v := .ref a1) (C := RX5) (T := TX5) (N := 11) hx hb hts iX5 hown hK hP 0 rfl rfl 0 (by decide) w7 (fun _ h9 => h9) rfl dX5_getBlock_118 ?_
            refine lv_iload_n hx hb dX5_getBlock_121 rfl (lv_at hl 2 rfl) ?_
            refine lv_iconst (v := 3) hx hb dX5_getBlock_122 (by decide) ?_
            refine lv_iadd hx hb dX5_getBlock_123 ?_
            refine lv_aload_n hx hb dX5_getBlock_124 rfl (lv_at hl 0 rfl) ?_
            refine va_get (D := D) (ci := 5) (v := .ref a1) (C := RX5) (T := TX5) (N := 11) hx hb hts iX5 hown hK hP 0 rfl rfl 0 (by decide) w7 (fun _ h9 => h9) rfl dX5_getBlock_125 ?_
            refine lv_iload_n hx hb dX5_getBlock_128 rfl (lv_at hl 2 rfl) ?_
            refine lv_iconst (v := 0) hx hb dX5_getBlock_129 (by decide) ?_
            refine lv_iadd hx hb dX5_getBlock_130 ?_
            obtain ⟨q65, hf⟩ := op_x hf
            refine ck_iald (j := (x2 + 0).toNatClampNeg) hx hb hK hP 1 0 rfl rfl q65 rfl dX5_getBlock_131 ?_
            refine lv_iconst (v := 2) hx hb dX5_getBlock_132 (by decide) ?_
            refine lv_icmp_ne (tgt := 143) hx hb dX5_getBlock_133 (by decide) (fun c66 => ?_) (fun c66 => ?_)
            · replace hf := op_f c66 hf
              refine lv_iload_n hx hb dX5_getBlock_143 rfl (lv_at hl 3 rfl) ?_
              refine lv_iconst (v := 1) hx hb dX5_getBlock_144 (by decide) ?_
              refine lv_isub hx hb dX5_getBlock_145 ?_
              obtain ⟨q67, hf⟩ := op_x hf
              obtain ⟨y68, e69, hf⟩ := nb_o hf
              refine ck_iast (f' := y68) hx hb hK hP hD hS 1 0 rfl rfl q67 dX5_getBlock_146 e69 (fun H locs hP hD hS => ?_)
              replace hP : va_P D vwCl (wM cI h a1 a2 a3 a4 y68 zb za zt zl zu zp zw zf zg zc) H := hP
              replace hD : va_D A (wM cI h a1 a2 a3 a4 y68 zb za zt zl zu zp zw zf zg zc) := hD
              refine lv_aload_n hx hb dX5_getBlock_147 rfl (lv_at hl 0 rfl) ?_
              refine va_get (D := D) (ci := 5) (v := .ref a1) (C := RX5) (T := TX5) (N := 11) hx hb hts iX5 hown hK hP 0 rfl rfl 0 (by decide) w7 (fun _ h9 => h9) rfl dX5_getBlock_148 ?_
              refine lv_iload_n hx hb dX5_getBlock_151 rfl (lv_at hl 2 rfl) ?_
              refine lv_iconst (v := 5) hx hb dX5_getBlock_152 (by decide) ?_
              refine lv_iadd hx hb dX5_getBlock_153 ?_
              refine lv_dup2_11 hx hb dX5_getBlock_154 rfl rfl ?_
              obtain ⟨q70, hf⟩ := op_x hf
              refine ck_iald (j := (x2 + 5).toNatClampNeg) hx hb hK hP 1 0 rfl rfl q70 rfl dX5_getBlock_155 ?_
              refine lv_iconst (v := 1) hx hb dX5_getBlock_156 (by decide) ?_
              refine lv_iadd hx hb dX5_getBlock_157 ?_
              obtain ⟨q71, hf⟩ := op_x hf
              obtain ⟨y72, e73, hf⟩ := nb_o hf
              refine ck_iast (f' := y72) hx hb hK hP hD hS 1 0 rfl rfl q71 dX5_getBlock_158 e73 (fun H locs hP hD hS => ?_)
              replace hP : va_P D vwCl (wM cI h a1 a2 a3 a4 y72 zb za zt zl zu zp zw zf zg zc) H := hP
              replace hD : va_D A (wM cI h a1 a2 a3 a4 y72 zb za zt zl zu zp zw zf zg zc) := hD
              exact hret _ _ _ _ (y72) dX5_getBlock_159 (op_k hf) hP hS
            · replace hf := op_t c66 hf
              refine lv_iload hx hb dX5_getBlock_136 (lv_at hl 5 rfl) ?_
              refine lv_iconst (v := 1) hx hb dX5_getBlock_138 (by decide) ?_
              refine lv_isub hx hb dX5_getBlock_139 ?_
              refine lv_goto (tgt := 146) hx hb dX5_getBlock_140 (by decide) ?_
              obtain ⟨q74, hf⟩ := op_x hf
              obtain ⟨y75, e76, hf⟩ := nb_o hf
              refine ck_iast (f' := y75) hx hb hK hP hD hS 1 0 rfl rfl q74 dX5_getBlock_146 e76 (fun H locs hP hD hS => ?_)
              replace hP : va_P D vwCl (wM cI h a1 a2 a3 a4 y75 zb za zt zl zu zp zw zf zg zc) H := hP
              replace hD : va_D A (wM cI h a1 a2 a3 a4 y75 zb za zt zl zu zp zw zf zg zc) := hD
              refine lv_aload_n hx hb dX5_getBlock_147 rfl (lv_at hl 0 rfl) ?_
              refine va_get (D := D) (ci := 5) (v := .ref a1) (C := RX5) (T := TX5) (N := 11) hx hb hts iX5 hown hK hP 0 rfl rfl 0 (by decide) w7 (fun _ h9 => h9) rfl dX5_getBlock_148 ?_
              refine lv_iload_n hx hb dX5_getBlock_151 rfl (lv_at hl 2 rfl) ?_
              refine lv_iconst (v := 5) hx hb dX5_getBlock_152 (by decide) ?_
              refine lv_iadd hx hb dX5_getBlock_153 ?_
              refine lv_dup2_11 hx hb dX5_getBlock_154 rfl rfl ?_
              obtain ⟨q77, hf⟩ := op_x hf
              refine ck_iald (j := (x2 + 5).toNatClampNeg) hx hb hK hP 1 0 rfl rfl q77 rfl dX5_getBlock_155 ?_
              refine lv_iconst (v := 1) hx hb dX5_getBlock_156 (by decide) ?_
              refine lv_iadd hx hb dX5_getBlock_157 ?_
              obtain ⟨q78, hf⟩ := op_x hf
              obtain ⟨y79, e80, hf⟩ := nb_o hf
              refine ck_iast (f' := y79) hx hb hK hP hD hS 1 0 rfl rfl q78 dX5_getBlock_158 e80 (fun H locs hP hD hS => ?_)
              replace hP : va_P D vwCl (wM cI h a1 a2 a3 a4 y79 zb za zt zl zu zp zw zf zg zc) H := hP
              replace hD : va_D A (wM cI h a1 a2 a3 a4 y79 zb za zt zl zu zp zw zf zg zc) := hD
              exact hret _ _ _ _ (y79) dX5_getBlock_159 (op_k hf) hP hS
          · replace hf := op_t c58 hf
            refine lv_aload_n hx hb dX5_getBlock_64 rfl (lv_at hl 0 rfl) ?_
            refine va_get (D := D) (ci := 5) (v := .ref a1) (C := RX5) (T := TX5) (N := 11) hx hb hts iX5 hown hK hP 0 rfl rfl 0 (by decide) w7 (fun _ h9 => h9) rfl dX5_getBlock_65 ?_
            refine lv_iload hx hb dX5_getBlock_68 (lv_at hl 5 rfl) ?_
            refine ck_SI (st := [.int x5, .ref a1]) (rest := [.ref a1]) (As := [.int x5]) ⟨hx, hb, hml, hown, hts⟩ E0_ok (c_X5_n l D cI cC cK cO  x5 _ rfl) (va_cwS 1 hts gX5_getBlock_X5_n rfl rfl rfl hs_X5_n ⟨Nat.le_of_ble_eq_true rfl, Nat.le_of_ble_eq_true rfl⟩) hK hP hD hS hA hE rfl hl.1 rfl (Nat.le_of_ble_eq_true rfl) dX5_getBlock_70 ⟨Nat.zero_le _, Nat.zero_le _⟩ (fun r H locs hw hP hS => ?_)
            cases hw
            refine lv_iconst (v := 0) hx hb dX5_getBlock_73 (by decide) ?_
            refine lv_iadd hx hb dX5_getBlock_74 ?_
            refine lv_iconst (v := 1) hx hb dX5_getBlock_75 (by decide) ?_
            obtain ⟨q83, hf⟩ := op_x hf
            obtain ⟨y84, e85, hf⟩ := nb_o hf
            refine ck_iast (f' := y84) hx hb hK hP hD hS 1 0 rfl rfl q83 dX5_getBlock_76 e85 (fun H locs hP hD hS => ?_)
            replace hP : va_P D vwCl (wM cI h a1 a2 a3 a4 y84 zb za zt zl zu zp zw zf zg zc) H := hP
            replace hD : va_D A (wM cI h a1 a2 a3 a4 y84 zb za zt zl zu zp zw zf zg zc) := hD
            refine lv_aload_n hx hb dX5_getBlock_77 rfl (lv_at hl 0 rfl) ?_
            refine va_get (D := D) (ci := 5) (v := .ref a1) (C := RX5) (T := TX5) (N := 11) hx hb hts iX5 hown hK hP 0 rfl rfl 0 (by decide) w7 (fun _ h9 => h9) rfl dX5_getBlock_78 ?_
            refine lv_iload hx hb dX5_getBlock_81 (lv_at hl 5 rfl) ?_
            refine ck_SI (st := [.int x5, .ref a1]) (rest := [.ref a1]) (As := [.int x5]) ⟨hx, hb, hml, hown, hts⟩ E0_ok (c_X5_n l D cI cC cK cO  x5 _ rfl) (va_cwS 1 hts gX5_getBlock_X5_n rfl rfl rfl hs_X5_n ⟨Nat.le_of_ble_eq_true rfl, Nat.le_of_ble_eq_true rfl⟩) hK hP hD hS hA hE rfl hl.1 rfl (Nat.le_of_ble_eq_true rfl) dX5_getBlock_83 ⟨Nat.zero_le _, Nat.zero_le _⟩ (fun r H locs hw hP hS => ?_)
            cases hw
            refine lv_iconst (v := 1) hx hb dX5_getBlock_86 (by decide) ?_
            refine lv_iadd hx hb dX5_getBlock_87 ?_
            refine lv_iload_n hx hb dX5_getBlock_88 rfl (lv_at hl 1 rfl) ?_
            obtain ⟨q88, hf⟩ := op_x hf
            obtain ⟨y89, e90, hf⟩ := nb_o hf
            refine ck_iast (f' := y89) hx hb hK hP hD hS 1 0 rfl rfl q88 dX5_getBlock_89 e90 (fun H locs hP hD hS => ?_)
            replace hP : va_P D vwCl (wM cI h a1 a2 a3 a4 y89 zb za zt zl zu zp zw zf zg zc) H := hP
            replace hD : va_D A (wM cI h a1 a2 a3 a4 y89 zb za zt zl zu zp zw zf zg zc) := hD
            refine lv_iinc (v := (x5 + 1)) (lv' := [(5, .int (x5 + 1)), (0, .ref h), (1, .int x1), (2, .int x2), (3, .int x3), (4, .int x4)]) hx hb dX5_getBlock_90 hl (k := 5) rfl rfl (by decide) rfl (fun ls hl => ?_)
            refine lv_goto (tgt := 26) hx hb dX5_getBlock_93 (by decide) ?_
            exact ih y89 x1 x2 x3 x4 (x5 + 1) hf _ _ _ hP hD hS (lv_sub hl [1, 2, 3, 4, 5, 0] rfl)
  rw [f_X5_getBlock] at hf
  refine lv_iload_n hx hb dX5_getBlock_0 rfl (lv_at hl 1 rfl) ?_
  refine ck_SI (st := [.int x1]) (rest := []) (As := [.int x1]) ⟨hx, hb, hml, hown, hts⟩ E0_ok (c_X5_c l D cI cC cK cO  x1 _ rfl) (va_cwS 1 hts gX5_getBlock_X5_c rfl rfl rfl hs_X5_c ⟨Nat.le_of_ble_eq_true rfl, Nat.le_of_ble_eq_true rfl⟩) hK hP hD hS hA hE rfl hl.1 rfl (Nat.le_of_ble_eq_true rfl) dX5_getBlock_1 ⟨Nat.zero_le _, Nat.zero_le _⟩ (fun r H locs hw hP hS => ?_)
  cases hw
  refine lv_istore_n (lv' := [(2, .int (f_X5_c x1)), (0, .ref h), (1, .int x1)]) hx hb dX5_getBlock_4 rfl hl (by decide) rfl (fun ls hl => ?_)
  refine lv_aload_n hx hb dX5_getBlock_5 rfl (lv_at hl 1 rfl) ?_
  obtain ⟨r3, h4, hf⟩ := op_b hf
  refine ck_VI (st := [.ref h]) (rest := []) (As := []) (C := RX5) (ci := 5) ⟨hx, hb, hml, hown, hts⟩ E0_ok (c_X5_blockFrom l D cI cC cK cO h a1 a2 a3 a4 zs zb za zt zl zu zp zw zf zg zc  K _ h4) (cwV 0 hts gX5_getBlock_X5_blockFrom rfl rfl rfl hv_X5_blockFrom ⟨Nat.le_of_ble_eq_true rfl, Nat.le_of_ble_eq_true rfl⟩) hK hP hD hS hA hE [0, 1, 2, 3, 4] rfl rfl rfl rfl rfl (fun _ => rfl) rfl hl.1 rfl (Nat.le_of_ble_eq_true rfl) dX5_getBlock_6 ⟨Nat.zero_le _, Nat.zero_le _⟩ (fun r u H locs hw hP hD hS => ?_)
  cases hw
  replace hP : va_P D vwCl (wM cI h a1 a2 a3 a4 zs zb za zt zl zu zp zw zf zg zc) H := hP
  replace hD : va_D A (wM cI h a1 a2 a3 a4 zs zb za zt zl zu zp zw zf zg zc) := hD
  refine lv_istore_n (lv' := [(3, .int r3), (2, .int (f_X5_c x1)), (0, .ref h), (1, .int x1)]) hx hb dX5_getBlock_9 rfl hl (by decide) rfl (fun ls hl => ?_)
  refine lv_aload_n hx hb dX5_getBlock_10 rfl (lv_at hl 2 rfl) ?_
  refine va_get (D := D) (ci := 5) (v := .ref a1) (C := RX5) (T := TX5) (N := 11) hx hb hts iX5 hown hK hP 0 rfl rfl 0 (by decide) w7 (fun _ h9 => h9) rfl dX5_getBlock_11 ?_
  refine lv_iload_n hx hb dX5_getBlock_14 rfl (lv_at hl 0 rfl) ?_
  refine ck_SI (st := [.int r3, .ref a1]) (rest := [.ref a1]) (As := [.int r3]) ⟨hx, hb, hml, hown, hts⟩ E0_ok (c_X5_n l D cI cC cK cO  r3 _ rfl) (va_cwS 1 hts gX5_getBlock_X5_n rfl rfl rfl hs_X5_n ⟨Nat.le_of_ble_eq_true rfl, Nat.le_of_ble_eq_true rfl⟩) hK hP hD hS hA hE rfl hl.1 rfl (Nat.le_of_ble_eq_true rfl) dX5_getBlock_15 ⟨Nat.zero_le _, Nat.zero_le _⟩ (fun r H locs hw hP hS => ?_)
  cases hw
  refine lv_iconst (v := 0) hx hb dX5_getBlock_18 (by decide) ?_
  refine lv_iadd hx hb dX5_getBlock_19 ?_
  obtain ⟨q8, hf⟩ := op_x hf
  refine ck_iald (j := ((f_X5_n r3) + 0).toNatClampNeg) hx hb hK hP 1 0 rfl rfl q8 rfl dX5_getBlock_20 ?_
  refine lv_istore (lv' := [(4, .int (zs ((f_X5_n r3) + 0).toNatClampNeg)), (3, .int r3), (2, .int (f_X5_c x1)), (0, .ref h), (1, .int x1)]) hx hb dX5_getBlock_21 hl (by decide) rfl (fun ls hl => ?_)
  refine lv_iload_n hx hb dX5_getBlock_23 rfl (lv_at hl 1 rfl) ?_
  refine lv_istore (lv' := [(5, .int r3), (4, .int (zs ((f_X5_n r3) + 0).toNatClampNeg)), (3, .int r3), (2, .int (f_X5_c x1)), (0, .ref h), (1, .int x1)]) hx hb dX5_getBlock_24 hl (by decide) rfl (fun ls hl => ?_)
  exact L_26 K zs x1 (f_X5_c x1) r3 (zs ((f_X5_n r3) + 0).toNatClampNeg) r3 hf _ _ _ hP hD hS (lv_sub hl [4, 5, 3, 2, 1, 0] rfl)
