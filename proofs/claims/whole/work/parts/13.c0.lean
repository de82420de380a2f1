/-! laid by wip/whole/gen.py: the class's clerks, numbers, offices, as functions -/
theorem sw_o_0_4 {x : Int32} (h0 : ¬ x = 0) (h1 : ¬ x = 1) (h2 : ¬ x = 2) (h3 : ¬ x = 3) : x.toInt < 0 ∨ 3 < x.toInt := by
  have g0 : x.toInt ≠ 0 := sw_ne h0
  have g1 : x.toInt ≠ 1 := sw_ne h1
  have g2 : x.toInt ≠ 2 := sw_ne h2
  have g3 : x.toInt ≠ 3 := sw_ne h3
  omega
theorem sw_o_0_6 {x : Int32} (h0 : ¬ x = 0) (h1 : ¬ x = 1) (h2 : ¬ x = 2) (h3 : ¬ x = 3) (h4 : ¬ x = 4) (h5 : ¬ x = 5) : x.toInt < 0 ∨ 5 < x.toInt := by
  have g0 : x.toInt ≠ 0 := sw_ne h0
  have g1 : x.toInt ≠ 1 := sw_ne h1
  have g2 : x.toInt ≠ 2 := sw_ne h2
  have g3 : x.toInt ≠ 3 := sw_ne h3
  have g4 : x.toInt ≠ 4 := sw_ne h4
  have g5 : x.toInt ≠ 5 := sw_ne h5
  omega
theorem sw_o_0_10 {x : Int32} (h0 : ¬ x = 0) (h1 : ¬ x = 1) (h2 : ¬ x = 2) (h3 : ¬ x = 3) (h4 : ¬ x = 4) (h5 : ¬ x = 5) (h6 : ¬ x = 6) (h7 : ¬ x = 7) (h8 : ¬ x = 8) (h9 : ¬ x = 9) : x.toInt < 0 ∨ 9 < x.toInt := by
  have g0 : x.toInt ≠ 0 := sw_ne h0
  have g1 : x.toInt ≠ 1 := sw_ne h1
  have g2 : x.toInt ≠ 2 := sw_ne h2
  have g3 : x.toInt ≠ 3 := sw_ne h3
  have g4 : x.toInt ≠ 4 := sw_ne h4
  have g5 : x.toInt ≠ 5 := sw_ne h5
  have g6 : x.toInt ≠ 6 := sw_ne h6
  have g7 : x.toInt ≠ 7 := sw_ne h7
  have g8 : x.toInt ≠ 8 := sw_ne h8
  have g9 : x.toInt ≠ 9 := sw_ne h9
  omega
def f_X4_orNotFound (x0 : Int32) : Int32 :=
  if 0 ≤ x0 then (
  x0)
  else (
  (-4))
def f_X4_reasonOf (x0 : Int32) : Int32 :=
  if x0 < 0 then (
  if x0 = (-1) then (
  2)
  else (
  3))
  else (
  0)
def f_X0_become (zk : Nat → Int32) (zj : Nat → Int32) : Option ((Nat → Int32)) :=
  some (upd (upd (upd (upd (upd (upd (upd zk 0 (zj 0)) 1 (zj 1)) 2 (zj 2)) 3 (zj 3)) 4 (zj 4)) 5 (zj 5)) 6 (zj 6))
def f_X0_drop (zk : Nat → Int32) : Option ((Nat → Int32)) :=
  some (upd (upd (upd zk 1 1) 2 0) 3 0)
def f_X0_held (zk : Nat → Int32) : Int32 :=
  (((zk 2) - (zk 1)) + 1)
def f_X0_lastLost (zk : Nat → Int32) : Int32 :=
  (imin (zk 3) (zk 2))
def f_X0_loss (zk : Nat → Int32) : Int32 :=
  (imax 0 (((f_X0_lastLost zk) - (zk 1)) + 1))
def f_X0_receive (zk : Nat → Int32) (x1 : Int32) (x2 : Int32) : Option ((Nat → Int32)) :=
  if (zk 0) = 2 then (
  some (upd (upd (upd (upd zk 1 x1) 2 x2) 3 x2) 5 ((zk 5) + 1)))
  else (
  some (upd (upd (upd (upd zk 1 x1) 2 x2) 3 (x1 - 1)) 5 ((zk 5) + 1)))
def f_X0_giveLowest (zk : Nat → Int32) (x1 : Int32) : Option (Int32 × (Nat → Int32)) :=
  if (zk 0) = 0 then (
  some ((zk 1), (upd (upd (upd (upd zk 1 ((zk 1) + 1)) 3 (zk 1)) 4 ((zk 4) + 1)) 6 (zk 1))))
  else (
  if (zk 0) = 1 then (
  if (zk 1) ≤ (zk 3) then (
  some ((zk 1), (upd (upd (upd zk 1 ((zk 1) + 1)) 4 ((zk 4) + 1)) 6 (zk 1))))
  else (
  some ((zk 1), (upd (upd (upd (upd zk 1 ((zk 1) + 1)) 3 (imin (((zk 1) + x1) - 1) (zk 2))) 4 ((zk 4) + 1)) 6 (zk 1)))))
  else (
  some ((zk 1), (upd (upd (upd zk 1 ((zk 1) + 1)) 4 ((zk 4) + 1)) 6 (zk 1)))))
def f_X1_become (ns : Nat → Int32) (no : Nat → Int32) (nr : Nat → Int32) (nt : Nat → Int32) (nd : Nat → Int32) (ni : Nat → Int32) (ms : Nat → Int32) (mo : Nat → Int32) (mr : Nat → Int32) (mt : Nat → Int32) (md : Nat → Int32) (mi : Nat → Int32) (mm : Int32) (mf : Int32) : Option ((Nat → Int32) × (Nat → Int32) × (Nat → Int32) × (Nat → Int32) × (Nat → Int32) × (Nat → Int32) × Int32 × Int32) :=
  some ((va_cpy ms ns 0 0 601), (va_cpy mo no 0 0 601), (va_cpy mr nr 0 0 601), (va_cpy mt nt 0 0 601), (va_cpy md nd 0 0 601), (va_cpy mi ni 0 0 600), mm, mf)
def f_X1_isNumber (x0 : Int32) : Int32 :=
  if x0 < 1 then (
  0)
  else (
  if 600 < x0 then (
  0)
  else (
  1))
def f_X1_put_16 (x3 : Int32) (x4 : Int32) (x5 : Int32) (x6 : Int32) (nf : Int32) : Nat → Int32 → (Nat → Int32) → (Nat → Int32) → (Nat → Int32) → Option ((Nat → Int32) × (Nat → Int32) × (Nat → Int32) × Int32)
  | 0, _, _, _, _ => none
  | n + 1, x7, ns, no, nr =>
    if x6 < x7 then (
    some (ns, no, nr, (imax nf (x6 + 1))))
    else (
    ix x7 601 <|
    nb (upd ns (x7).toNatClampNeg x3) fun y3 =>
    ix x7 601 <|
    nb (upd no (x7).toNatClampNeg x4) fun y6 =>
    ix x7 601 <|
    nb (upd nr (x7).toNatClampNeg x5) fun y9 =>
    f_X1_put_16 x3 x4 x5 x6 nf n (x7 + 1) y3 y6 y9)
def f_X1_put (K : Nat) (ns : Nat → Int32) (no : Nat → Int32) (nr : Nat → Int32) (nf : Int32) (x1 : Int32) (x2 : Int32) (x3 : Int32) (x4 : Int32) (x5 : Int32) : Option ((Nat → Int32) × (Nat → Int32) × (Nat → Int32) × Int32) :=
  f_X1_put_16 x3 x4 x5 (imin x2 600) nf K (imax x1 1) ns no nr
def f_X1_give (K : Nat) (ns : Nat → Int32) (no : Nat → Int32) (nr : Nat → Int32) (nt : Nat → Int32) (nd : Nat → Int32) (ni : Nat → Int32) (nm : Int32) (nf : Int32) (x1 : Int32) (x2 : Int32) (x3 : Int32) : Option ((Nat → Int32) × (Nat → Int32) × (Nat → Int32) × (Nat → Int32) × (Nat → Int32) × (Nat → Int32) × Int32 × Int32) :=
  if (f_X1_isNumber x1) = 0 then (
  some (ns, no, nr, nt, nd, ni, nm, nf))
  else (
  if nm < 0 then (
  some (ns, no, nr, nt, nd, ni, nm, nf))
  else (
  if nm < 600 then (
  (f_X1_put K ns no nr nf x1 x1 2 x2 (-1)).bind fun ⟨y7, y8, y9, y10⟩ =>
  ix x1 601 <|
  nb (upd nt (x1).toNatClampNeg nm) fun y14 =>
  ix x1 601 <|
  nb (upd nd (x1).toNatClampNeg x3) fun y17 =>
  ix nm 600 <|
  nb (upd ni (nm).toNatClampNeg x1) fun y20 =>
  some (y7, y8, y9, y14, y17, y20, (nm + 1), y10))
  else (
  some (ns, no, nr, nt, nd, ni, nm, nf))))
def f_X1_closeAll_4 (K : Nat) : Nat → Int32 → Int32 → (Nat → Int32) → (Nat → Int32) → (Nat → Int32) → Int32 → Option (Int32 × (Nat → Int32) × (Nat → Int32) × (Nat → Int32) × Int32)
  | 0, _, _, _, _, _, _ => none
  | n + 1, x1, x2, ns, no, nr, nf =>
    if 600 < x2 then (
    some (x1, ns, no, nr, nf))
    else (
    ix x2 601 <|
    if (ns (x2).toNatClampNeg) = 1 then (
    ix x2 601 <|
    (f_X1_put K ns no nr nf x2 x2 4 (no (x2).toNatClampNeg) 3).bind fun ⟨y6, y7, y8, y9⟩ =>
    f_X1_closeAll_4 K n (x1 + 1) (x2 + 1) y6 y7 y8 y9)
    else (
    ix x2 601 <|
    if (ns (x2).toNatClampNeg) = 3 then (
    ix x2 601 <|
    (f_X1_put K ns no nr nf x2 x2 4 (no (x2).toNatClampNeg) 3).bind fun ⟨y16, y17, y18, y19⟩ =>
    f_X1_closeAll_4 K n (x1 + 1) (x2 + 1) y16 y17 y18 y19)
    else (
    f_X1_closeAll_4 K n x1 (x2 + 1) ns no nr nf)))
def f_X1_closeAll (K : Nat) (ns : Nat → Int32) (no : Nat → Int32) (nr : Nat → Int32) (nf : Int32) : Option (Int32 × (Nat → Int32) × (Nat → Int32) × (Nat → Int32) × Int32) :=
  f_X1_closeAll_4 K K 0 1 ns no nr nf
def f_X1_lowestFree_2 (ns : Nat → Int32) (nf : Int32) : Nat → Int32 → Option (Int32)
  | 0, _ => none
  | n + 1, x1 =>
    if 600 < x1 then (
    some (-1))
    else (
    if nf ≤ x1 then (
    some (-1))
    else (
    ix x1 601 <|
    if (ns (x1).toNatClampNeg) = 3 then (
    some x1)
    else (
    f_X1_lowestFree_2 ns nf n (x1 + 1))))
def f_X1_lowestFree (K : Nat) (ns : Nat → Int32) (nf : Int32) : Option (Int32) :=
  f_X1_lowestFree_2 ns nf K 1
def f_X1_goesOn (ns : Nat → Int32) (no : Nat → Int32) (nr : Nat → Int32) (x1 : Int32) : Option (Int32) :=
  if x1 < 1 then (
  some 0)
  else (
  if 600 ≤ x1 then (
  some 0)
  else (
  ix x1 601 <|
  ix (x1 + 1) 601 <|
  if (ns (x1).toNatClampNeg) = (ns (x1 + 1).toNatClampNeg) then (
  ix x1 601 <|
  ix (x1 + 1) 601 <|
  if (no (x1).toNatClampNeg) = (no (x1 + 1).toNatClampNeg) then (
  ix x1 601 <|
  ix (x1 + 1) 601 <|
  if (nr (x1).toNatClampNeg) = (nr (x1 + 1).toNatClampNeg) then (
  some 1)
  else (
  some 0))
  else (
  some 0))
  else (
  some 0)))
def f_X1_lastOfRow_2 (x2 : Int32) (ns : Nat → Int32) (no : Nat → Int32) (nr : Nat → Int32) : Nat → Int32 → Option (Int32)
  | 0, _ => none
  | n + 1, x3 =>
    if x2 ≤ x3 then (
    some x3)
    else (
    (f_X1_goesOn ns no nr x3).bind fun r2 =>
    if r2 = 0 then (
    some x3)
    else (
    f_X1_lastOfRow_2 x2 ns no nr n (x3 + 1)))
def f_X1_lastOfRow (K : Nat) (ns : Nat → Int32) (no : Nat → Int32) (nr : Nat → Int32) (x1 : Int32) (x2 : Int32) : Option (Int32) :=
  f_X1_lastOfRow_2 x2 ns no nr K x1
def f_X1_startsRow (ns : Nat → Int32) (no : Nat → Int32) (nr : Nat → Int32) (x1 : Int32) (x2 : Int32) : Option (Int32) :=
  if (f_X1_isNumber x1) = 0 then (
  some 0)
  else (
  ix x1 601 <|
  if (ns (x1).toNatClampNeg) = x2 then (
  (f_X1_goesOn ns no nr (x1 - 1)).bind fun r6 =>
  if r6 = 0 then (
  some 1)
  else (
  some 0))
  else (
  some 0))
def f_X1_rows_4 (x1 : Int32) (ns : Nat → Int32) (no : Nat → Int32) (nr : Nat → Int32) : Nat → Int32 → Int32 → Option (Int32)
  | 0, _, _ => none
  | n + 1, x2, x3 =>
    if 600 < x3 then (
    some x2)
    else (
    (f_X1_startsRow ns no nr x3 x1).bind fun r2 =>
    if r2 = 0 then (
    f_X1_rows_4 x1 ns no nr n x2 (x3 + 1))
    else (
    f_X1_rows_4 x1 ns no nr n (x2 + 1) (x3 + 1)))
def f_X1_rows (K : Nat) (ns : Nat → Int32) (no : Nat → Int32) (nr : Nat → Int32) (x1 : Int32) : Option (Int32) :=
  f_X1_rows_4 x1 ns no nr K 0 1
def f_X1_startOfRow_5 (x1 : Int32) (x2 : Int32) (ns : Nat → Int32) (no : Nat → Int32) (nr : Nat → Int32) : Nat → Int32 → Int32 → Option (Int32)
  | 0, _, _ => none
  | n + 1, x3, x4 =>
    if 600 < x4 then (
    some (-1))
    else (
    (f_X1_startsRow ns no nr x4 x1).bind fun r2 =>
    if r2 = 0 then (
    f_X1_startOfRow_5 x1 x2 ns no nr n x3 (x4 + 1))
    else (
    if x3 = x2 then (
    some x4)
    else (
    f_X1_startOfRow_5 x1 x2 ns no nr n (x3 + 1) (x4 + 1))))
def f_X1_startOfRow (K : Nat) (ns : Nat → Int32) (no : Nat → Int32) (nr : Nat → Int32) (x1 : Int32) (x2 : Int32) : Option (Int32) :=
  f_X1_startOfRow_5 x1 x2 ns no nr K 0 1
def f_X1_tellOfRow (K : Nat) (ns : Nat → Int32) (no : Nat → Int32) (nr : Nat → Int32) (x1 : Int32) (x2 : Int32) (x3 : Int32) : Option (Int32) :=
  (f_X1_startOfRow K ns no nr x1 x2).bind fun r1 =>
  if (f_X1_isNumber r1) = 0 then (
  some (-4))
  else (
  if x3 = 0 then (
  some r1)
  else (
  if x3 = 1 then (
  (f_X1_lastOfRow K ns no nr r1 600).bind fun r9 =>
  some r9)
  else (
  if x3 = 2 then (
  ix r1 601 <|
  some (f_X4_orNotFound (nr (r1).toNatClampNeg)))
  else (
  if x3 = 3 then (
  ix r1 601 <|
  some (f_X4_orNotFound (no (r1).toNatClampNeg)))
  else (
  some (-1))))))
def f_X1_tellLateness_22 (x1 : Int32) (nt : Nat → Int32) (ni : Nat → Int32) : Nat → Int32 → Option (Int32)
  | 0, _ => none
  | n + 1, x2 =>
    if 600 ≤ x2 then (
    some 0)
    else (
    ix x1 601 <|
    if (nt (x1).toNatClampNeg) ≤ x2 then (
    some 0)
    else (
    ix x2 600 <|
    if (ni (x2).toNatClampNeg) ≤ x1 then (
    f_X1_tellLateness_22 x1 nt ni n (x2 + 1))
    else (
    some 1)))
def f_X1_tellLateness (K : Nat) (nt : Nat → Int32) (ni : Nat → Int32) (x1 : Int32) : Option (Int32) :=
  if (f_X1_isNumber x1) = 0 then (
  some (-4))
  else (
  ix x1 601 <|
  if (nt (x1).toNatClampNeg) = (-1) then (
  some (-4))
  else (
  f_X1_tellLateness_22 x1 nt ni K 0))
def f_X1_tell (K : Nat) (ns : Nat → Int32) (no : Nat → Int32) (nr : Nat → Int32) (nt : Nat → Int32) (nd : Nat → Int32) (ni : Nat → Int32) (x1 : Int32) (x2 : Int32) : Option (Int32) :=
  if (f_X1_isNumber x1) = 0 then (
  some (-1))
  else (
  if x2 = 0 then (
  ix x1 601 <|
  some (ns (x1).toNatClampNeg))
  else (
  if x2 = 1 then (
  ix x1 601 <|
  some (f_X4_orNotFound (no (x1).toNatClampNeg)))
  else (
  if x2 = 2 then (
  ix x1 601 <|
  some (f_X4_orNotFound (nt (x1).toNatClampNeg)))
  else (
  if x2 = 3 then (
  ix x1 601 <|
  some (f_X4_orNotFound (nd (x1).toNatClampNeg)))
  else (
  if x2 = 4 then (
  ix x1 601 <|
  some (f_X4_orNotFound (nr (x1).toNatClampNeg)))
  else (
  if x2 = 5 then (
  (f_X1_tellLateness K nt ni x1).bind fun r23 =>
  some r23)
  else (
  some (-1))))))))
def f_X1_lateOnes_6 (ni : Nat → Int32) (nm : Int32) : Nat → Int32 → Int32 → Int32 → Option (Int32)
  | 0, _, _, _ => none
  | n + 1, x1, x2, x3 =>
    if 600 ≤ x3 then (
    some x1)
    else (
    if nm ≤ x3 then (
    some x1)
    else (
    ix x3 600 <|
    if x2 ≤ (ni (x3).toNatClampNeg) then (
    ix x3 600 <|
    f_X1_lateOnes_6 ni nm n x1 (imax x2 (ni (x3).toNatClampNeg)) (x3 + 1))
    else (
    ix x3 600 <|
    f_X1_lateOnes_6 ni nm n (x1 + 1) (imax x2 (ni (x3).toNatClampNeg)) (x3 + 1))))
def f_X1_lateOnes (K : Nat) (ni : Nat → Int32) (nm : Int32) : Option (Int32) :=
  f_X1_lateOnes_6 ni nm K 0 0 0
def f_X1_givenIn (ni : Nat → Int32) (nm : Int32) (x1 : Int32) : Option (Int32) :=
  if x1 < 0 then (
  some (-4))
  else (
  if nm ≤ x1 then (
  some (-4))
  else (
  if 600 ≤ x1 then (
  some (-4))
  else (
  ix x1 600 <|
  some (ni (x1).toNatClampNeg))))
def f_X1_givenWithoutGap_2 (ns : Nat → Int32) : Nat → Int32 → Option (Int32)
  | 0, _ => none
  | n + 1, x1 =>
    if 600 ≤ x1 then (
    some x1)
    else (
    ix (x1 + 1) 601 <|
    if (ns (x1 + 1).toNatClampNeg) = 2 then (
    f_X1_givenWithoutGap_2 ns n (x1 + 1))
    else (
    some x1))
def f_X1_givenWithoutGap (K : Nat) (ns : Nat → Int32) : Option (Int32) :=
  f_X1_givenWithoutGap_2 ns K 0
def f_X1_inState_10 (x2 : Int32) (x3 : Int32) (ns : Nat → Int32) : Nat → Int32 → Int32 → Option (Int32)
  | 0, _, _ => none
  | n + 1, x4, x5 =>
    if x2 < x5 then (
    some x4)
    else (
    if 600 < x5 then (
    some x4)
    else (
    ix x5 601 <|
    if (ns (x5).toNatClampNeg) = x3 then (
    f_X1_inState_10 x2 x3 ns n (x4 + 1) (x5 + 1))
    else (
    f_X1_inState_10 x2 x3 ns n x4 (x5 + 1))))
def f_X1_inState (K : Nat) (ns : Nat → Int32) (x1 : Int32) (x2 : Int32) (x3 : Int32) : Option (Int32) :=
  f_X1_inState_10 x2 x3 ns K 0 (imax x1 1)
def f_X1_withReason_10 (x2 : Int32) (x3 : Int32) (nr : Nat → Int32) : Nat → Int32 → Int32 → Option (Int32)
  | 0, _, _ => none
  | n + 1, x4, x5 =>
    if x2 < x5 then (
    some x4)
    else (
    if 600 < x5 then (
    some x4)
    else (
    ix x5 601 <|
    if (nr (x5).toNatClampNeg) = x3 then (
    f_X1_withReason_10 x2 x3 nr n (x4 + 1) (x5 + 1))
    else (
    f_X1_withReason_10 x2 x3 nr n x4 (x5 + 1))))
def f_X1_withReason (K : Nat) (nr : Nat → Int32) (x1 : Int32) (x2 : Int32) (x3 : Int32) : Option (Int32) :=
  f_X1_withReason_10 x2 x3 nr K 0 (imax x1 1)
def f_X1_holesOf_4 (x1 : Int32) (ns : Nat → Int32) (no : Nat → Int32) : Nat → Int32 → Int32 → Option (Int32)
  | 0, _, _ => none
  | n + 1, x2, x3 =>
    if 600 < x3 then (
    some x2)
    else (
    ix x3 601 <|
    if (ns (x3).toNatClampNeg) = 4 then (
    ix x3 601 <|
    if (no (x3).toNatClampNeg) = x1 then (
    f_X1_holesOf_4 x1 ns no n (x2 + 1) (x3 + 1))
    else (
    f_X1_holesOf_4 x1 ns no n x2 (x3 + 1)))
    else (
    f_X1_holesOf_4 x1 ns no n x2 (x3 + 1)))
def f_X1_holesOf (K : Nat) (ns : Nat → Int32) (no : Nat → Int32) (x1 : Int32) : Option (Int32) :=
  f_X1_holesOf_4 x1 ns no K 0 1
def f_X1_forgottenOf_4 (x1 : Int32) (no : Nat → Int32) (nr : Nat → Int32) : Nat → Int32 → Int32 → Option (Int32)
  | 0, _, _ => none
  | n + 1, x2, x3 =>
    if 600 < x3 then (
    some x2)
    else (
    ix x3 601 <|
    if (nr (x3).toNatClampNeg) = 0 then (
    ix x3 601 <|
    if (no (x3).toNatClampNeg) = x1 then (
    f_X1_forgottenOf_4 x1 no nr n (x2 + 1) (x3 + 1))
    else (
    f_X1_forgottenOf_4 x1 no nr n x2 (x3 + 1)))
    else (
    f_X1_forgottenOf_4 x1 no nr n x2 (x3 + 1)))
def f_X1_forgottenOf (K : Nat) (no : Nat → Int32) (nr : Nat → Int32) (x1 : Int32) : Option (Int32) :=
  f_X1_forgottenOf_4 x1 no nr K 0 1
def f_X2_become (ns : Nat → Int32) (no : Nat → Int32) (nr : Nat → Int32) (nt : Nat → Int32) (nd : Nat → Int32) (ni : Nat → Int32) (cl : Nat → Nat → Int32) (cs : Nat → Int32) (ms : Nat → Int32) (mo : Nat → Int32) (mr : Nat → Int32) (mt : Nat → Int32) (md : Nat → Int32) (mi : Nat → Int32) (mm : Int32) (mf : Int32) (dl : Nat → Nat → Int32) (dc : Int32) (ds : Nat → Int32) (dt : Int32) : Option ((Nat → Int32) × (Nat → Int32) × (Nat → Int32) × (Nat → Int32) × (Nat → Int32) × (Nat → Int32) × Int32 × Int32 × (Nat → Nat → Int32) × Int32 × (Nat → Int32) × Int32) :=
  (f_X1_become ns no nr nt nd ni ms mo mr mt md mi mm mf).bind fun ⟨y2, y3, y4, y5, y6, y7, y8, y9⟩ =>
  (f_X0_become (cl 0) (dl 0)).bind fun y13 =>
  (f_X0_become ((va_up cl 0 y13) 1) (dl 1)).bind fun y17 =>
  (f_X0_become ((va_up (va_up cl 0 y13) 1 y17) 2) (dl 2)).bind fun y21 =>
  (f_X0_become ((va_up (va_up (va_up cl 0 y13) 1 y17) 2 y21) 3) (dl 3)).bind fun y25 =>
  (f_X0_become ((va_up (va_up (va_up (va_up cl 0 y13) 1 y17) 2 y21) 3 y25) 4) (dl 4)).bind fun y29 =>
  (f_X0_become ((va_up (va_up (va_up (va_up (va_up cl 0 y13) 1 y17) 2 y21) 3 y25) 4 y29) 5) (dl 5)).bind fun y33 =>
  some (y2, y3, y4, y5, y6, y7, y8, y9, (va_up (va_up (va_up (va_up (va_up (va_up cl 0 y13) 1 y17) 2 y21) 3 y25) 4 y29) 5 y33), dc, (va_cpy ds cs 0 0 3), dt)
def f_X2_isClerk (cc : Int32) (x1 : Int32) : Int32 :=
  if x1 < 0 then (
  0)
  else (
  if cc ≤ x1 then (
  0)
  else (
  if 6 ≤ x1 then (
  0)
  else (
  1)))
def f_X2_addClerk (cl : Nat → Nat → Int32) (cc : Int32) (x1 : Int32) : Option (Int32 × (Nat → Nat → Int32) × Int32) :=
  if x1 < 0 then (
  some ((-1), cl, cc))
  else (
  if x1 ≤ 2 then (
  if cc < 0 then (
  some ((-3), cl, cc))
  else (
  if cc < 6 then (
  ix cc 6 <|
  nb (va_up cl (cc).toNatClampNeg (upd (cl (cc).toNatClampNeg) 0 x1)) fun y6 =>
  some (((cc + 1) - 1), y6, (cc + 1)))
  else (
  some ((-3), cl, cc))))
  else (
  some ((-1), cl, cc)))
def f_X2_available (K : Nat) (ns : Nat → Int32) (cl : Nat → Nat → Int32) (cc : Int32) (cs : Nat → Int32) (x1 : Int32) : Option (Int32) :=
  if (f_X2_isClerk cc x1) = 0 then (
  some 0)
  else (
  if (cs 1) = 1 then (
  (f_X1_inState K ns 1 600 3).bind fun r11 =>
  ix x1 6 <|
  (f_X1_inState K ns 1 600 0).bind fun r17 =>
  some (((f_X0_held (cl (x1).toNatClampNeg)) + r17) + r11))
  else (
  ix x1 6 <|
  (f_X1_inState K ns 1 600 0).bind fun r8 =>
  some (((f_X0_held (cl (x1).toNatClampNeg)) + r8) + 0)))
def f_X2_startOfBlock (K : Nat) (ns : Nat → Int32) (nf : Int32) (cs : Nat → Int32) : Option (Int32) :=
  if (cs 1) = 1 then (
  (f_X1_lowestFree K ns nf).bind fun r2 =>
  if r2 = (-1) then (
  some nf)
  else (
  some r2))
  else (
  some nf)
def f_X2_handOut (K : Nat) (ns : Nat → Int32) (no : Nat → Int32) (nr : Nat → Int32) (nf : Int32) (cl : Nat → Nat → Int32) (cc : Int32) (cs : Nat → Int32) (x1 : Int32) : Option ((Nat → Int32) × (Nat → Int32) × (Nat → Int32) × Int32 × (Nat → Nat → Int32)) :=
  (f_X2_startOfBlock K ns nf cs).bind fun r1 =>
  if (f_X2_isClerk cc x1) = 0 then (
  some (ns, no, nr, nf, cl))
  else (
  if (f_X1_isNumber r1) = 0 then (
  some (ns, no, nr, nf, cl))
  else (
  (f_X1_lastOfRow K ns no nr r1 ((r1 + (cs 0)) - 1)).bind fun r10 =>
  (f_X1_put K ns no nr nf r1 r10 1 x1 (-1)).bind fun ⟨y14, y15, y16, y17⟩ =>
  ix x1 6 <|
  (f_X0_receive (cl (x1).toNatClampNeg) r1 r10).bind fun y22 =>
  nb (va_up cl (x1).toNatClampNeg y22) fun y25 =>
  some (y14, y15, y16, y17, y25)))
def f_X2_serve_38 (K : Nat) (x1 : Int32) (x2 : Int32) (cc : Int32) (cs : Nat → Int32) (ct : Int32) : Nat → Int32 → Int32 → (Nat → Int32) → (Nat → Int32) → (Nat → Int32) → (Nat → Int32) → (Nat → Int32) → (Nat → Int32) → Int32 → Int32 → (Nat → Nat → Int32) → Option (Int32 × (Nat → Int32) × (Nat → Int32) × (Nat → Int32) × (Nat → Int32) × (Nat → Int32) × (Nat → Int32) × Int32 × Int32 × (Nat → Nat → Int32))
  | 0, _, _, _, _, _, _, _, _, _, _, _ => none
  | n + 1, x3, x4, ns, no, nr, nt, nd, ni, nm, nf, cl =>
    if x2 ≤ x4 then (
    some (x3, ns, no, nr, nt, nd, ni, nm, nf, cl))
    else (
    ix x1 6 <|
    if 0 < (f_X0_held (cl (x1).toNatClampNeg)) then (
    ix x1 6 <|
    (f_X0_giveLowest (cl (x1).toNatClampNeg) (cs 2)).bind fun ⟨r16, y17⟩ =>
    nb (va_up cl (x1).toNatClampNeg y17) fun y20 =>
    (f_X1_give K ns no nr nt nd ni nm nf r16 x1 ct).bind fun ⟨y23, y24, y25, y26, y27, y28, y29, y30⟩ =>
    f_X2_serve_38 K x1 x2 cc cs ct n r16 (x4 + 1) y23 y24 y25 y26 y27 y28 y29 y30 y20)
    else (
    (f_X2_handOut K ns no nr nf cl cc cs x1).bind fun ⟨y34, y35, y36, y37, y38⟩ =>
    ix x1 6 <|
    (f_X0_giveLowest (y38 (x1).toNatClampNeg) (cs 2)).bind fun ⟨r42, y43⟩ =>
    nb (va_up y38 (x1).toNatClampNeg y43) fun y46 =>
    (f_X1_give K y34 y35 y36 nt nd ni nm y37 r42 x1 ct).bind fun ⟨y49, y50, y51, y52, y53, y54, y55, y56⟩ =>
    f_X2_serve_38 K x1 x2 cc cs ct n r42 (x4 + 1) y49 y50 y51 y52 y53 y54 y55 y56 y46))
def f_X2_serve (K : Nat) (ns : Nat → Int32) (no : Nat → Int32) (nr : Nat → Int32) (nt : Nat → Int32) (nd : Nat → Int32) (ni : Nat → Int32) (nm : Int32) (nf : Int32) (cl : Nat → Nat → Int32) (cc : Int32) (cs : Nat → Int32) (ct : Int32) (x1 : Int32) (x2 : Int32) : Option (Int32 × (Nat → Int32) × (Nat → Int32) × (Nat → Int32) × (Nat → Int32) × (Nat → Int32) × (Nat → Int32) × Int32 × Int32 × (Nat → Nat → Int32)) :=
  if (f_X2_isClerk cc x1) = 0 then (
  some ((-1), ns, no, nr, nt, nd, ni, nm, nf, cl))
  else (
  if x2 < 1 then (
  some ((-1), ns, no, nr, nt, nd, ni, nm, nf, cl))
  else (
  if x2 ≤ 50 then (
  (f_X2_available K ns cl cc cs x1).bind fun r6 =>
  if x2 ≤ r6 then (
  f_X2_serve_38 K x1 x2 cc cs ct K (-1) 0 ns no nr nt nd ni nm nf cl)
  else (
  some ((-3), ns, no, nr, nt, nd, ni, nm, nf, cl)))
  else (
  some ((-1), ns, no, nr, nt, nd, ni, nm, nf, cl))))
def f_X2_letForget (K : Nat) (ns : Nat → Int32) (no : Nat → Int32) (nr : Nat → Int32) (nf : Int32) (cl : Nat → Nat → Int32) (cc : Int32) (x1 : Int32) : Option (Int32 × (Nat → Int32) × (Nat → Int32) × (Nat → Int32) × Int32 × (Nat → Nat → Int32)) :=
  if (f_X2_isClerk cc x1) = 0 then (
  some ((-1), ns, no, nr, nf, cl))
  else (
  ix x1 6 <|
  if 0 < (f_X0_held (cl (x1).toNatClampNeg)) then (
  if (f_X0_loss (cl (x1).toNatClampNeg)) ≤ 0 then (
  some ((f_X0_loss (cl (x1).toNatClampNeg)), ns, no, nr, nf, cl))
  else (
  (f_X1_put K ns no nr nf (cl (x1).toNatClampNeg 1) (f_X0_lastLost (cl (x1).toNatClampNeg)) 4 x1 0).bind fun ⟨y14, y15, y16, y17⟩ =>
  nb (va_up cl (x1).toNatClampNeg (upd (cl (x1).toNatClampNeg) 1 ((cl (x1).toNatClampNeg 1) + (f_X0_loss (cl (x1).toNatClampNeg))))) fun y20 =>
  some ((f_X0_loss (cl (x1).toNatClampNeg)), y14, y15, y16, y17, y20)))
  else (
  some ((-2), ns, no, nr, nf, cl)))
def f_X2_takeBack (K : Nat) (ns : Nat → Int32) (no : Nat → Int32) (nr : Nat → Int32) (nf : Int32) (cl : Nat → Nat → Int32) (cc : Int32) (cs : Nat → Int32) (x1 : Int32) : Option (Int32 × (Nat → Int32) × (Nat → Int32) × (Nat → Int32) × Int32 × (Nat → Nat → Int32)) :=
  if (f_X2_isClerk cc x1) = 0 then (
  some ((-1), ns, no, nr, nf, cl))
  else (
  ix x1 6 <|
  if 0 < (f_X0_held (cl (x1).toNatClampNeg)) then (
  if (cs 1) = 1 then (
  (f_X1_put K ns no nr nf (cl (x1).toNatClampNeg 1) (cl (x1).toNatClampNeg 2) 3 (-1) (-1)).bind fun ⟨y23, y24, y25, y26⟩ =>
  (f_X0_drop (cl (x1).toNatClampNeg)).bind fun y30 =>
  nb (va_up cl (x1).toNatClampNeg y30) fun y33 =>
  some ((f_X0_held (cl (x1).toNatClampNeg)), y23, y24, y25, y26, y33))
  else (
  (f_X1_put K ns no nr nf (cl (x1).toNatClampNeg 1) (cl (x1).toNatClampNeg 2) 4 x1 1).bind fun ⟨y10, y11, y12, y13⟩ =>
  (f_X0_drop (cl (x1).toNatClampNeg)).bind fun y17 =>
  nb (va_up cl (x1).toNatClampNeg y17) fun y20 =>
  some ((f_X0_held (cl (x1).toNatClampNeg)), y10, y11, y12, y13, y20)))
  else (
  some ((-2), ns, no, nr, nf, cl)))
def f_X2_cancel (K : Nat) (ns : Nat → Int32) (no : Nat → Int32) (nr : Nat → Int32) (nf : Int32) (x1 : Int32) : Option (Int32 × (Nat → Int32) × (Nat → Int32) × (Nat → Int32) × Int32) :=
  if (f_X1_isNumber x1) = 0 then (
  some ((-1), ns, no, nr, nf))
  else (
  ix x1 601 <|
  if (ns (x1).toNatClampNeg) = 2 then (
  ix x1 601 <|
  (f_X1_put K ns no nr nf x1 x1 4 (no (x1).toNatClampNeg) 2).bind fun ⟨y8, y9, y10, y11⟩ =>
  ix x1 601 <|
  some ((y9 (x1).toNatClampNeg), y8, y9, y10, y11))
  else (
  some ((-2), ns, no, nr, nf)))
def f_X2_endDay (K : Nat) (ns : Nat → Int32) (no : Nat → Int32) (nr : Nat → Int32) (nf : Int32) (cl : Nat → Nat → Int32) (ct : Int32) : Option (Int32 × (Nat → Int32) × (Nat → Int32) × (Nat → Int32) × Int32 × (Nat → Nat → Int32) × Int32) :=
  (f_X1_closeAll K ns no nr nf).bind fun ⟨r1, y2, y3, y4, y5⟩ =>
  (f_X0_drop (cl 0)).bind fun y9 =>
  nb (va_up cl 0 y9) fun y12 =>
  (f_X0_drop (y12 1)).bind fun y15 =>
  nb (va_up y12 1 y15) fun y18 =>
  (f_X0_drop (y18 2)).bind fun y21 =>
  nb (va_up y18 2 y21) fun y24 =>
  (f_X0_drop (y24 3)).bind fun y27 =>
  nb (va_up y24 3 y27) fun y30 =>
  (f_X0_drop (y30 4)).bind fun y33 =>
  nb (va_up y30 4 y33) fun y36 =>
  (f_X0_drop (y36 5)).bind fun y39 =>
  nb (va_up y36 5 y39) fun y42 =>
  some (r1, y2, y3, y4, y5, y42, (ct + 1))
def f_X2_change (cs : Nat → Int32) (x1 : Int32) (x2 : Int32) : Option (Int32 × (Nat → Int32)) :=
  if x1 < 0 then (
  some ((-1), cs))
  else (
  if 3 ≤ x1 then (
  some ((-1), cs))
  else (
  ix x1 3 <|
  if x2 < (tabL (x1).toNatClampNeg) then (
  some ((-1), cs))
  else (
  ix x1 3 <|
  if x2 ≤ (tabM (x1).toNatClampNeg) then (
  ix x1 3 <|
  ix x1 3 <|
  nb (upd cs (x1).toNatClampNeg x2) fun y9 =>
  some ((cs (x1).toNatClampNeg), y9))
  else (
  some ((-1), cs)))))
def f_X2_tellOfClerk (K : Nat) (ns : Nat → Int32) (no : Nat → Int32) (nr : Nat → Int32) (cl : Nat → Nat → Int32) (cc : Int32) (x1 : Int32) (x2 : Int32) : Option (Int32) :=
  if (f_X2_isClerk cc x1) = 0 then (
  some (-1))
  else (
  ix x1 6 <|
  if (f_X0_held (cl (x1).toNatClampNeg)) ≤ 0 then (
  if x2 = 0 then (
  some (cl (x1).toNatClampNeg 0))
  else (
  if x2 = 1 then (
  some (f_X0_held (cl (x1).toNatClampNeg)))
  else (
  if x2 = 2 then (
  some (-4))
  else (
  if x2 = 3 then (
  some (-4))
  else (
  if x2 = 4 then (
  some (-4))
  else (
  if x2 = 5 then (
  some (cl (x1).toNatClampNeg 4))
  else (
  if x2 = 6 then (
  (f_X1_holesOf K ns no x1).bind fun r17 =>
  some r17)
  else (
  if x2 = 7 then (
  (f_X1_forgottenOf K no nr x1).bind fun r21 =>
  some r21)
  else (
  if x2 = 8 then (
  some (cl (x1).toNatClampNeg 5))
  else (
  if x2 = 9 then (
  some (f_X4_orNotFound (cl (x1).toNatClampNeg 6)))
  else (
  some (-1))))))))))))
  else (
  if x2 = 0 then (
  some (cl (x1).toNatClampNeg 0))
  else (
  if x2 = 1 then (
  some (f_X0_held (cl (x1).toNatClampNeg)))
  else (
  if x2 = 2 then (
  some (cl (x1).toNatClampNeg 1))
  else (
  if x2 = 3 then (
  some (cl (x1).toNatClampNeg 2))
  else (
  if x2 = 4 then (
  some (cl (x1).toNatClampNeg 3))
  else (
  if x2 = 5 then (
  some (cl (x1).toNatClampNeg 4))
  else (
  if x2 = 6 then (
  (f_X1_holesOf K ns no x1).bind fun r37 =>
  some r37)
  else (
  if x2 = 7 then (
  (f_X1_forgottenOf K no nr x1).bind fun r41 =>
  some r41)
  else (
  if x2 = 8 then (
  some (cl (x1).toNatClampNeg 5))
  else (
  if x2 = 9 then (
  some (f_X4_orNotFound (cl (x1).toNatClampNeg 6)))
  else (
  some (-1)))))))))))))
def f_X2_settingAt (cs : Nat → Int32) (x1 : Int32) : Option (Int32) :=
  if x1 < 20 then (
  some (-1))
  else (
  if 23 ≤ x1 then (
  some (-1))
  else (
  ix (x1 - 20) 3 <|
  some (cs (x1 - 20).toNatClampNeg)))
def f_X2_tally (K : Nat) (ns : Nat → Int32) (no : Nat → Int32) (nr : Nat → Int32) (ni : Nat → Int32) (nm : Int32) (nf : Int32) (cc : Int32) (cs : Nat → Int32) (ct : Int32) (x1 : Int32) : Option (Int32) :=
  if x1 = 0 then (
  some cc)
  else (
  if x1 = 1 then (
  some ct)
  else (
  if x1 = 2 then (
  some nm)
  else (
  if x1 = 3 then (
  (f_X1_inState K ns 1 600 1).bind fun r5 =>
  some r5)
  else (
  if x1 = 4 then (
  (f_X1_inState K ns 1 600 3).bind fun r9 =>
  some r9)
  else (
  if x1 = 5 then (
  (f_X1_inState K ns 1 600 4).bind fun r13 =>
  some r13)
  else (
  if x1 = 6 then (
  some nf)
  else (
  if x1 = 7 then (
  (f_X1_lateOnes K ni nm).bind fun r18 =>
  some r18)
  else (
  if x1 = 8 then (
  (f_X1_givenWithoutGap K ns).bind fun r22 =>
  some r22)
  else (
  if x1 = 9 then (
  (f_X1_rows K ns no nr 4).bind fun r26 =>
  some r26)
  else (
  (f_X2_settingAt cs x1).bind fun r29 =>
  some r29))))))))))
def f_X2_upcoming (K : Nat) (ns : Nat → Int32) (nf : Int32) (cl : Nat → Nat → Int32) (cc : Int32) (cs : Nat → Int32) (x1 : Int32) : Option (Int32) :=
  if (f_X2_isClerk cc x1) = 0 then (
  some (-1))
  else (
  ix x1 6 <|
  if (f_X0_held (cl (x1).toNatClampNeg)) ≤ 0 then (
  (f_X2_startOfBlock K ns nf cs).bind fun r8 =>
  if (f_X1_isNumber r8) = 0 then (
  some (-3))
  else (
  some r8))
  else (
  ix x1 6 <|
  if (f_X1_isNumber (cl (x1).toNatClampNeg 1)) = 0 then (
  some (-3))
  else (
  some (cl (x1).toNatClampNeg 1))))
def f_X2_lossOf (cl : Nat → Nat → Int32) (cc : Int32) (x1 : Int32) : Option (Int32) :=
  if (f_X2_isClerk cc x1) = 0 then (
  some 0)
  else (
  ix x1 6 <|
  some (f_X0_loss (cl (x1).toNatClampNeg)))
def f_X2_mostForgetful_7 (cl : Nat → Nat → Int32) (cc : Int32) : Nat → Int32 → Int32 → Int32 → Option (Int32)
  | 0, _, _, _ => none
  | n + 1, x1, x2, x3 =>
    if 6 ≤ x3 then (
    some x1)
    else (
    if cc ≤ x3 then (
    some x1)
    else (
    ix x3 6 <|
    if (f_X0_loss (cl (x3).toNatClampNeg)) ≤ x2 then (
    f_X2_mostForgetful_7 cl cc n x1 x2 (x3 + 1))
    else (
    ix x3 6 <|
    f_X2_mostForgetful_7 cl cc n x3 (f_X0_loss (cl (x3).toNatClampNeg)) (x3 + 1))))
def f_X2_mostForgetful (K : Nat) (cl : Nat → Nat → Int32) (cc : Int32) : Option (Int32) :=
  f_X2_mostForgetful_7 cl cc K (-4) 0 0
