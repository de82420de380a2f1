/-! laid by wip/whole/gen.py: the text, as functions -/
def f_X3_append (sc : Nat → Int32) (sl : Int32) (x1 : Int32) : Option (Int32 × (Nat → Int32) × Int32) :=
  if x1 < 32 then (
  some ((-1), sc, sl))
  else (
  if x1 ≤ 126 then (
  if sl < 0 then (
  some ((-3), sc, sl))
  else (
  if sl < 80 then (
  ix sl 80 <|
  nb (upd sc (sl).toNatClampNeg (vp_nar .char (i2c x1))) fun y6 =>
  some ((sl + 1), y6, (sl + 1)))
  else (
  some ((-3), sc, sl))))
  else (
  some ((-1), sc, sl)))
def f_X3_rewind : Option (Int32) :=
  some 0
def f_X3_signAt (sc : Nat → Int32) (sl : Int32) (x1 : Int32) : Option (Int32) :=
  if x1 < 0 then (
  some (-1))
  else (
  if sl ≤ x1 then (
  some (-1))
  else (
  if 80 ≤ x1 then (
  some (-1))
  else (
  ix x1 80 <|
  some (sc (x1).toNatClampNeg))))
def f_X3_takeWord_2 (k1 : Nat) (sc : Nat → Int32) (sl : Int32) (sp : Int32) : Nat → Int32 → Option (Int32 × Int32)
  | 0, _ => none
  | n + 1, x2 =>
    if (slen k1) ≤ x2 then (
    some (1, (sp + (slen k1))))
    else (
    (f_X3_signAt sc sl (sp + x2)).bind fun r2 =>
    ix x2 (lenS.getD k1 0) <|
    if r2 = (sch k1 x2.toNatClampNeg) then (
    f_X3_takeWord_2 k1 sc sl sp n (x2 + 1))
    else (
    some (0, sp)))
def f_X3_takeWord (K : Nat) (sc : Nat → Int32) (sl : Int32) (sp : Int32) (k1 : Nat) : Option (Int32 × Int32) :=
  f_X3_takeWord_2 k1 sc sl sp K 0
def f_X3_takeKind (K : Nat) (sc : Nat → Int32) (sl : Int32) (sp : Int32) : Option (Int32 × Int32) :=
  (f_X3_takeWord K sc sl sp 8).bind fun ⟨r1, y2⟩ =>
  if r1 = 0 then (
  (f_X3_takeWord K sc sl y2 9).bind fun ⟨r6, y7⟩ =>
  if r6 = 0 then (
  (f_X3_takeWord K sc sl y7 10).bind fun ⟨r11, y12⟩ =>
  if r11 = 0 then (
  some ((-1), y12))
  else (
  some (2, y12)))
  else (
  some (1, y7)))
  else (
  some (0, y2))
def f_X3_isDigit (x0 : Int32) : Int32 :=
  if x0 < 48 then (
  0)
  else (
  if 57 < x0 then (
  0)
  else (
  1))
def f_X3_takeNumber_4 (sc : Nat → Int32) (sl : Int32) : Nat → Int32 → Int32 → Int32 → Option (Int32 × Int32)
  | 0, _, _, _ => none
  | n + 1, x1, x2, sp =>
    if 3 ≤ x2 then (
    some (x1, sp))
    else (
    (f_X3_signAt sc sl sp).bind fun r2 =>
    if (f_X3_isDigit r2) = 0 then (
    some (x1, sp))
    else (
    (f_X3_signAt sc sl sp).bind fun r8 =>
    f_X3_takeNumber_4 sc sl n (((imax x1 0) * 10) + (r8 - 48)) (x2 + 1) (sp + 1)))
def f_X3_takeNumber (K : Nat) (sc : Nat → Int32) (sl : Int32) (sp : Int32) : Option (Int32 × Int32) :=
  f_X3_takeNumber_4 sc sl K (-1) 0 sp
def f_X3_readCommand (K : Nat) (sc : Nat → Int32) (sl : Int32) (sp : Int32) (sv : Int32) : Option (Int32 × Int32 × Int32 × Int32 × Int32) :=
  (f_X3_takeWord K sc sl sp 0).bind fun ⟨r1, y2⟩ =>
  if r1 = 0 then (
  (f_X3_takeWord K sc sl y2 1).bind fun ⟨r6, y7⟩ =>
  if r6 = 0 then (
  (f_X3_takeWord K sc sl y7 3).bind fun ⟨r11, y12⟩ =>
  if r11 = 0 then (
  (f_X3_takeWord K sc sl y12 4).bind fun ⟨r16, y17⟩ =>
  if r16 = 0 then (
  (f_X3_takeWord K sc sl y17 5).bind fun ⟨r21, y22⟩ =>
  if r21 = 0 then (
  (f_X3_takeWord K sc sl y22 6).bind fun ⟨r26, y27⟩ =>
  if r26 = 0 then (
  some (0, y27, sv, 0, 0))
  else (
  (f_X3_takeWord K sc sl y27 7).bind fun ⟨r31, y32⟩ =>
  if r31 = 0 then (
  some (0, y32, 5, 0, 0))
  else (
  some (1, y32, 5, 0, 0))))
  else (
  (f_X3_takeNumber K sc sl y22).bind fun ⟨r36, y37⟩ =>
  if r36 = (-1) then (
  some (0, y37, 4, r36, 0))
  else (
  (f_X3_takeWord K sc sl y37 7).bind fun ⟨r41, y42⟩ =>
  if r41 = 0 then (
  some (0, y42, 4, r36, 0))
  else (
  some (1, y42, 4, r36, 0)))))
  else (
  (f_X3_takeNumber K sc sl y17).bind fun ⟨r46, y47⟩ =>
  if r46 = (-1) then (
  some (0, y47, 3, r46, 0))
  else (
  (f_X3_takeWord K sc sl y47 7).bind fun ⟨r51, y52⟩ =>
  if r51 = 0 then (
  some (0, y52, 3, r46, 0))
  else (
  some (1, y52, 3, r46, 0)))))
  else (
  (f_X3_takeNumber K sc sl y12).bind fun ⟨r56, y57⟩ =>
  if r56 = (-1) then (
  some (0, y57, 2, r56, 0))
  else (
  (f_X3_takeWord K sc sl y57 7).bind fun ⟨r61, y62⟩ =>
  if r61 = 0 then (
  some (0, y62, 2, r56, 0))
  else (
  some (1, y62, 2, r56, 0)))))
  else (
  (f_X3_takeNumber K sc sl y7).bind fun ⟨r66, y67⟩ =>
  (f_X3_takeWord K sc sl y67 2).bind fun ⟨r70, y71⟩ =>
  if r70 = 0 then (
  if r66 = (-1) then (
  some (0, y71, 1, r66, (-1)))
  else (
  some (0, y71, 1, r66, (-1))))
  else (
  (f_X3_takeNumber K sc sl y71).bind fun ⟨r76, y77⟩ =>
  if r66 = (-1) then (
  some (0, y77, 1, r66, r76))
  else (
  if r76 = (-1) then (
  some (0, y77, 1, r66, r76))
  else (
  (f_X3_takeWord K sc sl y77 7).bind fun ⟨r82, y83⟩ =>
  if r82 = 0 then (
  some (0, y83, 1, r66, r76))
  else (
  some (1, y83, 1, r66, r76)))))))
  else (
  (f_X3_takeKind K sc sl y2).bind fun ⟨r87, y88⟩ =>
  if r87 = (-1) then (
  some (0, y88, 0, r87, 0))
  else (
  (f_X3_takeWord K sc sl y88 7).bind fun ⟨r92, y93⟩ =>
  if r92 = 0 then (
  some (0, y93, 0, r87, 0))
  else (
  some (1, y93, 0, r87, 0))))
