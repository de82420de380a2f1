/-! laid by wip/whole/gen.py: the class itself, as functions -/
def f_X4_dropOldest (hp : Nat → Nat) : Option ((Nat → Nat) × Int32) :=
  gd ((hp 1) < 4) <|
  gd (((va_up hp 0 (hp 1)) 2) < 4) <|
  gd (((va_up (va_up hp 0 (hp 1)) 1 ((va_up hp 0 (hp 1)) 2)) 3) < 4) <|
  gd ((hp 0) < 4) <|
  some ((va_up (va_up (va_up (va_up hp 0 (hp 1)) 1 ((va_up hp 0 (hp 1)) 2)) 2 ((va_up (va_up hp 0 (hp 1)) 1 ((va_up hp 0 (hp 1)) 2)) 3)) 3 (hp 0)), 3)
def f_X4_remember (wo : OW) (hs : Nat → OW) (hp : Nat → Nat) (kp : Int32) : Option ((Nat → OW) × (Nat → Nat) × Int32) :=
  if kp < 4 then (
  if kp < 0 then (
  some (hs, hp, kp))
  else (
  if 4 ≤ kp then (
  some (hs, hp, kp))
  else (
  ix kp 4 <|
  if (hp (kp).toNatClampNeg) = 0 then (
  (f_X2_become ((hs 0).1) ((hs 0).2.1) ((hs 0).2.2.1) ((hs 0).2.2.2.1) ((hs 0).2.2.2.2.1) ((hs 0).2.2.2.2.2.1) ((hs 0).2.2.2.2.2.2.2.2.1) ((hs 0).2.2.2.2.2.2.2.2.2.2.1) (wo.1) (wo.2.1) (wo.2.2.1) (wo.2.2.2.1) (wo.2.2.2.2.1) (wo.2.2.2.2.2.1) (wo.2.2.2.2.2.2.1) (wo.2.2.2.2.2.2.2.1) (wo.2.2.2.2.2.2.2.2.1) (wo.2.2.2.2.2.2.2.2.2.1) (wo.2.2.2.2.2.2.2.2.2.2.1) (wo.2.2.2.2.2.2.2.2.2.2.2)).bind fun ⟨y7, y8, y9, y10, y11, y12, y13, y14, y15, y16, y17, y18⟩ =>
  some ((va_up hs 0 (y7, y8, y9, y10, y11, y12, y13, y14, y15, y16, y17, y18)), hp, (kp + 1)))
  else (if (hp (kp).toNatClampNeg) = 1 then (
  (f_X2_become ((hs 1).1) ((hs 1).2.1) ((hs 1).2.2.1) ((hs 1).2.2.2.1) ((hs 1).2.2.2.2.1) ((hs 1).2.2.2.2.2.1) ((hs 1).2.2.2.2.2.2.2.2.1) ((hs 1).2.2.2.2.2.2.2.2.2.2.1) (wo.1) (wo.2.1) (wo.2.2.1) (wo.2.2.2.1) (wo.2.2.2.2.1) (wo.2.2.2.2.2.1) (wo.2.2.2.2.2.2.1) (wo.2.2.2.2.2.2.2.1) (wo.2.2.2.2.2.2.2.2.1) (wo.2.2.2.2.2.2.2.2.2.1) (wo.2.2.2.2.2.2.2.2.2.2.1) (wo.2.2.2.2.2.2.2.2.2.2.2)).bind fun ⟨y23, y24, y25, y26, y27, y28, y29, y30, y31, y32, y33, y34⟩ =>
  some ((va_up hs 1 (y23, y24, y25, y26, y27, y28, y29, y30, y31, y32, y33, y34)), hp, (kp + 1)))
  else (if (hp (kp).toNatClampNeg) = 2 then (
  (f_X2_become ((hs 2).1) ((hs 2).2.1) ((hs 2).2.2.1) ((hs 2).2.2.2.1) ((hs 2).2.2.2.2.1) ((hs 2).2.2.2.2.2.1) ((hs 2).2.2.2.2.2.2.2.2.1) ((hs 2).2.2.2.2.2.2.2.2.2.2.1) (wo.1) (wo.2.1) (wo.2.2.1) (wo.2.2.2.1) (wo.2.2.2.2.1) (wo.2.2.2.2.2.1) (wo.2.2.2.2.2.2.1) (wo.2.2.2.2.2.2.2.1) (wo.2.2.2.2.2.2.2.2.1) (wo.2.2.2.2.2.2.2.2.2.1) (wo.2.2.2.2.2.2.2.2.2.2.1) (wo.2.2.2.2.2.2.2.2.2.2.2)).bind fun ⟨y39, y40, y41, y42, y43, y44, y45, y46, y47, y48, y49, y50⟩ =>
  some ((va_up hs 2 (y39, y40, y41, y42, y43, y44, y45, y46, y47, y48, y49, y50)), hp, (kp + 1)))
  else (if (hp (kp).toNatClampNeg) = 3 then (
  (f_X2_become ((hs 3).1) ((hs 3).2.1) ((hs 3).2.2.1) ((hs 3).2.2.2.1) ((hs 3).2.2.2.2.1) ((hs 3).2.2.2.2.2.1) ((hs 3).2.2.2.2.2.2.2.2.1) ((hs 3).2.2.2.2.2.2.2.2.2.2.1) (wo.1) (wo.2.1) (wo.2.2.1) (wo.2.2.2.1) (wo.2.2.2.2.1) (wo.2.2.2.2.2.1) (wo.2.2.2.2.2.2.1) (wo.2.2.2.2.2.2.2.1) (wo.2.2.2.2.2.2.2.2.1) (wo.2.2.2.2.2.2.2.2.2.1) (wo.2.2.2.2.2.2.2.2.2.2.1) (wo.2.2.2.2.2.2.2.2.2.2.2)).bind fun ⟨y55, y56, y57, y58, y59, y60, y61, y62, y63, y64, y65, y66⟩ =>
  some ((va_up hs 3 (y55, y56, y57, y58, y59, y60, y61, y62, y63, y64, y65, y66)), hp, (kp + 1)))
  else (none)))))))
  else (
  (f_X4_dropOldest hp).bind fun ⟨y70, y71⟩ =>
  if y71 < 0 then (
  some (hs, y70, y71))
  else (
  if 4 ≤ y71 then (
  some (hs, y70, y71))
  else (
  ix y71 4 <|
  if (y70 (y71).toNatClampNeg) = 0 then (
  (f_X2_become ((hs 0).1) ((hs 0).2.1) ((hs 0).2.2.1) ((hs 0).2.2.2.1) ((hs 0).2.2.2.2.1) ((hs 0).2.2.2.2.2.1) ((hs 0).2.2.2.2.2.2.2.2.1) ((hs 0).2.2.2.2.2.2.2.2.2.2.1) (wo.1) (wo.2.1) (wo.2.2.1) (wo.2.2.2.1) (wo.2.2.2.2.1) (wo.2.2.2.2.2.1) (wo.2.2.2.2.2.2.1) (wo.2.2.2.2.2.2.2.1) (wo.2.2.2.2.2.2.2.2.1) (wo.2.2.2.2.2.2.2.2.2.1) (wo.2.2.2.2.2.2.2.2.2.2.1) (wo.2.2.2.2.2.2.2.2.2.2.2)).bind fun ⟨y79, y80, y81, y82, y83, y84, y85, y86, y87, y88, y89, y90⟩ =>
  some ((va_up hs 0 (y79, y80, y81, y82, y83, y84, y85, y86, y87, y88, y89, y90)), y70, (y71 + 1)))
  else (if (y70 (y71).toNatClampNeg) = 1 then (
  (f_X2_become ((hs 1).1) ((hs 1).2.1) ((hs 1).2.2.1) ((hs 1).2.2.2.1) ((hs 1).2.2.2.2.1) ((hs 1).2.2.2.2.2.1) ((hs 1).2.2.2.2.2.2.2.2.1) ((hs 1).2.2.2.2.2.2.2.2.2.2.1) (wo.1) (wo.2.1) (wo.2.2.1) (wo.2.2.2.1) (wo.2.2.2.2.1) (wo.2.2.2.2.2.1) (wo.2.2.2.2.2.2.1) (wo.2.2.2.2.2.2.2.1) (wo.2.2.2.2.2.2.2.2.1) (wo.2.2.2.2.2.2.2.2.2.1) (wo.2.2.2.2.2.2.2.2.2.2.1) (wo.2.2.2.2.2.2.2.2.2.2.2)).bind fun ⟨y95, y96, y97, y98, y99, y100, y101, y102, y103, y104, y105, y106⟩ =>
  some ((va_up hs 1 (y95, y96, y97, y98, y99, y100, y101, y102, y103, y104, y105, y106)), y70, (y71 + 1)))
  else (if (y70 (y71).toNatClampNeg) = 2 then (
  (f_X2_become ((hs 2).1) ((hs 2).2.1) ((hs 2).2.2.1) ((hs 2).2.2.2.1) ((hs 2).2.2.2.2.1) ((hs 2).2.2.2.2.2.1) ((hs 2).2.2.2.2.2.2.2.2.1) ((hs 2).2.2.2.2.2.2.2.2.2.2.1) (wo.1) (wo.2.1) (wo.2.2.1) (wo.2.2.2.1) (wo.2.2.2.2.1) (wo.2.2.2.2.2.1) (wo.2.2.2.2.2.2.1) (wo.2.2.2.2.2.2.2.1) (wo.2.2.2.2.2.2.2.2.1) (wo.2.2.2.2.2.2.2.2.2.1) (wo.2.2.2.2.2.2.2.2.2.2.1) (wo.2.2.2.2.2.2.2.2.2.2.2)).bind fun ⟨y111, y112, y113, y114, y115, y116, y117, y118, y119, y120, y121, y122⟩ =>
  some ((va_up hs 2 (y111, y112, y113, y114, y115, y116, y117, y118, y119, y120, y121, y122)), y70, (y71 + 1)))
  else (if (y70 (y71).toNatClampNeg) = 3 then (
  (f_X2_become ((hs 3).1) ((hs 3).2.1) ((hs 3).2.2.1) ((hs 3).2.2.2.1) ((hs 3).2.2.2.2.1) ((hs 3).2.2.2.2.2.1) ((hs 3).2.2.2.2.2.2.2.2.1) ((hs 3).2.2.2.2.2.2.2.2.2.2.1) (wo.1) (wo.2.1) (wo.2.2.1) (wo.2.2.2.1) (wo.2.2.2.2.1) (wo.2.2.2.2.2.1) (wo.2.2.2.2.2.2.1) (wo.2.2.2.2.2.2.2.1) (wo.2.2.2.2.2.2.2.2.1) (wo.2.2.2.2.2.2.2.2.2.1) (wo.2.2.2.2.2.2.2.2.2.2.1) (wo.2.2.2.2.2.2.2.2.2.2.2)).bind fun ⟨y127, y128, y129, y130, y131, y132, y133, y134, y135, y136, y137, y138⟩ =>
  some ((va_up hs 3 (y127, y128, y129, y130, y131, y132, y133, y134, y135, y136, y137, y138)), y70, (y71 + 1)))
  else (none)))))))
def f_X4_adopt (wo : OW) (wt : OW) (hs : Nat → OW) (hp : Nat → Nat) (kp : Int32) (x1 : Int32) : Option (Int32 × OW × (Nat → OW) × (Nat → Nat) × Int32) :=
  if x1 < 0 then (
  some (x1, wo, hs, hp, kp))
  else (
  (f_X4_remember wo hs hp kp).bind fun ⟨y3, y4, y5⟩ =>
  (f_X2_become (wo.1) (wo.2.1) (wo.2.2.1) (wo.2.2.2.1) (wo.2.2.2.2.1) (wo.2.2.2.2.2.1) (wo.2.2.2.2.2.2.2.2.1) (wo.2.2.2.2.2.2.2.2.2.2.1) (wt.1) (wt.2.1) (wt.2.2.1) (wt.2.2.2.1) (wt.2.2.2.2.1) (wt.2.2.2.2.2.1) (wt.2.2.2.2.2.2.1) (wt.2.2.2.2.2.2.2.1) (wt.2.2.2.2.2.2.2.2.1) (wt.2.2.2.2.2.2.2.2.2.1) (wt.2.2.2.2.2.2.2.2.2.2.1) (wt.2.2.2.2.2.2.2.2.2.2.2)).bind fun ⟨y9, y10, y11, y12, y13, y14, y15, y16, y17, y18, y19, y20⟩ =>
  some (x1, (y9, y10, y11, y12, y13, y14, y15, y16, y17, y18, y19, y20), y3, y4, y5))
def f_X4_clerk (wo : OW) (wt : OW) (hs : Nat → OW) (hp : Nat → Nat) (kp : Int32) (x1 : Int32) : Option (Int32 × OW × OW × (Nat → OW) × (Nat → Nat) × Int32) :=
  (f_X2_become (wt.1) (wt.2.1) (wt.2.2.1) (wt.2.2.2.1) (wt.2.2.2.2.1) (wt.2.2.2.2.2.1) (wt.2.2.2.2.2.2.2.2.1) (wt.2.2.2.2.2.2.2.2.2.2.1) (wo.1) (wo.2.1) (wo.2.2.1) (wo.2.2.2.1) (wo.2.2.2.2.1) (wo.2.2.2.2.2.1) (wo.2.2.2.2.2.2.1) (wo.2.2.2.2.2.2.2.1) (wo.2.2.2.2.2.2.2.2.1) (wo.2.2.2.2.2.2.2.2.2.1) (wo.2.2.2.2.2.2.2.2.2.2.1) (wo.2.2.2.2.2.2.2.2.2.2.2)).bind fun ⟨y2, y3, y4, y5, y6, y7, y8, y9, y10, y11, y12, y13⟩ =>
  (f_X2_addClerk y10 y11 x1).bind fun ⟨r16, y17, y18⟩ =>
  (f_X4_adopt wo (y2, y3, y4, y5, y6, y7, y8, y9, y17, y18, y12, y13) hs hp kp r16).bind fun ⟨r21, y22, y23, y24, y25⟩ =>
  some (r21, y22, (y2, y3, y4, y5, y6, y7, y8, y9, y17, y18, y12, y13), y23, y24, y25)
def f_X4_ask (K : Nat) (wo : OW) (wt : OW) (hs : Nat → OW) (hp : Nat → Nat) (kp : Int32) (x1 : Int32) (x2 : Int32) : Option (Int32 × OW × OW × (Nat → OW) × (Nat → Nat) × Int32) :=
  (f_X2_become (wt.1) (wt.2.1) (wt.2.2.1) (wt.2.2.2.1) (wt.2.2.2.2.1) (wt.2.2.2.2.2.1) (wt.2.2.2.2.2.2.2.2.1) (wt.2.2.2.2.2.2.2.2.2.2.1) (wo.1) (wo.2.1) (wo.2.2.1) (wo.2.2.2.1) (wo.2.2.2.2.1) (wo.2.2.2.2.2.1) (wo.2.2.2.2.2.2.1) (wo.2.2.2.2.2.2.2.1) (wo.2.2.2.2.2.2.2.2.1) (wo.2.2.2.2.2.2.2.2.2.1) (wo.2.2.2.2.2.2.2.2.2.2.1) (wo.2.2.2.2.2.2.2.2.2.2.2)).bind fun ⟨y2, y3, y4, y5, y6, y7, y8, y9, y10, y11, y12, y13⟩ =>
  (f_X2_serve K y2 y3 y4 y5 y6 y7 y8 y9 y10 y11 y12 y13 x1 x2).bind fun ⟨r16, y17, y18, y19, y20, y21, y22, y23, y24, y25⟩ =>
  (f_X4_adopt wo (y17, y18, y19, y20, y21, y22, y23, y24, y25, y11, y12, y13) hs hp kp r16).bind fun ⟨r28, y29, y30, y31, y32⟩ =>
  some (r28, y29, (y17, y18, y19, y20, y21, y22, y23, y24, y25, y11, y12, y13), y30, y31, y32)
def f_X4_forget (K : Nat) (wo : OW) (wt : OW) (hs : Nat → OW) (hp : Nat → Nat) (kp : Int32) (x1 : Int32) : Option (Int32 × OW × OW × (Nat → OW) × (Nat → Nat) × Int32) :=
  (f_X2_become (wt.1) (wt.2.1) (wt.2.2.1) (wt.2.2.2.1) (wt.2.2.2.2.1) (wt.2.2.2.2.2.1) (wt.2.2.2.2.2.2.2.2.1) (wt.2.2.2.2.2.2.2.2.2.2.1) (wo.1) (wo.2.1) (wo.2.2.1) (wo.2.2.2.1) (wo.2.2.2.2.1) (wo.2.2.2.2.2.1) (wo.2.2.2.2.2.2.1) (wo.2.2.2.2.2.2.2.1) (wo.2.2.2.2.2.2.2.2.1) (wo.2.2.2.2.2.2.2.2.2.1) (wo.2.2.2.2.2.2.2.2.2.2.1) (wo.2.2.2.2.2.2.2.2.2.2.2)).bind fun ⟨y2, y3, y4, y5, y6, y7, y8, y9, y10, y11, y12, y13⟩ =>
  (f_X2_letForget K y2 y3 y4 y9 y10 y11 x1).bind fun ⟨r16, y17, y18, y19, y20, y21⟩ =>
  (f_X4_adopt wo (y17, y18, y19, y5, y6, y7, y8, y20, y21, y11, y12, y13) hs hp kp r16).bind fun ⟨r24, y25, y26, y27, y28⟩ =>
  some (r24, y25, (y17, y18, y19, y5, y6, y7, y8, y20, y21, y11, y12, y13), y26, y27, y28)
def f_X4_giveBack (K : Nat) (wo : OW) (wt : OW) (hs : Nat → OW) (hp : Nat → Nat) (kp : Int32) (x1 : Int32) : Option (Int32 × OW × OW × (Nat → OW) × (Nat → Nat) × Int32) :=
  (f_X2_become (wt.1) (wt.2.1) (wt.2.2.1) (wt.2.2.2.1) (wt.2.2.2.2.1) (wt.2.2.2.2.2.1) (wt.2.2.2.2.2.2.2.2.1) (wt.2.2.2.2.2.2.2.2.2.2.1) (wo.1) (wo.2.1) (wo.2.2.1) (wo.2.2.2.1) (wo.2.2.2.2.1) (wo.2.2.2.2.2.1) (wo.2.2.2.2.2.2.1) (wo.2.2.2.2.2.2.2.1) (wo.2.2.2.2.2.2.2.2.1) (wo.2.2.2.2.2.2.2.2.2.1) (wo.2.2.2.2.2.2.2.2.2.2.1) (wo.2.2.2.2.2.2.2.2.2.2.2)).bind fun ⟨y2, y3, y4, y5, y6, y7, y8, y9, y10, y11, y12, y13⟩ =>
  (f_X2_takeBack K y2 y3 y4 y9 y10 y11 y12 x1).bind fun ⟨r16, y17, y18, y19, y20, y21⟩ =>
  (f_X4_adopt wo (y17, y18, y19, y5, y6, y7, y8, y20, y21, y11, y12, y13) hs hp kp r16).bind fun ⟨r24, y25, y26, y27, y28⟩ =>
  some (r24, y25, (y17, y18, y19, y5, y6, y7, y8, y20, y21, y11, y12, y13), y26, y27, y28)
def f_X4_makeVoid (K : Nat) (wo : OW) (wt : OW) (hs : Nat → OW) (hp : Nat → Nat) (kp : Int32) (x1 : Int32) : Option (Int32 × OW × OW × (Nat → OW) × (Nat → Nat) × Int32) :=
  (f_X2_become (wt.1) (wt.2.1) (wt.2.2.1) (wt.2.2.2.1) (wt.2.2.2.2.1) (wt.2.2.2.2.2.1) (wt.2.2.2.2.2.2.2.2.1) (wt.2.2.2.2.2.2.2.2.2.2.1) (wo.1) (wo.2.1) (wo.2.2.1) (wo.2.2.2.1) (wo.2.2.2.2.1) (wo.2.2.2.2.2.1) (wo.2.2.2.2.2.2.1) (wo.2.2.2.2.2.2.2.1) (wo.2.2.2.2.2.2.2.2.1) (wo.2.2.2.2.2.2.2.2.2.1) (wo.2.2.2.2.2.2.2.2.2.2.1) (wo.2.2.2.2.2.2.2.2.2.2.2)).bind fun ⟨y2, y3, y4, y5, y6, y7, y8, y9, y10, y11, y12, y13⟩ =>
  (f_X2_cancel K y2 y3 y4 y9 x1).bind fun ⟨r16, y17, y18, y19, y20⟩ =>
  (f_X4_adopt wo (y17, y18, y19, y5, y6, y7, y8, y20, y10, y11, y12, y13) hs hp kp r16).bind fun ⟨r23, y24, y25, y26, y27⟩ =>
  some (r23, y24, (y17, y18, y19, y5, y6, y7, y8, y20, y10, y11, y12, y13), y25, y26, y27)
def f_X4_close (K : Nat) (wo : OW) (wt : OW) (hs : Nat → OW) (hp : Nat → Nat) (kp : Int32) : Option (Int32 × OW × OW × (Nat → OW) × (Nat → Nat) × Int32) :=
  (f_X2_become (wt.1) (wt.2.1) (wt.2.2.1) (wt.2.2.2.1) (wt.2.2.2.2.1) (wt.2.2.2.2.2.1) (wt.2.2.2.2.2.2.2.2.1) (wt.2.2.2.2.2.2.2.2.2.2.1) (wo.1) (wo.2.1) (wo.2.2.1) (wo.2.2.2.1) (wo.2.2.2.2.1) (wo.2.2.2.2.2.1) (wo.2.2.2.2.2.2.1) (wo.2.2.2.2.2.2.2.1) (wo.2.2.2.2.2.2.2.2.1) (wo.2.2.2.2.2.2.2.2.2.1) (wo.2.2.2.2.2.2.2.2.2.2.1) (wo.2.2.2.2.2.2.2.2.2.2.2)).bind fun ⟨y2, y3, y4, y5, y6, y7, y8, y9, y10, y11, y12, y13⟩ =>
  (f_X2_endDay K y2 y3 y4 y9 y10 y13).bind fun ⟨r16, y17, y18, y19, y20, y21, y22⟩ =>
  (f_X4_adopt wo (y17, y18, y19, y5, y6, y7, y8, y20, y21, y11, y12, y22) hs hp kp r16).bind fun ⟨r25, y26, y27, y28, y29⟩ =>
  some (r25, y26, (y17, y18, y19, y5, y6, y7, y8, y20, y21, y11, y12, y22), y27, y28, y29)
def f_X4_set (wo : OW) (wt : OW) (hs : Nat → OW) (hp : Nat → Nat) (kp : Int32) (x1 : Int32) (x2 : Int32) : Option (Int32 × OW × OW × (Nat → OW) × (Nat → Nat) × Int32) :=
  (f_X2_become (wt.1) (wt.2.1) (wt.2.2.1) (wt.2.2.2.1) (wt.2.2.2.2.1) (wt.2.2.2.2.2.1) (wt.2.2.2.2.2.2.2.2.1) (wt.2.2.2.2.2.2.2.2.2.2.1) (wo.1) (wo.2.1) (wo.2.2.1) (wo.2.2.2.1) (wo.2.2.2.2.1) (wo.2.2.2.2.2.1) (wo.2.2.2.2.2.2.1) (wo.2.2.2.2.2.2.2.1) (wo.2.2.2.2.2.2.2.2.1) (wo.2.2.2.2.2.2.2.2.2.1) (wo.2.2.2.2.2.2.2.2.2.2.1) (wo.2.2.2.2.2.2.2.2.2.2.2)).bind fun ⟨y2, y3, y4, y5, y6, y7, y8, y9, y10, y11, y12, y13⟩ =>
  (f_X2_change y12 x1 x2).bind fun ⟨r16, y17⟩ =>
  (f_X4_adopt wo (y2, y3, y4, y5, y6, y7, y8, y9, y10, y11, y17, y13) hs hp kp r16).bind fun ⟨r20, y21, y22, y23, y24⟩ =>
  some (r20, y21, (y2, y3, y4, y5, y6, y7, y8, y9, y10, y11, y17, y13), y22, y23, y24)
def f_X4_numberOf (K : Nat) (wo : OW) (x1 : Int32) (x2 : Int32) : Option (Int32) :=
  (f_X1_tell K (wo.1) (wo.2.1) (wo.2.2.1) (wo.2.2.2.1) (wo.2.2.2.2.1) (wo.2.2.2.2.2.1) x1 x2).bind fun r1 =>
  some r1
def f_X4_clerkOf (K : Nat) (wo : OW) (x1 : Int32) (x2 : Int32) : Option (Int32) :=
  (f_X2_tellOfClerk K (wo.1) (wo.2.1) (wo.2.2.1) (wo.2.2.2.2.2.2.2.2.1) (wo.2.2.2.2.2.2.2.2.2.1) x1 x2).bind fun r1 =>
  some r1
def f_X4_holesAt (K : Nat) (wo : OW) (x1 : Int32) (x2 : Int32) : Option (Int32) :=
  if x1 < 0 then (
  some (-1))
  else (
  if x2 < 0 then (
  some (-1))
  else (
  if x2 ≤ 3 then (
  (f_X1_tellOfRow K (wo.1) (wo.2.1) (wo.2.2.1) 4 x1 x2).bind fun r4 =>
  some r4)
  else (
  some (-1))))
def f_X4_freeAt (K : Nat) (wo : OW) (x1 : Int32) (x2 : Int32) : Option (Int32) :=
  if x1 < 0 then (
  some (-1))
  else (
  if x2 < 0 then (
  some (-1))
  else (
  if x2 ≤ 1 then (
  (f_X1_tellOfRow K (wo.1) (wo.2.1) (wo.2.2.1) 3 x1 x2).bind fun r4 =>
  some r4)
  else (
  some (-1))))
def f_X4_turnAt (wo : OW) (x1 : Int32) : Option (Int32) :=
  if 0 ≤ x1 then (
  (f_X1_givenIn (wo.2.2.2.2.2.1) (wo.2.2.2.2.2.2.1) x1).bind fun r2 =>
  some r2)
  else (
  some (-1))
def f_X4_among (K : Nat) (wo : OW) (x1 : Int32) (x2 : Int32) (x3 : Int32) : Option (Int32) :=
  if x3 < 0 then (
  if x3 < 10 then (
  if x1 < 1 then (
  some (-1))
  else (
  if x2 < x1 then (
  some (-1))
  else (
  if 600 < x2 then (
  some (-1))
  else (
  some (-1)))))
  else (
  if 13 < x3 then (
  if x1 < 1 then (
  some (-1))
  else (
  if x2 < x1 then (
  some (-1))
  else (
  if 600 < x2 then (
  some (-1))
  else (
  some (-1)))))
  else (
  if x1 < 1 then (
  some (-1))
  else (
  if x2 < x1 then (
  some (-1))
  else (
  if 600 < x2 then (
  some (-1))
  else (
  (f_X1_withReason K (wo.2.2.1) x1 x2 (x3 - 10)).bind fun r13 =>
  some r13))))))
  else (
  if 4 < x3 then (
  if x3 < 10 then (
  if x1 < 1 then (
  some (-1))
  else (
  if x2 < x1 then (
  some (-1))
  else (
  if 600 < x2 then (
  some (-1))
  else (
  some (-1)))))
  else (
  if 13 < x3 then (
  if x1 < 1 then (
  some (-1))
  else (
  if x2 < x1 then (
  some (-1))
  else (
  if 600 < x2 then (
  some (-1))
  else (
  some (-1)))))
  else (
  if x1 < 1 then (
  some (-1))
  else (
  if x2 < x1 then (
  some (-1))
  else (
  if 600 < x2 then (
  some (-1))
  else (
  (f_X1_withReason K (wo.2.2.1) x1 x2 (x3 - 10)).bind fun r28 =>
  some r28))))))
  else (
  if x3 < 10 then (
  if x1 < 1 then (
  some (-1))
  else (
  if x2 < x1 then (
  some (-1))
  else (
  if 600 < x2 then (
  some (-1))
  else (
  (f_X1_inState K (wo.1) x1 x2 x3).bind fun r35 =>
  some r35))))
  else (
  if 13 < x3 then (
  if x1 < 1 then (
  some (-1))
  else (
  if x2 < x1 then (
  some (-1))
  else (
  if 600 < x2 then (
  some (-1))
  else (
  (f_X1_inState K (wo.1) x1 x2 x3).bind fun r42 =>
  some r42))))
  else (
  if x1 < 1 then (
  some (-1))
  else (
  if x2 < x1 then (
  some (-1))
  else (
  if 600 < x2 then (
  some (-1))
  else (
  (f_X1_inState K (wo.1) x1 x2 x3).bind fun r48 =>
  some r48)))))))
def f_X4_count (K : Nat) (wo : OW) (kp : Int32) (sl : Int32) (x1 : Int32) : Option (Int32) :=
  if x1 = 10 then (
  some kp)
  else (
  if x1 = 11 then (
  some sl)
  else (
  (f_X2_tally K (wo.1) (wo.2.1) (wo.2.2.1) (wo.2.2.2.2.2.1) (wo.2.2.2.2.2.2.1) (wo.2.2.2.2.2.2.2.1) (wo.2.2.2.2.2.2.2.2.2.1) (wo.2.2.2.2.2.2.2.2.2.2.1) (wo.2.2.2.2.2.2.2.2.2.2.2) x1).bind fun r3 =>
  some r3))
def f_X4_next (K : Nat) (wo : OW) (x1 : Int32) : Option (Int32) :=
  (f_X2_upcoming K (wo.1) (wo.2.2.2.2.2.2.2.1) (wo.2.2.2.2.2.2.2.2.1) (wo.2.2.2.2.2.2.2.2.2.1) (wo.2.2.2.2.2.2.2.2.2.2.1) x1).bind fun r1 =>
  some r1
def f_X4_cost (K : Nat) (wo : OW) (wt : OW) (x1 : Int32) (x2 : Int32) : Option (Int32 × OW) :=
  if (f_X2_isClerk (wo.2.2.2.2.2.2.2.2.2.1) x1) = 0 then (
  some ((-1), wt))
  else (
  if x2 < 0 then (
  some ((-1), wt))
  else (
  if x2 ≤ 50 then (
  (f_X2_become (wt.1) (wt.2.1) (wt.2.2.1) (wt.2.2.2.1) (wt.2.2.2.2.1) (wt.2.2.2.2.2.1) (wt.2.2.2.2.2.2.2.2.1) (wt.2.2.2.2.2.2.2.2.2.2.1) (wo.1) (wo.2.1) (wo.2.2.1) (wo.2.2.2.1) (wo.2.2.2.2.1) (wo.2.2.2.2.2.1) (wo.2.2.2.2.2.2.1) (wo.2.2.2.2.2.2.2.1) (wo.2.2.2.2.2.2.2.2.1) (wo.2.2.2.2.2.2.2.2.2.1) (wo.2.2.2.2.2.2.2.2.2.2.1) (wo.2.2.2.2.2.2.2.2.2.2.2)).bind fun ⟨y7, y8, y9, y10, y11, y12, y13, y14, y15, y16, y17, y18⟩ =>
  if x2 = 0 then (
  (f_X2_lossOf y15 y16 x1).bind fun r38 =>
  some (r38, (y7, y8, y9, y10, y11, y12, y13, y14, y15, y16, y17, y18)))
  else (
  (f_X2_serve K y7 y8 y9 y10 y11 y12 y13 y14 y15 y16 y17 y18 x1 x2).bind fun ⟨r22, y23, y24, y25, y26, y27, y28, y29, y30, y31⟩ =>
  if 0 ≤ r22 then (
  (f_X2_lossOf y31 y16 x1).bind fun r35 =>
  some (r35, (y23, y24, y25, y26, y27, y28, y29, y30, y31, y16, y17, y18)))
  else (
  some (r22, (y23, y24, y25, y26, y27, y28, y29, y30, y31, y16, y17, y18)))))
  else (
  some ((-1), wt))))
def f_X4_worst (K : Nat) (wo : OW) : Option (Int32) :=
  (f_X2_mostForgetful K (wo.2.2.2.2.2.2.2.2.1) (wo.2.2.2.2.2.2.2.2.2.1)).bind fun r1 =>
  some r1
def f_X4_undo (wo : OW) (hs : Nat → OW) (hp : Nat → Nat) (kp : Int32) : Option (Int32 × OW × Int32) :=
  if kp ≤ 0 then (
  some ((-2), wo, kp))
  else (
  if kp ≤ 4 then (
  ix (kp - 1) 4 <|
  if (hp (kp - 1).toNatClampNeg) = 0 then (
  (f_X2_become (wo.1) (wo.2.1) (wo.2.2.1) (wo.2.2.2.1) (wo.2.2.2.2.1) (wo.2.2.2.2.2.1) (wo.2.2.2.2.2.2.2.2.1) (wo.2.2.2.2.2.2.2.2.2.2.1) ((hs 0).1) ((hs 0).2.1) ((hs 0).2.2.1) ((hs 0).2.2.2.1) ((hs 0).2.2.2.2.1) ((hs 0).2.2.2.2.2.1) ((hs 0).2.2.2.2.2.2.1) ((hs 0).2.2.2.2.2.2.2.1) ((hs 0).2.2.2.2.2.2.2.2.1) ((hs 0).2.2.2.2.2.2.2.2.2.1) ((hs 0).2.2.2.2.2.2.2.2.2.2.1) ((hs 0).2.2.2.2.2.2.2.2.2.2.2)).bind fun ⟨y6, y7, y8, y9, y10, y11, y12, y13, y14, y15, y16, y17⟩ =>
  some ((kp - 1), (y6, y7, y8, y9, y10, y11, y12, y13, y14, y15, y16, y17), (kp - 1)))
  else (if (hp (kp - 1).toNatClampNeg) = 1 then (
  (f_X2_become (wo.1) (wo.2.1) (wo.2.2.1) (wo.2.2.2.1) (wo.2.2.2.2.1) (wo.2.2.2.2.2.1) (wo.2.2.2.2.2.2.2.2.1) (wo.2.2.2.2.2.2.2.2.2.2.1) ((hs 1).1) ((hs 1).2.1) ((hs 1).2.2.1) ((hs 1).2.2.2.1) ((hs 1).2.2.2.2.1) ((hs 1).2.2.2.2.2.1) ((hs 1).2.2.2.2.2.2.1) ((hs 1).2.2.2.2.2.2.2.1) ((hs 1).2.2.2.2.2.2.2.2.1) ((hs 1).2.2.2.2.2.2.2.2.2.1) ((hs 1).2.2.2.2.2.2.2.2.2.2.1) ((hs 1).2.2.2.2.2.2.2.2.2.2.2)).bind fun ⟨y22, y23, y24, y25, y26, y27, y28, y29, y30, y31, y32, y33⟩ =>
  some ((kp - 1), (y22, y23, y24, y25, y26, y27, y28, y29, y30, y31, y32, y33), (kp - 1)))
  else (if (hp (kp - 1).toNatClampNeg) = 2 then (
  (f_X2_become (wo.1) (wo.2.1) (wo.2.2.1) (wo.2.2.2.1) (wo.2.2.2.2.1) (wo.2.2.2.2.2.1) (wo.2.2.2.2.2.2.2.2.1) (wo.2.2.2.2.2.2.2.2.2.2.1) ((hs 2).1) ((hs 2).2.1) ((hs 2).2.2.1) ((hs 2).2.2.2.1) ((hs 2).2.2.2.2.1) ((hs 2).2.2.2.2.2.1) ((hs 2).2.2.2.2.2.2.1) ((hs 2).2.2.2.2.2.2.2.1) ((hs 2).2.2.2.2.2.2.2.2.1) ((hs 2).2.2.2.2.2.2.2.2.2.1) ((hs 2).2.2.2.2.2.2.2.2.2.2.1) ((hs 2).2.2.2.2.2.2.2.2.2.2.2)).bind fun ⟨y38, y39, y40, y41, y42, y43, y44, y45, y46, y47, y48, y49⟩ =>
  some ((kp - 1), (y38, y39, y40, y41, y42, y43, y44, y45, y46, y47, y48, y49), (kp - 1)))
  else (if (hp (kp - 1).toNatClampNeg) = 3 then (
  (f_X2_become (wo.1) (wo.2.1) (wo.2.2.1) (wo.2.2.2.1) (wo.2.2.2.2.1) (wo.2.2.2.2.2.1) (wo.2.2.2.2.2.2.2.2.1) (wo.2.2.2.2.2.2.2.2.2.2.1) ((hs 3).1) ((hs 3).2.1) ((hs 3).2.2.1) ((hs 3).2.2.2.1) ((hs 3).2.2.2.2.1) ((hs 3).2.2.2.2.2.1) ((hs 3).2.2.2.2.2.2.1) ((hs 3).2.2.2.2.2.2.2.1) ((hs 3).2.2.2.2.2.2.2.2.1) ((hs 3).2.2.2.2.2.2.2.2.2.1) ((hs 3).2.2.2.2.2.2.2.2.2.2.1) ((hs 3).2.2.2.2.2.2.2.2.2.2.2)).bind fun ⟨y54, y55, y56, y57, y58, y59, y60, y61, y62, y63, y64, y65⟩ =>
  some ((kp - 1), (y54, y55, y56, y57, y58, y59, y60, y61, y62, y63, y64, y65), (kp - 1)))
  else (none)))))
  else (
  some ((-2), wo, kp)))
def f_X4_type (sc : Nat → Int32) (sl : Int32) (x1 : Int32) : Option (Int32 × (Nat → Int32) × Int32) :=
  (f_X3_append sc sl x1).bind fun ⟨r1, y2, y3⟩ =>
  some (r1, y2, y3)
def f_X4_clearText (sl : Int32) : Option (Int32 × Int32) :=
  some (sl, 0)
def f_X4_perform (K : Nat) (wt : OW) (sv : Int32) (sf : Int32) (ss : Int32) : Option (Int32 × OW) :=
  if sv = 0 then (
  (f_X2_addClerk (wt.2.2.2.2.2.2.2.2.1) (wt.2.2.2.2.2.2.2.2.2.1) sf).bind fun ⟨r2, y3, y4⟩ =>
  some (r2, (wt.1, wt.2.1, wt.2.2.1, wt.2.2.2.1, wt.2.2.2.2.1, wt.2.2.2.2.2.1, wt.2.2.2.2.2.2.1, wt.2.2.2.2.2.2.2.1, y3, y4, wt.2.2.2.2.2.2.2.2.2.2.1, wt.2.2.2.2.2.2.2.2.2.2.2)))
  else (
  if sv = 1 then (
  (f_X2_serve K (wt.1) (wt.2.1) (wt.2.2.1) (wt.2.2.2.1) (wt.2.2.2.2.1) (wt.2.2.2.2.2.1) (wt.2.2.2.2.2.2.1) (wt.2.2.2.2.2.2.2.1) (wt.2.2.2.2.2.2.2.2.1) (wt.2.2.2.2.2.2.2.2.2.1) (wt.2.2.2.2.2.2.2.2.2.2.1) (wt.2.2.2.2.2.2.2.2.2.2.2) sf ss).bind fun ⟨r8, y9, y10, y11, y12, y13, y14, y15, y16, y17⟩ =>
  some (r8, (y9, y10, y11, y12, y13, y14, y15, y16, y17, wt.2.2.2.2.2.2.2.2.2.1, wt.2.2.2.2.2.2.2.2.2.2.1, wt.2.2.2.2.2.2.2.2.2.2.2)))
  else (
  if sv = 2 then (
  (f_X2_letForget K (wt.1) (wt.2.1) (wt.2.2.1) (wt.2.2.2.2.2.2.2.1) (wt.2.2.2.2.2.2.2.2.1) (wt.2.2.2.2.2.2.2.2.2.1) sf).bind fun ⟨r21, y22, y23, y24, y25, y26⟩ =>
  some (r21, (y22, y23, y24, wt.2.2.2.1, wt.2.2.2.2.1, wt.2.2.2.2.2.1, wt.2.2.2.2.2.2.1, y25, y26, wt.2.2.2.2.2.2.2.2.2.1, wt.2.2.2.2.2.2.2.2.2.2.1, wt.2.2.2.2.2.2.2.2.2.2.2)))
  else (
  if sv = 3 then (
  (f_X2_takeBack K (wt.1) (wt.2.1) (wt.2.2.1) (wt.2.2.2.2.2.2.2.1) (wt.2.2.2.2.2.2.2.2.1) (wt.2.2.2.2.2.2.2.2.2.1) (wt.2.2.2.2.2.2.2.2.2.2.1) sf).bind fun ⟨r30, y31, y32, y33, y34, y35⟩ =>
  some (r30, (y31, y32, y33, wt.2.2.2.1, wt.2.2.2.2.1, wt.2.2.2.2.2.1, wt.2.2.2.2.2.2.1, y34, y35, wt.2.2.2.2.2.2.2.2.2.1, wt.2.2.2.2.2.2.2.2.2.2.1, wt.2.2.2.2.2.2.2.2.2.2.2)))
  else (
  if sv = 4 then (
  (f_X2_cancel K (wt.1) (wt.2.1) (wt.2.2.1) (wt.2.2.2.2.2.2.2.1) sf).bind fun ⟨r39, y40, y41, y42, y43⟩ =>
  some (r39, (y40, y41, y42, wt.2.2.2.1, wt.2.2.2.2.1, wt.2.2.2.2.2.1, wt.2.2.2.2.2.2.1, y43, wt.2.2.2.2.2.2.2.2.1, wt.2.2.2.2.2.2.2.2.2.1, wt.2.2.2.2.2.2.2.2.2.2.1, wt.2.2.2.2.2.2.2.2.2.2.2)))
  else (
  (f_X2_endDay K (wt.1) (wt.2.1) (wt.2.2.1) (wt.2.2.2.2.2.2.2.1) (wt.2.2.2.2.2.2.2.2.1) (wt.2.2.2.2.2.2.2.2.2.2.2)).bind fun ⟨r46, y47, y48, y49, y50, y51, y52⟩ =>
  some (r46, (y47, y48, y49, wt.2.2.2.1, wt.2.2.2.2.1, wt.2.2.2.2.2.1, wt.2.2.2.2.2.2.1, y50, y51, wt.2.2.2.2.2.2.2.2.2.1, wt.2.2.2.2.2.2.2.2.2.2.1, y52)))))))
def f_X4_rehearse_30 (K : Nat) (fp : Int32) (fr : Int32) (sc : Nat → Int32) (sl : Int32) : Nat → Int32 → OW → Int32 → Int32 → Int32 → Int32 → Option (Int32 × OW × Int32 × Int32 × Int32 × Int32 × Int32 × Int32)
  | 0, _, _, _, _, _, _ => none
  | n + 1, x1, wt, sp, sv, sf, ss =>
    if 80 ≤ x1 then (
    some (x1, wt, fp, fr, sp, sv, sf, ss))
    else (
    if sl ≤ sp then (
    some (x1, wt, fp, fr, sp, sv, sf, ss))
    else (
    (f_X3_readCommand K sc sl sp sv).bind fun ⟨r22, y23, y24, y25, y26⟩ =>
    if r22 = 0 then (
    some (x1, wt, sp, 1, y23, y24, y25, y26))
    else (
    (f_X4_perform K wt y24 y25 y26).bind fun ⟨r30, y31⟩ =>
    if (f_X4_reasonOf r30) = 0 then (
    f_X4_rehearse_30 K fp fr sc sl n (x1 + 1) y31 y23 y24 y25 y26)
    else (
    some (x1, y31, sp, (f_X4_reasonOf r30), y23, y24, y25, y26)))))
def f_X4_rehearse (K : Nat) (wo : OW) (wt : OW) (sc : Nat → Int32) (sl : Int32) (sv : Int32) (sf : Int32) (ss : Int32) : Option (Int32 × OW × Int32 × Int32 × Int32 × Int32 × Int32 × Int32) :=
  (f_X2_become (wt.1) (wt.2.1) (wt.2.2.1) (wt.2.2.2.1) (wt.2.2.2.2.1) (wt.2.2.2.2.2.1) (wt.2.2.2.2.2.2.2.2.1) (wt.2.2.2.2.2.2.2.2.2.2.1) (wo.1) (wo.2.1) (wo.2.2.1) (wo.2.2.2.1) (wo.2.2.2.2.1) (wo.2.2.2.2.2.1) (wo.2.2.2.2.2.2.1) (wo.2.2.2.2.2.2.2.1) (wo.2.2.2.2.2.2.2.2.1) (wo.2.2.2.2.2.2.2.2.2.1) (wo.2.2.2.2.2.2.2.2.2.2.1) (wo.2.2.2.2.2.2.2.2.2.2.2)).bind fun ⟨y2, y3, y4, y5, y6, y7, y8, y9, y10, y11, y12, y13⟩ =>
  (f_X3_rewind).bind fun y17 =>
  f_X4_rehearse_30 K (-1) 0 sc sl K 0 (y2, y3, y4, y5, y6, y7, y8, y9, y10, y11, y12, y13) y17 sv sf ss
def f_X4_fault (K : Nat) (wo : OW) (wt : OW) (fp : Int32) (fr : Int32) (sc : Nat → Int32) (sl : Int32) (sp : Int32) (sv : Int32) (sf : Int32) (ss : Int32) (x1 : Int32) : Option (Int32 × OW × Int32 × Int32 × Int32 × Int32 × Int32 × Int32) :=
  if x1 = 0 then (
  (f_X4_rehearse K wo wt sc sl sv sf ss).bind fun ⟨r2, y3, y4, y5, y6, y7, y8, y9⟩ =>
  if y5 = 0 then (
  some ((-4), y3, y4, y5, y6, y7, y8, y9))
  else (
  if x1 = 0 then (
  some (y4, y3, y4, y5, y6, y7, y8, y9))
  else (
  some (y5, y3, y4, y5, y6, y7, y8, y9))))
  else (
  if x1 = 1 then (
  (f_X4_rehearse K wo wt sc sl sv sf ss).bind fun ⟨r15, y16, y17, y18, y19, y20, y21, y22⟩ =>
  if y18 = 0 then (
  some ((-4), y16, y17, y18, y19, y20, y21, y22))
  else (
  if x1 = 0 then (
  some (y17, y16, y17, y18, y19, y20, y21, y22))
  else (
  some (y18, y16, y17, y18, y19, y20, y21, y22))))
  else (
  some ((-1), wt, fp, fr, sp, sv, sf, ss)))
def f_X4_play (K : Nat) (wo : OW) (wt : OW) (hs : Nat → OW) (hp : Nat → Nat) (kp : Int32) (sc : Nat → Int32) (sl : Int32) (sv : Int32) (sf : Int32) (ss : Int32) : Option (Int32 × OW × OW × (Nat → OW) × (Nat → Nat) × Int32 × Int32 × Int32 × Int32 × Int32 × Int32 × Int32) :=
  (f_X4_rehearse K wo wt sc sl sv sf ss).bind fun ⟨r1, y2, y3, y4, y5, y6, y7, y8⟩ =>
  if y4 = 0 then (
  (f_X4_adopt wo y2 hs hp kp r1).bind fun ⟨r12, y13, y14, y15, y16⟩ =>
  some (r12, y13, y2, y14, y15, y16, y3, y4, y5, y6, y7, y8))
  else (
  some ((-2), wo, y2, hs, hp, kp, y3, y4, y5, y6, y7, y8))
