def f_X0_isBlamed (I : zM) (x0 : Nat) (x1 : Int32) : Option (Int32) :=
  if (((I x0 1) >>> (x1 &&& 31)) &&& 1) = 1 then
    some 1
  else
    some 0
def f_X4_append_l26 (x0 : Nat) (K : zM → Option (Int32 × zM)) : Nat → zM → Int32 → Option (Int32 × zM)
  | 0, _, _ => none
  | n + 1, M, y1 =>
    if (Int32.ofNat (zLn (x0 + 1))) ≤ y1 then
      K M
    else
      zlet (y1 + (M x0 1)) (fun w3 =>
      if w3 < 0 then
        f_X4_append_l26 x0 K n M (y1 + 1)
      else
        if (Int32.ofNat (zLn (x0 + 1))) ≤ w3 then
          f_X4_append_l26 x0 K n M (y1 + 1)
        else
          zck (zin w3 (zLn (x0 + 1))) (
          zck (zin y1 (zLn (x0 + 1))) (
          zlet (ms M (x0 + 1) (y1.toNatClampNeg) (M (x0 + 1) w3.toNatClampNeg)) (fun M7 =>
          f_X4_append_l26 x0 K n M7 (y1 + 1)))))
def f_X4_append_l85 (x0 : Nat) : Nat → zM → Int32 → Option (Int32 × zM)
  | 0, _, _ => none
  | n + 1, M, y1 =>
    if y1 < 0 then
      some (((M x0 3) - 1), M)
    else
      if ((M x0 3) * (M x0 1)) ≤ y1 then
        some (((M x0 3) - 1), M)
      else
        if (Int32.ofNat (zLn (x0 + 1))) ≤ y1 then
          some (((M x0 3) - 1), M)
        else
          zck (zin y1 (zLn (x0 + 1))) (
          zlet (ms M (x0 + 1) (y1.toNatClampNeg) 0) (fun M14 =>
          f_X4_append_l85 x0 n M14 (y1 + 1)))
def f_X4_append_j73 (M : zM) (x0 : Nat) : Option (Int32 × zM) :=
  zlet (((M x0 3) - 1) * (M x0 1)) (fun w10 =>
  f_X4_append_l85 x0 zFu M w10)
def f_X4_append (I : zM) (x0 : Nat) : Option (Int32 × zM) :=
  if (I x0 0) ≤ (I x0 3) then
    f_X4_append_l26 x0 (fun M9 => 
        f_X4_append_j73 M9 x0) zFu I 0
  else
    zlet (ms I x0 3 ((I x0 3) + 1)) (fun M16 =>
    f_X4_append_j73 M16 x0)
def f_X4_setCell (I : zM) (x0 : Nat) (x1 : Int32) (x2 : Int32) (x3 : Int32) : Option (zM) :=
  if x1 < 0 then
    some I
  else
    if (I x0 3) ≤ x1 then
      some I
    else
      if x2 < 0 then
        some I
      else
        if x2 < (I x0 1) then
          zlet ((x1 * (I x0 1)) + x2) (fun w5 =>
          if w5 < 0 then
            some I
          else
            if (Int32.ofNat (zLn (x0 + 1))) ≤ w5 then
              some I
            else
              zck (zin w5 (zLn (x0 + 1))) (
              zlet (ms I (x0 + 1) (w5.toNatClampNeg) x3) (fun M8 =>
              some M8)))
        else
          some I
def f_X0_addOnce (I : zM) (x0 : Nat) (x1 : Int32) : Option (zM) :=
  zb (f_X0_isBlamed I x0 x1) (fun q1 =>
  if q1 = 0 then
    zlet (ms I x0 1 ((I x0 1) ||| (1 <<< (x1 &&& 31)))) (fun M3 =>
    zb (f_X4_append M3 (x0 + 1)) (fun q4 =>
    zb (f_X4_setCell q4.2 (x0 + 1) q4.1 0 x1) (fun q5 =>
    some q5)))
  else
    some I)
def f_X0_bits (I : zM) (x0 : Nat) : Option (Int32) :=
  some (I x0 1)
def f_X4_clear (I : zM) (x0 : Nat) : Option (zM) :=
  zlet (ms I x0 3 0) (fun M1 =>
  some M1)
def f_X4_size (I : zM) (x0 : Nat) : Option (Int32) :=
  some (I x0 3)
def f_X4_cell (I : zM) (x0 : Nat) (x1 : Int32) (x2 : Int32) : Option (Int32) :=
  if x1 < 0 then
    some 0
  else
    if (I x0 3) ≤ x1 then
      some 0
    else
      if x2 < 0 then
        some 0
      else
        if x2 < (I x0 1) then
          zlet ((x1 * (I x0 1)) + x2) (fun w5 =>
          if w5 < 0 then
            some 0
          else
            if (Int32.ofNat (zLn (x0 + 1))) ≤ w5 then
              some 0
            else
              zck (zin w5 (zLn (x0 + 1))) (
              some (I (x0 + 1) w5.toNatClampNeg)))
        else
          some 0
def f_X0_findFor_l66 (x0 : Nat) (x1 : Nat) : Nat → zM → Int32 → Option (zM)
  | 0, _, _ => none
  | n + 1, M, y5 =>
    zb (f_X4_size M (x1 + 1)) (fun q11 =>
    if q11 ≤ y5 then
      some M
    else
      zb (f_X4_cell M (x1 + 1) y5 0) (fun q13 =>
      zb (f_X0_addOnce M x0 q13) (fun q14 =>
      f_X0_findFor_l66 x0 x1 n q14 (y5 + 1))))
def f_X0_findFor (I : zM) (x0 : Nat) (x1 : Nat) : Option (zM) :=
  zb (f_X4_clear I (x0 + 1)) (fun q1 =>
  zlet (ms q1 x0 1 0) (fun M2 =>
  zb (f_X4_size M2 (x1 + 3)) (fun q3 =>
  zlet (q3 - 1) (fun w4 =>
  zb (f_X4_cell M2 (x1 + 3) w4 2) (fun q5 =>
  zb (f_X4_cell M2 (x1 + 3) w4 3) (fun q6 =>
  zlet (q5 - q6) (fun w7 =>
  zb (f_X4_size M2 (x1 + 1)) (fun q8 =>
  zlet ((M2 x1 6) - q8) (fun w9 =>
  zlet (if (w7 - w9) < 0 then 0 else (w7 - w9)) (fun w10 =>
  f_X0_findFor_l66 x0 x1 zFu M2 w10))))))))))
def f_X0_personAt (I : zM) (x0 : Nat) (x1 : Int32) : Option (Int32) :=
  zb (f_X4_cell I (x0 + 1) x1 0) (fun q1 =>
  some q1)
def f_X0_shareOf (I : zM) (x0 : Nat) (x1 : Int32) (x2 : Int32) : Option (Int32) :=
  zb (f_X4_size I (x0 + 1)) (fun q1 =>
  if q1 ≤ 0 then
    some 0
  else
    zb (f_X0_isBlamed I x0 x1) (fun q3 =>
    if q3 = 0 then
      some 0
    else
      zck (zne q1) (
      zlet (x2 / q1) (fun w6 =>
      zb (f_X0_personAt I x0 0) (fun q7 =>
      if x1 = q7 then
        some (x2 - (w6 * (q1 - 1)))
      else
        some w6)))))
def f_X0_size (I : zM) (x0 : Nat) : Option (Int32) :=
  zb (f_X4_size I (x0 + 1)) (fun q1 =>
  some q1)
def f_X1_take (I : zM) (x0 : Nat) (x1 : Int32) (x2 : Int32) : Option (zM) :=
  zlet (ms I x0 0 x1) (fun M1 =>
  zlet (ms M1 x0 1 x2) (fun M2 =>
  some M2))
def f_X1_takeRow_l15 (x0 : Nat) (x1 : Int32) : Nat → zM → Int32 → Option (zM)
  | 0, _, _ => none
  | n + 1, M, y2 =>
    if x1 ≤ y2 then
      some M
    else
      zb (f_X4_append M (x0 + 1)) (fun q4 =>
      f_X1_takeRow_l15 x0 x1 n q4.2 (y2 + 1))
def f_X1_takeRow (I : zM) (x0 : Nat) (x1 : Int32) : Option (zM) :=
  zb (f_X1_take I x0 3 0) (fun q1 =>
  zb (f_X4_clear q1 (x0 + 1)) (fun q2 =>
  f_X1_takeRow_l15 x0 x1 zFu q2 0))
def f_X2_isPerson (I : zM) (x0 : Nat) (x1 : Int32) : Option (Int32) :=
  if x1 < 0 then
    some 0
  else
    if (I x0 5) ≤ x1 then
      some 0
    else
      some 1
def f_X2_personAt (I : zM) (x0 : Nat) (x1 : Int32) : Option (Nat) :=
  if x1 < 0 then
    some (x0 + 3)
  else
    if 12 ≤ x1 then
      some (x0 + 3)
    else
      zck (zin x1 12) (
      some (x0 + 15 + 2 * x1.toNatClampNeg))
def f_X2_bringCoins (I : zM) (x0 : Nat) (x1 : Int32) (x2 : Int32) : Option (Int32 × zM) :=
  zb (f_X2_isPerson I x0 x1) (fun q1 =>
  if q1 = 0 then
    some ((-1), I)
  else
    if x2 < 1 then
      some ((-1), I)
    else
      if x2 ≤ 999 then
        zb (f_X2_personAt I x0 x1) (fun q5 =>
        zlet (if x2 < (I q5 4) then x2 else (I q5 4)) (fun w6 =>
        zlet (((I q5 1) + x2) - w6) (fun w7 =>
        if w7 ≤ 9999 then
          zlet (ms I q5 4 ((I q5 4) - w6)) (fun M9 =>
          zlet (ms M9 q5 1 w7) (fun M10 =>
          zlet (ms M10 x0 8 ((M10 x0 8) + w6)) (fun M11 =>
          some (w7, M11))))
        else
          some ((-5), I))))
      else
        some ((-1), I))
def f_X2_claimServed_l13 (I : zM) (x0 : Nat) (x1 : Nat) : Nat → Int32 → Option (Int32)
  | 0, _ => none
  | n + 1, y2 =>
    zb (f_X4_size I (x1 + 5)) (fun q2 =>
    if q2 ≤ y2 then
      some (-1)
    else
      zb (f_X4_cell I (x1 + 5) y2 0) (fun q4 =>
      zb (f_X2_personAt I x0 q4) (fun q5 =>
      if (I q5 1) < (I x1 0) then
        f_X2_claimServed_l13 I x0 x1 n (y2 + 1)
      else
        some y2)))
def f_X2_claimServed (I : zM) (x0 : Nat) (x1 : Nat) : Option (Int32) :=
  if (I x1 1) < 9 then
    f_X2_claimServed_l13 I x0 x1 zFu 0
  else
    some (-1)
def f_X2_toolAt (I : zM) (x0 : Nat) (x1 : Int32) : Option (Nat) :=
  if x1 < 0 then
    some (x0 + 5)
  else
    if 10 ≤ x1 then
      some (x0 + 5)
    else
      zck (zin x1 10) (
      some (x0 + 39 + 7 * x1.toNatClampNeg))
def f_X7_placeOfClaim_l2 (I : zM) (x0 : Nat) (x1 : Int32) : Nat → Int32 → Option (Int32)
  | 0, _ => none
  | n + 1, y2 =>
    zb (f_X4_size I (x0 + 5)) (fun q1 =>
    if q1 ≤ y2 then
      some (-1)
    else
      zb (f_X4_cell I (x0 + 5) y2 0) (fun q3 =>
      if q3 = x1 then
        some y2
      else
        f_X7_placeOfClaim_l2 I x0 x1 n (y2 + 1)))
def f_X7_placeOfClaim (I : zM) (x0 : Nat) (x1 : Int32) : Option (Int32) :=
  f_X7_placeOfClaim_l2 I x0 x1 zFu 0
def f_X2_claimsOf_l4 (I : zM) (x0 : Nat) (x1 : Int32) : Nat → Int32 → Int32 → Option (Int32)
  | 0, _, _ => none
  | n + 1, y2, y3 =>
    if (I x0 6) ≤ y3 then
      some y2
    else
      zb (f_X2_toolAt I x0 y3) (fun q2 =>
      zb (f_X7_placeOfClaim I q2 x1) (fun q3 =>
      if q3 < 0 then
        f_X2_claimsOf_l4 I x0 x1 n y2 (y3 + 1)
      else
        f_X2_claimsOf_l4 I x0 x1 n (y2 + 1) (y3 + 1)))
def f_X2_claimsOf (I : zM) (x0 : Nat) (x1 : Int32) : Option (Int32) :=
  f_X2_claimsOf_l4 I x0 x1 zFu 0 0
def f_X3_wishOf (I : zM) (x0 : Nat) (x1 : Int32) : Option (Int32) :=
  if x1 < 0 then
    some 0
  else
    if 10 ≤ x1 then
      some 0
    else
      zck (zin x1 10) (
      some (I (x0 + 1) x1.toNatClampNeg))
def f_X3_setWishOf (I : zM) (x0 : Nat) (x1 : Int32) (x2 : Int32) : Option (zM) :=
  if x1 < 0 then
    some I
  else
    if 10 ≤ x1 then
      some I
    else
      zck (zin x1 10) (
      zlet (ms I (x0 + 1) (x1.toNatClampNeg) x2) (fun M3 =>
      some M3))
def f_X3_copyFrom_l42 (x0 : Nat) (x1 : Nat) : Nat → zM → Int32 → Option (zM)
  | 0, _, _ => none
  | n + 1, M, y2 =>
    if 10 ≤ y2 then
      some M
    else
      zb (f_X3_wishOf M x1 y2) (fun q7 =>
      zb (f_X3_setWishOf M x0 y2 q7) (fun q8 =>
      f_X3_copyFrom_l42 x0 x1 n q8 (y2 + 1)))
def f_X3_copyFrom (I : zM) (x0 : Nat) (x1 : Nat) : Option (zM) :=
  zlet (ms I x0 0 (I x1 0)) (fun M1 =>
  zlet (ms M1 x0 1 (M1 x1 1)) (fun M2 =>
  zlet (ms M2 x0 2 (M2 x1 2)) (fun M3 =>
  zlet (ms M3 x0 3 (M3 x1 3)) (fun M4 =>
  zlet (ms M4 x0 4 (M4 x1 4)) (fun M5 =>
  f_X3_copyFrom_l42 x0 x1 zFu M5 0)))))
def f_X4_copyFrom_l27 (x0 : Nat) (x1 : Nat) (y2 : Int32) (K : zM → Option (zM)) : Nat → zM → Int32 → Option (zM)
  | 0, _, _ => none
  | n + 1, M, y3 =>
    if (M x0 1) ≤ y3 then
      K M
    else
      zb (f_X4_cell M x1 y2 y3) (fun q5 =>
      zb (f_X4_setCell M x0 y2 y3 q5) (fun q6 =>
      f_X4_copyFrom_l27 x0 x1 y2 K n q6 (y3 + 1)))
def f_X4_copyFrom_l17 (x0 : Nat) (x1 : Nat) : Nat → zM → Int32 → Option (zM)
  | 0, _, _ => none
  | n + 1, M, y2 =>
    if (M x0 3) ≤ y2 then
      some M
    else
      f_X4_copyFrom_l27 x0 x1 y2 (fun M7 => 
          f_X4_copyFrom_l17 x0 x1 n M7 (y2 + 1)) zFu M 0
def f_X4_copyFrom (I : zM) (x0 : Nat) (x1 : Nat) : Option (zM) :=
  zlet (if (I x0 0) < (I x1 3) then (I x0 0) else (I x1 3)) (fun w1 =>
  zlet (ms I x0 3 w1) (fun M2 =>
  f_X4_copyFrom_l17 x0 x1 zFu M2 0))
def f_X7_copyFrom (I : zM) (x0 : Nat) (x1 : Nat) : Option (zM) :=
  zlet (ms I x0 0 (I x1 0)) (fun M1 =>
  zlet (ms M1 x0 1 (M1 x1 1)) (fun M2 =>
  zlet (ms M2 x0 2 (M2 x1 2)) (fun M3 =>
  zlet (ms M3 x0 3 (M3 x1 3)) (fun M4 =>
  zlet (ms M4 x0 4 (M4 x1 4)) (fun M5 =>
  zlet (ms M5 x0 5 (M5 x1 5)) (fun M6 =>
  zlet (ms M6 x0 6 (M6 x1 6)) (fun M7 =>
  zb (f_X4_copyFrom M7 (x0 + 1) (x1 + 1)) (fun q8 =>
  zb (f_X4_copyFrom q8 (x0 + 3) (x1 + 3)) (fun q9 =>
  zb (f_X4_copyFrom q9 (x0 + 5) (x1 + 5)) (fun q10 =>
  some q10))))))))))
def f_X2_copyFrom_l50 (x0 : Nat) (x1 : Nat) (K : zM → Option (zM)) : Nat → zM → Int32 → Option (zM)
  | 0, _, _ => none
  | n + 1, M, y2 =>
    if (M x0 5) ≤ y2 then
      K M
    else
      zb (f_X2_personAt M x0 y2) (fun q8 =>
      zb (f_X2_personAt M x1 y2) (fun q9 =>
      zb (f_X3_copyFrom M q8 q9) (fun q10 =>
      f_X2_copyFrom_l50 x0 x1 K n q10 (y2 + 1))))
def f_X2_copyFrom_l79 (x0 : Nat) (x1 : Nat) : Nat → zM → Int32 → Option (zM)
  | 0, _, _ => none
  | n + 1, M, y2 =>
    if (M x0 6) ≤ y2 then
      some M
    else
      zb (f_X2_toolAt M x0 y2) (fun q13 =>
      zb (f_X2_toolAt M x1 y2) (fun q14 =>
      zb (f_X7_copyFrom M q13 q14) (fun q15 =>
      f_X2_copyFrom_l79 x0 x1 n q15 (y2 + 1))))
def f_X2_copyFrom (I : zM) (x0 : Nat) (x1 : Nat) : Option (zM) :=
  zlet (ms I x0 5 (I x1 5)) (fun M1 =>
  zlet (ms M1 x0 6 (M1 x1 6)) (fun M2 =>
  zlet (ms M2 x0 7 (M2 x1 7)) (fun M3 =>
  zlet (ms M3 x0 8 (M3 x1 8)) (fun M4 =>
  zlet (ms M4 x0 9 (M4 x1 9)) (fun M5 =>
  zlet (ms M5 x0 10 (M5 x1 10)) (fun M6 =>
  f_X2_copyFrom_l50 x0 x1 (fun M11 => 
      f_X2_copyFrom_l79 x0 x1 zFu M11 0) zFu M6 0))))))
def f_X2_isTool (I : zM) (x0 : Nat) (x1 : Int32) : Option (Int32) :=
  if x1 < 0 then
    some 0
  else
    if (I x0 6) ≤ x1 then
      some 0
    else
      some 1
def f_X4_remove_l20 (x0 : Nat) : Nat → zM → Int32 → Option (zM)
  | 0, _, _ => none
  | n + 1, M, y2 =>
    if y2 < 0 then
      zlet (ms M x0 3 ((M x0 3) - 1)) (fun M5 =>
      some M5)
    else
      if (Int32.ofNat (zLn (x0 + 1))) ≤ y2 then
        zlet (ms M x0 3 ((M x0 3) - 1)) (fun M7 =>
        some M7)
      else
        zlet (y2 + (M x0 1)) (fun w8 =>
        if w8 < 0 then
          f_X4_remove_l20 x0 n M (y2 + 1)
        else
          if (Int32.ofNat (zLn (x0 + 1))) ≤ w8 then
            f_X4_remove_l20 x0 n M (y2 + 1)
          else
            zck (zin w8 (zLn (x0 + 1))) (
            zck (zin y2 (zLn (x0 + 1))) (
            zlet (ms M (x0 + 1) (y2.toNatClampNeg) (M (x0 + 1) w8.toNatClampNeg)) (fun M12 =>
            f_X4_remove_l20 x0 n M12 (y2 + 1)))))
def f_X4_remove (I : zM) (x0 : Nat) (x1 : Int32) : Option (zM) :=
  if x1 < 0 then
    some I
  else
    if x1 < (I x0 3) then
      zlet (x1 * (I x0 1)) (fun w3 =>
      f_X4_remove_l20 x0 zFu I w3)
    else
      some I
def f_X2_dropClaim (I : zM) (x0 : Nat) (x1 : Int32) (x2 : Int32) : Option (Int32 × zM) :=
  zb (f_X2_isPerson I x0 x1) (fun q1 =>
  if q1 = 0 then
    some ((-1), I)
  else
    zb (f_X2_isTool I x0 x2) (fun q3 =>
    if q3 = 0 then
      some ((-1), I)
    else
      zb (f_X2_toolAt I x0 x2) (fun q5 =>
      zb (f_X7_placeOfClaim I q5 x1) (fun q6 =>
      if 0 ≤ q6 then
        zb (f_X4_remove I (q5 + 5) q6) (fun q8 =>
        zb (f_X4_size q8 (q5 + 5)) (fun q9 =>
        some (q9, q8)))
      else
        some ((-2), I)))))
def f_X7_claimGoesAhead (I : zM) (x0 : Nat) (x1 : Int32) (x2 : Int32) (x3 : Int32) (x4 : Int32) : Option (Int32) :=
  zb (f_X4_cell I (x0 + 5) x1 1) (fun q1 =>
  if q1 = x2 then
    zb (f_X4_cell I (x0 + 5) x1 3) (fun q3 =>
    if q3 = x3 then
      zb (f_X4_cell I (x0 + 5) x1 0) (fun q5 =>
      if x4 ≤ q5 then
        some 0
      else
        some 1)
    else
      zb (f_X4_cell I (x0 + 5) x1 3) (fun q7 =>
      if x3 ≤ q7 then
        some 0
      else
        some 1))
  else
    zb (f_X4_cell I (x0 + 5) x1 1) (fun q9 =>
    if q9 ≤ x2 then
      some 0
    else
      some 1))
def f_X4_insert_l24 (x0 : Nat) (y2 : Int32) : Nat → zM → Int32 → Option (zM)
  | 0, _, _ => none
  | n + 1, M, y3 =>
    if y3 < 0 then
      some M
    else
      if (Int32.ofNat (zLn (x0 + 1))) ≤ y3 then
        some M
      else
        zlet (y3 - (M x0 1)) (fun w7 =>
        if w7 < y2 then
          f_X4_insert_l24 x0 y2 n M (y3 + (-1))
        else
          if w7 < 0 then
            f_X4_insert_l24 x0 y2 n M (y3 + (-1))
          else
            if (Int32.ofNat (zLn (x0 + 1))) ≤ w7 then
              f_X4_insert_l24 x0 y2 n M (y3 + (-1))
            else
              zck (zin w7 (zLn (x0 + 1))) (
              zck (zin y3 (zLn (x0 + 1))) (
              zlet (ms M (x0 + 1) (y3.toNatClampNeg) (M (x0 + 1) w7.toNatClampNeg)) (fun M12 =>
              f_X4_insert_l24 x0 y2 n M12 (y3 + (-1))))))
def f_X4_insert (I : zM) (x0 : Nat) (x1 : Int32) : Option (zM) :=
  zb (f_X4_append I x0) (fun q1 =>
  zlet (if x1 < 0 then 0 else x1) (fun w2 =>
  zlet (w2 * (q1.2 x0 1)) (fun w3 =>
  zlet ((Int32.ofNat (zLn (x0 + 1))) - 1) (fun w4 =>
  f_X4_insert_l24 x0 w3 zFu q1.2 w4))))
def f_X7_addClaim_l3 (M : zM) (x0 : Nat) (x1 : Int32) (x2 : Int32) (x3 : Int32) (x4 : Int32) (K : Int32 → Option (Int32 × zM)) : Nat → Int32 → Option (Int32 × zM)
  | 0, _ => none
  | n + 1, y5 =>
    zb (f_X4_size M (x0 + 5)) (fun q1 =>
    if q1 ≤ y5 then
      K y5
    else
      zb (f_X7_claimGoesAhead M x0 y5 x2 x4 x1) (fun q3 =>
      if q3 = 0 then
        K y5
      else
        f_X7_addClaim_l3 M x0 x1 x2 x3 x4 K n (y5 + 1)))
def f_X7_addClaim_j34 (M : zM) (x0 : Nat) (x1 : Int32) (x2 : Int32) (x3 : Int32) (x4 : Int32) (y5 : Int32) : Option (Int32 × zM) :=
  zb (f_X4_insert M (x0 + 5) y5) (fun q6 =>
  zb (f_X4_setCell q6 (x0 + 5) y5 0 x1) (fun q7 =>
  zb (f_X4_setCell q7 (x0 + 5) y5 1 x2) (fun q8 =>
  zb (f_X4_setCell q8 (x0 + 5) y5 2 x3) (fun q9 =>
  zb (f_X4_setCell q9 (x0 + 5) y5 3 x4) (fun q10 =>
  some (y5, q10))))))
def f_X7_addClaim (I : zM) (x0 : Nat) (x1 : Int32) (x2 : Int32) (x3 : Int32) (x4 : Int32) : Option (Int32 × zM) :=
  f_X7_addClaim_l3 I x0 x1 x2 x3 x4 (fun z5 => 
      f_X7_addClaim_j34 I x0 x1 x2 x3 x4 z5) zFu 0
def f_X2_enterClaim_j21 (M : zM) (x0 : Nat) (x1 : Int32) (x2 : Int32) (x3 : Int32) (x4 : Int32) (s0 : Int32) : Option (Int32 × zM) :=
  if s0 = 0 then
    some ((-1), M)
  else
    if x3 < 0 then
      some ((-1), M)
    else
      if 9 < x3 then
        some ((-1), M)
      else
        if x4 < 1 then
          some ((-1), M)
        else
          if x4 ≤ 30 then
            zb (f_X2_toolAt M x0 x2) (fun q8 =>
            zb (f_X7_placeOfClaim M q8 x1) (fun q9 =>
            if 0 ≤ q9 then
              some ((-5), M)
            else
              if (M q8 2) = x1 then
                some ((-5), M)
              else
                zb (f_X4_size M (q8 + 5)) (fun q12 =>
                if q12 < 8 then
                  zb (f_X7_addClaim M q8 x1 x3 x4 (M x0 7)) (fun q14 =>
                  some (q14.1, q14.2))
                else
                  some ((-3), M))))
          else
            some ((-1), M)
def f_X2_enterClaim_j20 (M : zM) (x0 : Nat) (x1 : Int32) (x2 : Int32) (x3 : Int32) (x4 : Int32) : Option (Int32 × zM) :=
  f_X2_enterClaim_j21 M x0 x1 x2 x3 x4 0
def f_X2_enterClaim (I : zM) (x0 : Nat) (x1 : Int32) (x2 : Int32) (x3 : Int32) (x4 : Int32) : Option (Int32 × zM) :=
  zb (f_X2_isPerson I x0 x1) (fun q1 =>
  if q1 = 0 then
    f_X2_enterClaim_j20 I x0 x1 x2 x3 x4
  else
    zb (f_X2_isTool I x0 x2) (fun q15 =>
    if q15 = 0 then
      f_X2_enterClaim_j20 I x0 x1 x2 x3 x4
    else
      f_X2_enterClaim_j21 I x0 x1 x2 x3 x4 1))
def f_X2_isName_l16 (I : zM) : Nat → Int32 → Option (Int32)
  | 0, _ => none
  | n + 1, y1 =>
    if y1 ≤ 0 then
      some 1
    else
      if (y1 - y1 / 27 * 27) = 0 then
        some 0
      else
        zlet (y1 / 27) (fun w5 =>
        f_X2_isName_l16 I n w5)
def f_X2_isName (I : zM) (x0 : Int32) : Option (Int32) :=
  if x0 < 1 then
    some 0
  else
    if x0 < 19683 then
      f_X2_isName_l16 I zFu x0
    else
      some 0
def f_X3_comeIn_l28 (x0 : Nat) : Nat → zM → Int32 → Option (zM)
  | 0, _, _ => none
  | n + 1, M, y3 =>
    if 10 ≤ y3 then
      some M
    else
      zck (zin y3 10) (
      zlet (ms M (x0 + 1) (y3.toNatClampNeg) 0) (fun M7 =>
      f_X3_comeIn_l28 x0 n M7 (y3 + 1)))
def f_X3_comeIn (I : zM) (x0 : Nat) (x1 : Int32) (x2 : Int32) : Option (zM) :=
  zlet (ms I x0 0 x1) (fun M1 =>
  zlet (ms M1 x0 1 x2) (fun M2 =>
  zlet (ms M2 x0 2 50) (fun M3 =>
  zlet (ms M3 x0 3 0) (fun M4 =>
  zlet (ms M4 x0 4 0) (fun M5 =>
  f_X3_comeIn_l28 x0 zFu M5 0)))))
def f_X2_enterPerson_l22 (M : zM) (x0 : Nat) (x1 : Int32) (x2 : Int32) (K : Option (Int32 × zM)) : Nat → Int32 → Option (Int32 × zM)
  | 0, _ => none
  | n + 1, y3 =>
    if (M x0 5) ≤ y3 then
      K
    else
      zb (f_X2_personAt M x0 y3) (fun q6 =>
      if (M q6 0) = x1 then
        some ((-5), M)
      else
        f_X2_enterPerson_l22 M x0 x1 x2 K n (y3 + 1))
def f_X2_enterPerson (I : zM) (x0 : Nat) (x1 : Int32) (x2 : Int32) : Option (Int32 × zM) :=
  zb (f_X2_isName I x1) (fun q1 =>
  if q1 = 0 then
    some ((-1), I)
  else
    if x2 < 0 then
      some ((-1), I)
    else
      if x2 ≤ 9999 then
        f_X2_enterPerson_l22 I x0 x1 x2 (
            if (I x0 5) < 12 then
              zb (f_X2_personAt I x0 (I x0 5)) (fun q9 =>
              zb (f_X3_comeIn I q9 x1 x2) (fun q10 =>
              zlet (ms q10 x0 5 ((q10 x0 5) + 1)) (fun M11 =>
              some (((M11 x0 5) - 1), M11))))
            else
              some ((-3), I)) zFu 0
      else
        some ((-1), I))
def f_X7_stayAtOffice (I : zM) (x0 : Nat) : Option (zM) :=
  zlet (ms I x0 2 (-2)) (fun M1 =>
  zlet (ms M1 x0 3 (-2)) (fun M2 =>
  zlet (ms M2 x0 4 (-2)) (fun M3 =>
  zlet (ms M3 x0 5 0) (fun M4 =>
  some M4))))
def f_X7_isLeased (I : zM) (x0 : Nat) : Option (Int32) :=
  if (I x0 2) < 0 then
    some 0
  else
    some 1
def f_X7_noteLook_j62 (M : zM) (s0 : Int32) (s2 : Int32) (s3 : Nat) : Option (zM) :=
  zb (f_X4_setCell M s3 s2 3 s0) (fun q7 =>
  some q7)
def f_X7_noteLook (I : zM) (x0 : Nat) (x1 : Int32) : Option (zM) :=
  zb (f_X4_append I (x0 + 3)) (fun q1 =>
  zb (f_X4_setCell q1.2 (x0 + 3) q1.1 0 x1) (fun q2 =>
  zb (f_X4_setCell q2 (x0 + 3) q1.1 1 (q2 x0 1)) (fun q3 =>
  zb (f_X4_setCell q3 (x0 + 3) q1.1 2 (q3 x0 6)) (fun q4 =>
  zb (f_X7_isLeased q4 x0) (fun q5 =>
  if q5 = 0 then
    f_X7_noteLook_j62 q4 0 q1.1 (x0 + 3)
  else
    f_X7_noteLook_j62 q4 1 q1.1 (x0 + 3))))))
def f_X7_comeIn (I : zM) (x0 : Nat) (x1 : Int32) (x2 : Int32) : Option (zM) :=
  zlet (ms I x0 0 x1) (fun M1 =>
  zlet (ms M1 x0 1 0) (fun M2 =>
  zlet (ms M2 x0 6 0) (fun M3 =>
  zb (f_X4_clear M3 (x0 + 1)) (fun q4 =>
  zb (f_X4_clear q4 (x0 + 3)) (fun q5 =>
  zb (f_X4_clear q5 (x0 + 5)) (fun q6 =>
  zb (f_X7_stayAtOffice q6 x0) (fun q7 =>
  zb (f_X7_noteLook q7 x0 x2) (fun q8 =>
  some q8))))))))
def f_X2_enterTool (I : zM) (x0 : Nat) (x1 : Int32) : Option (Int32 × zM) :=
  if x1 < 1 then
    some ((-1), I)
  else
    if x1 ≤ 99 then
      if (I x0 6) < 10 then
        zb (f_X2_toolAt I x0 (I x0 6)) (fun q4 =>
        zb (f_X7_comeIn I q4 x1 (I x0 7)) (fun q5 =>
        zlet (ms q5 x0 6 ((q5 x0 6) + 1)) (fun M6 =>
        some (((M6 x0 6) - 1), M6))))
      else
        some ((-3), I)
    else
      some ((-1), I)
def f_X2_haveTwoHolders (I : zM) (x0 : Nat) (x1 : Int32) (x2 : Int32) : Option (Int32) :=
  zb (f_X2_isTool I x0 x1) (fun q1 =>
  if q1 = 0 then
    some 0
  else
    zb (f_X2_isTool I x0 x2) (fun q3 =>
    if q3 = 0 then
      some 0
    else
      zb (f_X2_toolAt I x0 x1) (fun q5 =>
      zb (f_X7_isLeased I q5) (fun q6 =>
      if q6 = 0 then
        some 0
      else
        zb (f_X2_toolAt I x0 x2) (fun q8 =>
        zb (f_X7_isLeased I q8) (fun q9 =>
        if q9 = 0 then
          some 0
        else
          zb (f_X2_toolAt I x0 x1) (fun q11 =>
          zb (f_X2_toolAt I x0 x2) (fun q12 =>
          if (I q11 2) = (I q12 2) then
            some 0
          else
            some 1))))))))
def f_X2_riseOf (I : zM) (x0 : Nat) (x1 : Int32) (x2 : Int32) : Option (Int32) :=
  zb (f_X2_toolAt I x0 x1) (fun q1 =>
  zb (f_X2_personAt I x0 (I q1 2)) (fun q2 =>
  zb (f_X3_wishOf I q2 x2) (fun q3 =>
  zb (f_X3_wishOf I q2 x1) (fun q4 =>
  some (q3 - q4)))))
def f_X2_gainOf (I : zM) (x0 : Nat) (x1 : Int32) (x2 : Int32) : Option (Int32) :=
  zb (f_X2_riseOf I x0 x1 x2) (fun q1 =>
  zb (f_X2_riseOf I x0 x2 x1) (fun q2 =>
  if q1 ≤ 0 then
    some 0
  else
    if q2 ≤ 0 then
      some 0
    else
      some (q1 + q2)))
def f_X2_refuse (I : zM) (x0 : Nat) (x1 : Int32) (x2 : Int32) : Option (Int32 × zM) :=
  zlet (ms I x0 9 x1) (fun M1 =>
  zlet (ms M1 x0 10 x2) (fun M2 =>
  some ((-5), M2)))
def f_X2_whyNotPassed (I : zM) (x0 : Nat) (x1 : Nat) (x2 : Int32) : Option (Int32) :=
  if (I x0 7) ≤ (I x1 4) then
    if (I x1 5) ≤ x2 then
      some 0
    else
      some 2
  else
    some 3
def f_X2_whyNotBothPassed (I : zM) (x0 : Nat) (x1 : Int32) (x2 : Int32) : Option (Int32) :=
  zb (f_X2_toolAt I x0 x1) (fun q1 =>
  zb (f_X2_toolAt I x0 x2) (fun q2 =>
  zb (f_X2_personAt I x0 (I q2 2)) (fun q3 =>
  zb (f_X2_whyNotPassed I x0 q1 (I q3 1)) (fun q4 =>
  if q4 = 0 then
    zb (f_X2_personAt I x0 (I q1 2)) (fun q6 =>
    zb (f_X2_whyNotPassed I x0 q2 ((I q6 1) + (I q1 5))) (fun q7 =>
    some q7))
  else
    some q4))))
def f_X7_endLink (I : zM) (x0 : Nat) (x1 : Int32) : Option (zM) :=
  zb (f_X4_size I (x0 + 1)) (fun q1 =>
  zb (f_X4_setCell I (x0 + 1) (q1 - 1) 2 x1) (fun q2 =>
  some q2))
def f_X7_goTo (I : zM) (x0 : Nat) (x1 : Int32) (x2 : Int32) : Option (zM) :=
  zlet (ms I x0 2 x1) (fun M1 =>
  zlet (ms M1 x0 3 x2) (fun M2 =>
  zb (f_X4_append M2 (x0 + 1)) (fun q3 =>
  zb (f_X4_setCell q3.2 (x0 + 1) q3.1 0 x1) (fun q4 =>
  zb (f_X4_setCell q4 (x0 + 1) q3.1 1 x2) (fun q5 =>
  zb (f_X4_setCell q5 (x0 + 1) q3.1 2 (-2)) (fun q6 =>
  zlet (ms q6 x0 6 ((q6 x0 6) + 1)) (fun M7 =>
  some M7)))))))
def f_X2_handOver (I : zM) (x0 : Nat) (x1 : Nat) (x2 : Int32) : Option (zM) :=
  zb (f_X2_personAt I x0 x2) (fun q1 =>
  zlet (ms I q1 1 ((I q1 1) - (I x1 5))) (fun M2 =>
  zb (f_X2_personAt M2 x0 (M2 x1 2)) (fun q3 =>
  zlet (ms M2 q3 1 ((M2 q3 1) + (M2 x1 5))) (fun M4 =>
  zb (f_X7_endLink M4 x1 (M4 x0 7)) (fun q5 =>
  zb (f_X7_goTo q5 x1 x2 (q5 x0 7)) (fun q6 =>
  some q6))))))
def f_X2_exchange (I : zM) (x0 : Nat) (x1 : Int32) (x2 : Int32) : Option (Int32 × zM) :=
  zb (f_X2_haveTwoHolders I x0 x1 x2) (fun q1 =>
  if q1 = 0 then
    some ((-1), I)
  else
    zb (f_X2_gainOf I x0 x1 x2) (fun q3 =>
    if q3 = 0 then
      zb (f_X2_refuse I x0 4 0) (fun q14 =>
      some (q14.1, q14.2))
    else
      zb (f_X2_whyNotBothPassed I x0 x1 x2) (fun q5 =>
      if q5 = 0 then
        zb (f_X2_toolAt I x0 x1) (fun q7 =>
        zb (f_X2_toolAt I x0 x1) (fun q8 =>
        zb (f_X2_toolAt I x0 x2) (fun q9 =>
        zb (f_X2_handOver I x0 q8 (I q9 2)) (fun q10 =>
        zb (f_X2_toolAt q10 x0 x2) (fun q11 =>
        zb (f_X2_handOver q10 x0 q11 (I q7 2)) (fun q12 =>
        some (q3, q12)))))))
      else
        zb (f_X2_refuse I x0 5 q5) (fun q13 =>
        some (q13.1, q13.2)))))
def f_X7_wearSinceLook (I : zM) (x0 : Nat) : Option (Int32) :=
  zb (f_X4_size I (x0 + 3)) (fun q1 =>
  zb (f_X4_cell I (x0 + 3) (q1 - 1) 1) (fun q2 =>
  some ((I x0 1) - q2)))
def f_X7_cost (I : zM) (x0 : Nat) : Option (Int32) :=
  zb (f_X7_wearSinceLook I x0) (fun q1 =>
  zlet (if q1 < 0 then 0 else q1) (fun w2 =>
  some (((I x0 0) * w2) / 9)))
def f_X3_payOrOwe (I : zM) (x0 : Nat) (x1 : Int32) : Option (Int32 × zM) :=
  zlet (if x1 < (I x0 1) then x1 else (I x0 1)) (fun w1 =>
  zlet (ms I x0 1 ((I x0 1) - w1)) (fun M2 =>
  zlet (ms M2 x0 4 ((M2 x0 4) + (x1 - w1))) (fun M3 =>
  some (w1, M3))))
def f_X3_loseTrust (I : zM) (x0 : Nat) (x1 : Int32) : Option (zM) :=
  zlet (if ((I x0 2) - x1) < 0 then 0 else ((I x0 2) - x1)) (fun w1 =>
  zlet (ms I x0 2 w1) (fun M2 =>
  some M2))
def f_X2_lookAt_l52 (x0 : Nat) (y3 : Int32) (y4 : Int32) (K : zM → Option (Int32 × zM)) : Nat → zM → Int32 → Option (Int32 × zM)
  | 0, _, _ => none
  | n + 1, M, y5 =>
    zb (f_X0_size M (x0 + 12)) (fun q9 =>
    if q9 ≤ y5 then
      K M
    else
      zb (f_X0_personAt M (x0 + 12) y5) (fun q11 =>
      zb (f_X2_personAt M x0 q11) (fun q12 =>
      zb (f_X0_personAt M (x0 + 12) y5) (fun q13 =>
      zb (f_X0_shareOf M (x0 + 12) q13 y4) (fun q14 =>
      zb (f_X3_payOrOwe M q12 q14) (fun q15 =>
      zlet (ms q15.2 x0 8 ((M x0 8) + q15.1)) (fun M16 =>
      zb (f_X3_loseTrust M16 q12 y3) (fun q17 =>
      f_X2_lookAt_l52 x0 y3 y4 K n q17 (y5 + 1)))))))))
def f_X2_lookAt (I : zM) (x0 : Nat) (x1 : Int32) : Option (Int32 × zM) :=
  zb (f_X2_isTool I x0 x1) (fun q1 =>
  if q1 = 0 then
    some ((-1), I)
  else
    zb (f_X2_toolAt I x0 x1) (fun q3 =>
    zb (f_X7_wearSinceLook I q3) (fun q4 =>
    zb (f_X7_cost I q3) (fun q5 =>
    zb (f_X0_findFor I (x0 + 12) q3) (fun q6 =>
    zb (f_X7_noteLook q6 q3 (q6 x0 7)) (fun q7 =>
    if 0 < q4 then
      f_X2_lookAt_l52 x0 q4 q5 (fun M18 => 
          zb (f_X0_size M18 (x0 + 12)) (fun q19 =>
          some (q19, M18))) zFu q7 0
    else
      some (0, q7)))))))
def f_X7_daysLateOn (I : zM) (x0 : Nat) (x1 : Int32) : Option (Int32) :=
  zb (f_X7_isLeased I x0) (fun q1 =>
  if q1 = 0 then
    some 0
  else
    zlet (if (x1 - (I x0 4)) < 0 then 0 else (x1 - (I x0 4))) (fun w3 =>
    some w3))
def f_X7_feeOn (I : zM) (x0 : Nat) (x1 : Int32) : Option (Int32) :=
  zb (f_X7_daysLateOn I x0 x1) (fun q1 =>
  zlet (if (I x0 5) < (q1 * (1 + ((I x0 0) / 10))) then (I x0 5) else (q1 * (1 + ((I x0 0) / 10)))) (fun w2 =>
  some w2))
def f_X3_gainTrust (I : zM) (x0 : Nat) (x1 : Int32) : Option (zM) :=
  zlet (if 99 < ((I x0 2) + x1) then 99 else ((I x0 2) + x1)) (fun w1 =>
  zlet (ms I x0 2 w1) (fun M2 =>
  some M2))
def f_X2_handOut (I : zM) (x0 : Nat) (x1 : Nat) (x2 : Int32) (x3 : Int32) : Option (zM) :=
  zb (f_X2_personAt I x0 x2) (fun q1 =>
  zlet (ms I q1 1 ((I q1 1) - (I x1 0))) (fun M2 =>
  zlet (ms M2 x1 5 (M2 x1 0)) (fun M3 =>
  zlet (ms M3 x1 4 ((M3 x0 7) + x3)) (fun M4 =>
  zb (f_X7_goTo M4 x1 x2 (M4 x0 7)) (fun q5 =>
  some q5)))))
def f_X2_offer (I : zM) (x0 : Nat) (x1 : Nat) : Option (zM) :=
  zb (f_X2_claimServed I x0 x1) (fun q1 =>
  if q1 < 0 then
    some I
  else
    zb (f_X4_cell I (x1 + 5) q1 0) (fun q3 =>
    zb (f_X4_cell I (x1 + 5) q1 2) (fun q4 =>
    zb (f_X4_remove I (x1 + 5) q1) (fun q5 =>
    zb (f_X2_handOut q5 x0 x1 q3 q4) (fun q6 =>
    some q6)))))
def f_X2_giveBack_j112 (M : zM) (x0 : Nat) (y2 : Nat) (y4 : Int32) : Option (Int32 × zM) :=
  zb (f_X7_endLink M y2 (M x0 7)) (fun q14 =>
  zb (f_X7_stayAtOffice q14 y2) (fun q15 =>
  zb (f_X2_offer q15 x0 y2) (fun q16 =>
  some (y4, q16))))
def f_X2_giveBack (I : zM) (x0 : Nat) (x1 : Int32) : Option (Int32 × zM) :=
  zb (f_X2_isTool I x0 x1) (fun q1 =>
  if q1 = 0 then
    some ((-1), I)
  else
    zb (f_X2_toolAt I x0 x1) (fun q3 =>
    zb (f_X7_isLeased I q3) (fun q4 =>
    if q4 = 0 then
      some ((-5), I)
    else
      zb (f_X2_lookAt I x0 x1) (fun q6 =>
      zb (f_X2_personAt q6.2 x0 (q6.2 q3 2)) (fun q7 =>
      zb (f_X7_feeOn q6.2 q3 (q6.2 x0 7)) (fun q8 =>
      zlet (ms q6.2 x0 8 ((q6.2 x0 8) + q8)) (fun M9 =>
      zlet (ms M9 q7 1 ((M9 q7 1) + ((M9 q3 5) - q8))) (fun M10 =>
      zb (f_X7_daysLateOn M10 q3 (M10 x0 7)) (fun q11 =>
      if q11 ≤ 0 then
        zb (f_X3_gainTrust M10 q7 1) (fun q13 =>
        f_X2_giveBack_j112 q13 x0 q3 q8)
      else
        zlet (ms M10 q7 3 ((M10 q7 3) + 1)) (fun M17 =>
        zb (f_X3_loseTrust M17 q7 5) (fun q18 =>
        f_X2_giveBack_j112 q18 x0 q3 q8)))))))))))
def f_X2_leaseTo_j54 (M : zM) (x0 : Nat) : Option (Int32 × zM) :=
  zb (f_X2_refuse M x0 1 0) (fun q10 =>
  some (q10.1, q10.2))
def f_X2_leaseTo (I : zM) (x0 : Nat) (x1 : Int32) (x2 : Int32) (x3 : Int32) : Option (Int32 × zM) :=
  zb (f_X2_isPerson I x0 x1) (fun q1 =>
  if q1 = 0 then
    some ((-1), I)
  else
    zb (f_X2_isTool I x0 x2) (fun q3 =>
    if q3 = 0 then
      some ((-1), I)
    else
      if x3 < 1 then
        some ((-1), I)
      else
        if x3 ≤ 30 then
          zb (f_X2_toolAt I x0 x2) (fun q7 =>
          zb (f_X7_isLeased I q7) (fun q8 =>
          if q8 = 0 then
            if (I q7 1) < 9 then
              zb (f_X2_personAt I x0 x1) (fun q12 =>
              if (I q7 0) ≤ (I q12 1) then
                zb (f_X2_handOut I x0 q7 x1 x3) (fun q14 =>
                some ((q14 q7 4), q14))
              else
                zb (f_X2_refuse I x0 2 0) (fun q15 =>
                some (q15.1, q15.2)))
            else
              f_X2_leaseTo_j54 I x0
          else
            f_X2_leaseTo_j54 I x0))
        else
          some ((-1), I)))
def f_X2_passDays (I : zM) (x0 : Nat) (x1 : Int32) : Option (Int32 × zM) :=
  if x1 < 1 then
    some ((-1), I)
  else
    if x1 ≤ 99 then
      zlet (ms I x0 7 ((I x0 7) + x1)) (fun M3 =>
      some ((M3 x0 7), M3))
    else
      some ((-1), I)
def f_X2_passOn (I : zM) (x0 : Nat) (x1 : Int32) (x2 : Int32) : Option (Int32 × zM) :=
  zb (f_X2_isTool I x0 x1) (fun q1 =>
  if q1 = 0 then
    some ((-1), I)
  else
    zb (f_X2_isPerson I x0 x2) (fun q3 =>
    if q3 = 0 then
      some ((-1), I)
    else
      zb (f_X2_toolAt I x0 x1) (fun q5 =>
      if (I q5 2) = x2 then
        some ((-1), I)
      else
        zb (f_X2_toolAt I x0 x1) (fun q7 =>
        zb (f_X7_isLeased I q7) (fun q8 =>
        if q8 = 0 then
          some ((-5), I)
        else
          zb (f_X2_personAt I x0 x2) (fun q10 =>
          zb (f_X2_whyNotPassed I x0 q7 (I q10 1)) (fun q11 =>
          if q11 = 0 then
            zb (f_X2_handOver I x0 q7 x2) (fun q13 =>
            some (1, q13))
          else
            zb (f_X2_refuse I x0 6 q11) (fun q14 =>
            some (q14.1, q14.2)))))))))
def f_X3_nameAsThreeLetters (I : zM) (x0 : Nat) : Option (Int32) :=
  if 27 ≤ (I x0 0) then
    if 729 ≤ (I x0 0) then
      some (I x0 0)
    else
      some ((I x0 0) * 27)
  else
    some (((I x0 0) * 27) * 27)
def f_X3_goesAheadOf (I : zM) (x0 : Nat) (x1 : Nat) : Option (Int32) :=
  if (I x0 2) = (I x1 2) then
    if (I x0 3) = (I x1 3) then
      zb (f_X3_nameAsThreeLetters I x0) (fun q3 =>
      zb (f_X3_nameAsThreeLetters I x1) (fun q4 =>
      if q4 ≤ q3 then
        some 0
      else
        some 1))
    else
      if (I x1 3) ≤ (I x0 3) then
        some 0
      else
        some 1
  else
    if (I x0 2) ≤ (I x1 2) then
      some 0
    else
      some 1
def f_X2_placeInRank_l4 (I : zM) (x0 : Nat) (x1 : Int32) : Nat → Int32 → Int32 → Option (Int32)
  | 0, _, _ => none
  | n + 1, y2, y3 =>
    if (I x0 5) ≤ y3 then
      some y2
    else
      zb (f_X2_personAt I x0 y3) (fun q2 =>
      zb (f_X2_personAt I x0 x1) (fun q3 =>
      zb (f_X3_goesAheadOf I q2 q3) (fun q4 =>
      if q4 = 0 then
        f_X2_placeInRank_l4 I x0 x1 n y2 (y3 + 1)
      else
        f_X2_placeInRank_l4 I x0 x1 n (y2 + 1) (y3 + 1))))
def f_X2_placeInRank (I : zM) (x0 : Nat) (x1 : Int32) : Option (Int32) :=
  f_X2_placeInRank_l4 I x0 x1 zFu 0 0
def f_X2_personAtRank_l2 (I : zM) (x0 : Nat) (x1 : Int32) : Nat → Int32 → Option (Int32)
  | 0, _ => none
  | n + 1, y2 =>
    if (I x0 5) ≤ y2 then
      some (-2)
    else
      zb (f_X2_placeInRank I x0 y2) (fun q2 =>
      if q2 = x1 then
        some y2
      else
        f_X2_personAtRank_l2 I x0 x1 n (y2 + 1))
def f_X2_personAtRank (I : zM) (x0 : Nat) (x1 : Int32) : Option (Int32) :=
  f_X2_personAtRank_l2 I x0 x1 zFu 0
def f_X2_setWish (I : zM) (x0 : Nat) (x1 : Int32) (x2 : Int32) (x3 : Int32) : Option (Int32 × zM) :=
  zb (f_X2_isPerson I x0 x1) (fun q1 =>
  if q1 = 0 then
    some ((-1), I)
  else
    zb (f_X2_isTool I x0 x2) (fun q3 =>
    if q3 = 0 then
      some ((-1), I)
    else
      if x3 < 0 then
        some ((-1), I)
      else
        if x3 ≤ 9 then
          zb (f_X2_personAt I x0 x1) (fun q7 =>
          zb (f_X3_wishOf I q7 x2) (fun q8 =>
          zb (f_X2_personAt I x0 x1) (fun q9 =>
          zb (f_X3_setWishOf I q9 x2 x3) (fun q10 =>
          some (q8, q10)))))
        else
          some ((-1), I)))
def f_X2_toolsWith_l4 (I : zM) (x0 : Nat) (x1 : Int32) : Nat → Int32 → Int32 → Option (Int32)
  | 0, _, _ => none
  | n + 1, y2, y3 =>
    if (I x0 6) ≤ y3 then
      some y2
    else
      zb (f_X2_toolAt I x0 y3) (fun q2 =>
      if (I q2 2) = x1 then
        f_X2_toolsWith_l4 I x0 x1 n (y2 + 1) (y3 + 1)
      else
        f_X2_toolsWith_l4 I x0 x1 n y2 (y3 + 1))
def f_X2_toolsWith (I : zM) (x0 : Nat) (x1 : Int32) : Option (Int32) :=
  f_X2_toolsWith_l4 I x0 x1 zFu 0 0
def f_X2_wearDown (I : zM) (x0 : Nat) (x1 : Int32) (x2 : Int32) : Option (Int32 × zM) :=
  zb (f_X2_isTool I x0 x1) (fun q1 =>
  if q1 = 0 then
    some ((-1), I)
  else
    if x2 < 1 then
      some ((-1), I)
    else
      if x2 ≤ 9 then
        zb (f_X2_toolAt I x0 x1) (fun q5 =>
        zb (f_X7_isLeased I q5) (fun q6 =>
        if q6 = 0 then
          some ((-5), I)
        else
          zlet (if 9 < ((I q5 1) + x2) then 9 else ((I q5 1) + x2)) (fun w8 =>
          zlet (ms I q5 1 w8) (fun M9 =>
          some ((M9 q5 1), M9)))))
      else
        some ((-1), I))
def f_X5_nextByte (I : zM) : Option (Int32) :=
  zb (f_X4_size I 332) (fun q1 =>
  if q1 ≤ (I 334 2) then
    some (-1)
  else
    zb (f_X4_cell I 332 (I 334 2) 0) (fun q3 =>
    some q3))
def f_X5_partsOf (I : zM) (x0 : Int32) : Option (Int32) :=
  if x0 = 99 then
    some 4
  else if x0 = 100 then
    some 1
  else if x0 = 103 then
    some 2
  else if x0 = 107 then
    some 1
  else if x0 = 108 then
    some 3
  else if x0 = 112 then
    some 2
  else if x0 = 114 then
    some 1
  else if x0 = 115 then
    some 2
  else if x0 = 116 then
    some 1
  else if x0 = 117 then
    some 2
  else if x0 = 119 then
    some 3
  else some 0
def f_X5_readByte (I : zM) (x1 : Int32) : Option (Int32 × zM) :=
  zb (f_X5_nextByte I) (fun q1 =>
  if q1 = x1 then
    zlet (ms I 334 2 ((I 334 2) + 1)) (fun M3 =>
    some (1, M3))
  else
    some (0, I))
def f_X5_readPart_l32 (x1 : Int32) (x2 : Int32) (x3 : Int32) (y4 : Int32) (y5 : Int32) (K : zM → Int32 → Int32 → Option (Int32 × zM)) : Nat → zM → Int32 → Int32 → Option (Int32 × zM)
  | 0, _, _, _ => none
  | n + 1, M, y6, y7 =>
    if 3 ≤ y7 then
      K M y6 y7
    else
      zb (f_X5_nextByte M) (fun q4 =>
      if q4 < y4 then
        K M y6 y7
      else
        zb (f_X5_nextByte M) (fun q6 =>
        if y5 < q6 then
          K M y6 y7
        else
          if x3 = 0 then
            zb (f_X5_nextByte M) (fun q9 =>
            zlet (((y6 * 10) + q9) - 48) (fun w10 =>
            zlet (ms M 334 2 ((M 334 2) + 1)) (fun M11 =>
            f_X5_readPart_l32 x1 x2 x3 y4 y5 K n M11 w10 (y7 + 1))))
          else
            zb (f_X5_nextByte M) (fun q12 =>
            zlet ((((y6 * 27) + q12) - 97) + 1) (fun w13 =>
            zlet (ms M 334 2 ((M 334 2) + 1)) (fun M14 =>
            f_X5_readPart_l32 x1 x2 x3 y4 y5 K n M14 w13 (y7 + 1))))))
def f_X5_readPart_j109 (M : zM) (x1 : Int32) (x2 : Int32) (y6 : Int32) (y7 : Int32) : Option (Int32 × zM) :=
  zb (f_X4_setCell M 335 x1 x2 y6) (fun q18 =>
  if y7 ≤ 0 then
    some (0, q18)
  else
    some (1, q18))
def f_X5_readPart_j24 (M : zM) (x1 : Int32) (x2 : Int32) (x3 : Int32) (y4 : Int32) (s0 : Int32) : Option (Int32 × zM) :=
  f_X5_readPart_l32 x1 x2 x3 y4 s0 (fun M15 z16 z17 => 
      f_X5_readPart_j109 M15 x1 x2 z16 z17) zFu M 0 0
def f_X5_readPart_j11 (M : zM) (x1 : Int32) (x2 : Int32) (x3 : Int32) (s0 : Int32) : Option (Int32 × zM) :=
  if x3 = 0 then
    f_X5_readPart_j24 M x1 x2 x3 s0 57
  else
    f_X5_readPart_j24 M x1 x2 x3 s0 122
def f_X5_readPart (I : zM) (x1 : Int32) (x2 : Int32) (x3 : Int32) : Option (Int32 × zM) :=
  if x3 = 0 then
    f_X5_readPart_j11 I x1 x2 x3 48
  else
    f_X5_readPart_j11 I x1 x2 x3 97
def f_X5_readLine_l47 (y1 : Int32) (y2 : Int32) (y3 : Int32) : Nat → zM → Int32 → Option (Int32 × zM)
  | 0, _, _ => none
  | n + 1, M, y4 =>
    if y2 ≤ y4 then
      some (1, M)
    else
      if y1 = 112 then
        if y4 = 0 then
          zb (f_X5_readByte M 32) (fun q18 =>
          if q18.1 = 0 then
            some (0, q18.2)
          else
            zb (f_X5_readPart q18.2 y3 (1 + y4) 1) (fun q20 =>
            if q20.1 = 0 then
              some (0, q20.2)
            else
              f_X5_readLine_l47 y1 y2 y3 n q20.2 (y4 + 1)))
        else
          zb (f_X5_readByte M 32) (fun q14 =>
          if q14.1 = 0 then
            some (0, q14.2)
          else
            zb (f_X5_readPart q14.2 y3 (1 + y4) 0) (fun q16 =>
            if q16.1 = 0 then
              some (0, q16.2)
            else
              f_X5_readLine_l47 y1 y2 y3 n q16.2 (y4 + 1)))
      else
        zb (f_X5_readByte M 32) (fun q9 =>
        if q9.1 = 0 then
          some (0, q9.2)
        else
          zb (f_X5_readPart q9.2 y3 (1 + y4) 0) (fun q11 =>
          if q11.1 = 0 then
            some (0, q11.2)
          else
            f_X5_readLine_l47 y1 y2 y3 n q11.2 (y4 + 1)))
def f_X5_readLine (I : zM) : Option (Int32 × zM) :=
  zb (f_X5_nextByte I) (fun q1 =>
  zb (f_X5_partsOf I q1) (fun q2 =>
  if q2 = 0 then
    some (0, I)
  else
    zlet (ms I 334 2 ((I 334 2) + 1)) (fun M4 =>
    zb (f_X4_append M4 335) (fun q5 =>
    zb (f_X4_setCell q5.2 335 q5.1 0 q1) (fun q6 =>
    f_X5_readLine_l47 q1 q2 q5.1 zFu q6 0)))))
def f_X5_readText_l19 : Nat → zM → Int32 → Int32 → Option (Int32 × zM)
  | 0, _, _, _ => none
  | n + 1, M, y1, y2 =>
    if 120 ≤ y2 then
      zck (zbo y1) (some (y1, M))
    else
      if y1 = 0 then
        zck (zbo y1) (some (y1, M))
      else
        zb (f_X4_size M 332) (fun q8 =>
        if q8 ≤ (M 334 2) then
          zck (zbo y1) (some (y1, M))
        else
          zb (f_X5_readByte M 59) (fun q11 =>
          if q11.1 = 0 then
            f_X5_readText_l19 n q11.2 0 (y2 + 1)
          else
            zb (f_X5_readLine q11.2) (fun q13 =>
            if q13.1 = 0 then
              f_X5_readText_l19 n q13.2 0 (y2 + 1)
            else
              f_X5_readText_l19 n q13.2 1 (y2 + 1))))
def f_X5_readText (I : zM) : Option (Int32 × zM) :=
  zb (f_X4_clear I 335) (fun q1 =>
  zlet (ms q1 334 2 0) (fun M2 =>
  zb (f_X5_readLine M2) (fun q3 =>
  f_X5_readText_l19 zFu q3.2 q3.1 0)))
def f_X6_allCoins_l10 (I : zM) (K : Int32 → Option (Int32)) : Nat → Int32 → Int32 → Option (Int32)
  | 0, _, _ => none
  | n + 1, y1, y2 =>
    if (I 1 5) ≤ y2 then
      K y1
    else
      zb (f_X2_personAt I 1 y2) (fun q2 =>
      zlet (y1 + (I q2 1)) (fun w3 =>
      f_X6_allCoins_l10 I K n w3 (y2 + 1)))
def f_X6_allCoins_l43 (I : zM) : Nat → Int32 → Int32 → Option (Int32)
  | 0, _, _ => none
  | n + 1, y1, y2 =>
    if (I 1 6) ≤ y2 then
      some y1
    else
      zb (f_X2_toolAt I 1 y2) (fun q6 =>
      zlet (y1 + (I q6 5)) (fun w7 =>
      f_X6_allCoins_l43 I n w7 (y2 + 1)))
def f_X6_allCoins (I : zM) : Option (Int32) :=
  f_X6_allCoins_l10 I (fun z4 => 
      f_X6_allCoins_l43 I zFu z4 0) zFu (I 1 8) 0
def f_X6_allDebts_l4 (I : zM) : Nat → Int32 → Int32 → Option (Int32)
  | 0, _, _ => none
  | n + 1, y1, y2 =>
    if (I 1 5) ≤ y2 then
      some y1
    else
      zb (f_X2_personAt I 1 y2) (fun q2 =>
      zlet (y1 + (I q2 4)) (fun w3 =>
      f_X6_allDebts_l4 I n w3 (y2 + 1)))
def f_X6_allDebts (I : zM) : Option (Int32) :=
  f_X6_allDebts_l4 I zFu 0 0
def f_X6_canBeSwapped (I : zM) (x1 : Int32) (x2 : Int32) : Option (Int32) :=
  zb (f_X2_haveTwoHolders I 1 x1 x2) (fun q1 =>
  if q1 = 0 then
    some 0
  else
    zb (f_X2_gainOf I 1 x1 x2) (fun q3 =>
    if q3 ≤ 0 then
      some 0
    else
      zb (f_X2_whyNotBothPassed I 1 x1 x2) (fun q5 =>
      if q5 = 0 then
        some 1
      else
        some 0)))
def f_X6_bestSwap_l23 (I : zM) (y3 : Int32) (K : Int32 → Int32 → Option (Int32)) : Nat → Int32 → Int32 → Int32 → Option (Int32)
  | 0, _, _, _ => none
  | n + 1, y1, y2, y4 =>
    if (I 1 6) ≤ y4 then
      K y1 y2
    else
      zb (f_X2_gainOf I 1 y3 y4) (fun q4 =>
      if q4 ≤ y2 then
        f_X6_bestSwap_l23 I y3 K n y1 y2 (y4 + 1)
      else
        zb (f_X6_canBeSwapped I y3 y4) (fun q6 =>
        if q6 = 0 then
          f_X6_bestSwap_l23 I y3 K n y1 y2 (y4 + 1)
        else
          zb (f_X2_gainOf I 1 y3 y4) (fun q8 =>
          zlet ((10 * y3) + y4) (fun w9 =>
          f_X6_bestSwap_l23 I y3 K n w9 q8 (y4 + 1)))))
def f_X6_bestSwap_l7 (I : zM) : Nat → Int32 → Int32 → Int32 → Option (Int32)
  | 0, _, _, _ => none
  | n + 1, y1, y2, y3 =>
    if (I 1 6) ≤ y3 then
      some y1
    else
      zlet (y3 + 1) (fun w2 =>
      f_X6_bestSwap_l23 I y3 (fun z10 z11 => 
          f_X6_bestSwap_l7 I n z10 z11 (y3 + 1)) zFu y1 y2 w2)
def f_X6_bestSwap (I : zM) : Option (Int32) :=
  f_X6_bestSwap_l7 I zFu (-2) 0 0
def f_X6_claimCount_l4 (I : zM) : Nat → Int32 → Int32 → Option (Int32)
  | 0, _, _ => none
  | n + 1, y1, y2 =>
    if (I 1 6) ≤ y2 then
      some y1
    else
      zb (f_X2_toolAt I 1 y2) (fun q2 =>
      zb (f_X4_size I (q2 + 5)) (fun q3 =>
      zlet (y1 + q3) (fun w4 =>
      f_X6_claimCount_l4 I n w4 (y2 + 1))))
def f_X6_claimCount (I : zM) : Option (Int32) :=
  f_X6_claimCount_l4 I zFu 0 0
def f_X6_feesOn_l4 (I : zM) (x1 : Int32) : Nat → Int32 → Int32 → Option (Int32)
  | 0, _, _ => none
  | n + 1, y2, y3 =>
    if (I 1 6) ≤ y3 then
      some y2
    else
      zb (f_X2_toolAt I 1 y3) (fun q2 =>
      zb (f_X7_feeOn I q2 x1) (fun q3 =>
      zlet (y2 + q3) (fun w4 =>
      f_X6_feesOn_l4 I x1 n w4 (y3 + 1))))
def f_X6_feesOn (I : zM) (x1 : Int32) : Option (Int32) :=
  f_X6_feesOn_l4 I x1 zFu 0 0
def f_X6_leasedCount_l4 (I : zM) : Nat → Int32 → Int32 → Option (Int32)
  | 0, _, _ => none
  | n + 1, y1, y2 =>
    if (I 1 6) ≤ y2 then
      some y1
    else
      zb (f_X2_toolAt I 1 y2) (fun q2 =>
      zb (f_X7_isLeased I q2) (fun q3 =>
      if q3 = 0 then
        f_X6_leasedCount_l4 I n y1 (y2 + 1)
      else
        f_X6_leasedCount_l4 I n (y1 + 1) (y2 + 1)))
def f_X6_leasedCount (I : zM) : Option (Int32) :=
  f_X6_leasedCount_l4 I zFu 0 0
def f_X6_nextOf (I : zM) (x1 : Int32) : Option (Int32) :=
  zb (f_X2_toolAt I 1 x1) (fun q1 =>
  zb (f_X2_claimServed I 1 q1) (fun q2 =>
  if 0 ≤ q2 then
    zb (f_X4_cell I (q1 + 5) q2 0) (fun q4 =>
    some q4)
  else
    some (-2)))
def f_X6_wishesMore (I : zM) (x1 : Int32) (x2 : Int32) : Option (Int32) :=
  zb (f_X2_haveTwoHolders I 1 x1 x2) (fun q1 =>
  if q1 = 0 then
    some 0
  else
    zb (f_X2_riseOf I 1 x1 x2) (fun q3 =>
    if q3 ≤ 0 then
      some 0
    else
      some 1))
def f_X6_ringsOver_l7 (I : zM) (x1 : Int32) (x2 : Int32) : Nat → Int32 → Int32 → Option (Int32)
  | 0, _, _ => none
  | n + 1, y3, y4 =>
    if (I 1 6) ≤ y4 then
      some y3
    else
      zb (f_X6_wishesMore I x2 y4) (fun q3 =>
      if q3 = 0 then
        f_X6_ringsOver_l7 I x1 x2 n y3 (y4 + 1)
      else
        zb (f_X6_wishesMore I y4 x1) (fun q5 =>
        if q5 = 0 then
          f_X6_ringsOver_l7 I x1 x2 n y3 (y4 + 1)
        else
          f_X6_ringsOver_l7 I x1 x2 n (y3 + 1) (y4 + 1)))
def f_X6_ringsOver (I : zM) (x1 : Int32) (x2 : Int32) : Option (Int32) :=
  zlet (x1 + 1) (fun w1 =>
  f_X6_ringsOver_l7 I x1 x2 zFu 0 w1)
def f_X6_ringsNow_l19 (I : zM) (y2 : Int32) (K : Int32 → Option (Int32)) : Nat → Int32 → Int32 → Option (Int32)
  | 0, _, _ => none
  | n + 1, y1, y3 =>
    if (I 1 6) ≤ y3 then
      K y1
    else
      zb (f_X6_wishesMore I y2 y3) (fun q4 =>
      if q4 = 0 then
        f_X6_ringsNow_l19 I y2 K n y1 (y3 + 1)
      else
        zb (f_X6_ringsOver I y2 y3) (fun q6 =>
        zlet (y1 + q6) (fun w7 =>
        f_X6_ringsNow_l19 I y2 K n w7 (y3 + 1))))
def f_X6_ringsNow_l4 (I : zM) : Nat → Int32 → Int32 → Option (Int32)
  | 0, _, _ => none
  | n + 1, y1, y2 =>
    if (I 1 6) ≤ y2 then
      some y1
    else
      zlet (y2 + 1) (fun w2 =>
      f_X6_ringsNow_l19 I y2 (fun z8 => 
          f_X6_ringsNow_l4 I n z8 (y2 + 1)) zFu y1 w2)
def f_X6_ringsNow (I : zM) : Option (Int32) :=
  f_X6_ringsNow_l4 I zFu 0 0
def f_X6_shareOf (I : zM) (x1 : Int32) (x2 : Int32) : Option (Int32 × zM) :=
  zb (f_X2_toolAt I 1 x1) (fun q1 =>
  zb (f_X0_findFor I 329 q1) (fun q2 =>
  zb (f_X7_cost q2 q1) (fun q3 =>
  zb (f_X0_shareOf q2 329 x2 q3) (fun q4 =>
  some (q4, q2)))))
def f_X6_suspectsOf (I : zM) (x1 : Int32) : Option (Int32 × zM) :=
  zb (f_X2_toolAt I 1 x1) (fun q1 =>
  zb (f_X0_findFor I 329 q1) (fun q2 =>
  zb (f_X0_bits q2 329) (fun q3 =>
  some (q3, q2))))
def f_X6_swapsNow_l19 (I : zM) (y2 : Int32) (K : Int32 → Option (Int32)) : Nat → Int32 → Int32 → Option (Int32)
  | 0, _, _ => none
  | n + 1, y1, y3 =>
    if (I 1 6) ≤ y3 then
      K y1
    else
      zb (f_X6_canBeSwapped I y2 y3) (fun q4 =>
      if q4 = 0 then
        f_X6_swapsNow_l19 I y2 K n y1 (y3 + 1)
      else
        f_X6_swapsNow_l19 I y2 K n (y1 + 1) (y3 + 1))
def f_X6_swapsNow_l4 (I : zM) : Nat → Int32 → Int32 → Option (Int32)
  | 0, _, _ => none
  | n + 1, y1, y2 =>
    if (I 1 6) ≤ y2 then
      some y1
    else
      zlet (y2 + 1) (fun w2 =>
      f_X6_swapsNow_l19 I y2 (fun z6 => 
          f_X6_swapsNow_l4 I n z6 (y2 + 1)) zFu y1 w2)
def f_X6_swapsNow (I : zM) : Option (Int32) :=
  f_X6_swapsNow_l4 I zFu 0 0
def f_X6_toolsDueBefore_l4 (I : zM) (x1 : Int32) : Nat → Int32 → Int32 → Option (Int32)
  | 0, _, _ => none
  | n + 1, y2, y3 =>
    if (I 1 6) ≤ y3 then
      some y2
    else
      zb (f_X2_toolAt I 1 y3) (fun q2 =>
      zb (f_X7_daysLateOn I q2 x1) (fun q3 =>
      if q3 ≤ 0 then
        f_X6_toolsDueBefore_l4 I x1 n y2 (y3 + 1)
      else
        f_X6_toolsDueBefore_l4 I x1 n (y2 + 1) (y3 + 1)))
def f_X6_toolsDueBefore (I : zM) (x1 : Int32) : Option (Int32) :=
  f_X6_toolsDueBefore_l4 I x1 zFu 0 0
def f_X8_ahead (I : zM) (x1 : Int32) (x2 : Int32) : Option (Int32) :=
  if x1 < 0 then
    some (-1)
  else
    if x1 ≤ 60 then
      if x2 = 0 then
        zb (f_X6_toolsDueBefore I ((I 1 7) + x1)) (fun q3 =>
        some q3)
      else if x2 = 1 then
        zb (f_X6_feesOn I ((I 1 7) + x1)) (fun q4 =>
        some q4)
      else some (-1)
    else
      some (-1)
def f_X8_holderAt (I : zM) (x1 : Int32) : Option (Nat) :=
  if x1 < 0 then
    some (338)
  else
    if 6 ≤ x1 then
      some (338)
    else
      zck (zin x1 6) (
      some (341 + 3 * x1.toNatClampNeg))
def f_X8_back_l23 : Nat → zM → Int32 → Option (Int32 × zM)
  | 0, _, _ => none
  | n + 1, M, y1 =>
    if 6 ≤ y1 then
      some ((M 1 7), M)
    else
      zb (f_X8_holderAt M y1) (fun q4 =>
      if (M q4 0) = 1 then
        zb (f_X2_isPerson M 1 (M q4 1)) (fun q16 =>
        if q16 = 0 then
          if (M q4 0) = 2 then
            zb (f_X2_isTool M 1 (M q4 1)) (fun q31 =>
            if q31 = 0 then
              zb (f_X1_take M q4 0 0) (fun q36 =>
              f_X8_back_l23 n q36 (y1 + 1))
            else
              zb (f_X1_take M q4 0 0) (fun q34 =>
              f_X8_back_l23 n q34 (y1 + 1)))
          else
            zb (f_X1_take M q4 0 0) (fun q30 =>
            f_X8_back_l23 n q30 (y1 + 1))
        else
          if (M q4 0) = 2 then
            zb (f_X2_isTool M 1 (M q4 1)) (fun q21 =>
            if q21 = 0 then
              zb (f_X1_take M q4 0 0) (fun q27 =>
              f_X8_back_l23 n q27 (y1 + 1))
            else
              f_X8_back_l23 n M (y1 + 1))
          else
            f_X8_back_l23 n M (y1 + 1))
      else
        if (M q4 0) = 2 then
          zb (f_X2_isTool M 1 (M q4 1)) (fun q9 =>
          if q9 = 0 then
            zb (f_X1_take M q4 0 0) (fun q15 =>
            f_X8_back_l23 n q15 (y1 + 1))
          else
            f_X8_back_l23 n M (y1 + 1))
        else
          f_X8_back_l23 n M (y1 + 1))
def f_X8_back (I : zM) : Option (Int32 × zM) :=
  if (I 0 8) = 0 then
    some ((-5), I)
  else
    zb (f_X2_copyFrom I 1 110) (fun q2 =>
    f_X8_back_l23 zFu q2 0)
def f_X8_claim (I : zM) (x1 : Int32) (x2 : Int32) (x3 : Int32) : Option (Int32 × zM) :=
  if 0 ≤ x3 then
    zb (f_X2_enterClaim I 1 x1 x2 (x3 / 100) (x3 - x3 / 100 * 100)) (fun q2 =>
    some (q2.1, q2.2))
  else
    some ((-1), I)
def f_X8_entryOf (I : zM) (x0 : Nat) (x1 : Int32) (x2 : Int32) (x3 : Int32) : Option (Int32) :=
  if x1 < 0 then
    some (-1)
  else
    if x2 < 0 then
      some (-1)
    else
      if x2 ≤ x3 then
        zb (f_X4_size I x0) (fun q4 =>
        if q4 ≤ x1 then
          some (-2)
        else
          zb (f_X4_cell I x0 x1 x2) (fun q6 =>
          some q6))
      else
        some (-1)
def f_X8_claimOf (I : zM) (x1 : Int32) (x2 : Int32) (x3 : Int32) : Option (Int32) :=
  zb (f_X2_isTool I 1 x1) (fun q1 =>
  if q1 = 0 then
    some (-1)
  else
    zb (f_X2_toolAt I 1 x1) (fun q3 =>
    zb (f_X8_entryOf I (q3 + 5) x2 x3 3) (fun q4 =>
    some q4)))
def f_X8_holdersInUse_l4 (I : zM) : Nat → Int32 → Int32 → Option (Int32)
  | 0, _, _ => none
  | n + 1, y1, y2 =>
    if 6 ≤ y2 then
      some y1
    else
      zb (f_X8_holderAt I y2) (fun q2 =>
      if (I q2 0) = 0 then
        f_X8_holdersInUse_l4 I n y1 (y2 + 1)
      else
        f_X8_holdersInUse_l4 I n (y1 + 1) (y2 + 1))
def f_X8_holdersInUse (I : zM) : Option (Int32) :=
  f_X8_holdersInUse_l4 I zFu 0 0
def f_X8_count (I : zM) (x1 : Int32) : Option (Int32) :=
  if x1 = 0 then
    some (I 1 5)
  else if x1 = 1 then
    some (I 1 6)
  else if x1 = 2 then
    zb (f_X6_leasedCount I) (fun q1 =>
    some q1)
  else if x1 = 3 then
    zb (f_X6_claimCount I) (fun q2 =>
    some q2)
  else if x1 = 4 then
    some (I 1 7)
  else if x1 = 5 then
    some (I 1 8)
  else if x1 = 6 then
    zb (f_X6_allDebts I) (fun q3 =>
    some q3)
  else if x1 = 7 then
    zb (f_X4_size I 332) (fun q4 =>
    some q4)
  else if x1 = 8 then
    zb (f_X8_holdersInUse I) (fun q5 =>
    some q5)
  else some (-1)
def f_X8_days (I : zM) (x1 : Int32) : Option (Int32 × zM) :=
  zb (f_X2_passDays I 1 x1) (fun q1 =>
  some (q1.1, q1.2))
def f_X8_doLine (I : zM) (x1 : Nat) (x2 : Int32) : Option (Int32 × zM) :=
  zb (f_X4_cell I x1 x2 1) (fun q1 =>
  zb (f_X4_cell I x1 x2 2) (fun q2 =>
  zb (f_X4_cell I x1 x2 3) (fun q3 =>
  zb (f_X4_cell I x1 x2 4) (fun q4 =>
  zb (f_X4_cell I x1 x2 0) (fun q5 =>
  if q5 = 99 then
    zb (f_X2_enterClaim I 1 q1 q2 q3 q4) (fun q6 =>
    some (q6.1, q6.2))
  else if q5 = 100 then
    zb (f_X2_passDays I 1 q1) (fun q7 =>
    some (q7.1, q7.2))
  else if q5 = 103 then
    zb (f_X2_passOn I 1 q1 q2) (fun q8 =>
    some (q8.1, q8.2))
  else if q5 = 107 then
    zb (f_X2_lookAt I 1 q1) (fun q9 =>
    some (q9.1, q9.2))
  else if q5 = 108 then
    zb (f_X2_leaseTo I 1 q1 q2 q3) (fun q10 =>
    some (q10.1, q10.2))
  else if q5 = 112 then
    zb (f_X2_enterPerson I 1 q1 q2) (fun q11 =>
    some (q11.1, q11.2))
  else if q5 = 114 then
    zb (f_X2_giveBack I 1 q1) (fun q12 =>
    some (q12.1, q12.2))
  else if q5 = 115 then
    zb (f_X2_exchange I 1 q1 q2) (fun q13 =>
    some (q13.1, q13.2))
  else if q5 = 116 then
    zb (f_X2_enterTool I 1 q1) (fun q14 =>
    some (q14.1, q14.2))
  else if q5 = 117 then
    zb (f_X2_wearDown I 1 q1 q2) (fun q15 =>
    some (q15.1, q15.2))
  else if q5 = 119 then
    zb (f_X2_setWish I 1 q1 q2 q3) (fun q16 =>
    some (q16.1, q16.2))
  else some ((-1), I))))))
def f_X8_feed (I : zM) (x1 : Int32) : Option (Int32 × zM) :=
  if x1 < 0 then
    some ((-1), I)
  else
    if x1 ≤ 255 then
      zb (f_X4_size I 332) (fun q3 =>
      if q3 < 120 then
        zb (f_X4_append I 332) (fun q5 =>
        zb (f_X4_setCell q5.2 332 q5.1 0 x1) (fun q6 =>
        zb (f_X4_size q6 332) (fun q7 =>
        some (q7, q6))))
      else
        some ((-3), I))
    else
      some ((-1), I)
def f_X8_fund (I : zM) (x1 : Int32) (x2 : Int32) : Option (Int32 × zM) :=
  zb (f_X2_bringCoins I 1 x1 x2) (fun q1 =>
  some (q1.1, q1.2))
def f_X8_isHolder (I : zM) (x0 : Int32) : Option (Int32) :=
  if x0 < 0 then
    some 0
  else
    if 6 ≤ x0 then
      some 0
    else
      some 1
def f_X8_hold_j41 (M : zM) (x1 : Int32) (x2 : Int32) (x3 : Int32) (s0 : Int32) : Option (Int32 × zM) :=
  zb (f_X8_isHolder M x1) (fun q2 =>
  if q2 = 0 then
    some ((-1), M)
  else
    if s0 = 0 then
      some ((-1), M)
    else
      zb (f_X8_holderAt M x1) (fun q5 =>
      zb (f_X1_take M q5 x2 x3) (fun q6 =>
      some (1, q6))))
def f_X8_hold_j36 (M : zM) (x1 : Int32) (x2 : Int32) (x3 : Int32) : Option (Int32 × zM) :=
  f_X8_hold_j41 M x1 x2 x3 1
def f_X8_hold_j40 (M : zM) (x1 : Int32) (x2 : Int32) (x3 : Int32) : Option (Int32 × zM) :=
  f_X8_hold_j41 M x1 x2 x3 0
def f_X8_hold_j20 (M : zM) (x1 : Int32) (x2 : Int32) (x3 : Int32) : Option (Int32 × zM) :=
  if x2 = 2 then
    zb (f_X2_isTool M 1 x3) (fun q9 =>
    if q9 = 0 then
      f_X8_hold_j40 M x1 x2 x3
    else
      f_X8_hold_j36 M x1 x2 x3)
  else
    f_X8_hold_j40 M x1 x2 x3
def f_X8_hold (I : zM) (x1 : Int32) (x2 : Int32) (x3 : Int32) : Option (Int32 × zM) :=
  if x2 = 0 then
    f_X8_hold_j36 I x1 x2 x3
  else
    if x2 = 1 then
      zb (f_X2_isPerson I 1 x3) (fun q11 =>
      if q11 = 0 then
        f_X8_hold_j20 I x1 x2 x3
      else
        f_X8_hold_j36 I x1 x2 x3)
    else
      f_X8_hold_j20 I x1 x2 x3
def f_X8_image (I : zM) : Option (Int32 × zM) :=
  zb (f_X2_copyFrom I 110 1) (fun q1 =>
  zlet (ms q1 0 8 1) (fun M2 =>
  some ((M2 1 7), M2)))
def f_X8_listedAt (I : zM) (x1 : Int32) (x2 : Int32) : Option (Int32) :=
  if x1 = (-1) then
    zb (f_X2_personAtRank I 1 x2) (fun q4 =>
    some q4)
  else
    zb (f_X2_toolAt I 1 x1) (fun q2 =>
    zb (f_X4_cell I (q2 + 5) x2 0) (fun q3 =>
    some q3))
def f_X8_judge_l95 (I : zM) (x2 : Int32) (y3 : Nat) (y4 : Int32) (y5 : Int32) (K : Option (Int32)) : Nat → Int32 → Option (Int32)
  | 0, _ => none
  | n + 1, y6 =>
    if y5 ≤ y6 then
      K
    else
      if y4 ≤ y6 then
        some y6
      else
        zb (f_X4_cell I (y3 + 1) y6 0) (fun q13 =>
        zb (f_X8_listedAt I x2 y6) (fun q14 =>
        if q13 = q14 then
          f_X8_judge_l95 I x2 y3 y4 y5 K n (y6 + 1)
        else
          some y6))
def f_X8_judge_j81 (I : zM) (x2 : Int32) (y3 : Nat) (s0 : Int32) : Option (Int32) :=
  zb (f_X4_size I (y3 + 1)) (fun q10 =>
  f_X8_judge_l95 I x2 y3 s0 q10 (
      if s0 ≤ q10 then
        some (-2)
      else
        some q10) zFu 0)
def f_X8_judge_j25 (I : zM) (x1 : Int32) (x2 : Int32) : Option (Int32) :=
  zb (f_X8_holderAt I x1) (fun q4 =>
  if (I q4 0) = 0 then
    some (-11)
  else
    if (I q4 0) = 3 then
      if x2 = (-1) then
        f_X8_judge_j81 I x2 q4 (I 1 5)
      else
        zb (f_X2_toolAt I 1 x2) (fun q8 =>
        zb (f_X4_size I (q8 + 5)) (fun q9 =>
        f_X8_judge_j81 I x2 q4 q9))
    else
      some (-12))
def f_X8_judge (I : zM) (x1 : Int32) (x2 : Int32) : Option (Int32) :=
  zb (f_X8_isHolder I x1) (fun q1 =>
  if q1 = 0 then
    some (-1)
  else
    if x2 = (-1) then
      f_X8_judge_j25 I x1 x2
    else
      zb (f_X2_isTool I 1 x2) (fun q17 =>
      if q17 = 0 then
        some (-1)
      else
        f_X8_judge_j25 I x1 x2))
def f_X8_lease (I : zM) (x1 : Int32) (x2 : Int32) (x3 : Int32) : Option (Int32 × zM) :=
  zb (f_X2_leaseTo I 1 x1 x2 x3) (fun q1 =>
  some (q1.1, q1.2))
def f_X8_link (I : zM) (x1 : Int32) (x2 : Int32) (x3 : Int32) : Option (Int32) :=
  zb (f_X2_isTool I 1 x1) (fun q1 =>
  if q1 = 0 then
    some (-1)
  else
    zb (f_X2_toolAt I 1 x1) (fun q3 =>
    zb (f_X8_entryOf I (q3 + 1) x2 x3 2) (fun q4 =>
    some q4)))
def f_X8_look (I : zM) (x1 : Int32) : Option (Int32 × zM) :=
  zb (f_X2_lookAt I 1 x1) (fun q1 =>
  some (q1.1, q1.2))
def f_X8_pass (I : zM) (x1 : Int32) (x2 : Int32) : Option (Int32 × zM) :=
  zb (f_X2_passOn I 1 x1 x2) (fun q1 =>
  some (q1.1, q1.2))
def f_X8_person (I : zM) (x1 : Int32) (x2 : Int32) : Option (Int32 × zM) :=
  zb (f_X2_enterPerson I 1 x1 x2) (fun q1 =>
  some (q1.1, q1.2))
def f_X8_personOf (I : zM) (x1 : Int32) (x2 : Int32) : Option (Int32) :=
  zb (f_X2_isPerson I 1 x1) (fun q1 =>
  if q1 = 0 then
    some (-1)
  else
    zb (f_X2_personAt I 1 x1) (fun q3 =>
    if x2 = 0 then
      some (I q3 0)
    else if x2 = 1 then
      some (I q3 1)
    else if x2 = 2 then
      some (I q3 2)
    else if x2 = 3 then
      some (I q3 3)
    else if x2 = 4 then
      some (I q3 4)
    else if x2 = 5 then
      zb (f_X2_toolsWith I 1 x1) (fun q4 =>
      some q4)
    else if x2 = 6 then
      zb (f_X2_placeInRank I 1 x1) (fun q5 =>
      some q5)
    else if x2 = 7 then
      zb (f_X2_claimsOf I 1 x1) (fun q6 =>
      some q6)
    else some (-1)))
def f_X8_put (I : zM) (x1 : Int32) (x2 : Int32) (x3 : Int32) : Option (Int32 × zM) :=
  zb (f_X8_holderAt I x1) (fun q1 =>
  if (I q1 0) = 3 then
    if x2 < 0 then
      some ((-2000000000), I)
    else
      zb (f_X4_size I (q1 + 1)) (fun q4 =>
      if x2 < q4 then
        zb (f_X4_cell I (q1 + 1) x2 0) (fun q6 =>
        zb (f_X4_setCell I (q1 + 1) x2 0 x3) (fun q7 =>
        some (q6, q7)))
      else
        some ((-2000000000), I))
  else
    some ((-2000000000), I))
def f_X8_ranked (I : zM) (x1 : Int32) : Option (Int32) :=
  if 0 ≤ x1 then
    zb (f_X2_personAtRank I 1 x1) (fun q2 =>
    some q2)
  else
    some (-1)
def f_X8_returned (I : zM) (x1 : Int32) : Option (Int32 × zM) :=
  zb (f_X2_giveBack I 1 x1) (fun q1 =>
  some (q1.1, q1.2))
def f_X8_row (I : zM) (x1 : Int32) (x2 : Int32) : Option (Int32 × zM) :=
  zb (f_X8_isHolder I x1) (fun q1 =>
  if q1 = 0 then
    some ((-1), I)
  else
    if x2 ≤ 60 then
      if 0 ≤ x2 then
        zb (f_X8_holderAt I x1) (fun q5 =>
        zb (f_X1_takeRow I q5 x2) (fun q6 =>
        some (1, q6)))
      else
        some ((-14), I)
    else
      some ((-1), I))
def f_X8_script_l44 (K : zM → Option (Int32 × zM)) : Nat → zM → Int32 → Option (Int32 × zM)
  | 0, _, _ => none
  | n + 1, M, y2 =>
    zb (f_X4_size M 335) (fun q5 =>
    if q5 ≤ y2 then
      K M
    else
      zb (f_X8_doLine M 335 y2) (fun q7 =>
      if 0 ≤ q7.1 then
        f_X8_script_l44 K n q7.2 (y2 + 1)
      else
        zb (f_X2_copyFrom q7.2 1 219) (fun q9 =>
        some (((-2000) - y2), q9))))
def f_X8_script (I : zM) : Option (Int32 × zM) :=
  zb (f_X5_readText I) (fun q1 =>
  zb (f_X4_clear q1.2 332) (fun q2 =>
  if q1.1 = 0 then
    some (((-1000) - (q2 334 2)), q2)
  else
    zb (f_X2_copyFrom q2 219 1) (fun q4 =>
    f_X8_script_l44 (fun M10 => 
        zb (f_X4_size M10 335) (fun q11 =>
        some (q11, M10))) zFu q4 0)))
def f_X8_seen (I : zM) (x1 : Int32) (x2 : Int32) (x3 : Int32) : Option (Int32) :=
  zb (f_X2_isTool I 1 x1) (fun q1 =>
  if q1 = 0 then
    some (-1)
  else
    zb (f_X2_toolAt I 1 x1) (fun q3 =>
    zb (f_X8_entryOf I (q3 + 3) x2 x3 1) (fun q4 =>
    some q4)))
def f_X8_share (I : zM) (x1 : Int32) (x2 : Int32) : Option (Int32 × zM) :=
  zb (f_X2_isTool I 1 x1) (fun q1 =>
  if q1 = 0 then
    some ((-1), I)
  else
    zb (f_X2_isPerson I 1 x2) (fun q3 =>
    if q3 = 0 then
      some ((-1), I)
    else
      zb (f_X6_shareOf I x1 x2) (fun q5 =>
      some (q5.1, q5.2))))
def f_X8_swap (I : zM) (x1 : Int32) (x2 : Int32) : Option (Int32 × zM) :=
  zb (f_X2_exchange I 1 x1 x2) (fun q1 =>
  some (q1.1, q1.2))
def f_X8_swaps (I : zM) (x1 : Int32) : Option (Int32) :=
  if x1 = 0 then
    zb (f_X6_swapsNow I) (fun q1 =>
    some q1)
  else if x1 = 1 then
    zb (f_X6_bestSwap I) (fun q2 =>
    some q2)
  else if x1 = 2 then
    zb (f_X6_ringsNow I) (fun q3 =>
    some q3)
  else if x1 = 3 then
    zb (f_X6_allCoins I) (fun q4 =>
    some q4)
  else some (-1)
def f_X8_tells_j107 (I : zM) (x2 : Int32) (y3 : Nat) : Option (Int32) :=
  if x2 = 3 then
    if (I y3 0) = 2 then
      zb (f_X2_toolAt I 1 (I y3 1)) (fun q12 =>
      zb (f_X7_isLeased I q12) (fun q13 =>
      if q13 = 0 then
        some (-12)
      else
        zb (f_X2_toolAt I 1 (I y3 1)) (fun q15 =>
        some (I q15 2))))
    else
      some (-12)
  else
    some (-12)
def f_X8_tells_j79 (I : zM) (x2 : Int32) (y3 : Nat) : Option (Int32) :=
  if x2 = 2 then
    if (I y3 0) = 2 then
      zb (f_X2_toolAt I 1 (I y3 1)) (fun q17 =>
      some (I q17 0))
    else
      f_X8_tells_j107 I x2 y3
  else
    f_X8_tells_j107 I x2 y3
def f_X8_tells_j51 (I : zM) (x2 : Int32) (y3 : Nat) : Option (Int32) :=
  if x2 = 1 then
    if (I y3 0) = 1 then
      zb (f_X2_personAt I 1 (I y3 1)) (fun q19 =>
      some (I q19 2))
    else
      f_X8_tells_j79 I x2 y3
  else
    f_X8_tells_j79 I x2 y3
def f_X8_tells (I : zM) (x1 : Int32) (x2 : Int32) : Option (Int32) :=
  zb (f_X8_isHolder I x1) (fun q1 =>
  if q1 = 0 then
    some (-1)
  else
    if x2 < 0 then
      some (-1)
    else
      if x2 ≤ 3 then
        zb (f_X8_holderAt I x1) (fun q5 =>
        if (I q5 0) = 0 then
          some (-11)
        else
          if x2 = 0 then
            if (I q5 0) = 3 then
              f_X8_tells_j51 I x2 q5
            else
              some (I q5 1)
          else
            f_X8_tells_j51 I x2 q5)
      else
        some (-1))
def f_X8_told (I : zM) (x1 : Int32) (x2 : Int32) : Option (Int32 × zM) :=
  zb (f_X2_isTool I 1 x1) (fun q1 =>
  if q1 = 0 then
    some ((-1), I)
  else
    if x2 = 0 then
      zb (f_X6_nextOf I x1) (fun q3 =>
      some (q3, I))
    else if x2 = 1 then
      zb (f_X6_suspectsOf I x1) (fun q4 =>
      some (q4.1, q4.2))
    else if x2 = 2 then
      zb (f_X2_toolAt I 1 x1) (fun q5 =>
      zb (f_X7_feeOn I q5 (I 1 7)) (fun q6 =>
      some (q6, I)))
    else some ((-1), I))
def f_X8_tool (I : zM) (x1 : Int32) : Option (Int32 × zM) :=
  zb (f_X2_enterTool I 1 x1) (fun q1 =>
  some (q1.1, q1.2))
def f_X8_toolOf (I : zM) (x1 : Int32) (x2 : Int32) : Option (Int32) :=
  zb (f_X2_isTool I 1 x1) (fun q1 =>
  if q1 = 0 then
    some (-1)
  else
    zb (f_X2_toolAt I 1 x1) (fun q3 =>
    if x2 = 0 then
      some (I q3 0)
    else if x2 = 1 then
      some (I q3 1)
    else if x2 = 2 then
      some (I q3 2)
    else if x2 = 3 then
      some (I q3 3)
    else if x2 = 4 then
      some (I q3 4)
    else if x2 = 5 then
      some (I q3 5)
    else if x2 = 6 then
      zb (f_X4_size I (q3 + 5)) (fun q4 =>
      some q4)
    else if x2 = 7 then
      zb (f_X4_size I (q3 + 1)) (fun q5 =>
      some q5)
    else if x2 = 8 then
      zb (f_X4_size I (q3 + 3)) (fun q6 =>
      some q6)
    else some (-1)))
def f_X8_use (I : zM) (x1 : Int32) (x2 : Int32) : Option (Int32 × zM) :=
  zb (f_X2_wearDown I 1 x1 x2) (fun q1 =>
  some (q1.1, q1.2))
def f_X8_waive (I : zM) (x1 : Int32) (x2 : Int32) : Option (Int32 × zM) :=
  zb (f_X2_dropClaim I 1 x1 x2) (fun q1 =>
  some (q1.1, q1.2))
def f_X8_why_j36 (I : zM) (s0 : Int32) : Option (Int32) :=
  if s0 = 0 then
    some (-2)
  else
    some s0
def f_X8_why (I : zM) (x1 : Int32) : Option (Int32) :=
  if 0 ≤ x1 then
    if x1 = 0 then
      f_X8_why_j36 I (I 1 9)
    else
      if x1 = 1 then
        f_X8_why_j36 I (I 1 10)
      else
        f_X8_why_j36 I 0
  else
    some (-1)
def f_X8_wish (I : zM) (x1 : Int32) (x2 : Int32) (x3 : Int32) : Option (Int32 × zM) :=
  zb (f_X2_setWish I 1 x1 x2 x3) (fun q1 =>
  some (q1.1, q1.2))
def f_X9_in (J : zM) (x0 : Int32) (x1 : Int32) (x2 : Int32) : Option (Int32) :=
  if x0 < x1 then
    some 0
  else
    if x2 < x0 then
      some 0
    else
      some 1
def f_X9_t (J : zM) (x1 : Int32) (x2 : Int32) : Option (Int32) :=
  zck (zin ((180 + (x1 * 90)) + x2) 1087) (
  some (J 1 ((180 + (x1 * 90)) + x2).toNatClampNeg))
def f_X9_isOut (J : zM) (x1 : Int32) : Option (Int32) :=
  zb (f_X9_t J x1 2) (fun q1 =>
  if q1 < 0 then
    some 0
  else
    some 1)
def f_X9_fee_j30 (J : zM) (x1 : Int32) (s0 : Int32) : Option (Int32) :=
  zb (f_X9_t J x1 5) (fun q4 =>
  if q4 ≤ s0 then
    zb (f_X9_t J x1 5) (fun q6 =>
    some q6)
  else
    some s0)
def f_X9_fee (J : zM) (x1 : Int32) (x2 : Int32) : Option (Int32) :=
  zb (f_X9_t J x1 4) (fun q1 =>
  zlet (x2 - q1) (fun w2 =>
  if w2 ≤ 0 then
    f_X9_fee_j30 J x1 0
  else
    zb (f_X9_t J x1 0) (fun q7 =>
    f_X9_fee_j30 J x1 (w2 * (1 + (q7 / 10))))))
def f_X9_ahead_l29 (J : zM) (x1 : Int32) (x2 : Int32) (K : Int32 → Int32 → Option (Int32)) : Nat → Int32 → Int32 → Int32 → Option (Int32)
  | 0, _, _, _ => none
  | n + 1, y3, y4, y5 =>
    if (J 1 1081) ≤ y5 then
      K y3 y4
    else
      zb (f_X9_isOut J y5) (fun q6 =>
      if q6 = 0 then
        f_X9_ahead_l29 J x1 x2 K n y3 y4 (y5 + 1)
      else
        zb (f_X9_t J y5 4) (fun q8 =>
        if ((J 1 1082) + x1) ≤ q8 then
          f_X9_ahead_l29 J x1 x2 K n y3 y4 (y5 + 1)
        else
          zb (f_X9_fee J y5 ((J 1 1082) + x1)) (fun q10 =>
          zlet (y4 + q10) (fun w11 =>
          f_X9_ahead_l29 J x1 x2 K n (y3 + 1) w11 (y5 + 1)))))
def f_X9_ahead (J : zM) (x1 : Int32) (x2 : Int32) : Option (Int32) :=
  zb (f_X9_in J x1 0 60) (fun q1 =>
  if q1 = 0 then
    some (-1)
  else
    zb (f_X9_in J x2 0 1) (fun q3 =>
    if q3 = 0 then
      some (-1)
    else
      f_X9_ahead_l29 J x1 x2 (fun z12 z13 => 
          if x2 = 0 then
            some z12
          else
            some z13) zFu 0 0 0))
def f_X9_take_l2 (x0 : Nat) (x1 : Nat) : Nat → zM → Int32 → Option (zM)
  | 0, _, _ => none
  | n + 1, M, y2 =>
    if 1087 ≤ y2 then
      some M
    else
      zck (zin y2 1087) (
      zck (zin y2 1087) (
      zlet (ms M x1 (y2.toNatClampNeg) (M x0 y2.toNatClampNeg)) (fun M3 =>
      f_X9_take_l2 x0 x1 n M3 (y2 + 1))))
def f_X9_take (J : zM) (x0 : Nat) (x1 : Nat) : Option (zM) :=
  f_X9_take_l2 x0 x1 zFu J 0
def f_X9_isPerson (J : zM) (x1 : Int32) : Option (Int32) :=
  zb (f_X9_in J x1 0 ((J 1 1080) - 1)) (fun q1 =>
  zck (zbo q1) (some q1))
def f_X9_isTool (J : zM) (x1 : Int32) : Option (Int32) :=
  zb (f_X9_in J x1 0 ((J 1 1081) - 1)) (fun q1 =>
  zck (zbo q1) (some q1))
def f_X9_back_l23 : Nat → zM → Int32 → Option (Int32 × zM)
  | 0, _, _ => none
  | n + 1, M, y1 =>
    if 6 ≤ y1 then
      some ((M 1 1082), M)
    else
      zck (zin y1 6) (
      if (M 7 y1.toNatClampNeg) = 1 then
        zck (zin y1 6) (
        zb (f_X9_isPerson M (M 8 y1.toNatClampNeg)) (fun q23 =>
        if q23 = 0 then
          zck (zin y1 6) (
          zlet (ms M 7 (y1.toNatClampNeg) 0) (fun M26 =>
          f_X9_back_l23 n M26 (y1 + 1)))
        else
          zck (zin y1 6) (
          if (M 7 y1.toNatClampNeg) = 2 then
            zck (zin y1 6) (
            zb (f_X9_isTool M (M 8 y1.toNatClampNeg)) (fun q35 =>
            if q35 = 0 then
              zck (zin y1 6) (
              zlet (ms M 7 (y1.toNatClampNeg) 0) (fun M42 =>
              f_X9_back_l23 n M42 (y1 + 1)))
            else
              zck (zin y1 6) (
              zck (zin y1 6) (
              zlet (ms M 7 (y1.toNatClampNeg) (M 7 y1.toNatClampNeg)) (fun M39 =>
              f_X9_back_l23 n M39 (y1 + 1))))))
          else
            zck (zin y1 6) (
            zck (zin y1 6) (
            zlet (ms M 7 (y1.toNatClampNeg) (M 7 y1.toNatClampNeg)) (fun M32 =>
            f_X9_back_l23 n M32 (y1 + 1)))))))
      else
        zck (zin y1 6) (
        if (M 7 y1.toNatClampNeg) = 2 then
          zck (zin y1 6) (
          zb (f_X9_isTool M (M 8 y1.toNatClampNeg)) (fun q13 =>
          if q13 = 0 then
            zck (zin y1 6) (
            zlet (ms M 7 (y1.toNatClampNeg) 0) (fun M20 =>
            f_X9_back_l23 n M20 (y1 + 1)))
          else
            zck (zin y1 6) (
            zck (zin y1 6) (
            zlet (ms M 7 (y1.toNatClampNeg) (M 7 y1.toNatClampNeg)) (fun M17 =>
            f_X9_back_l23 n M17 (y1 + 1))))))
        else
          zck (zin y1 6) (
          zck (zin y1 6) (
          zlet (ms M 7 (y1.toNatClampNeg) (M 7 y1.toNatClampNeg)) (fun M10 =>
          f_X9_back_l23 n M10 (y1 + 1))))))
def f_X9_back (J : zM) : Option (Int32 × zM) :=
  if (J 0 4) = 0 then
    some ((-5), J)
  else
    zb (f_X9_take J 4 1) (fun q2 =>
    f_X9_back_l23 zFu q2 0)
def f_X9_setT (J : zM) (x1 : Int32) (x2 : Int32) (x3 : Int32) : Option (zM) :=
  zck (zin ((180 + (x1 * 90)) + x2) 1087) (
  zlet (ms J 1 (((180 + (x1 * 90)) + x2).toNatClampNeg) x3) (fun M1 =>
  some M1))
def f_X9_placeFor_j60 (M : zM) (x1 : Int32) (x2 : Int32) (x3 : Int32) (x4 : Int32) (y6 : Int32) : Option (Int32 × zM) :=
  zb (f_X9_setT M x1 x2 (y6 + 1)) (fun q3 =>
  some ((x3 + (x4 * y6)), q3))
def f_X9_placeFor_l18 (x1 : Int32) (x2 : Int32) (x3 : Int32) (x4 : Int32) (x5 : Int32) (y6 : Int32) (K : zM → Option (Int32 × zM)) : Nat → zM → Int32 → Option (Int32 × zM)
  | 0, _, _ => none
  | n + 1, M, y7 =>
    if (x4 * (x5 - 1)) ≤ y7 then
      K M
    else
      zb (f_X9_t M x1 ((x3 + y7) + x4)) (fun q5 =>
      zb (f_X9_setT M x1 (x3 + y7) q5) (fun q6 =>
      f_X9_placeFor_l18 x1 x2 x3 x4 x5 y6 K n q6 (y7 + 1)))
def f_X9_placeFor (J : zM) (x1 : Int32) (x2 : Int32) (x3 : Int32) (x4 : Int32) (x5 : Int32) : Option (Int32 × zM) :=
  zb (f_X9_t J x1 x2) (fun q1 =>
  if q1 = x5 then
    f_X9_placeFor_l18 x1 x2 x3 x4 x5 q1 (fun M7 => 
        f_X9_placeFor_j60 M7 x1 x2 x3 x4 (q1 + (-1))) zFu J 0
  else
    f_X9_placeFor_j60 J x1 x2 x3 x4 q1)
def f_X9_begins (J : zM) (x1 : Int32) (x2 : Int32) : Option (zM) :=
  zb (f_X9_placeFor J x1 6 8 3 8) (fun q1 =>
  zb (f_X9_setT q1.2 x1 q1.1 x2) (fun q2 =>
  zb (f_X9_setT q2 x1 (q1.1 + 1) (q2 1 1082)) (fun q3 =>
  zb (f_X9_setT q3 x1 (q1.1 + 2) (-2)) (fun q4 =>
  zb (f_X9_t q4 x1 7) (fun q5 =>
  zb (f_X9_setT q4 x1 7 (q5 + 1)) (fun q6 =>
  zb (f_X9_setT q6 x1 2 x2) (fun q7 =>
  zb (f_X9_setT q7 x1 3 (q7 1 1082)) (fun q8 =>
  some q8))))))))
def f_X9_blames_l104 (M : zM) (x1 : Int32) (y4 : Int32) (y5 : Int32) (y6 : Int32) (K : Int32 → Option (zM)) : Nat → Int32 → Int32 → Option (zM)
  | 0, _, _ => none
  | n + 1, y7, y8 =>
    if (M 0 6) ≤ y8 then
      K y7
    else
      zck (zin y8 12) (
      if (M 5 y8.toNatClampNeg) = y6 then
        zlet (y7 &&& 0) (fun w17 =>
        f_X9_blames_l104 M x1 y4 y5 y6 K n w17 (y8 + 1))
      else
        zlet (y7 &&& 1) (fun w18 =>
        f_X9_blames_l104 M x1 y4 y5 y6 K n w18 (y8 + 1)))
def f_X9_blames_l69 (x1 : Int32) (y4 : Int32) : Nat → zM → Int32 → Option (zM)
  | 0, _, _ => none
  | n + 1, M, y5 =>
    zb (f_X9_t M x1 7) (fun q11 =>
    if q11 ≤ y5 then
      some M
    else
      zb (f_X9_t M x1 (8 + (3 * (y5 - y4)))) (fun q13 =>
      f_X9_blames_l104 M x1 y4 y5 q13 (fun z19 => 
          if z19 = 0 then
            f_X9_blames_l69 x1 y4 n M (y5 + 1)
          else
            zlet (ms M 0 6 ((M 0 6) + 1)) (fun M21 =>
            zck (zin (M 0 6) 12) (
            zlet (ms M21 5 ((M 0 6).toNatClampNeg) q13) (fun M22 =>
            f_X9_blames_l69 x1 y4 n M22 (y5 + 1))))) zFu 1 0))
def f_X9_blames_j67 (M : zM) (x1 : Int32) (y4 : Int32) (s0 : Int32) : Option (zM) :=
  f_X9_blames_l69 x1 y4 zFu M s0
def f_X9_blames (J : zM) (x1 : Int32) : Option (zM) :=
  zb (f_X9_t J x1 32) (fun q1 =>
  zlet (33 + (4 * (q1 - 1))) (fun w2 =>
  zb (f_X9_t J x1 (w2 + 2)) (fun q3 =>
  zb (f_X9_t J x1 (w2 + 3)) (fun q4 =>
  zlet (q3 - q4) (fun w5 =>
  zb (f_X9_t J x1 7) (fun q6 =>
  zb (f_X9_t J x1 6) (fun q7 =>
  zlet (q6 - q7) (fun w8 =>
  zlet (ms J 0 6 0) (fun M9 =>
  if w8 ≤ w5 then
    f_X9_blames_j67 M9 x1 w8 w5
  else
    f_X9_blames_j67 M9 x1 w8 w8)))))))))
def f_X9_c (J : zM) (x1 : Int32) (x2 : Int32) (x3 : Int32) : Option (Int32) :=
  zb (f_X9_t J x1 ((58 + (4 * x2)) + x3)) (fun q1 =>
  some q1)
def f_X9_claimOn_l2 (J : zM) (x1 : Int32) (x2 : Int32) : Nat → Int32 → Option (Int32)
  | 0, _ => none
  | n + 1, y3 =>
    zb (f_X9_t J x1 57) (fun q1 =>
    if q1 ≤ y3 then
      some (-2)
    else
      zb (f_X9_t J x1 (58 + (4 * y3))) (fun q3 =>
      if q3 = x2 then
        some y3
      else
        f_X9_claimOn_l2 J x1 x2 n (y3 + 1)))
def f_X9_claimOn (J : zM) (x1 : Int32) (x2 : Int32) : Option (Int32) :=
  f_X9_claimOn_l2 J x1 x2 zFu 0
def f_X9_goesAhead (J : zM) (x1 : Int32) (x2 : Int32) (x3 : Int32) : Option (Int32) :=
  zb (f_X9_c J x1 x2 1) (fun q1 =>
  zb (f_X9_c J x1 x3 1) (fun q2 =>
  if q1 = q2 then
    zb (f_X9_c J x1 x2 3) (fun q4 =>
    zb (f_X9_c J x1 x3 3) (fun q5 =>
    if q4 = q5 then
      zb (f_X9_c J x1 x2 0) (fun q7 =>
      zb (f_X9_c J x1 x3 0) (fun q8 =>
      if q8 ≤ q7 then
        some 0
      else
        some 1))
    else
      zb (f_X9_c J x1 x2 3) (fun q10 =>
      zb (f_X9_c J x1 x3 3) (fun q11 =>
      if q11 ≤ q10 then
        some 0
      else
        some 1))))
  else
    zb (f_X9_c J x1 x2 1) (fun q13 =>
    zb (f_X9_c J x1 x3 1) (fun q14 =>
    if q13 ≤ q14 then
      some 0
    else
      some 1))))
def f_X9_placeOn_l5 (J : zM) (x1 : Int32) (x2 : Int32) : Nat → Int32 → Int32 → Option (Int32)
  | 0, _, _ => none
  | n + 1, y3, y4 =>
    zb (f_X9_t J x1 57) (fun q1 =>
    if q1 ≤ y4 then
      some y3
    else
      if y4 = x2 then
        zlet (y3 + 0) (fun w4 =>
        f_X9_placeOn_l5 J x1 x2 n w4 (y4 + 1))
      else
        zb (f_X9_goesAhead J x1 y4 x2) (fun q5 =>
        if q5 = 0 then
          zlet (y3 + 0) (fun w7 =>
          f_X9_placeOn_l5 J x1 x2 n w7 (y4 + 1))
        else
          zlet (y3 + 1) (fun w8 =>
          f_X9_placeOn_l5 J x1 x2 n w8 (y4 + 1))))
def f_X9_placeOn (J : zM) (x1 : Int32) (x2 : Int32) : Option (Int32) :=
  f_X9_placeOn_l5 J x1 x2 zFu 0 0
def f_X9_claim (J : zM) (x1 : Int32) (x2 : Int32) (x3 : Int32) : Option (Int32 × zM) :=
  zb (f_X9_isPerson J x1) (fun q1 =>
  if q1 = 0 then
    some ((-1), J)
  else
    zb (f_X9_isTool J x2) (fun q3 =>
    if q3 = 0 then
      some ((-1), J)
    else
      zb (f_X9_in J x3 0 999) (fun q5 =>
      if q5 = 0 then
        some ((-1), J)
      else
        zb (f_X9_in J (x3 - x3 / 100 * 100) 1 30) (fun q7 =>
        if q7 = 0 then
          some ((-1), J)
        else
          zb (f_X9_claimOn J x2 x1) (fun q9 =>
          if 0 ≤ q9 then
            some ((-5), J)
          else
            zb (f_X9_t J x2 2) (fun q11 =>
            if q11 = x1 then
              some ((-5), J)
            else
              zb (f_X9_t J x2 57) (fun q13 =>
              if q13 = 8 then
                some ((-3), J)
              else
                zb (f_X9_t J x2 57) (fun q15 =>
                zb (f_X9_setT J x2 (58 + (4 * q15)) x1) (fun q16 =>
                zb (f_X9_setT q16 x2 ((58 + (4 * q15)) + 1) (x3 / 100)) (fun q17 =>
                zb (f_X9_setT q17 x2 ((58 + (4 * q15)) + 2) (x3 - x3 / 100 * 100)) (fun q18 =>
                zb (f_X9_setT q18 x2 ((58 + (4 * q15)) + 3) (q18 1 1082)) (fun q19 =>
                zb (f_X9_setT q19 x2 57 (q15 + 1)) (fun q20 =>
                zb (f_X9_placeOn q20 x2 q15) (fun q21 =>
                some (q21, q20)))))))))))))))
def f_X9_claimAt_l2 (J : zM) (x1 : Int32) (x2 : Int32) : Nat → Int32 → Option (Int32)
  | 0, _ => none
  | n + 1, y3 =>
    zb (f_X9_t J x1 57) (fun q1 =>
    if q1 ≤ y3 then
      some (-2)
    else
      zb (f_X9_placeOn J x1 y3) (fun q3 =>
      if q3 = x2 then
        some y3
      else
        f_X9_claimAt_l2 J x1 x2 n (y3 + 1)))
def f_X9_claimAt (J : zM) (x1 : Int32) (x2 : Int32) : Option (Int32) :=
  f_X9_claimAt_l2 J x1 x2 zFu 0
def f_X9_claimGoes_l13 (x1 : Int32) (x2 : Int32) (y3 : Int32) (K : zM → Option (zM)) : Nat → zM → Int32 → Option (zM)
  | 0, _, _ => none
  | n + 1, M, y4 =>
    if 4 ≤ y4 then
      K M
    else
      zb (f_X9_c M x1 y3 y4) (fun q4 =>
      zb (f_X9_setT M x1 ((58 + (4 * x2)) + y4) q4) (fun q5 =>
      f_X9_claimGoes_l13 x1 x2 y3 K n q5 (y4 + 1)))
def f_X9_claimGoes (J : zM) (x1 : Int32) (x2 : Int32) : Option (zM) :=
  zb (f_X9_t J x1 57) (fun q1 =>
  zlet (q1 - 1) (fun w2 =>
  f_X9_claimGoes_l13 x1 x2 w2 (fun M6 => 
      zb (f_X9_setT M6 x1 57 w2) (fun q7 =>
      some q7)) zFu J 0))
def f_X9_claimOf (J : zM) (x1 : Int32) (x2 : Int32) (x3 : Int32) : Option (Int32) :=
  zb (f_X9_isTool J x1) (fun q1 =>
  if q1 = 0 then
    some (-1)
  else
    if x2 < 0 then
      some (-1)
    else
      zb (f_X9_in J x3 0 3) (fun q4 =>
      if q4 = 0 then
        some (-1)
      else
        zb (f_X9_claimAt J x1 x2) (fun q6 =>
        if 0 ≤ q6 then
          zb (f_X9_c J x1 q6 x3) (fun q8 =>
          some q8)
        else
          some (-2))))
def f_X9_claimsOf_l4 (J : zM) (x1 : Int32) : Nat → Int32 → Int32 → Option (Int32)
  | 0, _, _ => none
  | n + 1, y2, y3 =>
    if (J 1 1081) ≤ y3 then
      some y2
    else
      zb (f_X9_claimOn J y3 x1) (fun q2 =>
      if q2 < 0 then
        zlet (y2 + 0) (fun w4 =>
        f_X9_claimsOf_l4 J x1 n w4 (y3 + 1))
      else
        zlet (y2 + 1) (fun w5 =>
        f_X9_claimsOf_l4 J x1 n w5 (y3 + 1)))
def f_X9_claimsOf (J : zM) (x1 : Int32) : Option (Int32) :=
  f_X9_claimsOf_l4 J x1 zFu 0 0
def f_X9_p (J : zM) (x1 : Int32) (x2 : Int32) : Option (Int32) :=
  zck (zin ((x1 * 15) + x2) 1087) (
  some (J 1 ((x1 * 15) + x2).toNatClampNeg))
def f_X9_coins_l11 (J : zM) (K : Int32 → Option (Int32)) : Nat → Int32 → Int32 → Option (Int32)
  | 0, _, _ => none
  | n + 1, y1, y2 =>
    if (J 1 1080) ≤ y2 then
      K y1
    else
      zb (f_X9_p J y2 1) (fun q2 =>
      zlet (y1 + q2) (fun w3 =>
      f_X9_coins_l11 J K n w3 (y2 + 1)))
def f_X9_coins_l40 (J : zM) : Nat → Int32 → Int32 → Option (Int32)
  | 0, _, _ => none
  | n + 1, y1, y2 =>
    if (J 1 1081) ≤ y2 then
      some y1
    else
      zb (f_X9_t J y2 5) (fun q6 =>
      zlet (y1 + q6) (fun w7 =>
      f_X9_coins_l40 J n w7 (y2 + 1)))
def f_X9_coins (J : zM) : Option (Int32) :=
  f_X9_coins_l11 J (fun z4 => 
      f_X9_coins_l40 J zFu z4 0) zFu (J 1 1083) 0
def f_X9_moreWear (J : zM) (x1 : Int32) : Option (Int32) :=
  zb (f_X9_t J x1 1) (fun q1 =>
  zb (f_X9_t J x1 32) (fun q2 =>
  zb (f_X9_t J x1 ((33 + (4 * (q2 - 1))) + 1)) (fun q3 =>
  some (q1 - q3))))
def f_X9_costOf (J : zM) (x1 : Int32) : Option (Int32) :=
  zb (f_X9_moreWear J x1) (fun q1 =>
  if q1 ≤ 0 then
    some 0
  else
    zb (f_X9_t J x1 0) (fun q3 =>
    some ((q3 * q1) / 9)))
def f_X9_count_l72 (J : zM) : Nat → Int32 → Int32 → Option (Int32)
  | 0, _, _ => none
  | n + 1, y2, y3 =>
    if (J 1 1081) ≤ y3 then
      some y2
    else
      zb (f_X9_isOut J y3) (fun q2 =>
      if q2 = 0 then
        zlet (y2 + 0) (fun w4 =>
        f_X9_count_l72 J n w4 (y3 + 1))
      else
        zlet (y2 + 1) (fun w5 =>
        f_X9_count_l72 J n w5 (y3 + 1)))
def f_X9_count_l110 (J : zM) : Nat → Int32 → Int32 → Option (Int32)
  | 0, _, _ => none
  | n + 1, y2, y3 =>
    if (J 1 1081) ≤ y3 then
      some y2
    else
      zb (f_X9_t J y3 57) (fun q7 =>
      zlet (y2 + q7) (fun w8 =>
      f_X9_count_l110 J n w8 (y3 + 1)))
def f_X9_count_l160 (J : zM) : Nat → Int32 → Int32 → Option (Int32)
  | 0, _, _ => none
  | n + 1, y2, y3 =>
    if (J 1 1080) ≤ y3 then
      some y2
    else
      zb (f_X9_p J y3 4) (fun q10 =>
      zlet (y2 + q10) (fun w11 =>
      f_X9_count_l160 J n w11 (y3 + 1)))
def f_X9_count_l196 (J : zM) : Nat → Int32 → Int32 → Option (Int32)
  | 0, _, _ => none
  | n + 1, y2, y3 =>
    if 6 ≤ y3 then
      some y2
    else
      zck (zin y3 6) (
      if (J 7 y3.toNatClampNeg) = 0 then
        zlet (y2 + 0) (fun w15 =>
        f_X9_count_l196 J n w15 (y3 + 1))
      else
        zlet (y2 + 1) (fun w16 =>
        f_X9_count_l196 J n w16 (y3 + 1)))
def f_X9_count (J : zM) (x1 : Int32) : Option (Int32) :=
  if x1 = 0 then
    some (J 1 1080)
  else if x1 = 1 then
    some (J 1 1081)
  else if x1 = 2 then
    f_X9_count_l72 J zFu 0 0
  else if x1 = 3 then
    f_X9_count_l110 J zFu 0 0
  else if x1 = 4 then
    some (J 1 1082)
  else if x1 = 5 then
    some (J 1 1083)
  else if x1 = 6 then
    f_X9_count_l160 J zFu 0 0
  else if x1 = 7 then
    some (J 0 8)
  else if x1 = 8 then
    f_X9_count_l196 J zFu 0 0
  else some (-1)
def f_X9_cut (J : zM) (x0 : Int32) (x1 : Int32) (x2 : Int32) : Option (Int32) :=
  if x1 ≤ x0 then
    if x0 ≤ x2 then
      some x0
    else
      some x2
  else
    some x1
def f_X9_days (J : zM) (x1 : Int32) : Option (Int32 × zM) :=
  zb (f_X9_in J x1 1 99) (fun q1 =>
  if q1 = 0 then
    some ((-1), J)
  else
    zlet (ms J 1 1082 ((J 1 1082) + x1)) (fun M3 =>
    some ((M3 1 1082), M3)))
def f_X9_isName_l15 (J : zM) : Nat → Int32 → Option (Int32)
  | 0, _ => none
  | n + 1, y1 =>
    if y1 ≤ 0 then
      some 1
    else
      if (y1 - y1 / 27 * 27) = 0 then
        some 0
      else
        zlet (y1 / 27) (fun w5 =>
        f_X9_isName_l15 J n w5)
def f_X9_isName (J : zM) (x0 : Int32) : Option (Int32) :=
  zb (f_X9_in J x0 1 19682) (fun q1 =>
  if q1 = 0 then
    some 0
  else
    f_X9_isName_l15 J zFu x0)
def f_X9_setP (J : zM) (x1 : Int32) (x2 : Int32) (x3 : Int32) : Option (zM) :=
  zck (zin ((x1 * 15) + x2) 1087) (
  zlet (ms J 1 (((x1 * 15) + x2).toNatClampNeg) x3) (fun M1 =>
  some M1))
def f_X9_person_l22 (M : zM) (x1 : Int32) (x2 : Int32) (K : Option (Int32 × zM)) : Nat → Int32 → Option (Int32 × zM)
  | 0, _ => none
  | n + 1, y3 =>
    if (M 1 1080) ≤ y3 then
      K
    else
      zb (f_X9_p M y3 0) (fun q6 =>
      if q6 = x1 then
        some ((-5), M)
      else
        f_X9_person_l22 M x1 x2 K n (y3 + 1))
def f_X9_person_l86 (x1 : Int32) (x2 : Int32) (y3 : Int32) (K : zM → Option (Int32 × zM)) : Nat → zM → Int32 → Option (Int32 × zM)
  | 0, _, _ => none
  | n + 1, M, y4 =>
    if 15 ≤ y4 then
      K M
    else
      zb (f_X9_setP M y3 y4 0) (fun q11 =>
      f_X9_person_l86 x1 x2 y3 K n q11 (y4 + 1))
def f_X9_person (J : zM) (x1 : Int32) (x2 : Int32) : Option (Int32 × zM) :=
  zb (f_X9_isName J x1) (fun q1 =>
  if q1 = 0 then
    some ((-1), J)
  else
    zb (f_X9_in J x2 0 9999) (fun q3 =>
    if q3 = 0 then
      some ((-1), J)
    else
      f_X9_person_l22 J x1 x2 (
          if (J 1 1080) = 12 then
            some ((-3), J)
          else
            zlet (ms J 1 1080 ((J 1 1080) + 1)) (fun M9 =>
            f_X9_person_l86 x1 x2 (J 1 1080) (fun M12 => 
                zb (f_X9_setP M12 (J 1 1080) 0 x1) (fun q13 =>
                zb (f_X9_setP q13 (J 1 1080) 1 x2) (fun q14 =>
                zb (f_X9_setP q14 (J 1 1080) 2 50) (fun q15 =>
                some ((J 1 1080), q15))))) zFu M9 0)) zFu 0))
def f_X9_seesNow_j74 (M : zM) (s0 : Int32) (s1 : Int32) (s2 : Int32) : Option (zM) :=
  zb (f_X9_setT M s2 s1 s0) (fun q9 =>
  some q9)
def f_X9_seesNow (J : zM) (x1 : Int32) : Option (zM) :=
  zb (f_X9_placeFor J x1 32 33 4 6) (fun q1 =>
  zb (f_X9_setT q1.2 x1 q1.1 (q1.2 1 1082)) (fun q2 =>
  zb (f_X9_t q2 x1 1) (fun q3 =>
  zb (f_X9_setT q2 x1 (q1.1 + 1) q3) (fun q4 =>
  zb (f_X9_t q4 x1 7) (fun q5 =>
  zb (f_X9_setT q4 x1 (q1.1 + 2) q5) (fun q6 =>
  zb (f_X9_isOut q6 x1) (fun q7 =>
  if q7 = 0 then
    f_X9_seesNow_j74 q6 0 (q1.1 + 3) x1
  else
    f_X9_seesNow_j74 q6 1 (q1.1 + 3) x1)))))))
def f_X9_tool_l44 (x1 : Int32) (y2 : Int32) (K : zM → Option (Int32 × zM)) : Nat → zM → Int32 → Option (Int32 × zM)
  | 0, _, _ => none
  | n + 1, M, y3 =>
    if 90 ≤ y3 then
      K M
    else
      zb (f_X9_setT M y2 y3 0) (fun q6 =>
      f_X9_tool_l44 x1 y2 K n q6 (y3 + 1))
def f_X9_tool_l65 (x1 : Int32) (y2 : Int32) (K : zM → Option (Int32 × zM)) : Nat → zM → Int32 → Option (Int32 × zM)
  | 0, _, _ => none
  | n + 1, M, y3 =>
    if 12 ≤ y3 then
      K M
    else
      zb (f_X9_setP M y3 (5 + y2) 0) (fun q9 =>
      f_X9_tool_l65 x1 y2 K n q9 (y3 + 1))
def f_X9_tool (J : zM) (x1 : Int32) : Option (Int32 × zM) :=
  zb (f_X9_in J x1 1 99) (fun q1 =>
  if q1 = 0 then
    some ((-1), J)
  else
    if (J 1 1081) = 10 then
      some ((-3), J)
    else
      zlet (ms J 1 1081 ((J 1 1081) + 1)) (fun M4 =>
      f_X9_tool_l44 x1 (J 1 1081) (fun M7 => 
          f_X9_tool_l65 x1 (J 1 1081) (fun M10 => 
              zb (f_X9_setT M10 (J 1 1081) 0 x1) (fun q11 =>
              zb (f_X9_setT q11 (J 1 1081) 2 (-1)) (fun q12 =>
              zb (f_X9_seesNow q12 (J 1 1081)) (fun q13 =>
              some ((J 1 1081), q13))))) zFu M7 0) zFu M4 0))
def f_X9_wish (J : zM) (x1 : Int32) (x2 : Int32) (x3 : Int32) : Option (Int32 × zM) :=
  zb (f_X9_isPerson J x1) (fun q1 =>
  if q1 = 0 then
    some ((-1), J)
  else
    zb (f_X9_isTool J x2) (fun q3 =>
    if q3 = 0 then
      some ((-1), J)
    else
      zb (f_X9_in J x3 0 9) (fun q5 =>
      if q5 = 0 then
        some ((-1), J)
      else
        zb (f_X9_p J x1 (5 + x2)) (fun q7 =>
        zb (f_X9_setP J x1 (5 + x2) x3) (fun q8 =>
        some (q7, q8))))))
def f_X9_refused_j16 (M : zM) (x1 : Int32) (x2 : Int32) (s0 : Int32) : Option (Int32 × zM) :=
  zlet (ms M 1 1084 s0) (fun M2 =>
  zlet (ms M2 1 1085 x1) (fun M3 =>
  zlet (ms M3 1 1086 x2) (fun M4 =>
  some ((-5), M4))))
def f_X9_refused (J : zM) (x1 : Int32) (x2 : Int32) : Option (Int32 × zM) :=
  if x2 = 0 then
    f_X9_refused_j16 J x1 x2 1
  else
    f_X9_refused_j16 J x1 x2 2
def f_X9_mayPay (J : zM) (x1 : Int32) (x2 : Int32) : Option (Int32) :=
  zb (f_X9_t J x1 1) (fun q1 =>
  if 9 ≤ q1 then
    some 0
  else
    zb (f_X9_p J x2 1) (fun q3 =>
    zb (f_X9_t J x1 0) (fun q4 =>
    if q3 < q4 then
      some 0
    else
      some 1)))
def f_X9_leased (J : zM) (x1 : Int32) (x2 : Int32) (x3 : Int32) : Option (Int32 × zM) :=
  zb (f_X9_p J x2 1) (fun q1 =>
  zb (f_X9_t J x1 0) (fun q2 =>
  zb (f_X9_setP J x2 1 (q1 - q2)) (fun q3 =>
  zb (f_X9_t q3 x1 0) (fun q4 =>
  zb (f_X9_setT q3 x1 5 q4) (fun q5 =>
  zb (f_X9_setT q5 x1 4 ((q5 1 1082) + x3)) (fun q6 =>
  zb (f_X9_begins q6 x1 x2) (fun q7 =>
  some (((q7 1 1082) + x3), q7))))))))
def f_X9_lease_j47 (M : zM) : Option (Int32 × zM) :=
  zb (f_X9_refused M 1 0) (fun q9 =>
  some (q9.1, q9.2))
def f_X9_lease (J : zM) (x1 : Int32) (x2 : Int32) (x3 : Int32) : Option (Int32 × zM) :=
  zb (f_X9_isPerson J x1) (fun q1 =>
  if q1 = 0 then
    some ((-1), J)
  else
    zb (f_X9_isTool J x2) (fun q3 =>
    if q3 = 0 then
      some ((-1), J)
    else
      zb (f_X9_in J x3 1 30) (fun q5 =>
      if q5 = 0 then
        some ((-1), J)
      else
        zb (f_X9_isOut J x2) (fun q7 =>
        if q7 = 0 then
          zb (f_X9_t J x2 1) (fun q10 =>
          if q10 = 9 then
            f_X9_lease_j47 J
          else
            zb (f_X9_mayPay J x2 x1) (fun q12 =>
            if q12 = 0 then
              zb (f_X9_refused J 2 0) (fun q14 =>
              some (q14.1, q14.2))
            else
              zb (f_X9_leased J x2 x1 x3) (fun q15 =>
              some (q15.1, q15.2))))
        else
          f_X9_lease_j47 J))))
def f_X9_shareOf (J : zM) (x1 : Int32) (x2 : Int32) : Option (Int32) :=
  zck (zne (J 0 6)) (
  zlet (x1 / (J 0 6)) (fun w2 =>
  if x2 = 0 then
    some (x1 - (w2 * ((J 0 6) - 1)))
  else
    some w2))
def f_X9_looks_l31 (y2 : Int32) (y3 : Int32) : Nat → zM → Int32 → Option (Int32 × zM)
  | 0, _, _ => none
  | n + 1, M, y4 =>
    if (M 0 6) ≤ y4 then
      some ((M 0 6), M)
    else
      zck (zin y4 12) (
      zlet (M 5 y4.toNatClampNeg) (fun w8 =>
      zb (f_X9_shareOf M y3 y4) (fun q9 =>
      zb (f_X9_p M w8 1) (fun q10 =>
      if q9 ≤ q10 then
        zb (f_X9_p M w8 1) (fun q12 =>
        zb (f_X9_setP M w8 1 (q12 - q9)) (fun q13 =>
        zb (f_X9_p q13 w8 4) (fun q14 =>
        zb (f_X9_setP q13 w8 4 ((q14 + q9) - q9)) (fun q15 =>
        zlet (ms q15 1 1083 ((q15 1 1083) + q9)) (fun M16 =>
        zb (f_X9_p M16 w8 2) (fun q17 =>
        zb (f_X9_cut M16 (q17 - y2) 0 99) (fun q18 =>
        zb (f_X9_setP M16 w8 2 q18) (fun q19 =>
        f_X9_looks_l31 y2 y3 n q19 (y4 + 1)))))))))
      else
        zb (f_X9_p M w8 1) (fun q20 =>
        zb (f_X9_p M w8 1) (fun q21 =>
        zb (f_X9_setP M w8 1 (q21 - q20)) (fun q22 =>
        zb (f_X9_p q22 w8 4) (fun q23 =>
        zb (f_X9_setP q22 w8 4 ((q23 + q9) - q20)) (fun q24 =>
        zlet (ms q24 1 1083 ((q24 1 1083) + q20)) (fun M25 =>
        zb (f_X9_p M25 w8 2) (fun q26 =>
        zb (f_X9_cut M25 (q26 - y2) 0 99) (fun q27 =>
        zb (f_X9_setP M25 w8 2 q27) (fun q28 =>
        f_X9_looks_l31 y2 y3 n q28 (y4 + 1))))))))))))))
def f_X9_looks (J : zM) (x1 : Int32) : Option (Int32 × zM) :=
  zb (f_X9_moreWear J x1) (fun q1 =>
  zb (f_X9_blames J x1) (fun q2 =>
  zb (f_X9_costOf q2 x1) (fun q3 =>
  zb (f_X9_seesNow q2 x1) (fun q4 =>
  if 0 < q1 then
    f_X9_looks_l31 q1 q3 zFu q4 0
  else
    some (0, q4)))))
def f_X9_ends (J : zM) (x1 : Int32) : Option (zM) :=
  zb (f_X9_t J x1 6) (fun q1 =>
  zb (f_X9_setT J x1 ((8 + (3 * (q1 - 1))) + 2) (J 1 1082)) (fun q2 =>
  zb (f_X9_setT q2 x1 2 (-1)) (fun q3 =>
  some q3)))
def f_X9_nextClaim_l2 (J : zM) (x1 : Int32) : Nat → Int32 → Option (Int32)
  | 0, _ => none
  | n + 1, y2 =>
    zb (f_X9_t J x1 57) (fun q1 =>
    if q1 ≤ y2 then
      some (-2)
    else
      zb (f_X9_claimAt J x1 y2) (fun q3 =>
      zb (f_X9_c J x1 q3 0) (fun q4 =>
      zb (f_X9_mayPay J x1 q4) (fun q5 =>
      if q5 = 0 then
        f_X9_nextClaim_l2 J x1 n (y2 + 1)
      else
        some q3))))
def f_X9_nextClaim (J : zM) (x1 : Int32) : Option (Int32) :=
  f_X9_nextClaim_l2 J x1 zFu 0
def f_X9_offered (J : zM) (x1 : Int32) : Option (zM) :=
  zb (f_X9_nextClaim J x1) (fun q1 =>
  if q1 < 0 then
    some J
  else
    zb (f_X9_c J x1 q1 0) (fun q3 =>
    zb (f_X9_c J x1 q1 2) (fun q4 =>
    zb (f_X9_claimGoes J x1 q1) (fun q5 =>
    zb (f_X9_leased q5 x1 q3 q4) (fun q6 =>
    some q6.2)))))
def f_X9_returned_j148 (M : zM) (x1 : Int32) (y3 : Int32) (s0 : Int32) (s1 : Int32) (s3 : Int32) : Option (Int32 × zM) :=
  zb (f_X9_cut M (s1 + s0) 0 99) (fun q19 =>
  zb (f_X9_setP M s3 2 q19) (fun q20 =>
  zb (f_X9_setT q20 x1 5 0) (fun q21 =>
  zb (f_X9_ends q21 x1) (fun q22 =>
  zb (f_X9_offered q22 x1) (fun q23 =>
  some (y3, q23))))))
def f_X9_returned_j124 (M : zM) (x1 : Int32) (y2 : Int32) (y3 : Int32) (y4 : Int32) (s0 : Int32) (s1 : Int32) (s3 : Int32) : Option (Int32 × zM) :=
  zb (f_X9_setP M s3 3 (s1 + s0)) (fun q16 =>
  zb (f_X9_p q16 y2 2) (fun q17 =>
  if y4 = 0 then
    f_X9_returned_j148 q16 x1 y3 1 q17 y2
  else
    f_X9_returned_j148 q16 x1 y3 (-5) q17 y2))
def f_X9_returned_j70 (M : zM) (x1 : Int32) (y2 : Int32) (y3 : Int32) (s0 : Int32) : Option (Int32 × zM) :=
  zlet (ms M 1 1083 ((M 1 1083) + y3)) (fun M10 =>
  zb (f_X9_p M10 y2 1) (fun q11 =>
  zb (f_X9_t M10 x1 5) (fun q12 =>
  zb (f_X9_setP M10 y2 1 ((q11 + q12) - y3)) (fun q13 =>
  zb (f_X9_p q13 y2 3) (fun q14 =>
  if s0 = 0 then
    f_X9_returned_j124 q13 x1 y2 y3 s0 0 q14 y2
  else
    f_X9_returned_j124 q13 x1 y2 y3 s0 1 q14 y2)))))
def f_X9_returned (J : zM) (x1 : Int32) : Option (Int32 × zM) :=
  zb (f_X9_isTool J x1) (fun q1 =>
  if q1 = 0 then
    some ((-1), J)
  else
    zb (f_X9_isOut J x1) (fun q3 =>
    if q3 = 0 then
      some ((-5), J)
    else
      zb (f_X9_looks J x1) (fun q5 =>
      zb (f_X9_t q5.2 x1 2) (fun q6 =>
      zb (f_X9_fee q5.2 x1 (q5.2 1 1082)) (fun q7 =>
      zb (f_X9_t q5.2 x1 4) (fun q8 =>
      if (q5.2 1 1082) ≤ q8 then
        f_X9_returned_j70 q5.2 x1 q6 q7 0
      else
        f_X9_returned_j70 q5.2 x1 q6 q7 1))))))
def f_X9_noPass (J : zM) (x1 : Int32) (x2 : Int32) : Option (Int32) :=
  zb (f_X9_t J x1 4) (fun q1 =>
  if (J 1 1082) ≤ q1 then
    zb (f_X9_p J x2 1) (fun q3 =>
    zb (f_X9_t J x1 5) (fun q4 =>
    if q4 ≤ q3 then
      some 0
    else
      some 2))
  else
    some 3)
def f_X9_passes (J : zM) (x1 : Int32) (x2 : Int32) : Option (zM) :=
  zb (f_X9_t J x1 2) (fun q1 =>
  zb (f_X9_p J x2 1) (fun q2 =>
  zb (f_X9_t J x1 5) (fun q3 =>
  zb (f_X9_setP J x2 1 (q2 - q3)) (fun q4 =>
  zb (f_X9_p q4 q1 1) (fun q5 =>
  zb (f_X9_t q4 x1 5) (fun q6 =>
  zb (f_X9_setP q4 q1 1 (q5 + q6)) (fun q7 =>
  zb (f_X9_ends q7 x1) (fun q8 =>
  zb (f_X9_begins q8 x1 x2) (fun q9 =>
  some q9)))))))))
def f_X9_pass (J : zM) (x1 : Int32) (x2 : Int32) : Option (Int32 × zM) :=
  zb (f_X9_isTool J x1) (fun q1 =>
  if q1 = 0 then
    some ((-1), J)
  else
    zb (f_X9_isPerson J x2) (fun q3 =>
    if q3 = 0 then
      some ((-1), J)
    else
      zb (f_X9_t J x1 2) (fun q5 =>
      if q5 = x2 then
        some ((-1), J)
      else
        zb (f_X9_isOut J x1) (fun q7 =>
        if q7 = 0 then
          some ((-5), J)
        else
          zb (f_X9_noPass J x1 x2) (fun q9 =>
          if q9 = 0 then
            zb (f_X9_passes J x1 x2) (fun q11 =>
            some (1, q11))
          else
            zb (f_X9_refused J 6 q9) (fun q12 =>
            some (q12.1, q12.2)))))))
def f_X9_mayBeSwapped (J : zM) (x1 : Int32) (x2 : Int32) : Option (Int32) :=
  if x1 = x2 then
    some 0
  else
    zb (f_X9_isOut J x1) (fun q2 =>
    if q2 = 0 then
      some 0
    else
      zb (f_X9_isOut J x2) (fun q4 =>
      if q4 = 0 then
        some 0
      else
        zb (f_X9_t J x1 2) (fun q6 =>
        zb (f_X9_t J x2 2) (fun q7 =>
        if q6 = q7 then
          some 0
        else
          some 1))))
def f_X9_more (J : zM) (x1 : Int32) (x2 : Int32) (x3 : Int32) : Option (Int32) :=
  zb (f_X9_p J x1 (5 + x3)) (fun q1 =>
  zb (f_X9_p J x1 (5 + x2)) (fun q2 =>
  some (q1 - q2)))
def f_X9_gain (J : zM) (x1 : Int32) (x2 : Int32) : Option (Int32) :=
  zb (f_X9_t J x1 2) (fun q1 =>
  zb (f_X9_more J q1 x1 x2) (fun q2 =>
  zb (f_X9_t J x2 2) (fun q3 =>
  zb (f_X9_more J q3 x2 x1) (fun q4 =>
  if q2 ≤ 0 then
    some 0
  else
    if q4 ≤ 0 then
      some 0
    else
      some (q2 + q4)))))
def f_X9_swapped (J : zM) (x1 : Int32) (x2 : Int32) : Option (Int32 × zM) :=
  zb (f_X9_gain J x1 x2) (fun q1 =>
  if q1 = 0 then
    some (40, J)
  else
    zb (f_X9_t J x1 2) (fun q3 =>
    zb (f_X9_t J x2 2) (fun q4 =>
    zb (f_X9_noPass J x1 q4) (fun q5 =>
    if q5 = 0 then
      zb (f_X9_passes J x1 q4) (fun q7 =>
      zb (f_X9_noPass q7 x2 q3) (fun q8 =>
      if q8 = 0 then
        zb (f_X9_passes q7 x2 q3) (fun q10 =>
        some (0, q10))
      else
        some ((50 + q8), q7)))
    else
      some ((50 + q5), J)))))
def f_X9_swap (J : zM) (x1 : Int32) (x2 : Int32) : Option (Int32 × zM) :=
  zb (f_X9_isTool J x1) (fun q1 =>
  if q1 = 0 then
    some ((-1), J)
  else
    zb (f_X9_isTool J x2) (fun q3 =>
    if q3 = 0 then
      some ((-1), J)
    else
      zb (f_X9_mayBeSwapped J x1 x2) (fun q5 =>
      if q5 = 0 then
        some ((-1), J)
      else
        zb (f_X9_gain J x1 x2) (fun q7 =>
        zb (f_X9_take J 1 2) (fun q8 =>
        zb (f_X9_swapped q8 x1 x2) (fun q9 =>
        if q9.1 = 0 then
          some (q7, q9.2)
        else
          zb (f_X9_take q9.2 2 1) (fun q11 =>
          zb (f_X9_refused q11 (q9.1 / 10) (q9.1 - q9.1 / 10 * 10)) (fun q12 =>
          some (q12.1, q12.2)))))))))
def f_X9_use (J : zM) (x1 : Int32) (x2 : Int32) : Option (Int32 × zM) :=
  zb (f_X9_isTool J x1) (fun q1 =>
  if q1 = 0 then
    some ((-1), J)
  else
    zb (f_X9_in J x2 1 9) (fun q3 =>
    if q3 = 0 then
      some ((-1), J)
    else
      zb (f_X9_isOut J x1) (fun q5 =>
      if q5 = 0 then
        some ((-5), J)
      else
        zb (f_X9_t J x1 1) (fun q7 =>
        zb (f_X9_cut J (q7 + x2) 0 9) (fun q8 =>
        zb (f_X9_setT J x1 1 q8) (fun q9 =>
        zb (f_X9_t q9 x1 1) (fun q10 =>
        some (q10, q9))))))))
def f_X9_look (J : zM) (x1 : Int32) : Option (Int32 × zM) :=
  zb (f_X9_isTool J x1) (fun q1 =>
  if q1 = 0 then
    some ((-1), J)
  else
    zb (f_X9_looks J x1) (fun q3 =>
    some (q3.1, q3.2)))
def f_X9_does (J : zM) (x1 : Int32) : Option (Int32 × zM) :=
  if x1 = 99 then
    zb (f_X9_in J (J 17 2) 0 9) (fun q1 =>
    if q1 = 0 then
      some ((-1), J)
    else
      zb (f_X9_in J (J 17 3) 1 30) (fun q3 =>
      if q3 = 0 then
        some ((-1), J)
      else
        zb (f_X9_claim J (J 17 0) (J 17 1) ((100 * (J 17 2)) + (J 17 3))) (fun q5 =>
        some (q5.1, q5.2))))
  else if x1 = 103 then
    zb (f_X9_pass J (J 17 0) (J 17 1)) (fun q6 =>
    some (q6.1, q6.2))
  else if x1 = 107 then
    zb (f_X9_look J (J 17 0)) (fun q7 =>
    some (q7.1, q7.2))
  else if x1 = 108 then
    zb (f_X9_lease J (J 17 0) (J 17 1) (J 17 2)) (fun q8 =>
    some (q8.1, q8.2))
  else if x1 = 112 then
    zb (f_X9_person J (J 17 0) (J 17 1)) (fun q9 =>
    some (q9.1, q9.2))
  else if x1 = 114 then
    zb (f_X9_returned J (J 17 0)) (fun q10 =>
    some (q10.1, q10.2))
  else if x1 = 115 then
    zb (f_X9_swap J (J 17 0) (J 17 1)) (fun q11 =>
    some (q11.1, q11.2))
  else if x1 = 116 then
    zb (f_X9_tool J (J 17 0)) (fun q12 =>
    some (q12.1, q12.2))
  else if x1 = 117 then
    zb (f_X9_use J (J 17 0) (J 17 1)) (fun q13 =>
    some (q13.1, q13.2))
  else if x1 = 119 then
    zb (f_X9_wish J (J 17 0) (J 17 1) (J 17 2)) (fun q14 =>
    some (q14.1, q14.2))
  else zb (f_X9_days J (J 17 0)) (fun q15 =>
  some (q15.1, q15.2))
def f_X9_feed (J : zM) (x1 : Int32) : Option (Int32 × zM) :=
  zb (f_X9_in J x1 0 255) (fun q1 =>
  if q1 = 0 then
    some ((-1), J)
  else
    if (J 0 8) = 120 then
      some ((-3), J)
    else
      zlet (ms J 0 8 ((J 0 8) + 1)) (fun M4 =>
      zck (zin (J 0 8) 120) (
      zlet (ms M4 6 ((J 0 8).toNatClampNeg) x1) (fun M5 =>
      some ((M5 0 8), M5)))))
def f_X9_fund_j41 (M : zM) (x1 : Int32) (x2 : Int32) (s0 : Int32) : Option (Int32 × zM) :=
  zb (f_X9_p M x1 1) (fun q7 =>
  zlet ((q7 + x2) - s0) (fun w8 =>
  if w8 ≤ 9999 then
    zb (f_X9_p M x1 4) (fun q10 =>
    zb (f_X9_setP M x1 4 (q10 - s0)) (fun q11 =>
    zlet (ms q11 1 1083 ((q11 1 1083) + s0)) (fun M12 =>
    zb (f_X9_setP M12 x1 1 w8) (fun q13 =>
    some (w8, q13)))))
  else
    some ((-5), M)))
def f_X9_fund (J : zM) (x1 : Int32) (x2 : Int32) : Option (Int32 × zM) :=
  zb (f_X9_isPerson J x1) (fun q1 =>
  if q1 = 0 then
    some ((-1), J)
  else
    zb (f_X9_in J x2 1 999) (fun q3 =>
    if q3 = 0 then
      some ((-1), J)
    else
      zb (f_X9_p J x1 4) (fun q5 =>
      if x2 ≤ q5 then
        f_X9_fund_j41 J x1 x2 x2
      else
        zb (f_X9_p J x1 4) (fun q14 =>
        f_X9_fund_j41 J x1 x2 q14))))
def f_X9_isHolder (J : zM) (x1 : Int32) : Option (Int32) :=
  zb (f_X9_in J x1 0 5) (fun q1 =>
  zck (zbo q1) (some q1))
def f_X9_hold_j45 (M : zM) (x1 : Int32) (x2 : Int32) (x3 : Int32) : Option (Int32 × zM) :=
  zck (zin x1 6) (
  zlet (ms M 7 (x1.toNatClampNeg) x2) (fun M7 =>
  zck (zin x1 6) (
  zlet (ms M7 8 (x1.toNatClampNeg) x3) (fun M8 =>
  some (1, M8)))))
def f_X9_hold_j30 (M : zM) (x1 : Int32) (x2 : Int32) (x3 : Int32) : Option (Int32 × zM) :=
  if x2 = 2 then
    zb (f_X9_isTool M x3) (fun q11 =>
    if q11 = 0 then
      some ((-1), M)
    else
      f_X9_hold_j45 M x1 x2 x3)
  else
    f_X9_hold_j45 M x1 x2 x3
def f_X9_hold (J : zM) (x1 : Int32) (x2 : Int32) (x3 : Int32) : Option (Int32 × zM) :=
  zb (f_X9_isHolder J x1) (fun q1 =>
  if q1 = 0 then
    some ((-1), J)
  else
    zb (f_X9_in J x2 0 2) (fun q3 =>
    if q3 = 0 then
      some ((-1), J)
    else
      if x2 = 1 then
        zb (f_X9_isPerson J x3) (fun q13 =>
        if q13 = 0 then
          some ((-1), J)
        else
          f_X9_hold_j30 J x1 x2 x3)
      else
        f_X9_hold_j30 J x1 x2 x3))
def f_X9_image (J : zM) : Option (Int32 × zM) :=
  zb (f_X9_take J 1 4) (fun q1 =>
  zlet (ms q1 0 4 1) (fun M2 =>
  some ((M2 1 1082), M2)))
def f_X9_spread (J : zM) (x0 : Int32) : Option (Int32) :=
  if 27 ≤ x0 then
    if 729 ≤ x0 then
      some x0
    else
      some (x0 * 27)
  else
    some (x0 * 729)
def f_X9_isAhead (J : zM) (x1 : Int32) (x2 : Int32) : Option (Int32) :=
  zb (f_X9_p J x1 2) (fun q1 =>
  zb (f_X9_p J x2 2) (fun q2 =>
  if q1 = q2 then
    zb (f_X9_p J x1 3) (fun q4 =>
    zb (f_X9_p J x2 3) (fun q5 =>
    if q4 = q5 then
      zb (f_X9_p J x1 0) (fun q7 =>
      zb (f_X9_spread J q7) (fun q8 =>
      zb (f_X9_p J x2 0) (fun q9 =>
      zb (f_X9_spread J q9) (fun q10 =>
      if q10 ≤ q8 then
        some 0
      else
        some 1))))
    else
      zb (f_X9_p J x1 3) (fun q12 =>
      zb (f_X9_p J x2 3) (fun q13 =>
      if q13 ≤ q12 then
        some 0
      else
        some 1))))
  else
    zb (f_X9_p J x1 2) (fun q15 =>
    zb (f_X9_p J x2 2) (fun q16 =>
    if q15 ≤ q16 then
      some 0
    else
      some 1))))
def f_X9_partsOf (J : zM) (x0 : Int32) : Option (Int32) :=
  if x0 = 99 then
    some 4
  else if x0 = 100 then
    some 1
  else if x0 = 103 then
    some 2
  else if x0 = 107 then
    some 1
  else if x0 = 108 then
    some 3
  else if x0 = 112 then
    some 2
  else if x0 = 114 then
    some 1
  else if x0 = 115 then
    some 2
  else if x0 = 116 then
    some 1
  else if x0 = 117 then
    some 2
  else if x0 = 119 then
    some 3
  else some (-2)
def f_X9_sees (J : zM) (x1 : Int32) (x2 : Int32) : Option (Int32) :=
  if 0 ≤ (J 0 14) then
    some 0
  else
    if (J 0 8) ≤ (J 0 13) then
      some 0
    else
      zck (zin (J 0 13) 120) (
      zb (f_X9_in J (J 6 (J 0 13).toNatClampNeg) x1 x2) (fun q4 =>
      if q4 = 0 then
        some 0
      else
        some 1))
def f_X9_must (J : zM) (x1 : Int32) (x2 : Int32) : Option (Int32 × zM) :=
  zb (f_X9_sees J x1 x2) (fun q1 =>
  if q1 = 0 then
    if 0 ≤ (J 0 14) then
      zlet (ms J 0 14 (J 0 14)) (fun M6 =>
      some (x1, M6))
    else
      zlet (ms J 0 14 (J 0 13)) (fun M7 =>
      some (x1, M7))
  else
    zlet (ms J 0 13 ((J 0 13) + 1)) (fun M3 =>
    zck (zin (J 0 13) 120) (
    some ((M3 6 (J 0 13).toNatClampNeg), M3))))
def f_X9_nameHere_l25 : Nat → zM → Int32 → Int32 → Option (Int32 × zM)
  | 0, _, _, _ => none
  | n + 1, M, y1, y2 =>
    if 2 ≤ y2 then
      some (y1, M)
    else
      zb (f_X9_sees M 97 122) (fun q5 =>
      if q5 = 0 then
        some (y1, M)
      else
        zlet (ms M 0 13 ((M 0 13) + 1)) (fun M7 =>
        zck (zin (M 0 13) 120) (
        zlet ((((27 * y1) + (M7 6 (M 0 13).toNatClampNeg)) - 97) + 1) (fun w9 =>
        f_X9_nameHere_l25 n M7 w9 (y2 + 1)))))
def f_X9_nameHere (J : zM) : Option (Int32 × zM) :=
  zb (f_X9_must J 32 32) (fun q1 =>
  zb (f_X9_must q1.2 97 122) (fun q2 =>
  zlet ((q2.1 - 97) + 1) (fun w3 =>
  f_X9_nameHere_l25 zFu q2.2 w3 0)))
def f_X9_number_l23 : Nat → zM → Int32 → Int32 → Option (Int32 × zM)
  | 0, _, _, _ => none
  | n + 1, M, y1, y2 =>
    if 2 ≤ y2 then
      some (y1, M)
    else
      zb (f_X9_sees M 48 57) (fun q5 =>
      if q5 = 0 then
        some (y1, M)
      else
        zlet (ms M 0 13 ((M 0 13) + 1)) (fun M7 =>
        zck (zin (M 0 13) 120) (
        zlet (((10 * y1) + (M7 6 (M 0 13).toNatClampNeg)) - 48) (fun w9 =>
        f_X9_number_l23 n M7 w9 (y2 + 1)))))
def f_X9_number (J : zM) : Option (Int32 × zM) :=
  zb (f_X9_must J 32 32) (fun q1 =>
  zb (f_X9_must q1.2 48 57) (fun q2 =>
  zlet (q2.1 - 48) (fun w3 =>
  f_X9_number_l23 zFu q2.2 w3 0)))
def f_X9_line_l77 (y1 : Int32) (y2 : Int32) : Nat → zM → Int32 → Option (Int32 × zM)
  | 0, _, _ => none
  | n + 1, M, y3 =>
    if y2 ≤ y3 then
      some (y1, M)
    else
      if y1 = 112 then
        if y3 = 0 then
          zb (f_X9_nameHere M) (fun q14 =>
          zck (zin y3 4) (
          zlet (ms q14.2 17 (y3.toNatClampNeg) q14.1) (fun M15 =>
          f_X9_line_l77 y1 y2 n M15 (y3 + 1))))
        else
          zb (f_X9_number M) (fun q11 =>
          zck (zin y3 4) (
          zlet (ms q11.2 17 (y3.toNatClampNeg) q11.1) (fun M12 =>
          f_X9_line_l77 y1 y2 n M12 (y3 + 1))))
      else
        zb (f_X9_number M) (fun q7 =>
        zck (zin y3 4) (
        zlet (ms q7.2 17 (y3.toNatClampNeg) q7.1) (fun M8 =>
        f_X9_line_l77 y1 y2 n M8 (y3 + 1))))
def f_X9_line_j31 (M : zM) (s0 : Int32) : Option (Int32 × zM) :=
  zb (f_X9_partsOf M s0) (fun q2 =>
  if 0 ≤ q2 then
    zlet (ms M 0 13 ((M 0 13) + 1)) (fun M4 =>
    f_X9_line_l77 s0 q2 zFu M4 0)
  else
    if 0 ≤ (M 0 14) then
      zlet (ms M 0 14 (M 0 14)) (fun M18 =>
      some (0, M18))
    else
      zlet (ms M 0 14 (M 0 13)) (fun M19 =>
      some (0, M19)))
def f_X9_line_j30 (M : zM) : Option (Int32 × zM) :=
  f_X9_line_j31 M 0
def f_X9_line (J : zM) : Option (Int32 × zM) :=
  if 0 ≤ (J 0 14) then
    f_X9_line_j30 J
  else
    if (J 0 8) ≤ (J 0 13) then
      f_X9_line_j30 J
    else
      zck (zin (J 0 13) 120) (
      f_X9_line_j31 J (J 6 (J 0 13).toNatClampNeg))
def f_X9_isForm_l15 (K : zM → Option (Int32 × zM)) : Nat → zM → Option (Int32 × zM)
  | 0, _ => none
  | n + 1, M =>
    if 0 ≤ (M 0 14) then
      K M
    else
      if (M 0 8) ≤ (M 0 13) then
        K M
      else
        zb (f_X9_must M 59 59) (fun q6 =>
        zb (f_X9_line q6.2) (fun q7 =>
        f_X9_isForm_l15 K n q7.2))
def f_X9_isForm_j50 (M : zM) : Option (Int32 × zM) :=
  if 0 ≤ (M 0 14) then
    some (0, M)
  else
    some (1, M)
def f_X9_isForm (J : zM) : Option (Int32 × zM) :=
  zlet (ms J 0 13 0) (fun M1 =>
  zlet (ms M1 0 14 (-1)) (fun M2 =>
  zb (f_X9_line M2) (fun q3 =>
  f_X9_isForm_l15 (fun M8 => 
      f_X9_isForm_j50 M8) zFu q3.2)))
def f_X9_rankOf_l4 (J : zM) (x1 : Int32) : Nat → Int32 → Int32 → Option (Int32)
  | 0, _, _ => none
  | n + 1, y2, y3 =>
    if (J 1 1080) ≤ y3 then
      some y2
    else
      if y3 = x1 then
        zlet (y2 + 0) (fun w3 =>
        f_X9_rankOf_l4 J x1 n w3 (y3 + 1))
      else
        zb (f_X9_isAhead J y3 x1) (fun q4 =>
        if q4 = 0 then
          zlet (y2 + 0) (fun w6 =>
          f_X9_rankOf_l4 J x1 n w6 (y3 + 1))
        else
          zlet (y2 + 1) (fun w7 =>
          f_X9_rankOf_l4 J x1 n w7 (y3 + 1)))
def f_X9_rankOf (J : zM) (x1 : Int32) : Option (Int32) :=
  f_X9_rankOf_l4 J x1 zFu 0 0
def f_X9_rankedAt_l2 (J : zM) (x1 : Int32) : Nat → Int32 → Option (Int32)
  | 0, _ => none
  | n + 1, y2 =>
    if (J 1 1080) ≤ y2 then
      some (-2)
    else
      zb (f_X9_rankOf J y2) (fun q2 =>
      if q2 = x1 then
        some y2
      else
        f_X9_rankedAt_l2 J x1 n (y2 + 1))
def f_X9_rankedAt (J : zM) (x1 : Int32) : Option (Int32) :=
  f_X9_rankedAt_l2 J x1 zFu 0
def f_X9_judge_l77 (J : zM) (x1 : Int32) (x2 : Int32) (y3 : Int32) (K : Option (Int32)) : Nat → Int32 → Option (Int32)
  | 0, _ => none
  | n + 1, y4 =>
    zck (zin x1 6) (
    if (J 9 x1.toNatClampNeg) ≤ y4 then
      K
    else
      if y4 < y3 then
        if x2 = (-1) then
          zb (f_X9_rankedAt J y4) (fun q18 =>
          if y3 ≤ y4 then
            some y4
          else
            zck (zin x1 6) (
            zck (zin y4 60) (
            if (J (11 + x1.toNatClampNeg) y4.toNatClampNeg) = q18 then
              f_X9_judge_l77 J x1 x2 y3 K n (y4 + 1)
            else
              some y4)))
        else
          zb (f_X9_claimAt J x2 y4) (fun q12 =>
          zb (f_X9_c J x2 q12 0) (fun q13 =>
          if y3 ≤ y4 then
            some y4
          else
            zck (zin x1 6) (
            zck (zin y4 60) (
            if (J (11 + x1.toNatClampNeg) y4.toNatClampNeg) = q13 then
              f_X9_judge_l77 J x1 x2 y3 K n (y4 + 1)
            else
              some y4))))
      else
        if y3 ≤ y4 then
          some y4
        else
          zck (zin x1 6) (
          zck (zin y4 60) (
          if (J (11 + x1.toNatClampNeg) y4.toNatClampNeg) = (-2) then
            f_X9_judge_l77 J x1 x2 y3 K n (y4 + 1)
          else
            some y4)))
def f_X9_judge_j73 (J : zM) (x1 : Int32) (x2 : Int32) (s0 : Int32) : Option (Int32) :=
  f_X9_judge_l77 J x1 x2 s0 (
      zck (zin x1 6) (
      if s0 ≤ (J 9 x1.toNatClampNeg) then
        some (-2)
      else
        zck (zin x1 6) (
        some (J 9 x1.toNatClampNeg)))) zFu 0
def f_X9_judge_j23 (J : zM) (x1 : Int32) (x2 : Int32) : Option (Int32) :=
  zck (zin x1 6) (
  if (J 7 x1.toNatClampNeg) = 3 then
    if x2 = (-1) then
      f_X9_judge_j73 J x1 x2 (J 1 1080)
    else
      zb (f_X9_t J x2 57) (fun q7 =>
      f_X9_judge_j73 J x1 x2 q7)
  else
    zck (zin x1 6) (
    if (J 7 x1.toNatClampNeg) = 0 then
      some (-11)
    else
      some (-12)))
def f_X9_judge (J : zM) (x1 : Int32) (x2 : Int32) : Option (Int32) :=
  zb (f_X9_isHolder J x1) (fun q1 =>
  if q1 = 0 then
    some (-1)
  else
    if x2 = (-1) then
      f_X9_judge_j23 J x1 x2
    else
      zb (f_X9_isTool J x2) (fun q32 =>
      if q32 = 0 then
        some (-1)
      else
        f_X9_judge_j23 J x1 x2))
def f_X9_link (J : zM) (x1 : Int32) (x2 : Int32) (x3 : Int32) : Option (Int32) :=
  zb (f_X9_isTool J x1) (fun q1 =>
  if q1 = 0 then
    some (-1)
  else
    if x2 < 0 then
      some (-1)
    else
      zb (f_X9_in J x3 0 2) (fun q4 =>
      if q4 = 0 then
        some (-1)
      else
        zb (f_X9_t J x1 6) (fun q6 =>
        if q6 ≤ x2 then
          some (-2)
        else
          zb (f_X9_t J x1 ((8 + (3 * x2)) + x3)) (fun q8 =>
          some q8))))
def f_X9_toolsOf_l4 (J : zM) (x1 : Int32) : Nat → Int32 → Int32 → Option (Int32)
  | 0, _, _ => none
  | n + 1, y2, y3 =>
    if (J 1 1081) ≤ y3 then
      some y2
    else
      zb (f_X9_t J y3 2) (fun q2 =>
      if q2 = x1 then
        zlet (y2 + 1) (fun w5 =>
        f_X9_toolsOf_l4 J x1 n w5 (y3 + 1))
      else
        zlet (y2 + 0) (fun w4 =>
        f_X9_toolsOf_l4 J x1 n w4 (y3 + 1)))
def f_X9_toolsOf (J : zM) (x1 : Int32) : Option (Int32) :=
  f_X9_toolsOf_l4 J x1 zFu 0 0
def f_X9_personOf (J : zM) (x1 : Int32) (x2 : Int32) : Option (Int32) :=
  zb (f_X9_isPerson J x1) (fun q1 =>
  if q1 = 0 then
    some (-1)
  else
    zb (f_X9_in J x2 0 7) (fun q3 =>
    if q3 = 0 then
      some (-1)
    else
      if 5 ≤ x2 then
        if x2 = 5 then
          zb (f_X9_toolsOf J x1) (fun q10 =>
          some q10)
        else
          if x2 = 6 then
            zb (f_X9_rankOf J x1) (fun q9 =>
            some q9)
          else
            zb (f_X9_claimsOf J x1) (fun q8 =>
            some q8)
      else
        zb (f_X9_p J x1 x2) (fun q11 =>
        some q11)))
def f_X9_put (J : zM) (x1 : Int32) (x2 : Int32) (x3 : Int32) : Option (Int32 × zM) :=
  zb (f_X9_isHolder J x1) (fun q1 =>
  if q1 = 0 then
    some ((-2000000000), J)
  else
    zck (zin x1 6) (
    if (J 7 x1.toNatClampNeg) = 3 then
      zck (zin x1 6) (
      zb (f_X9_in J x2 0 ((J 9 x1.toNatClampNeg) - 1)) (fun q6 =>
      if q6 = 0 then
        some ((-2000000000), J)
      else
        zck (zin x1 6) (
        zck (zin x2 60) (
        zlet (J (11 + x1.toNatClampNeg) x2.toNatClampNeg) (fun w10 =>
        zck (zin x1 6) (
        zck (zin x2 60) (
        zlet (ms J (11 + x1.toNatClampNeg) (x2.toNatClampNeg) x3) (fun M12 =>
        some (w10, M12)))))))))
    else
      some ((-2000000000), J)))
def f_X9_ranked (J : zM) (x1 : Int32) : Option (Int32) :=
  if 0 ≤ x1 then
    zb (f_X9_rankedAt J x1) (fun q2 =>
    some q2)
  else
    some (-1)
def f_X9_wishesMore (J : zM) (x1 : Int32) (x2 : Int32) : Option (Int32) :=
  zb (f_X9_t J x1 2) (fun q1 =>
  zb (f_X9_more J q1 x1 x2) (fun q2 =>
  if q2 ≤ 0 then
    some 0
  else
    some 1))
def f_X9_rings_l37 (J : zM) (y2 : Int32) (y3 : Int32) (K : Int32 → Option (Int32)) : Nat → Int32 → Int32 → Option (Int32)
  | 0, _, _ => none
  | n + 1, y1, y4 =>
    if (J 1 1081) ≤ y4 then
      K y1
    else
      zb (f_X9_mayBeSwapped J y2 y3) (fun q6 =>
      if q6 = 0 then
        zlet (y1 + 0) (fun w9 =>
        f_X9_rings_l37 J y2 y3 K n w9 (y4 + 1))
      else
        zb (f_X9_mayBeSwapped J y3 y4) (fun q10 =>
        if q10 = 0 then
          zlet (y1 + 0) (fun w13 =>
          f_X9_rings_l37 J y2 y3 K n w13 (y4 + 1))
        else
          zb (f_X9_mayBeSwapped J y4 y2) (fun q14 =>
          if q14 = 0 then
            zlet (y1 + 0) (fun w17 =>
            f_X9_rings_l37 J y2 y3 K n w17 (y4 + 1))
          else
            zb (f_X9_wishesMore J y2 y3) (fun q19 =>
            if q19 = 0 then
              zlet (y1 + 0) (fun w21 =>
              f_X9_rings_l37 J y2 y3 K n w21 (y4 + 1))
            else
              zb (f_X9_wishesMore J y3 y4) (fun q22 =>
              if q22 = 0 then
                zlet (y1 + 0) (fun w24 =>
                f_X9_rings_l37 J y2 y3 K n w24 (y4 + 1))
              else
                zb (f_X9_wishesMore J y4 y2) (fun q25 =>
                if q25 = 0 then
                  zlet (y1 + 0) (fun w27 =>
                  f_X9_rings_l37 J y2 y3 K n w27 (y4 + 1))
                else
                  zlet (y1 + 1) (fun w28 =>
                  f_X9_rings_l37 J y2 y3 K n w28 (y4 + 1))))))))
def f_X9_rings_l20 (J : zM) (y2 : Int32) (K : Int32 → Option (Int32)) : Nat → Int32 → Int32 → Option (Int32)
  | 0, _, _ => none
  | n + 1, y1, y3 =>
    if (J 1 1081) ≤ y3 then
      K y1
    else
      zlet (y2 + 1) (fun w4 =>
      f_X9_rings_l37 J y2 y3 (fun z29 => 
          f_X9_rings_l20 J y2 K n z29 (y3 + 1)) zFu y1 w4)
def f_X9_rings_l4 (J : zM) : Nat → Int32 → Int32 → Option (Int32)
  | 0, _, _ => none
  | n + 1, y1, y2 =>
    if (J 1 1081) ≤ y2 then
      some y1
    else
      zlet (y2 + 1) (fun w2 =>
      f_X9_rings_l20 J y2 (fun z30 => 
          f_X9_rings_l4 J n z30 (y2 + 1)) zFu y1 w2)
def f_X9_rings (J : zM) : Option (Int32) :=
  f_X9_rings_l4 J zFu 0 0
def f_X9_row_l39 (x1 : Int32) : Nat → zM → Int32 → Option (Int32 × zM)
  | 0, _, _ => none
  | n + 1, M, y3 =>
    if 60 ≤ y3 then
      some (1, M)
    else
      zck (zin x1 6) (
      zck (zin y3 60) (
      zlet (ms M (11 + x1.toNatClampNeg) (y3.toNatClampNeg) 0) (fun M9 =>
      f_X9_row_l39 x1 n M9 (y3 + 1))))
def f_X9_row (J : zM) (x1 : Int32) (x2 : Int32) : Option (Int32 × zM) :=
  zb (f_X9_isHolder J x1) (fun q1 =>
  if q1 = 0 then
    some ((-1), J)
  else
    if x2 ≤ 60 then
      if 0 ≤ x2 then
        zck (zin x1 6) (
        zlet (ms J 7 (x1.toNatClampNeg) 3) (fun M5 =>
        zck (zin x1 6) (
        zlet (ms M5 9 (x1.toNatClampNeg) x2) (fun M6 =>
        f_X9_row_l39 x1 zFu M6 0))))
      else
        some ((-14), J)
    else
      some ((-1), J))
def f_X9_script_l41 (K : zM → Int32 → Int32 → Option (Int32 × zM)) : Nat → zM → Int32 → Int32 → Option (Int32 × zM)
  | 0, _, _, _ => none
  | n + 1, M, y1, y2 =>
    if y2 = 0 then
      K M y1 y2
    else
      if (M 0 8) ≤ (M 0 13) then
        K M y1 y2
      else
        if y1 ≤ 0 then
          zlet (ms M 0 13 ((M 0 13) + 0)) (fun M8 =>
          zb (f_X9_line M8) (fun q9 =>
          zb (f_X9_does q9.2 q9.1) (fun q10 =>
          if q10.1 < 0 then
            f_X9_script_l41 K n q10.2 (y1 + 1) 0
          else
            f_X9_script_l41 K n q10.2 (y1 + 1) 1)))
        else
          zlet (ms M 0 13 ((M 0 13) + 1)) (fun M12 =>
          zb (f_X9_line M12) (fun q13 =>
          zb (f_X9_does q13.2 q13.1) (fun q14 =>
          if q14.1 < 0 then
            f_X9_script_l41 K n q14.2 (y1 + 1) 0
          else
            f_X9_script_l41 K n q14.2 (y1 + 1) 1)))
def f_X9_script_j97 (M : zM) (y1 : Int32) (y2 : Int32) : Option (Int32 × zM) :=
  zlet (ms M 0 8 0) (fun M19 =>
  if y2 = 0 then
    zb (f_X9_take M19 3 1) (fun q21 =>
    some (((-2000) - (y1 - 1)), q21))
  else
    some (y1, M19))
def f_X9_script (J : zM) : Option (Int32 × zM) :=
  zb (f_X9_isForm J) (fun q1 =>
  if q1.1 = 0 then
    zlet (ms q1.2 0 8 0) (fun M22 =>
    some (((-1000) - (M22 0 14)), M22))
  else
    zb (f_X9_take q1.2 1 3) (fun q3 =>
    zlet (ms q3 0 13 0) (fun M4 =>
    f_X9_script_l41 (fun M16 z17 z18 => 
        f_X9_script_j97 M16 z17 z18) zFu M4 0 1)))
def f_X9_seen (J : zM) (x1 : Int32) (x2 : Int32) (x3 : Int32) : Option (Int32) :=
  zb (f_X9_isTool J x1) (fun q1 =>
  if q1 = 0 then
    some (-1)
  else
    if x2 < 0 then
      some (-1)
    else
      zb (f_X9_in J x3 0 1) (fun q4 =>
      if q4 = 0 then
        some (-1)
      else
        zb (f_X9_t J x1 32) (fun q6 =>
        if q6 ≤ x2 then
          some (-2)
        else
          zb (f_X9_t J x1 ((33 + (4 * x2)) + x3)) (fun q8 =>
          some q8))))
def f_X9_share_l25 (M : zM) (x1 : Int32) (x2 : Int32) (K : Int32 → Option (Int32 × zM)) : Nat → Int32 → Option (Int32 × zM)
  | 0, _ => none
  | n + 1, y3 =>
    if (M 0 6) ≤ y3 then
      some (0, M)
    else
      zck (zin y3 12) (
      if (M 5 y3.toNatClampNeg) = x2 then
        K y3
      else
        f_X9_share_l25 M x1 x2 K n (y3 + 1))
def f_X9_share (J : zM) (x1 : Int32) (x2 : Int32) : Option (Int32 × zM) :=
  zb (f_X9_isTool J x1) (fun q1 =>
  if q1 = 0 then
    some ((-1), J)
  else
    zb (f_X9_isPerson J x2) (fun q3 =>
    if q3 = 0 then
      some ((-1), J)
    else
      zb (f_X9_blames J x1) (fun q5 =>
      f_X9_share_l25 q5 x1 x2 (fun z9 => 
          zb (f_X9_costOf q5 x1) (fun q10 =>
          zb (f_X9_shareOf q5 q10 z9) (fun q11 =>
          some (q11, q5)))) zFu 0)))
def f_X9_swapsNow_l30 (x1 : Int32) (y5 : Int32) (K : zM → Int32 → Int32 → Int32 → Option (Int32 × zM)) : Nat → zM → Int32 → Int32 → Int32 → Int32 → Option (Int32 × zM)
  | 0, _, _, _, _, _ => none
  | n + 1, M, y2, y3, y4, y6 =>
    if (M 1 1081) ≤ y6 then
      K M y2 y3 y4
    else
      zb (f_X9_mayBeSwapped M y5 y6) (fun q4 =>
      if q4 = 0 then
        f_X9_swapsNow_l30 x1 y5 K n M y2 y3 y4 (y6 + 1)
      else
        zb (f_X9_gain M y5 y6) (fun q6 =>
        zb (f_X9_take M 1 2) (fun q7 =>
        zb (f_X9_swapped q7 y5 y6) (fun q8 =>
        if q8.1 = 0 then
          zb (f_X9_take q8.2 2 1) (fun q14 =>
          zlet (y2 + 1) (fun w16 =>
          if q6 ≤ y4 then
            f_X9_swapsNow_l30 x1 y5 K n q14 w16 y3 y4 (y6 + 1)
          else
            zlet ((10 * y5) + y6) (fun w19 =>
            f_X9_swapsNow_l30 x1 y5 K n q14 w16 w19 q6 (y6 + 1))))
        else
          zb (f_X9_take q8.2 2 1) (fun q10 =>
          zlet (y2 + 0) (fun w12 =>
          f_X9_swapsNow_l30 x1 y5 K n q10 w12 y3 y4 (y6 + 1)))))))
def f_X9_swapsNow_l11 (x1 : Int32) (K : zM → Int32 → Int32 → Option (Int32 × zM)) : Nat → zM → Int32 → Int32 → Int32 → Int32 → Option (Int32 × zM)
  | 0, _, _, _, _, _ => none
  | n + 1, M, y2, y3, y4, y5 =>
    if (M 1 1081) ≤ y5 then
      K M y2 y3
    else
      zlet (y5 + 1) (fun w2 =>
      f_X9_swapsNow_l30 x1 y5 (fun M20 z21 z22 z23 => 
          f_X9_swapsNow_l11 x1 K n M20 z21 z22 z23 (y5 + 1)) zFu M y2 y3 y4 w2)
def f_X9_swapsNow (J : zM) (x1 : Int32) : Option (Int32 × zM) :=
  f_X9_swapsNow_l11 x1 (fun M24 z25 z26 => 
      if x1 = 0 then
        some (z25, M24)
      else
        some (z26, M24)) zFu J 0 (-2) 0 0
def f_X9_swaps (J : zM) (x1 : Int32) : Option (Int32 × zM) :=
  zb (f_X9_in J x1 0 3) (fun q1 =>
  if q1 = 0 then
    some ((-1), J)
  else
    if 2 ≤ x1 then
      if x1 = 2 then
        zb (f_X9_rings J) (fun q6 =>
        some (q6, J))
      else
        zb (f_X9_coins J) (fun q5 =>
        some (q5, J))
    else
      zb (f_X9_swapsNow J x1) (fun q7 =>
      some (q7.1, q7.2)))
def f_X9_tells_j144 (J : zM) (s0 : Int32) (s1 : Int32) : Option (Int32) :=
  zb (f_X9_t J s1 s0) (fun q14 =>
  some q14)
def f_X9_tells_j100 (J : zM) (x2 : Int32) (y3 : Int32) (s0 : Int32) : Option (Int32) :=
  if s0 = 0 then
    some (-12)
  else
    if x2 = 0 then
      some y3
    else
      if x2 = 1 then
        zb (f_X9_p J y3 2) (fun q15 =>
        some q15)
      else
        if x2 = 2 then
          f_X9_tells_j144 J 0 y3
        else
          f_X9_tells_j144 J 2 y3
def f_X9_tells_j99 (J : zM) (x2 : Int32) (y3 : Int32) : Option (Int32) :=
  f_X9_tells_j100 J x2 y3 0
def f_X9_tells_j95 (J : zM) (x2 : Int32) (y3 : Int32) : Option (Int32) :=
  f_X9_tells_j100 J x2 y3 1
def f_X9_tells_j67 (J : zM) (x1 : Int32) (x2 : Int32) (y3 : Int32) : Option (Int32) :=
  if x2 ≤ 1 then
    f_X9_tells_j99 J x2 y3
  else
    zck (zin x1 6) (
    if (J 7 x1.toNatClampNeg) = 2 then
      if x2 = 2 then
        f_X9_tells_j95 J x2 y3
      else
        zb (f_X9_isOut J y3) (fun q22 =>
        if q22 = 0 then
          f_X9_tells_j99 J x2 y3
        else
          f_X9_tells_j95 J x2 y3)
    else
      f_X9_tells_j99 J x2 y3)
def f_X9_tells (J : zM) (x1 : Int32) (x2 : Int32) : Option (Int32) :=
  zb (f_X9_isHolder J x1) (fun q1 =>
  if q1 = 0 then
    some (-1)
  else
    zb (f_X9_in J x2 0 3) (fun q3 =>
    if q3 = 0 then
      some (-1)
    else
      zck (zin x1 6) (
      if (J 7 x1.toNatClampNeg) = 0 then
        some (-11)
      else
        zck (zin x1 6) (
        zck (zin x1 6) (
        if (J 7 x1.toNatClampNeg) = 3 then
          f_X9_tells_j99 J x2 (J 8 x1.toNatClampNeg)
        else
          if x2 = 0 then
            f_X9_tells_j95 J x2 (J 8 x1.toNatClampNeg)
          else
            if x2 = 1 then
              zck (zin x1 6) (
              if (J 7 x1.toNatClampNeg) = 1 then
                f_X9_tells_j95 J x2 (J 8 x1.toNatClampNeg)
              else
                f_X9_tells_j67 J x1 x2 (J 8 x1.toNatClampNeg))
            else
              f_X9_tells_j67 J x1 x2 (J 8 x1.toNatClampNeg))))))
def f_X9_told_l87 (M : zM) : Nat → Int32 → Int32 → Option (Int32 × zM)
  | 0, _, _ => none
  | n + 1, y3, y4 =>
    if (M 0 6) ≤ y4 then
      some (y3, M)
    else
      zck (zin y4 12) (
      zlet (y3 ||| (1 <<< ((M 5 y4.toNatClampNeg) &&& 31))) (fun w10 =>
      f_X9_told_l87 M n w10 (y4 + 1)))
def f_X9_told (J : zM) (x1 : Int32) (x2 : Int32) : Option (Int32 × zM) :=
  zb (f_X9_isTool J x1) (fun q1 =>
  if q1 = 0 then
    some ((-1), J)
  else
    zb (f_X9_in J x2 0 2) (fun q3 =>
    if q3 = 0 then
      some ((-1), J)
    else
      if x2 = 0 then
        zb (f_X9_nextClaim J x1) (fun q14 =>
        if 0 ≤ q14 then
          zb (f_X9_c J x1 q14 0) (fun q16 =>
          some (q16, J))
        else
          some ((-2), J))
      else
        if x2 = 2 then
          zb (f_X9_isOut J x1) (fun q11 =>
          if q11 = 0 then
            some (0, J)
          else
            zb (f_X9_fee J x1 (J 1 1082)) (fun q13 =>
            some (q13, J)))
        else
          zb (f_X9_blames J x1) (fun q7 =>
          f_X9_told_l87 q7 zFu 0 0)))
def f_X9_toolOf (J : zM) (x1 : Int32) (x2 : Int32) : Option (Int32) :=
  zb (f_X9_isTool J x1) (fun q1 =>
  if q1 = 0 then
    some (-1)
  else
    zb (f_X9_in J x2 0 8) (fun q3 =>
    if q3 = 0 then
      some (-1)
    else
      if x2 = 2 then
        zb (f_X9_isOut J x1) (fun q5 =>
        if q5 = 0 then
          some (-2)
        else
          zb (f_X9_t J x1 x2) (fun q7 =>
          some q7))
      else if x2 = 3 then
        zb (f_X9_isOut J x1) (fun q8 =>
        if q8 = 0 then
          some (-2)
        else
          zb (f_X9_t J x1 x2) (fun q10 =>
          some q10))
      else if x2 = 4 then
        zb (f_X9_isOut J x1) (fun q11 =>
        if q11 = 0 then
          some (-2)
        else
          zb (f_X9_t J x1 x2) (fun q13 =>
          some q13))
      else if x2 = 6 then
        zb (f_X9_t J x1 57) (fun q14 =>
        some q14)
      else if x2 = 7 then
        zb (f_X9_t J x1 6) (fun q15 =>
        some q15)
      else if x2 = 8 then
        zb (f_X9_t J x1 32) (fun q16 =>
        some q16)
      else zb (f_X9_t J x1 x2) (fun q17 =>
      some q17)))
def f_X9_waive (J : zM) (x1 : Int32) (x2 : Int32) : Option (Int32 × zM) :=
  zb (f_X9_isPerson J x1) (fun q1 =>
  if q1 = 0 then
    some ((-1), J)
  else
    zb (f_X9_isTool J x2) (fun q3 =>
    if q3 = 0 then
      some ((-1), J)
    else
      zb (f_X9_claimOn J x2 x1) (fun q5 =>
      if 0 ≤ q5 then
        zb (f_X9_claimGoes J x2 q5) (fun q7 =>
        zb (f_X9_t q7 x2 57) (fun q8 =>
        some (q8, q7)))
      else
        some ((-2), J))))
def f_X9_why (J : zM) (x1 : Int32) : Option (Int32) :=
  if 0 ≤ x1 then
    if (J 1 1084) ≤ x1 then
      some (-2)
    else
      zck (zin (1085 + x1) 1087) (
      some (J 1 (1085 + x1).toNatClampNeg))
  else
    some (-1)
/-! the kinds of what is answered -/
theorem kd_X2_personAt {I : zM} {x0 : Nat} {x1 : Int32} {r : Nat} (hk : zK x0 = 2) (hf : f_X2_personAt I x0 x1 = some r) : zK r = 3 := by
  unfold f_X2_personAt at hf
  split at hf
  · cases hf
    exact zk_2_2 hk
  · split at hf
    · cases hf
      exact zk_2_2 hk
    · obtain ⟨h, hf⟩ := zck_e hf
      cases hf
      exact zk_2_p hk _ (zin_lt h)
theorem kd_X2_toolAt {I : zM} {x0 : Nat} {x1 : Int32} {r : Nat} (hk : zK x0 = 2) (hf : f_X2_toolAt I x0 x1 = some r) : zK r = 7 := by
  unfold f_X2_toolAt at hf
  split at hf
  · cases hf
    exact zk_2_3 hk
  · split at hf
    · cases hf
      exact zk_2_3 hk
    · obtain ⟨h, hf⟩ := zck_e hf
      cases hf
      exact zk_2_t hk _ (zin_lt h)
theorem kd_X8_holderAt {I : zM} {x1 : Int32} {r : Nat} (hf : f_X8_holderAt I x1 = some r) : zK r = 1 := by
  unfold f_X8_holderAt at hf
  split at hf
  · cases hf
    exact zkL_338
  · split at hf
    · cases hf
      exact zkL_338
    · obtain ⟨h, hf⟩ := zck_e hf
      cases hf
      exact zk_h _ (zin_lt h)
