def f_J6_bitCount_0f7a4 (p0 : Int32) (M : KM) : Int32 :=
  lt ((p0 - (((p0).toUInt32 >>> (((1 : Int32)).toUInt32 &&& Int32.toUInt32 31)).toInt32 &&& (1431655765 : Int32)))) fun (v1 : Int32) =>
  lt (((v1 &&& (858993459 : Int32)) + (((v1).toUInt32 >>> (((2 : Int32)).toUInt32 &&& Int32.toUInt32 31)).toInt32 &&& (858993459 : Int32)))) fun (v2 : Int32) =>
  lt (((v2 + ((v2).toUInt32 >>> (((4 : Int32)).toUInt32 &&& Int32.toUInt32 31)).toInt32) &&& (252645135 : Int32))) fun (v3 : Int32) =>
  lt ((v3 + ((v3).toUInt32 >>> (((8 : Int32)).toUInt32 &&& Int32.toUInt32 31)).toInt32)) fun (v4 : Int32) =>
  lt ((v4 + ((v4).toUInt32 >>> (((16 : Int32)).toUInt32 &&& Int32.toUInt32 31)).toInt32)) fun (v5 : Int32) =>
  (v5 &&& (63 : Int32))
def f_X1_canBe (p0 : Int32) (p1 : Int32) (M : KM) : Int32 :=
  if p0 < 0 then
    (0 : Int32)
  else
    if (23 : Int32) < p0 then
      (0 : Int32)
    else
      if p1 ≤ p0 then
        (0 : Int32)
      else
        if (24 : Int32) < p1 then
          (0 : Int32)
        else
          (1 : Int32)
def f_X1_set (a0 : Nat) (p1 : Int32) (p2 : Int32) (M : KM) : KM :=
  lt (uI M a0 0 p1) fun (M1 : KM) =>
  lt (uI M1 a0 1 p2) fun (M2 : KM) =>
  lt (uI M2 a0 2 (((M2.1 a0 1) - (M2.1 a0 0)) * (60 : Int32))) fun (M3 : KM) =>
  M3
def f_X1_areGlaring (n : Nat) (a0 : Nat) (p1 : Int32) (M : KM) : Option Int32 :=
  lt (((p1 / (60 : Int32)) - (p1 / (60 : Int32)) / (24 : Int32) * (24 : Int32))) fun (v1 : Int32) =>
  if v1 < (M.1 a0 0) then
    some (0 : Int32)
  else
    if (M.1 a0 1) ≤ v1 then
      some (0 : Int32)
    else
      some (1 : Int32)
def f_X1_glareBefore (n : Nat) (a0 : Nat) (p1 : Int32) (M : KM) : Option Int32 :=
  lt (((p1 - p1 / (1440 : Int32) * (1440 : Int32)) - ((M.1 a0 0) * (60 : Int32)))) fun (v1 : Int32) =>
  lt (fun (x2 : Int32) => (
    if (M.1 a0 2) ≤ x2 then
      some (((p1 / (1440 : Int32)) * (M.1 a0 2)) + (M.1 a0 2))
    else
      some (((p1 / (1440 : Int32)) * (M.1 a0 2)) + x2)
  ) : Int32 → Option Int32) fun j20 =>
  if 0 ≤ v1 then
    j20 v1
  else
    j20 (0 : Int32)
def f_X1_movedIn (n : Nat) (a0 : Nat) (p1 : Int32) (p2 : Int32) (p3 : Int32) (M : KM) : Option Int32 :=
  if p1 = (2 : Int32) then
    some (0 : Int32)
  else
    if p1 = 0 then
      some p3
    else
      (f_X1_glareBefore n a0 (p2 + p3) M).bind fun (v1 : Int32) =>
      (f_X1_glareBefore n a0 p2 M).bind fun (v2 : Int32) =>
      some ((p3 - v1) + v2)
def f_X1_doneAt (n : Nat) (a0 : Nat) (p1 : Int32) (p2 : Int32) (p3 : Int32) (M : KM) : Option Int32 :=
  if p1 = (2 : Int32) then
    some (1000000000 : Int32)
  else
    if p2 < (1000000000 : Int32) then
      if p1 = 0 then
        some (p2 + p3)
      else
        lt (((1440 : Int32) - (M.1 a0 2))) fun (v1 : Int32) =>
        if 0 < v1 then
          (f_X1_glareBefore n a0 p2 M).bind fun (v2 : Int32) =>
          lt ((((p2 - v2) + p3) - (1 : Int32))) fun (v3 : Int32) =>
          if ¬ v1 = 0 then
          lt (((v3 - v3 / v1 * v1) + (1 : Int32))) fun (v5 : Int32) =>
          lt (fun (x6 : Int32) => (
            if ¬ v1 = 0 then
            some ((((v3 / v1) * (1440 : Int32)) + v5) + x6)
            else none
          ) : Int32 → Option Int32) fun j82 =>
          if ((M.1 a0 0) * (60 : Int32)) < v5 then
            j82 (M.1 a0 2)
          else
            j82 (0 : Int32)
          else none
        else
          some (1000000000 : Int32)
    else
      some (1000000000 : Int32)
def f_X7_stayAt (a0 : Nat) (p1 : Int32) (M : KM) : KM :=
  lt (uI M a0 5 p1) fun (M1 : KM) =>
  lt (uI M1 a0 6 (-1 : Int32)) fun (M2 : KM) =>
  lt (uI M2 a0 7 (-1 : Int32)) fun (M3 : KM) =>
  lt (uI M3 a0 8 (-1 : Int32)) fun (M4 : KM) =>
  lt (uI M4 a0 9 (-1 : Int32)) fun (M5 : KM) =>
  lt (uI M5 a0 10 (0 : Int32)) fun (M6 : KM) =>
  M6
def lp_X7_begin_30 (n : Nat) (a0 : Nat) (w6 : Int32) (M : KM) (k51 : KM → Option KM) : Option KM := match n with
  | 0 => none
  | n + 1 =>
    if (12 : Int32) ≤ w6 then
      k51 M
    else
      if ix w6 12 then
      lt (uI M (a0 + 1) (w6).toNatClampNeg (0 : Int32)) fun (M9 : KM) =>
      lt (w6 + (1 : Int32)) fun (v10 : Int32) =>
      lp_X7_begin_30 n a0 v10 M9 k51
      else none
def lp_X7_begin_54 (n : Nat) (a0 : Nat) (w6 : Int32) (M : KM) : Option KM := match n with
  | 0 => none
  | n + 1 =>
    if (8 : Int32) ≤ w6 then
      some M
    else
      if ix w6 8 then
      lt (uI M (a0 + 2) (w6).toNatClampNeg (0 : Int32)) fun (M14 : KM) =>
      lt (w6 + (1 : Int32)) fun (v15 : Int32) =>
      lp_X7_begin_54 n a0 v15 M14
      else none
def f_X7_begin (n : Nat) (a0 : Nat) (p1 : Int64) (p3 : Int32) (p4 : Int32) (p5 : Int32) (M : KM) : Option KM :=
  lt (uJ M a0 2 p1) fun (M1 : KM) =>
  if p3 = 0 ∨ p3 = 1 then
  lt (uI M1 a0 3 p3) fun (M3 : KM) =>
  if p4 = 0 ∨ p4 = 1 then
  lt (uI M3 a0 4 p4) fun (M5 : KM) =>
  lt (uI M5 a0 11 (0 : Int32)) fun (M6 : KM) =>
  lt (f_X7_stayAt a0 p5 M6) fun (v7 : KM) =>
  lp_X7_begin_30 n a0 (0 : Int32) v7
    (fun (M12 : KM) => (
      lp_X7_begin_54 n a0 (0 : Int32) M12
    ))
  else none
  else none
def f_X7_copyFrom (n : Nat) (a0 : Nat) (a1 : Nat) (M : KM) : Option KM :=
  if ¬ (0 : Int32) < 0 ∧ ¬ (0 : Int32) < 0 ∧ ¬ (12 : Int32) < 0 ∧ ((0 : Int32)).toNatClampNeg + ((12 : Int32)).toNatClampNeg ≤ 12 ∧ ((0 : Int32)).toNatClampNeg + ((12 : Int32)).toNatClampNeg ≤ 12 then
  lt (uIs M (a0 + 1) (va_cpy (M.1 (a1 + 1)) (M.1 (a0 + 1)) ((0 : Int32)).toNatClampNeg ((0 : Int32)).toNatClampNeg ((12 : Int32)).toNatClampNeg)) fun (M2 : KM) =>
  if ¬ (0 : Int32) < 0 ∧ ¬ (0 : Int32) < 0 ∧ ¬ (8 : Int32) < 0 ∧ ((0 : Int32)).toNatClampNeg + ((8 : Int32)).toNatClampNeg ≤ 8 ∧ ((0 : Int32)).toNatClampNeg + ((8 : Int32)).toNatClampNeg ≤ 8 then
  lt (uIs M2 (a0 + 2) (va_cpy (M2.1 (a1 + 2)) (M2.1 (a0 + 2)) ((0 : Int32)).toNatClampNeg ((0 : Int32)).toNatClampNeg ((8 : Int32)).toNatClampNeg)) fun (M4 : KM) =>
  lt (uJ M4 a0 2 (M4.2.1 a1 2)) fun (M5 : KM) =>
  if (M5.1 a1 3) = 0 ∨ (M5.1 a1 3) = 1 then
  lt (uI M5 a0 3 (M5.1 a1 3)) fun (M7 : KM) =>
  if (M7.1 a1 4) = 0 ∨ (M7.1 a1 4) = 1 then
  lt (uI M7 a0 4 (M7.1 a1 4)) fun (M9 : KM) =>
  lt (uI M9 a0 5 (M9.1 a1 5)) fun (M10 : KM) =>
  lt (uI M10 a0 6 (M10.1 a1 6)) fun (M11 : KM) =>
  lt (uI M11 a0 7 (M11.1 a1 7)) fun (M12 : KM) =>
  lt (uI M12 a0 8 (M12.1 a1 8)) fun (M13 : KM) =>
  lt (uI M13 a0 9 (M13.1 a1 9)) fun (M14 : KM) =>
  lt (uI M14 a0 10 (M14.1 a1 10)) fun (M15 : KM) =>
  lt (uI M15 a0 11 (M15.1 a1 11)) fun (M16 : KM) =>
  some M16
  else none
  else none
  else none
  else none
def f_X7_isAtPlace (a0 : Nat) (M : KM) : Int32 :=
  if (M.1 a0 5) = (-1 : Int32) then
    (0 : Int32)
  else
    (1 : Int32)
def f_X7_isWalker (a0 : Nat) (M : KM) : Int32 :=
  if (M.1 a0 5) = (-1 : Int32) then
    if (M.1 a0 9) = (-1 : Int32) then
      (1 : Int32)
    else
      (0 : Int32)
  else
    (0 : Int32)
def f_X7_leaveBy (a0 : Nat) (p1 : Int32) (p2 : Int32) (p3 : Int32) (p4 : Int32) (M : KM) : KM :=
  lt (uI M a0 7 (M.1 a0 5)) fun (M1 : KM) =>
  lt (uI M1 a0 5 (-1 : Int32)) fun (M2 : KM) =>
  lt (uI M2 a0 6 p1) fun (M3 : KM) =>
  lt (uI M3 a0 8 p2) fun (M4 : KM) =>
  lt (uI M4 a0 9 p3) fun (M5 : KM) =>
  lt (uI M5 a0 10 p4) fun (M6 : KM) =>
  M6
def f_X8_clear (a0 : Nat) (M : KM) : KM :=
  lt (uI M a0 5 (0 : Int32)) fun (M1 : KM) =>
  lt (uI M1 a0 6 (0 : Int32)) fun (M2 : KM) =>
  lt (uI M2 a0 7 (0 : Int32)) fun (M3 : KM) =>
  M3
def f_X8_copyFrom (n : Nat) (a0 : Nat) (a1 : Nat) (M : KM) : Option KM :=
  if ¬ (0 : Int32) < 0 ∧ ¬ (0 : Int32) < 0 ∧ ¬ (60 : Int32) < 0 ∧ ((0 : Int32)).toNatClampNeg + ((60 : Int32)).toNatClampNeg ≤ 60 ∧ ((0 : Int32)).toNatClampNeg + ((60 : Int32)).toNatClampNeg ≤ 60 then
  lt (uIs M (a0 + 1) (va_cpy (M.1 (a1 + 1)) (M.1 (a0 + 1)) ((0 : Int32)).toNatClampNeg ((0 : Int32)).toNatClampNeg ((60 : Int32)).toNatClampNeg)) fun (M2 : KM) =>
  if ¬ (0 : Int32) < 0 ∧ ¬ (0 : Int32) < 0 ∧ ¬ (60 : Int32) < 0 ∧ ((0 : Int32)).toNatClampNeg + ((60 : Int32)).toNatClampNeg ≤ 60 ∧ ((0 : Int32)).toNatClampNeg + ((60 : Int32)).toNatClampNeg ≤ 60 then
  lt (uIs M2 (a0 + 2) (va_cpy (M2.1 (a1 + 2)) (M2.1 (a0 + 2)) ((0 : Int32)).toNatClampNeg ((0 : Int32)).toNatClampNeg ((60 : Int32)).toNatClampNeg)) fun (M4 : KM) =>
  if ¬ (0 : Int32) < 0 ∧ ¬ (0 : Int32) < 0 ∧ ¬ (60 : Int32) < 0 ∧ ((0 : Int32)).toNatClampNeg + ((60 : Int32)).toNatClampNeg ≤ 60 ∧ ((0 : Int32)).toNatClampNeg + ((60 : Int32)).toNatClampNeg ≤ 60 then
  lt (uIs M4 (a0 + 3) (va_cpy (M4.1 (a1 + 3)) (M4.1 (a0 + 3)) ((0 : Int32)).toNatClampNeg ((0 : Int32)).toNatClampNeg ((60 : Int32)).toNatClampNeg)) fun (M6 : KM) =>
  if ¬ (0 : Int32) < 0 ∧ ¬ (0 : Int32) < 0 ∧ ¬ (60 : Int32) < 0 ∧ ((0 : Int32)).toNatClampNeg + ((60 : Int32)).toNatClampNeg ≤ 60 ∧ ((0 : Int32)).toNatClampNeg + ((60 : Int32)).toNatClampNeg ≤ 60 then
  lt (uIs M6 (a0 + 4) (va_cpy (M6.1 (a1 + 4)) (M6.1 (a0 + 4)) ((0 : Int32)).toNatClampNeg ((0 : Int32)).toNatClampNeg ((60 : Int32)).toNatClampNeg)) fun (M8 : KM) =>
  if ¬ (0 : Int32) < 0 ∧ ¬ (0 : Int32) < 0 ∧ ¬ (60 : Int32) < 0 ∧ ((0 : Int32)).toNatClampNeg + ((60 : Int32)).toNatClampNeg ≤ 60 ∧ ((0 : Int32)).toNatClampNeg + ((60 : Int32)).toNatClampNeg ≤ 60 then
  lt (uIs M8 (a0 + 5) (va_cpy (M8.1 (a1 + 5)) (M8.1 (a0 + 5)) ((0 : Int32)).toNatClampNeg ((0 : Int32)).toNatClampNeg ((60 : Int32)).toNatClampNeg)) fun (M10 : KM) =>
  lt (uI M10 a0 5 (M10.1 a1 5)) fun (M11 : KM) =>
  lt (uI M11 a0 6 (M11.1 a1 6)) fun (M12 : KM) =>
  if (M12.1 a1 7) = 0 ∨ (M12.1 a1 7) = 1 then
  lt (uI M12 a0 7 (M12.1 a1 7)) fun (M14 : KM) =>
  some M14
  else none
  else none
  else none
  else none
  else none
  else none
def f_X8_add (n : Nat) (a0 : Nat) (p1 : Int32) (p2 : Int32) (p3 : Int32) (p4 : Int32) (M : KM) : Option (Int32 × KM) :=
  if (M.1 a0 5) < (60 : Int32) then
    if ix (M.1 a0 5) 60 then
    lt (uI M (a0 + 1) ((M.1 a0 5)).toNatClampNeg p1) fun (M2 : KM) =>
    if ix (M2.1 a0 5) 60 then
    lt (uI M2 (a0 + 2) ((M2.1 a0 5)).toNatClampNeg p2) fun (M4 : KM) =>
    if ix (M4.1 a0 5) 60 then
    lt (uI M4 (a0 + 3) ((M4.1 a0 5)).toNatClampNeg p3) fun (M6 : KM) =>
    if ix (M6.1 a0 5) 60 then
    lt (uI M6 (a0 + 4) ((M6.1 a0 5)).toNatClampNeg p4) fun (M8 : KM) =>
    if ix (M8.1 a0 5) 60 then
    lt (uI M8 (a0 + 5) ((M8.1 a0 5)).toNatClampNeg (M8.1 a0 5)) fun (M10 : KM) =>
    lt (uI M10 a0 5 ((M10.1 a0 5) + (1 : Int32))) fun (M11 : KM) =>
    if p1 = (10 : Int32) then
      some ((1 : Int32), M11)
    else
      lt (uI M11 a0 6 ((M11.1 a0 6) + (1 : Int32))) fun (M12 : KM) =>
      some ((1 : Int32), M12)
    else none
    else none
    else none
    else none
    else none
  else
    some ((0 : Int32), M)
def f_X8_close (n : Nat) (a0 : Nat) (p1 : Int32) (M : KM) : Option KM :=
  lt (((M.1 a0 5) - (1 : Int32))) fun (v1 : Int32) =>
  if p1 < 0 then
    some M
  else
    if v1 ≤ p1 then
      some M
    else
      if (60 : Int32) ≤ v1 then
        some M
      else
        if ix p1 60 then
        lt (uI M (a0 + 5) (p1).toNatClampNeg v1) fun (M3 : KM) =>
        if ix v1 60 then
        lt (uI M3 (a0 + 5) (v1).toNatClampNeg p1) fun (M5 : KM) =>
        some M5
        else none
        else none
def f_X10_isMissing (a0 : Nat) (M : KM) : Int32 :=
  if (M.1 a0 2) = (-1 : Int32) then
    (1 : Int32)
  else
    (0 : Int32)
def lp_X10_begin_12 (n : Nat) (a0 : Nat) (w3 : Int32) (M : KM) : Option KM := match n with
  | 0 => none
  | n + 1 =>
    if (60 : Int32) ≤ w3 then
      some M
    else
      if ix w3 60 then
      lt (uJ M (a0 + 1) (w3).toNatClampNeg (0 : Int64)) fun (M4 : KM) =>
      lt (w3 + (1 : Int32)) fun (v5 : Int32) =>
      lp_X10_begin_12 n a0 v5 M4
      else none
def f_X10_begin (n : Nat) (a0 : Nat) (p1 : Int32) (p2 : Int32) (M : KM) : Option KM :=
  lt (uI M a0 1 p1) fun (M1 : KM) =>
  lt (uI M1 a0 2 p2) fun (M2 : KM) =>
  lp_X10_begin_12 n a0 (0 : Int32) M2
def f_X10_hasRun (a0 : Nat) (p1 : Int32) (p2 : Int32) (M : KM) : Int32 :=
  if p1 < 0 then
    (0 : Int32)
  else
    if (M.1 a0 2) < p1 then
      (0 : Int32)
    else
      if ((M.1 a0 2) - p1) < p2 then
        (0 : Int32)
      else
        (1 : Int32)
def f_X10_cut (a0 : Nat) (p1 : Int64) (M : KM) : Int64 :=
  lt ((M.1 a0 1)) fun (v1 : Int32) =>
  if v1 = (0 : Int32) then
    (((p1).toInt32).toInt8.toInt32).toInt64
  else
  if v1 = (1 : Int32) then
    (((p1).toInt32).toInt16.toInt32).toInt64
  else
  if v1 = (2 : Int32) then
    ((p1).toInt32).toInt64
  else
  p1
def f_X10_put (n : Nat) (a0 : Nat) (p1 : Int32) (p2 : Int64) (M : KM) : Option KM :=
  if p1 < 0 then
    some M
  else
    if (M.1 a0 2) ≤ p1 then
      some M
    else
      lt (f_X10_cut a0 p2 M) fun (v1 : Int64) =>
      if ix p1 60 then
      lt (uJ M (a0 + 1) (p1).toNatClampNeg v1) fun (M3 : KM) =>
      some M3
      else none
def f_X2_clear (a0 : Nat) (M : KM) : KM :=
  lt (uI M a0 8 (0 : Int32)) fun (M1 : KM) =>
  lt (uI M1 a0 9 (0 : Int32)) fun (M2 : KM) =>
  lt (uI M2 a0 10 (0 : Int32)) fun (M3 : KM) =>
  lt (f_X1_set (a0 + 7) (10 : Int32) (16 : Int32) M3) fun (v4 : KM) =>
  lt (uI v4 a0 11 (480 : Int32)) fun (M5 : KM) =>
  lt (uI M5 a0 12 (9 : Int32)) fun (M6 : KM) =>
  lt (uI M6 a0 13 (3 : Int32)) fun (M7 : KM) =>
  lt (uI M7 a0 14 (4 : Int32)) fun (M8 : KM) =>
  lt (uI M8 a0 15 (0 : Int32)) fun (M9 : KM) =>
  lt (f_X8_clear (M9.2.2 a0 7) M9) fun (v11 : KM) =>
  v11
def lp_X2_copyFrom_158 (n : Nat) (a0 : Nat) (a1 : Nat) (w2 : Int32) (M : KM) (k182 : KM → Option KM) : Option KM := match n with
  | 0 => none
  | n + 1 =>
    if (12 : Int32) ≤ w2 then
      k182 M
    else
      if ix w2 12 then
      if ix w2 12 then
      lt (uI M (a0 + 5) (w2).toNatClampNeg (vp_nar .boolean (M.1 (a1 + 5) (w2).toNatClampNeg))) fun (M24 : KM) =>
      lt (w2 + (1 : Int32)) fun (v25 : Int32) =>
      lp_X2_copyFrom_158 n a0 a1 v25 M24 k182
      else none
      else none
def lp_X2_copyFrom_184 (n : Nat) (a0 : Nat) (a1 : Nat) (w2 : Int32) (M : KM) : Option KM := match n with
  | 0 => none
  | n + 1 =>
    if (8 : Int32) ≤ w2 then
      some M
    else
      if ix w2 8 then
      if ix w2 8 then
      (f_X7_copyFrom n ((a0 + 6) + 8 + 3 * (w2).toNatClampNeg) ((a1 + 6) + 8 + 3 * (w2).toNatClampNeg) M).bind fun (v30 : KM) =>
      lt (w2 + (1 : Int32)) fun (v31 : Int32) =>
      lp_X2_copyFrom_184 n a0 a1 v31 v30
      else none
      else none
def f_X2_copyFrom (n : Nat) (a0 : Nat) (a1 : Nat) (M : KM) : Option KM :=
  lt (uI M a0 8 (M.1 a1 8)) fun (M1 : KM) =>
  lt (uI M1 a0 9 (M1.1 a1 9)) fun (M2 : KM) =>
  lt (uI M2 a0 10 (M2.1 a1 10)) fun (M3 : KM) =>
  lt (f_X1_set (a0 + 7) (M3.1 (a1 + 7) 0) (M3.1 (a1 + 7) 1) M3) fun (v4 : KM) =>
  lt (uI v4 a0 11 (v4.1 a1 11)) fun (M5 : KM) =>
  lt (uI M5 a0 12 (M5.1 a1 12)) fun (M6 : KM) =>
  lt (uI M6 a0 13 (M6.1 a1 13)) fun (M7 : KM) =>
  lt (uI M7 a0 14 (M7.1 a1 14)) fun (M8 : KM) =>
  if (M8.1 a1 15) = 0 ∨ (M8.1 a1 15) = 1 then
  lt (uI M8 a0 15 (M8.1 a1 15)) fun (M10 : KM) =>
  (f_X8_copyFrom n (M10.2.2 a0 7) (M10.2.2 a1 7) M10).bind fun (v13 : KM) =>
  if ¬ (0 : Int32) < 0 ∧ ¬ (0 : Int32) < 0 ∧ ¬ (8 : Int32) < 0 ∧ ((0 : Int32)).toNatClampNeg + ((8 : Int32)).toNatClampNeg ≤ 8 ∧ ((0 : Int32)).toNatClampNeg + ((8 : Int32)).toNatClampNeg ≤ 8 then
  lt (uJs v13 (a0 + 1) (va_cpy (v13.2.1 (a1 + 1)) (v13.2.1 (a0 + 1)) ((0 : Int32)).toNatClampNeg ((0 : Int32)).toNatClampNeg ((8 : Int32)).toNatClampNeg)) fun (M15 : KM) =>
  if ¬ (0 : Int32) < 0 ∧ ¬ (0 : Int32) < 0 ∧ ¬ (12 : Int32) < 0 ∧ ((0 : Int32)).toNatClampNeg + ((12 : Int32)).toNatClampNeg ≤ 12 ∧ ((0 : Int32)).toNatClampNeg + ((12 : Int32)).toNatClampNeg ≤ 12 then
  lt (uIs M15 (a0 + 2) (va_cpy (M15.1 (a1 + 2)) (M15.1 (a0 + 2)) ((0 : Int32)).toNatClampNeg ((0 : Int32)).toNatClampNeg ((12 : Int32)).toNatClampNeg)) fun (M17 : KM) =>
  if ¬ (0 : Int32) < 0 ∧ ¬ (0 : Int32) < 0 ∧ ¬ (12 : Int32) < 0 ∧ ((0 : Int32)).toNatClampNeg + ((12 : Int32)).toNatClampNeg ≤ 12 ∧ ((0 : Int32)).toNatClampNeg + ((12 : Int32)).toNatClampNeg ≤ 12 then
  lt (uIs M17 (a0 + 3) (va_cpy (M17.1 (a1 + 3)) (M17.1 (a0 + 3)) ((0 : Int32)).toNatClampNeg ((0 : Int32)).toNatClampNeg ((12 : Int32)).toNatClampNeg)) fun (M19 : KM) =>
  if ¬ (0 : Int32) < 0 ∧ ¬ (0 : Int32) < 0 ∧ ¬ (12 : Int32) < 0 ∧ ((0 : Int32)).toNatClampNeg + ((12 : Int32)).toNatClampNeg ≤ 12 ∧ ((0 : Int32)).toNatClampNeg + ((12 : Int32)).toNatClampNeg ≤ 12 then
  lt (uIs M19 (a0 + 4) (va_cpy (M19.1 (a1 + 4)) (M19.1 (a0 + 4)) ((0 : Int32)).toNatClampNeg ((0 : Int32)).toNatClampNeg ((12 : Int32)).toNatClampNeg)) fun (M21 : KM) =>
  lp_X2_copyFrom_158 n a0 a1 (0 : Int32) M21
    (fun (M27 : KM) => (
      lp_X2_copyFrom_184 n a0 a1 (0 : Int32) M27
    ))
  else none
  else none
  else none
  else none
  else none
def f_X2_addPlace (n : Nat) (a0 : Nat) (p1 : Int64) (M : KM) : Option KM :=
  if (8 : Int32) ≤ (M.1 a0 8) then
    some M
  else
    if ix (M.1 a0 8) 8 then
    lt (uJ M (a0 + 1) ((M.1 a0 8)).toNatClampNeg p1) fun (M2 : KM) =>
    lt (uI M2 a0 8 ((M2.1 a0 8) + (1 : Int32))) fun (M3 : KM) =>
    some M3
    else none
def f_X2_addRoad (n : Nat) (a0 : Nat) (p1 : Int32) (p2 : Int32) (p3 : Int32) (p4 : Int32) (M : KM) : Option KM :=
  if (12 : Int32) ≤ (M.1 a0 9) then
    some M
  else
    if ix (M.1 a0 9) 12 then
    lt (uI M (a0 + 2) ((M.1 a0 9)).toNatClampNeg p1) fun (M2 : KM) =>
    if ix (M2.1 a0 9) 12 then
    lt (uI M2 (a0 + 3) ((M2.1 a0 9)).toNatClampNeg p2) fun (M4 : KM) =>
    if ix (M4.1 a0 9) 12 then
    lt (uI M4 (a0 + 4) ((M4.1 a0 9)).toNatClampNeg p3) fun (M6 : KM) =>
    if ix (M6.1 a0 9) 12 then
    lt (uI M6 (a0 + 5) ((M6.1 a0 9)).toNatClampNeg (vp_nar .boolean p4)) fun (M8 : KM) =>
    lt (uI M8 a0 9 ((M8.1 a0 9) + (1 : Int32))) fun (M9 : KM) =>
    some M9
    else none
    else none
    else none
    else none
def f_X2_addPerson (n : Nat) (a0 : Nat) (p1 : Int64) (p3 : Int32) (p4 : Int32) (p5 : Int32) (M : KM) : Option KM :=
  if (8 : Int32) ≤ (M.1 a0 10) then
    some M
  else
    if ix (M.1 a0 10) 8 then
    (f_X7_begin n ((a0 + 6) + 8 + 3 * ((M.1 a0 10)).toNatClampNeg) p1 p3 p4 p5 M).bind fun (v2 : KM) =>
    lt (uI v2 a0 10 ((v2.1 a0 10) + (1 : Int32))) fun (M3 : KM) =>
    some M3
    else none
def f_X2_hasPlace (a0 : Nat) (p1 : Int32) (M : KM) : Int32 :=
  if p1 < 0 then
    (0 : Int32)
  else
    if (M.1 a0 8) ≤ p1 then
      (0 : Int32)
    else
      (1 : Int32)
def f_X2_hasRoad (a0 : Nat) (p1 : Int32) (M : KM) : Int32 :=
  if p1 < 0 then
    (0 : Int32)
  else
    if (M.1 a0 9) ≤ p1 then
      (0 : Int32)
    else
      (1 : Int32)
def f_X2_hasPerson (a0 : Nat) (p1 : Int32) (M : KM) : Int32 :=
  if p1 < 0 then
    (0 : Int32)
  else
    if (M.1 a0 10) ≤ p1 then
      (0 : Int32)
    else
      (1 : Int32)
def lp_X2_placeNamed_2 (n : Nat) (a0 : Nat) (c1 : Int64) (M : KM) (w3 : Int32) : Option Int32 := match n with
  | 0 => none
  | n + 1 =>
    if (M.1 a0 8) ≤ w3 then
      some (-1 : Int32)
    else
      if ix w3 8 then
      if (lg_cmp (M.2.1 (a0 + 1) (w3).toNatClampNeg) c1) = 0 then
        some w3
      else
        lt (w3 + (1 : Int32)) fun (v2 : Int32) =>
        lp_X2_placeNamed_2 n a0 c1 M v2
      else none
def f_X2_placeNamed (n : Nat) (a0 : Nat) (p1 : Int64) (M : KM) : Option Int32 :=
  lp_X2_placeNamed_2 n a0 p1 M (0 : Int32)
def lp_X2_personNamed_2 (n : Nat) (a0 : Nat) (c1 : Int64) (M : KM) (w3 : Int32) : Option Int32 := match n with
  | 0 => none
  | n + 1 =>
    if (M.1 a0 10) ≤ w3 then
      some (-1 : Int32)
    else
      if ix w3 8 then
      if (lg_cmp (M.2.1 ((a0 + 6) + 8 + 3 * (w3).toNatClampNeg) 2) c1) = 0 then
        some w3
      else
        lt (w3 + (1 : Int32)) fun (v2 : Int32) =>
        lp_X2_personNamed_2 n a0 c1 M v2
      else none
def f_X2_personNamed (n : Nat) (a0 : Nat) (p1 : Int64) (M : KM) : Option Int32 :=
  lp_X2_personNamed_2 n a0 p1 M (0 : Int32)
def f_X2_otherEnd (n : Nat) (a0 : Nat) (p1 : Int32) (p2 : Int32) (M : KM) : Option Int32 :=
  if ix p1 12 then
  if (M.1 (a0 + 2) (p1).toNatClampNeg) = p2 then
    if ix p1 12 then
    some (M.1 (a0 + 3) (p1).toNatClampNeg)
    else none
  else
    if ix p1 12 then
    if (M.1 (a0 + 3) (p1).toNatClampNeg) = p2 then
      if ix p1 12 then
      some (M.1 (a0 + 2) (p1).toNatClampNeg)
      else none
    else
      some (-1 : Int32)
    else none
  else none
def lp_X2_roadBetween_2 (n : Nat) (a0 : Nat) (c1 : Int32) (c2 : Int32) (M : KM) (w3 : Int32) : Option Int32 := match n with
  | 0 => none
  | n + 1 =>
    if (M.1 a0 9) ≤ w3 then
      some (-1 : Int32)
    else
      (f_X2_otherEnd n a0 w3 c1 M).bind fun (v1 : Int32) =>
      if v1 = c2 then
        some w3
      else
        lt (w3 + (1 : Int32)) fun (v2 : Int32) =>
        lp_X2_roadBetween_2 n a0 c1 c2 M v2
def f_X2_roadBetween (n : Nat) (a0 : Nat) (p1 : Int32) (p2 : Int32) (M : KM) : Option Int32 :=
  lp_X2_roadBetween_2 n a0 p1 p2 M (0 : Int32)
def f_X2_placeOf (n : Nat) (a0 : Nat) (p1 : Int32) (M : KM) : Option Int32 :=
  lt (f_X2_hasPerson a0 p1 M) fun (v1 : Int32) =>
  if v1 = 0 then
    some (-1 : Int32)
  else
    if ix p1 8 then
    some (M.1 ((a0 + 6) + 8 + 3 * (p1).toNatClampNeg) 5)
    else none
def f_X2_minutesLost (n : Nat) (a0 : Nat) (p1 : Int32) (M : KM) : Option Int32 :=
  lt (f_X2_hasPerson a0 p1 M) fun (v1 : Int32) =>
  if v1 = 0 then
    some (0 : Int32)
  else
    if ix p1 8 then
    some (M.1 ((a0 + 6) + 8 + 3 * (p1).toNatClampNeg) 11)
    else none
def f_X2_isGlaring (n : Nat) (a0 : Nat) (p1 : Int32) (M : KM) : Option Int32 :=
  if (M.1 a0 15) = 0 then
    (f_X1_areGlaring n (a0 + 7) p1 M).bind fun (v1 : Int32) =>
    if v1 = 0 then
      some (0 : Int32)
    else
      some (1 : Int32)
  else
    some (0 : Int32)
def f_X2_paceOf (n : Nat) (a0 : Nat) (p1 : Int32) (p2 : Int32) (M : KM) : Option Int32 :=
  if ix p1 8 then
  lt (((a0 + 6) + 8 + 3 * (p1).toNatClampNeg)) fun (v2 : Nat) =>
  if (M.1 v2 3) = 0 then
    if ix p2 12 then
    lt ((
      some (0 : Int32)
    ) : Option Int32) fun j56 =>
    if (M.1 (a0 + 5) (p2).toNatClampNeg) = 0 then
      if ix p2 12 then
      if (M.1 (v2 + 1) (p2).toNatClampNeg) < (M.1 a0 13) then
        some (2 : Int32)
      else
        j56
      else none
    else
      j56
    else none
  else
    lt ((
      some (0 : Int32)
    ) : Option Int32) fun j28 =>
    if (M.1 v2 4) = 0 then
      if (M.1 a0 15) = 0 then
        some (1 : Int32)
      else
        j28
    else
      j28
  else none
def f_X2_isAble (n : Nat) (a0 : Nat) (p1 : Int32) (p2 : Int32) (M : KM) : Option Int32 :=
  (f_X2_paceOf n a0 p1 p2 M).bind fun (v1 : Int32) =>
  lt ((
    some (1 : Int32)
  ) : Option Int32) fun j30 =>
  if v1 = 0 then
    j30
  else
    if v1 = (1 : Int32) then
      (f_X1_areGlaring n (a0 + 7) (M.1 a0 11) M).bind fun (v2 : Int32) =>
      if v2 = 0 then
        j30
      else
        some (0 : Int32)
    else
      some (0 : Int32)
def f_X2_arrivalBy (n : Nat) (a0 : Nat) (p1 : Int32) (p2 : Int32) (p3 : Int32) (M : KM) : Option Int32 :=
  (f_X2_paceOf n a0 p1 p2 M).bind fun (v1 : Int32) =>
  if ix p2 12 then
  (f_X1_doneAt n (a0 + 7) v1 p3 (M.1 (a0 + 4) (p2).toNatClampNeg) M).bind fun (v3 : Int32) =>
  some v3
  else none
def f_X2_isTeam (a0 : Nat) (p1 : Int32) (p2 : Int32) (M : KM) : Int32 :=
  if p2 ≤ 0 then
    (0 : Int32)
  else
    if ((1 : Int32) <<< ((M.1 a0 10) &&& 31)) ≤ p2 then
      (0 : Int32)
    else
      if (p2 &&& ((1 : Int32) <<< (p1 &&& 31))) = 0 then
        lt (f_J6_bitCount_0f7a4 p2 M) fun (v1 : Int32) =>
        if (M.1 a0 12) < v1 then
          (0 : Int32)
        else
          (1 : Int32)
      else
        (0 : Int32)
def lp_X2_areAllAt_2 (n : Nat) (a0 : Nat) (c1 : Int32) (c2 : Int32) (M : KM) (w3 : Int32) : Option Int32 := match n with
  | 0 => none
  | n + 1 =>
    if (M.1 a0 10) ≤ w3 then
      some (1 : Int32)
    else
      lt ((
        lt (w3 + (1 : Int32)) fun (v1 : Int32) =>
        lp_X2_areAllAt_2 n a0 c1 c2 M v1
      ) : Option Int32) fun j33 =>
      if (c1 &&& ((1 : Int32) <<< (w3 &&& 31))) = 0 then
        j33
      else
        if ix w3 8 then
        if (M.1 ((a0 + 6) + 8 + 3 * (w3).toNatClampNeg) 5) = c2 then
          j33
        else
          some (0 : Int32)
        else none
def f_X2_areAllAt (n : Nat) (a0 : Nat) (p1 : Int32) (p2 : Int32) (M : KM) : Option Int32 :=
  lp_X2_areAllAt_2 n a0 p1 p2 M (0 : Int32)
def lp_X2_setOut_63 (n : Nat) (a0 : Nat) (c1 : Int32) (c2 : Int32) (c3 : Int32) (c5 : Int32) (w6 : Int32) (M : KM) (k108 : KM → Option (Int32 × KM)) : Option (Int32 × KM) := match n with
  | 0 => none
  | n + 1 =>
    if (M.1 a0 10) ≤ w6 then
      k108 M
    else
      lt (fun (M7 : KM) => (
        lt (w6 + (1 : Int32)) fun (v8 : Int32) =>
        lp_X2_setOut_63 n a0 c1 c2 c3 c5 v8 M7 k108
      ) : KM → Option (Int32 × KM)) fun j102 =>
      if (c2 &&& ((1 : Int32) <<< (w6 &&& 31))) = 0 then
        j102 M
      else
        if ix w6 8 then
        if ix c5 12 then
        lt (f_X7_leaveBy ((a0 + 6) + 8 + 3 * (w6).toNatClampNeg) c5 c3 c1 (M.1 (a0 + 4) (c5).toNatClampNeg) M) fun (v11 : KM) =>
        j102 v11
        else none
        else none
def f_X2_setOut (n : Nat) (a0 : Nat) (p1 : Int32) (p2 : Int32) (p3 : Int32) (M : KM) : Option (Int32 × KM) :=
  (f_X2_placeOf n a0 p1 M).bind fun (v1 : Int32) =>
  lt (f_X2_hasPlace a0 v1 M) fun (v2 : Int32) =>
  lt (fun (x3 : Int32) => (
    lt (f_X2_hasRoad a0 x3 M) fun (v4 : Int32) =>
    if v4 = 0 then
      some ((-1 : Int32), M)
    else
      (f_X2_isAble n a0 p1 x3 M).bind fun (v5 : Int32) =>
      if v5 = 0 then
        some ((-1 : Int32), M)
      else
        (f_X2_areAllAt n a0 p2 v1 M).bind fun (v6 : Int32) =>
        if v6 = 0 then
          some ((-1 : Int32), M)
        else
          lp_X2_setOut_63 n a0 p1 p2 p3 x3 (0 : Int32) M
            (fun (M14 : KM) => (
              if ix p1 8 then
              if ix x3 12 then
              lt (f_X7_leaveBy ((a0 + 6) + 8 + 3 * (p1).toNatClampNeg) x3 p3 (-1 : Int32) (M14.1 (a0 + 4) (x3).toNatClampNeg) M14) fun (v17 : KM) =>
              if ix x3 12 then
              some ((v17.1 (a0 + 4) (x3).toNatClampNeg), v17)
              else none
              else none
              else none
            ))
  ) : Int32 → Option (Int32 × KM)) fun j27 =>
  if v2 = 0 then
    j27 (-1 : Int32)
  else
    (f_X2_roadBetween n a0 v1 p3 M).bind fun (v22 : Int32) =>
    j27 v22
def f_X2_isWith (n : Nat) (a0 : Nat) (p1 : Int32) (p2 : Int32) (M : KM) : Option Int32 :=
  lt ((
    some (1 : Int32)
  ) : Option Int32) fun j18 =>
  if p1 = p2 then
    j18
  else
    if ix p1 8 then
    if (M.1 ((a0 + 6) + 8 + 3 * (p1).toNatClampNeg) 9) = p2 then
      j18
    else
      some (0 : Int32)
    else none
def lp_X2_turnBack_2 (n : Nat) (a0 : Nat) (c1 : Int32) (w2 : Int32) (M : KM) : Option KM := match n with
  | 0 => none
  | n + 1 =>
    if (M.1 a0 10) ≤ w2 then
      some M
    else
      (f_X2_isWith n a0 w2 c1 M).bind fun (v1 : Int32) =>
      lt (fun (M2 : KM) => (
        lt (w2 + (1 : Int32)) fun (v3 : Int32) =>
        lp_X2_turnBack_2 n a0 c1 v3 M2
      ) : KM → Option KM) fun j37 =>
      if v1 = 0 then
        j37 M
      else
        if ix w2 8 then
        if ix w2 8 then
        lt (f_X7_stayAt ((a0 + 6) + 8 + 3 * (w2).toNatClampNeg) (M.1 ((a0 + 6) + 8 + 3 * (w2).toNatClampNeg) 7) M) fun (v6 : KM) =>
        j37 v6
        else none
        else none
def f_X2_turnBack (n : Nat) (a0 : Nat) (p1 : Int32) (M : KM) : Option KM :=
  lp_X2_turnBack_2 n a0 p1 (0 : Int32) M
def f_X2_leftOf (n : Nat) (a0 : Nat) (p1 : Int32) (M : KM) : Option Int32 :=
  if ix p1 8 then
  lt ((M.1 ((a0 + 6) + 8 + 3 * (p1).toNatClampNeg) 9)) fun (v2 : Int32) =>
  lt (f_X2_hasPerson a0 v2 M) fun (v3 : Int32) =>
  if v3 = 0 then
    if ix p1 8 then
    some (M.1 ((a0 + 6) + 8 + 3 * (p1).toNatClampNeg) 10)
    else none
  else
    if ix v2 8 then
    some (M.1 ((a0 + 6) + 8 + 3 * (v2).toNatClampNeg) 10)
    else none
  else none
def f_X2_minutesToGoal (n : Nat) (a0 : Nat) (p1 : Int32) (M : KM) : Option Int32 :=
  if ix p1 8 then
  lt ((M.1 ((a0 + 6) + 8 + 3 * (p1).toNatClampNeg) 9)) fun (v2 : Int32) =>
  lt (f_X2_hasPerson a0 v2 M) fun (v3 : Int32) =>
  lt (fun (x4 : Int32) => (
    if ix x4 8 then
    lt ((M.1 ((a0 + 6) + 8 + 3 * (x4).toNatClampNeg) 6)) fun (v6 : Int32) =>
    lt (f_X2_hasRoad a0 v6 M) fun (v7 : Int32) =>
    if v7 = 0 then
      some (1000000000 : Int32)
    else
      (f_X2_paceOf n a0 x4 v6 M).bind fun (v8 : Int32) =>
      if ix x4 8 then
      (f_X1_doneAt n (a0 + 7) v8 (M.1 a0 11) (M.1 ((a0 + 6) + 8 + 3 * (x4).toNatClampNeg) 10) M).bind fun (v10 : Int32) =>
      if v10 < (1000000000 : Int32) then
        some (v10 - (M.1 a0 11))
      else
        some (1000000000 : Int32)
      else none
    else none
  ) : Int32 → Option Int32) fun j23 =>
  if v3 = 0 then
    j23 p1
  else
    j23 v2
  else none
def f_X2_lostOf (n : Nat) (a0 : Nat) (p1 : Int32) (p2 : Int32) (a3 : Nat) (M : KM) : Option Int32 :=
  if ix p1 8 then
  lt ((M.1 ((a0 + 6) + 8 + 3 * (p1).toNatClampNeg) 6)) fun (v2 : Int32) =>
  lt (f_X2_hasRoad a0 v2 M) fun (v3 : Int32) =>
  if v3 = 0 then
    some (0 : Int32)
  else
    (f_X2_paceOf n a0 p1 v2 M).bind fun (v4 : Int32) =>
    if ix p1 8 then
    lt ((M.1 ((a0 + 6) + 8 + 3 * (p1).toNatClampNeg) 10)) fun (v6 : Int32) =>
    (f_X1_doneAt n a3 v4 (M.1 a0 11) v6 M).bind fun (v7 : Int32) =>
    lt ((v7 - (M.1 a0 11))) fun (v8 : Int32) =>
    if p2 < v8 then
      (f_X1_movedIn n a3 v4 (M.1 a0 11) p2 M).bind fun (v9 : Int32) =>
      some (p2 - v9)
    else
      some (v8 - v6)
    else none
  else none
def f_X2_addDebt (n : Nat) (a0 : Nat) (p1 : Int32) (p2 : Int32) (p3 : Int32) (M : KM) : Option KM :=
  if ix p1 8 then
  if ix p2 8 then
  lt ((if ((M.1 (((a0 + 6) + 8 + 3 * (p1).toNatClampNeg) + 2) (p2).toNatClampNeg) + p3) < (9999 : Int32) then ((M.1 (((a0 + 6) + 8 + 3 * (p1).toNatClampNeg) + 2) (p2).toNatClampNeg) + p3) else (9999 : Int32))) fun (v3 : Int32) =>
  if ix p1 8 then
  if ix p2 8 then
  lt (uI M (((a0 + 6) + 8 + 3 * (p1).toNatClampNeg) + 2) (p2).toNatClampNeg v3) fun (M6 : KM) =>
  if ix p2 8 then
  if ix p1 8 then
  lt (uI M6 (((a0 + 6) + 8 + 3 * (p2).toNatClampNeg) + 2) (p1).toNatClampNeg (-v3)) fun (M9 : KM) =>
  some M9
  else none
  else none
  else none
  else none
  else none
  else none
def lp_X2_arrive_15 (n : Nat) (a0 : Nat) (c1 : Int32) (c3 : Int32) (w2 : Int32) (w4 : Int32) (M : KM) : Option (Int32 × KM) := match n with
  | 0 => none
  | n + 1 =>
    if (M.1 a0 10) ≤ w4 then
      some (w2, M)
    else
      lt (f_X2_hasRoad a0 c3 M) fun (v3 : Int32) =>
      if v3 = 0 then
        some (w2, M)
      else
        (f_X2_isWith n a0 w4 c1 M).bind fun (v4 : Int32) =>
        lt (fun (x5 : Int32) (M6 : KM) => (
          lt (w4 + (1 : Int32)) fun (v7 : Int32) =>
          lp_X2_arrive_15 n a0 c1 c3 x5 v7 M6
        ) : Int32 → KM → Option (Int32 × KM)) fun j119 =>
        if v4 = 0 then
          j119 w2 M
        else
          if ix w4 8 then
          if ix w4 8 then
          if ix c3 12 then
          lt ((if ((M.1 (((a0 + 6) + 8 + 3 * (w4).toNatClampNeg) + 1) (c3).toNatClampNeg) + (1 : Int32)) < (99 : Int32) then ((M.1 (((a0 + 6) + 8 + 3 * (w4).toNatClampNeg) + 1) (c3).toNatClampNeg) + (1 : Int32)) else (99 : Int32))) fun (v11 : Int32) =>
          if ix c3 12 then
          lt (uI M (((a0 + 6) + 8 + 3 * (w4).toNatClampNeg) + 1) (c3).toNatClampNeg v11) fun (M13 : KM) =>
          lt (fun (M14 : KM) => (
            if ix w4 8 then
            if ix w4 8 then
            lt (f_X7_stayAt ((a0 + 6) + 8 + 3 * (w4).toNatClampNeg) (M14.1 ((a0 + 6) + 8 + 3 * (w4).toNatClampNeg) 8) M14) fun (v17 : KM) =>
            lt ((w2 ||| ((1 : Int32) <<< (w4 &&& 31)))) fun (v18 : Int32) =>
            j119 v18 v17
            else none
            else none
          ) : KM → Option (Int32 × KM)) fun j92 =>
          if w4 = c1 then
            j92 M13
          else
            if ix c3 12 then
            (f_X2_addDebt n a0 w4 c1 (M13.1 (a0 + 4) (c3).toNatClampNeg) M13).bind fun (v20 : KM) =>
            j92 v20
            else none
          else none
          else none
          else none
          else none
def f_X2_arrive (n : Nat) (a0 : Nat) (p1 : Int32) (M : KM) : Option (Int32 × KM) :=
  if ix p1 8 then
  lt ((M.1 ((a0 + 6) + 8 + 3 * (p1).toNatClampNeg) 6)) fun (v2 : Int32) =>
  lp_X2_arrive_15 n a0 p1 v2 (0 : Int32) (0 : Int32) M
  else none
def lp_X2_passWalker_14 (n : Nat) (a0 : Nat) (c1 : Int32) (c2 : Int32) (c3 : Int32) (w4 : Int32) (M : KM) (k55 : KM → Option (Int32 × KM)) : Option (Int32 × KM) := match n with
  | 0 => none
  | n + 1 =>
    if (M.1 a0 10) ≤ w4 then
      k55 M
    else
      (f_X2_isWith n a0 w4 c1 M).bind fun (v2 : Int32) =>
      lt (fun (M3 : KM) => (
        lt (w4 + (1 : Int32)) fun (v4 : Int32) =>
        lp_X2_passWalker_14 n a0 c1 c2 c3 v4 M3 k55
      ) : KM → Option (Int32 × KM)) fun j49 =>
      if v2 = 0 then
        j49 M
      else
        if ix w4 8 then
        lt (uI M ((a0 + 6) + 8 + 3 * (w4).toNatClampNeg) 11 ((M.1 ((a0 + 6) + 8 + 3 * (w4).toNatClampNeg) 11) + c3)) fun (M6 : KM) =>
        j49 M6
        else none
def f_X2_passWalker (n : Nat) (a0 : Nat) (p1 : Int32) (p2 : Int32) (M : KM) : Option (Int32 × KM) :=
  (f_X2_lostOf n a0 p1 p2 (a0 + 7) M).bind fun (v1 : Int32) =>
  lp_X2_passWalker_14 n a0 p1 p2 v1 (0 : Int32) M
    (fun (M9 : KM) => (
      (f_X2_minutesToGoal n a0 p1 M9).bind fun (v10 : Int32) =>
      if p2 < v10 then
        if ix p1 8 then
        lt (uI M9 ((a0 + 6) + 8 + 3 * (p1).toNatClampNeg) 10 ((M9.1 ((a0 + 6) + 8 + 3 * (p1).toNatClampNeg) 10) - (p2 - v1))) fun (M12 : KM) =>
        some ((0 : Int32), M12)
        else none
      else
        (f_X2_arrive n a0 p1 M9).bind fun (v13 : (Int32 × KM)) =>
        some (v13.1, v13.2)
    ))
def lp_X2_passMinutes_17 (n : Nat) (a0 : Nat) (c1 : Int32) (w2 : Int32) (w3 : Int32) (M : KM) (k52 : Int32 → KM → Option (Int32 × KM)) : Option (Int32 × KM) := match n with
  | 0 => none
  | n + 1 =>
    if (M.1 a0 10) ≤ w3 then
      k52 w2 M
    else
      if ix w3 8 then
      lt (f_X7_isWalker ((a0 + 6) + 8 + 3 * (w3).toNatClampNeg) M) fun (v2 : Int32) =>
      lt (fun (x3 : Int32) (M4 : KM) => (
        lt (w3 + (1 : Int32)) fun (v5 : Int32) =>
        lp_X2_passMinutes_17 n a0 c1 x3 v5 M4 k52
      ) : Int32 → KM → Option (Int32 × KM)) fun j46 =>
      if v2 = 0 then
        j46 w2 M
      else
        (f_X2_passWalker n a0 w3 c1 M).bind fun (v6 : (Int32 × KM)) =>
        lt ((w2 ||| v6.1)) fun (v7 : Int32) =>
        j46 v7 v6.2
      else none
def f_X2_passMinutes (n : Nat) (a0 : Nat) (p1 : Int32) (M : KM) : Option (Int32 × KM) :=
  if ((M.1 a0 11) + p1) ≤ (99999 : Int32) then
    lp_X2_passMinutes_17 n a0 p1 (0 : Int32) (0 : Int32) M
      (fun (u10 : Int32) (M11 : KM) => (
        lt (uI M11 a0 11 ((M11.1 a0 11) + p1)) fun (M12 : KM) =>
        some (u10, M12)
      ))
  else
    some ((-1 : Int32), M)
def lp_X2_lostWithin_5 (n : Nat) (a0 : Nat) (c1 : Int32) (a2 : Nat) (M : KM) (w3 : Int32) (w4 : Int32) : Option Int32 := match n with
  | 0 => none
  | n + 1 =>
    if (M.1 a0 10) ≤ w4 then
      some w3
    else
      if ix w4 8 then
      lt ((M.1 ((a0 + 6) + 8 + 3 * (w4).toNatClampNeg) 9)) fun (v2 : Int32) =>
      lt (f_X2_hasPerson a0 v2 M) fun (v3 : Int32) =>
      lt (fun (x4 : Int32) => (
        (f_X2_lostOf n a0 x4 c1 a2 M).bind fun (v5 : Int32) =>
        lt ((w3 + v5)) fun (v6 : Int32) =>
        lt (w4 + (1 : Int32)) fun (v7 : Int32) =>
        lp_X2_lostWithin_5 n a0 c1 a2 M v6 v7
      ) : Int32 → Option Int32) fun j44 =>
      if v3 = 0 then
        j44 w4
      else
        j44 v2
      else none
def f_X2_lostWithin (n : Nat) (a0 : Nat) (p1 : Int32) (a2 : Nat) (M : KM) : Option Int32 :=
  lp_X2_lostWithin_5 n a0 p1 a2 M (0 : Int32) (0 : Int32)
def lp_X2_lostOfAll_4 (n : Nat) (a0 : Nat) (M : KM) (w1 : Int32) (w2 : Int32) : Option Int32 := match n with
  | 0 => none
  | n + 1 =>
    if (M.1 a0 10) ≤ w2 then
      some w1
    else
      if ix w2 8 then
      lt ((w1 + (M.1 ((a0 + 6) + 8 + 3 * (w2).toNatClampNeg) 11))) fun (v2 : Int32) =>
      lt (w2 + (1 : Int32)) fun (v3 : Int32) =>
      lp_X2_lostOfAll_4 n a0 M v2 v3
      else none
def f_X2_lostOfAll (n : Nat) (a0 : Nat) (M : KM) : Option Int32 :=
  lp_X2_lostOfAll_4 n a0 M (0 : Int32) (0 : Int32)
def lp_X2_owedTo_4 (n : Nat) (a0 : Nat) (c1 : Int32) (M : KM) (w2 : Int32) (w3 : Int32) : Option Int32 := match n with
  | 0 => none
  | n + 1 =>
    if (M.1 a0 10) ≤ w3 then
      some w2
    else
      if ix w3 8 then
      if ix c1 8 then
      lt ((w2 + (M.1 (((a0 + 6) + 8 + 3 * (w3).toNatClampNeg) + 2) (c1).toNatClampNeg))) fun (v3 : Int32) =>
      lt (w3 + (1 : Int32)) fun (v4 : Int32) =>
      lp_X2_owedTo_4 n a0 c1 M v3 v4
      else none
      else none
def f_X2_owedTo (n : Nat) (a0 : Nat) (p1 : Int32) (M : KM) : Option Int32 :=
  lp_X2_owedTo_4 n a0 p1 M (0 : Int32) (0 : Int32)
def lp_X2_mostOwedBy_7 (n : Nat) (a0 : Nat) (c1 : Int32) (M : KM) (w2 : Int32) (w3 : Int32) (w4 : Int32) : Option Int32 := match n with
  | 0 => none
  | n + 1 =>
    if (M.1 a0 10) ≤ w4 then
      some w2
    else
      if ix c1 8 then
      if ix w4 8 then
      lt (fun (x3 : Int32) (x4 : Int32) => (
        lt (w4 + (1 : Int32)) fun (v5 : Int32) =>
        lp_X2_mostOwedBy_7 n a0 c1 M x3 x4 v5
      ) : Int32 → Int32 → Option Int32) fun j48 =>
      if (M.1 (((a0 + 6) + 8 + 3 * (c1).toNatClampNeg) + 2) (w4).toNatClampNeg) ≤ w3 then
        j48 w2 w3
      else
        if ix c1 8 then
        if ix w4 8 then
        lt ((M.1 (((a0 + 6) + 8 + 3 * (c1).toNatClampNeg) + 2) (w4).toNatClampNeg)) fun (v8 : Int32) =>
        j48 w4 v8
        else none
        else none
      else none
      else none
def f_X2_mostOwedBy (n : Nat) (a0 : Nat) (p1 : Int32) (M : KM) : Option Int32 :=
  lp_X2_mostOwedBy_7 n a0 p1 M (-1 : Int32) (0 : Int32) (0 : Int32)
def lp_X2_blindSet_4 (n : Nat) (a0 : Nat) (M : KM) (w1 : Int32) (w2 : Int32) : Option Int32 := match n with
  | 0 => none
  | n + 1 =>
    if (M.1 a0 10) ≤ w2 then
      some w1
    else
      if ix w2 8 then
      lt (fun (x2 : Int32) => (
        lt ((w1 ||| x2)) fun (v3 : Int32) =>
        lt (w2 + (1 : Int32)) fun (v4 : Int32) =>
        lp_X2_blindSet_4 n a0 M v3 v4
      ) : Int32 → Option Int32) fun j32 =>
      if (M.1 ((a0 + 6) + 8 + 3 * (w2).toNatClampNeg) 3) = 0 then
        j32 ((1 : Int32) <<< (w2 &&& 31))
      else
        j32 (0 : Int32)
      else none
def f_X2_blindSet (n : Nat) (a0 : Nat) (M : KM) : Option Int32 :=
  lp_X2_blindSet_4 n a0 M (0 : Int32) (0 : Int32)
def lp_X2_walkingSet_4 (n : Nat) (a0 : Nat) (M : KM) (w1 : Int32) (w2 : Int32) : Option Int32 := match n with
  | 0 => none
  | n + 1 =>
    if (M.1 a0 10) ≤ w2 then
      some w1
    else
      if ix w2 8 then
      lt (f_X7_isAtPlace ((a0 + 6) + 8 + 3 * (w2).toNatClampNeg) M) fun (v2 : Int32) =>
      lt (fun (x3 : Int32) => (
        lt ((w1 ||| x3)) fun (v4 : Int32) =>
        lt (w2 + (1 : Int32)) fun (v5 : Int32) =>
        lp_X2_walkingSet_4 n a0 M v4 v5
      ) : Int32 → Option Int32) fun j32 =>
      if v2 = 0 then
        j32 ((1 : Int32) <<< (w2 &&& 31))
      else
        j32 (0 : Int32)
      else none
def f_X2_walkingSet (n : Nat) (a0 : Nat) (M : KM) : Option Int32 :=
  lp_X2_walkingSet_4 n a0 M (0 : Int32) (0 : Int32)
def lp_X2_ledSet_4 (n : Nat) (a0 : Nat) (M : KM) (w1 : Int32) (w2 : Int32) : Option Int32 := match n with
  | 0 => none
  | n + 1 =>
    if (M.1 a0 10) ≤ w2 then
      some w1
    else
      if ix w2 8 then
      lt (fun (x2 : Int32) => (
        lt ((w1 ||| x2)) fun (v3 : Int32) =>
        lt (w2 + (1 : Int32)) fun (v4 : Int32) =>
        lp_X2_ledSet_4 n a0 M v3 v4
      ) : Int32 → Option Int32) fun j33 =>
      if (M.1 ((a0 + 6) + 8 + 3 * (w2).toNatClampNeg) 9) = (-1 : Int32) then
        j33 (0 : Int32)
      else
        j33 ((1 : Int32) <<< (w2 &&& 31))
      else none
def f_X2_ledSet (n : Nat) (a0 : Nat) (M : KM) : Option Int32 :=
  lp_X2_ledSet_4 n a0 M (0 : Int32) (0 : Int32)
def lp_X2_guideSet_5 (n : Nat) (a0 : Nat) (c1 : Int32) (c2 : Int32) (M : KM) (w3 : Int32) (w4 : Int32) : Option Int32 := match n with
  | 0 => none
  | n + 1 =>
    if (M.1 a0 10) ≤ w4 then
      some w3
    else
      if ix w4 8 then
      lt (fun (x2 : Int32) => (
        lt (w4 + (1 : Int32)) fun (v3 : Int32) =>
        lp_X2_guideSet_5 n a0 c1 c2 M x2 v3
      ) : Int32 → Option Int32) fun j45 =>
      if (M.1 ((a0 + 6) + 8 + 3 * (w4).toNatClampNeg) 5) = c1 then
        (f_X2_isAble n a0 w4 c2 M).bind fun (v4 : Int32) =>
        if v4 = 0 then
          j45 w3
        else
          lt ((w3 ||| ((1 : Int32) <<< (w4 &&& 31)))) fun (v5 : Int32) =>
          j45 v5
      else
        j45 w3
      else none
def f_X2_guideSet (n : Nat) (a0 : Nat) (p1 : Int32) (p2 : Int32) (M : KM) : Option Int32 :=
  lp_X2_guideSet_5 n a0 p1 p2 M (0 : Int32) (0 : Int32)
def lp_X2_canLeave_2 (n : Nat) (a0 : Nat) (c1 : Int32) (M : KM) (w2 : Int32) : Option Int32 := match n with
  | 0 => none
  | n + 1 =>
    if (M.1 a0 9) ≤ w2 then
      some (0 : Int32)
    else
      if ix c1 8 then
      (f_X2_otherEnd n a0 w2 (M.1 ((a0 + 6) + 8 + 3 * (c1).toNatClampNeg) 5) M).bind fun (v2 : Int32) =>
      lt ((
        lt (w2 + (1 : Int32)) fun (v3 : Int32) =>
        lp_X2_canLeave_2 n a0 c1 M v3
      ) : Option Int32) fun j39 =>
      if v2 = (-1 : Int32) then
        j39
      else
        (f_X2_isAble n a0 c1 w2 M).bind fun (v4 : Int32) =>
        if v4 = 0 then
          j39
        else
          some (1 : Int32)
      else none
def f_X2_canLeave (n : Nat) (a0 : Nat) (p1 : Int32) (M : KM) : Option Int32 :=
  lp_X2_canLeave_2 n a0 p1 M (0 : Int32)
def lp_X2_stuckSet_4 (n : Nat) (a0 : Nat) (M : KM) (w1 : Int32) (w2 : Int32) : Option Int32 := match n with
  | 0 => none
  | n + 1 =>
    if (M.1 a0 10) ≤ w2 then
      some w1
    else
      if ix w2 8 then
      lt (f_X7_isAtPlace ((a0 + 6) + 8 + 3 * (w2).toNatClampNeg) M) fun (v2 : Int32) =>
      lt (fun (x3 : Int32) => (
        lt (w2 + (1 : Int32)) fun (v4 : Int32) =>
        lp_X2_stuckSet_4 n a0 M x3 v4
      ) : Int32 → Option Int32) fun j38 =>
      if v2 = 0 then
        j38 w1
      else
        (f_X2_canLeave n a0 w2 M).bind fun (v5 : Int32) =>
        if v5 = 0 then
          lt ((w1 ||| ((1 : Int32) <<< (w2 &&& 31)))) fun (v6 : Int32) =>
          j38 v6
        else
          j38 w1
      else none
def f_X2_stuckSet (n : Nat) (a0 : Nat) (M : KM) : Option Int32 :=
  lp_X2_stuckSet_4 n a0 M (0 : Int32) (0 : Int32)
def lp_X2_reachSet_39 (n : Nat) (a0 : Nat) (c1 : Int32) (c3 : Int32) (M : KM) (w2 : Int32) (w4 : Int32) (k97 : Int32 → Option Int32) : Option Int32 := match n with
  | 0 => none
  | n + 1 =>
    if (M.1 a0 9) ≤ w4 then
      k97 w2
    else
      if ix w4 12 then
      if ix w4 12 then
      lt ((((1 : Int32) <<< ((M.1 (a0 + 2) (w4).toNatClampNeg) &&& 31)) ||| ((1 : Int32) <<< ((M.1 (a0 + 3) (w4).toNatClampNeg) &&& 31)))) fun (v7 : Int32) =>
      lt (fun (x8 : Int32) => (
        lt (w4 + (1 : Int32)) fun (v9 : Int32) =>
        lp_X2_reachSet_39 n a0 c1 c3 M x8 v9 k97
      ) : Int32 → Option Int32) fun j91 =>
      if (w2 &&& v7) = 0 then
        j91 w2
      else
        (f_X2_isAble n a0 c1 w4 M).bind fun (v10 : Int32) =>
        if v10 = 0 then
          j91 w2
        else
          lt ((w2 ||| v7)) fun (v11 : Int32) =>
          j91 v11
      else none
      else none
def lp_X2_reachSet_28 (n : Nat) (a0 : Nat) (c1 : Int32) (M : KM) (w2 : Int32) (w3 : Int32) : Option Int32 := match n with
  | 0 => none
  | n + 1 =>
    if (M.1 a0 8) ≤ w3 then
      some w2
    else
      lp_X2_reachSet_39 n a0 c1 w3 M w2 (0 : Int32)
        (fun (u15 : Int32) => (
          lt (w3 + (1 : Int32)) fun (v16 : Int32) =>
          lp_X2_reachSet_28 n a0 c1 M u15 v16
        ))
def f_X2_reachSet (n : Nat) (a0 : Nat) (p1 : Int32) (M : KM) : Option Int32 :=
  if ix p1 8 then
  lt (f_X7_isAtPlace ((a0 + 6) + 8 + 3 * (p1).toNatClampNeg) M) fun (v2 : Int32) =>
  if v2 = 0 then
    some (0 : Int32)
  else
    if ix p1 8 then
    lt (((1 : Int32) <<< ((M.1 ((a0 + 6) + 8 + 3 * (p1).toNatClampNeg) 5) &&& 31))) fun (v4 : Int32) =>
    lp_X2_reachSet_28 n a0 p1 M v4 (1 : Int32)
    else none
  else none
def f_X4_rowBehindEnd (n : Nat) (a0 : Nat) (a1 : Nat) (p2 : Int32) (M : KM) : Option (Int32 × KM) :=
  if ix p2 60 then
  lt ((M.1 (a1 + 5) (p2).toNatClampNeg)) fun (v2 : Int32) =>
  if v2 < 0 then
    some ((M.1 a1 5), M)
  else
    if v2 < (M.1 a1 5) then
      if ix v2 60 then
      if (M.1 (a1 + 1) (v2).toNatClampNeg) = (9 : Int32) then
        if ix v2 60 then
        if (M.1 (a0 + 1) (v2).toNatClampNeg) ≤ (1 : Int32) then
          some ((p2 + (1 : Int32)), M)
        else
          if ix v2 60 then
          if ix v2 60 then
          lt (uI M (a0 + 1) (v2).toNatClampNeg ((M.1 (a0 + 1) (v2).toNatClampNeg) - (1 : Int32))) fun (M7 : KM) =>
          some ((v2 + (1 : Int32)), M7)
          else none
          else none
        else none
      else
        some ((p2 + (1 : Int32)), M)
      else none
    else
      some ((M.1 a1 5), M)
  else none
def f_X4_drawBy (n : Nat) (a0 : Nat) (p1 : Int32) (M : KM) : Option (Int32 × KM) :=
  lt (uI M a0 1 ((((M.1 a0 1) * (2971 : Int32)) + (10733 : Int32)) - (((M.1 a0 1) * (2971 : Int32)) + (10733 : Int32)) / (65536 : Int32) * (65536 : Int32))) fun (M1 : KM) =>
  if (1 : Int32) ≤ p1 then
    if ¬ p1 = 0 then
    some ((((M1.1 a0 1) / (8 : Int32)) - ((M1.1 a0 1) / (8 : Int32)) / p1 * p1), M1)
    else none
  else
    some ((0 : Int32), M1)
def f_X4_sendAny (n : Nat) (a0 : Nat) (a1 : Nat) (M : KM) : Option (Int32 × KM) :=
  if (M.1 a1 10) < (1 : Int32) then
    some ((0 : Int32), M)
  else
    if (1 : Int32) ≤ (M.1 a1 8) then
      (f_X4_drawBy n a0 (M.1 a1 10) M).bind fun (v1 : (Int32 × KM)) =>
      (f_X4_drawBy n a0 (v1.2.1 a1 8) v1.2).bind fun (v2 : (Int32 × KM)) =>
      (f_X2_setOut n a1 v1.1 (0 : Int32) v2.1 v2.2).bind fun (v3 : (Int32 × KM)) =>
      if v3.1 = (-1 : Int32) then
        some ((0 : Int32), v3.2)
      else
        some ((1 : Int32), v3.2)
    else
      some ((0 : Int32), M)
def f_X4_makeCloudy (n : Nat) (a0 : Nat) (p1 : Int32) (M : KM) : Option (Int32 × KM) :=
  if (M.1 a0 15) = p1 then
    some ((0 : Int32), M)
  else
    if p1 = 0 ∨ p1 = 1 then
    lt (uI M a0 15 p1) fun (M2 : KM) =>
    some ((1 : Int32), M2)
    else none
def f_X4_compares (p0 : Int32) (p1 : Int32) (p2 : Int32) (M : KM) : Int32 :=
  if p1 = (60 : Int32) then
    if p2 ≤ p0 then
      (0 : Int32)
    else
      (1 : Int32)
  else
    if p1 = (62 : Int32) then
      if p0 ≤ p2 then
        (0 : Int32)
      else
        (1 : Int32)
    else
      if p0 = p2 then
        (1 : Int32)
      else
        (0 : Int32)
def f_X4_doStep (n : Nat) (a0 : Nat) (a1 : Nat) (p2 : Int32) (M : KM) : Option (Int32 × KM) :=
  lt ((M.2.2 a1 7)) fun (v2 : Nat) =>
  if ix p2 60 then
  lt ((M.1 (v2 + 2) (p2).toNatClampNeg)) fun (v4 : Int32) =>
  if ix p2 60 then
  lt ((M.1 (v2 + 3) (p2).toNatClampNeg)) fun (v6 : Int32) =>
  if ix p2 60 then
  lt ((M.1 (v2 + 4) (p2).toNatClampNeg)) fun (v8 : Int32) =>
  if ix p2 60 then
  lt ((M.1 (v2 + 1) (p2).toNatClampNeg)) fun (v10 : Int32) =>
  lt (fun (x11 : Int32) (x12 : Int32) (x13 : Int32) (M14 : KM) => (
    lt (fun (x15 : Int32) => (
      lt (uI M14 a0 5 ((M14.1 a0 5) + x15)) fun (M16 : KM) =>
      lt (fun (x17 : Int32) => (
        lt (uI M16 a0 3 ((M16.1 a0 3) + x17)) fun (M18 : KM) =>
        if x13 = 0 then
          if ix p2 60 then
          some (((M18.1 (v2 + 5) (p2).toNatClampNeg) + (1 : Int32)), M18)
          else none
        else
          some ((p2 + (1 : Int32)), M18)
      ) : Int32 → Option (Int32 × KM)) fun j303 =>
      lt ((
        j303 (1 : Int32)
      ) : Option (Int32 × KM)) fun j302 =>
      if x12 = 0 then
        j302
      else
        if x11 = (-1 : Int32) then
          j302
        else
          j303 (0 : Int32)
    ) : Int32 → Option (Int32 × KM)) fun j278 =>
    if x11 = (-1 : Int32) then
      j278 (0 : Int32)
    else
      lt (f_J6_bitCount_0f7a4 x11 M14) fun (v23 : Int32) =>
      j278 v23
  ) : Int32 → Int32 → Int32 → KM → Option (Int32 × KM)) fun j258 =>
  if v10 = (0 : Int32) then
    (f_X2_passMinutes n a1 v4 M).bind fun (v25 : (Int32 × KM)) =>
    j258 v25.1 (1 : Int32) (1 : Int32) v25.2
  else
  if v10 = (1 : Int32) then
    (f_X2_setOut n a1 v4 (0 : Int32) v6 M).bind fun (v27 : (Int32 × KM)) =>
    lt (fun (x28 : Int32) => (
      j258 (0 : Int32) x28 (1 : Int32) v27.2
    ) : Int32 → Option (Int32 × KM)) fun j129 =>
    if v27.1 = (-1 : Int32) then
      j129 (0 : Int32)
    else
      j129 (1 : Int32)
  else
  if v10 = (2 : Int32) then
    (f_X2_setOut n a1 v4 ((1 : Int32) <<< (v6 &&& 31)) v8 M).bind fun (v31 : (Int32 × KM)) =>
    lt (fun (x32 : Int32) => (
      j258 (0 : Int32) x32 (1 : Int32) v31.2
    ) : Int32 → Option (Int32 × KM)) fun j155 =>
    if v31.1 = (-1 : Int32) then
      j155 (0 : Int32)
    else
      j155 (1 : Int32)
  else
  if v10 = (3 : Int32) then
    (f_X4_sendAny n a0 a1 M).bind fun (v35 : (Int32 × KM)) =>
    j258 (0 : Int32) v35.1 (1 : Int32) v35.2
  else
  if v10 = (4 : Int32) then
    (f_X4_makeCloudy n a1 (1 : Int32) M).bind fun (v37 : (Int32 × KM)) =>
    j258 (0 : Int32) v37.1 (1 : Int32) v37.2
  else
  if v10 = (5 : Int32) then
    (f_X4_makeCloudy n a1 (0 : Int32) M).bind fun (v39 : (Int32 × KM)) =>
    j258 (0 : Int32) v39.1 (1 : Int32) v39.2
  else
  if v10 = (6 : Int32) then
    (f_X2_placeOf n a1 v4 M).bind fun (v41 : Int32) =>
    lt (fun (x42 : Int32) => (
      j258 (0 : Int32) (1 : Int32) x42 M
    ) : Int32 → Option (Int32 × KM)) fun j206 =>
    if v41 = v6 then
      j206 (1 : Int32)
    else
      j206 (0 : Int32)
  else
  if v10 = (7 : Int32) then
    (f_X2_isGlaring n a1 (M.1 a1 11) M).bind fun (v45 : Int32) =>
    j258 (0 : Int32) (1 : Int32) v45 M
  else
  if v10 = (8 : Int32) then
    (f_X2_minutesLost n a1 v4 M).bind fun (v47 : Int32) =>
    lt (f_X4_compares v47 v6 v8 M) fun (v48 : Int32) =>
    j258 (0 : Int32) (1 : Int32) v48 M
  else
  if v10 = (9 : Int32) then
    if ix p2 60 then
    lt (uI M (a0 + 1) (p2).toNatClampNeg v4) fun (M51 : KM) =>
    j258 (0 : Int32) (1 : Int32) (1 : Int32) M51
    else none
  else
  some ((M.1 v2 5), M)
  else none
  else none
  else none
  else none
def lp_X4_run_48 (n : Nat) (a0 : Nat) (a1 : Nat) (a3 : Nat) (c4 : Int32) (c5 : Int32) (w6 : Int32) (w7 : Int32) (M : KM) (k142 : KM → Option KM) : Option KM := match n with
  | 0 => none
  | n + 1 =>
    if (1000000 : Int32) ≤ w7 then
      k142 M
    else
      if w6 < 0 then
        k142 M
      else
        if (M.1 a3 5) ≤ w6 then
          k142 M
        else
          if ix w6 60 then
          lt (fun (x11 : Int32) (M12 : KM) => (
            lt (w7 + (1 : Int32)) fun (v13 : Int32) =>
            lp_X4_run_48 n a0 a1 a3 c4 c5 x11 v13 M12 k142
          ) : Int32 → KM → Option KM) fun j136 =>
          if (M.1 (a3 + 1) (w6).toNatClampNeg) = (10 : Int32) then
            (f_X4_rowBehindEnd n a0 a3 w6 M).bind fun (v19 : (Int32 × KM)) =>
            j136 v19.1 v19.2
          else
            if (M.1 a0 2) < (300 : Int32) then
              lt (uI M a0 2 ((M.1 a0 2) + (1 : Int32))) fun (M14 : KM) =>
              (f_X4_doStep n a0 a1 w6 M14).bind fun (v15 : (Int32 × KM)) =>
              j136 v15.1 v15.2
            else
              lt (uI M a0 7 (1 : Int32)) fun (M16 : KM) =>
              lt ((M16.1 a3 5)) fun (v17 : Int32) =>
              j136 v17 M16
          else none
def f_X4_run (n : Nat) (a0 : Nat) (a1 : Nat) (p2 : Int32) (M : KM) : Option KM :=
  lt ((M.2.2 a1 7)) fun (v2 : Nat) =>
  lt (uI M a0 1 p2) fun (M3 : KM) =>
  lt (uI M3 a0 2 (0 : Int32)) fun (M4 : KM) =>
  lt (uI M4 a0 3 (0 : Int32)) fun (M5 : KM) =>
  lt (uI M5 a0 5 (0 : Int32)) fun (M6 : KM) =>
  lt (uI M6 a0 7 (0 : Int32)) fun (M7 : KM) =>
  lt ((M7.1 a1 11)) fun (v8 : Int32) =>
  (f_X2_lostOfAll n a1 M7).bind fun (v9 : Int32) =>
  lp_X4_run_48 n a0 a1 v2 v8 v9 (0 : Int32) (0 : Int32) M7
    (fun (M24 : KM) => (
      lt (uI M24 a0 4 ((M24.1 a1 11) - v8)) fun (M25 : KM) =>
      (f_X2_lostOfAll n a1 M25).bind fun (v26 : Int32) =>
      lt (uI M25 a0 6 (v26 - v9)) fun (M27 : KM) =>
      some M27
    ))
def lp_X6_startAt_3 (n : Nat) (a0 : Nat) (a1 : Nat) (c2 : Int32) (c3 : Int32) (w4 : Int32) (M : KM) (k25 : KM → Option KM) : Option KM := match n with
  | 0 => none
  | n + 1 =>
    if (8 : Int32) ≤ w4 then
      k25 M
    else
      if ix w4 8 then
      lt (uI M (a0 + 1) (w4).toNatClampNeg (1000000000 : Int32)) fun (M2 : KM) =>
      lt (w4 + (1 : Int32)) fun (v3 : Int32) =>
      lp_X6_startAt_3 n a0 a1 c2 c3 v3 M2 k25
      else none
def f_X6_startAt (n : Nat) (a0 : Nat) (a1 : Nat) (p2 : Int32) (p3 : Int32) (M : KM) : Option KM :=
  lp_X6_startAt_3 n a0 a1 p2 p3 (0 : Int32) M
    (fun (M5 : KM) => (
      lt (f_X2_hasPlace a1 p2 M5) fun (v6 : Int32) =>
      if v6 = 0 then
        some M5
      else
        if ix p2 8 then
        lt (uI M5 (a0 + 1) (p2).toNatClampNeg p3) fun (M8 : KM) =>
        some M8
        else none
    ))
def f_X6_arrival (n : Nat) (a0 : Nat) (p1 : Int32) (p2 : Int32) (p3 : Int32) (p4 : Int32) (M : KM) : Option Int32 :=
  (f_X2_arrivalBy n a0 p1 p3 p4 M).bind fun (v1 : Int32) =>
  if p2 = (-1 : Int32) then
    some v1
  else
    (f_X2_arrivalBy n a0 p2 p3 p4 M).bind fun (v2 : Int32) =>
    lt ((if v2 < v1 then v2 else v1)) fun (v3 : Int32) =>
    some v3
def lp_X6_findTimes_24 (n : Nat) (a0 : Nat) (a1 : Nat) (c2 : Int32) (c3 : Int32) (c6 : Int32) (w7 : Int32) (M : KM) (k121 : KM → Option KM) : Option KM := match n with
  | 0 => none
  | n + 1 =>
    if (M.1 a1 9) ≤ w7 then
      k121 M
    else
      if ix w7 12 then
      lt ((M.1 (a1 + 2) (w7).toNatClampNeg)) fun (v3 : Int32) =>
      if ix w7 12 then
      lt ((M.1 (a1 + 3) (w7).toNatClampNeg)) fun (v5 : Int32) =>
      if ix v5 8 then
      if ix v3 8 then
      (f_X6_arrival n a1 c2 c3 w7 (M.1 (a0 + 1) (v3).toNatClampNeg) M).bind fun (v8 : Int32) =>
      lt ((if v8 < (M.1 (a0 + 1) (v5).toNatClampNeg) then v8 else (M.1 (a0 + 1) (v5).toNatClampNeg))) fun (v9 : Int32) =>
      if ix v5 8 then
      lt (uI M (a0 + 1) (v5).toNatClampNeg v9) fun (M11 : KM) =>
      if ix v3 8 then
      if ix v5 8 then
      (f_X6_arrival n a1 c2 c3 w7 (M11.1 (a0 + 1) (v5).toNatClampNeg) M11).bind fun (v14 : Int32) =>
      lt ((if v14 < (M11.1 (a0 + 1) (v3).toNatClampNeg) then v14 else (M11.1 (a0 + 1) (v3).toNatClampNeg))) fun (v15 : Int32) =>
      if ix v3 8 then
      lt (uI M11 (a0 + 1) (v3).toNatClampNeg v15) fun (M17 : KM) =>
      lt (w7 + (1 : Int32)) fun (v18 : Int32) =>
      lp_X6_findTimes_24 n a0 a1 c2 c3 c6 v18 M17 k121
      else none
      else none
      else none
      else none
      else none
      else none
      else none
      else none
def lp_X6_findTimes_12 (n : Nat) (a0 : Nat) (a1 : Nat) (c2 : Int32) (c3 : Int32) (w6 : Int32) (M : KM) : Option KM := match n with
  | 0 => none
  | n + 1 =>
    if (M.1 a1 8) ≤ w6 then
      some M
    else
      lp_X6_findTimes_24 n a0 a1 c2 c3 w6 (0 : Int32) M
        (fun (M20 : KM) => (
          lt (w6 + (1 : Int32)) fun (v21 : Int32) =>
          lp_X6_findTimes_12 n a0 a1 c2 c3 v21 M20
        ))
def f_X6_findTimes (n : Nat) (a0 : Nat) (a1 : Nat) (p2 : Int32) (p3 : Int32) (p4 : Int32) (p5 : Int32) (M : KM) : Option KM :=
  (f_X6_startAt n a0 a1 p4 p5 M).bind fun (v1 : KM) =>
  lp_X6_findTimes_12 n a0 a1 p2 p3 (1 : Int32) v1
def f_X6_minutesFrom (p0 : Int32) (p1 : Int32) (M : KM) : Int32 :=
  if p0 < (1000000000 : Int32) then
    (p0 - p1)
  else
    (1000000000 : Int32)
def f_X6_minutesTo (n : Nat) (a0 : Nat) (a1 : Nat) (p2 : Int32) (p3 : Int32) (p4 : Int32) (M : KM) : Option (Int32 × KM) :=
  if ix p2 8 then
  lt ((M.1 ((a1 + 6) + 8 + 3 * (p2).toNatClampNeg) 5)) fun (v2 : Int32) =>
  (f_X6_findTimes n a0 a1 p2 p3 v2 (M.1 a1 11) M).bind fun (v3 : KM) =>
  if ix p4 8 then
  lt (f_X6_minutesFrom (v3.1 (a0 + 1) (p4).toNatClampNeg) (v3.1 a1 11) v3) fun (v5 : Int32) =>
  some (v5, v3)
  else none
  else none
def lp_X6_firstPlaceTo_24 (n : Nat) (a0 : Nat) (a1 : Nat) (c2 : Int32) (c3 : Int32) (c4 : Int32) (c5 : Int32) (w6 : Int32) (M : KM) : Option (Int32 × KM) := match n with
  | 0 => none
  | n + 1 =>
    if (M.1 a1 8) ≤ w6 then
      some ((-1 : Int32), M)
    else
      if (1000000000 : Int32) ≤ c5 then
        some ((-1 : Int32), M)
      else
        (f_X2_roadBetween n a1 c4 w6 M).bind fun (v4 : Int32) =>
        lt (fun (M5 : KM) => (
          lt (w6 + (1 : Int32)) fun (v6 : Int32) =>
          lp_X6_firstPlaceTo_24 n a0 a1 c2 c3 c4 c5 v6 M5
        ) : KM → Option (Int32 × KM)) fun j97 =>
        if v4 = (-1 : Int32) then
          j97 M
        else
          (f_X2_arrivalBy n a1 c2 v4 (M.1 a1 11) M).bind fun (v7 : Int32) =>
          (f_X6_findTimes n a0 a1 c2 (-1 : Int32) w6 v7 M).bind fun (v8 : KM) =>
          if ix c3 8 then
          lt (f_X6_minutesFrom (v8.1 (a0 + 1) (c3).toNatClampNeg) (v8.1 a1 11) v8) fun (v10 : Int32) =>
          if v10 = c5 then
            some (w6, v8)
          else
            j97 v8
          else none
def f_X6_firstPlaceTo (n : Nat) (a0 : Nat) (a1 : Nat) (p2 : Int32) (p3 : Int32) (M : KM) : Option (Int32 × KM) :=
  if ix p2 8 then
  lt ((M.1 ((a1 + 6) + 8 + 3 * (p2).toNatClampNeg) 5)) fun (v2 : Int32) =>
  (f_X6_minutesTo n a0 a1 p2 (-1 : Int32) p3 M).bind fun (v3 : (Int32 × KM)) =>
  lp_X6_firstPlaceTo_24 n a0 a1 p2 p3 v2 v3.1 (0 : Int32) v3.2
  else none
def lp_X6_findMeeting_69 (n : Nat) (a0 : Nat) (a1 : Nat) (w4 : Int32) (M : KM) : Option KM := match n with
  | 0 => none
  | n + 1 =>
    if (M.1 a1 8) ≤ w4 then
      some M
    else
      if ix w4 8 then
      if ix w4 8 then
      lt ((if (M.1 (a0 + 1) (w4).toNatClampNeg) < (M.1 (a0 + 2) (w4).toNatClampNeg) then (M.1 (a0 + 2) (w4).toNatClampNeg) else (M.1 (a0 + 1) (w4).toNatClampNeg))) fun (v11 : Int32) =>
      lt (f_X6_minutesFrom v11 (M.1 a1 11) M) fun (v12 : Int32) =>
      lt (fun (M13 : KM) => (
        lt (w4 + (1 : Int32)) fun (v14 : Int32) =>
        lp_X6_findMeeting_69 n a0 a1 v14 M13
      ) : KM → Option KM) fun j125 =>
      if (M.1 a0 5) ≤ v12 then
        j125 M
      else
        lt (uI M a0 5 v12) fun (M15 : KM) =>
        lt (uI M15 a0 4 w4) fun (M16 : KM) =>
        j125 M16
      else none
      else none
def f_X6_findMeeting (n : Nat) (a0 : Nat) (a1 : Nat) (p2 : Int32) (p3 : Int32) (M : KM) : Option KM :=
  if ix p3 8 then
  (f_X6_findTimes n a0 a1 p3 (-1 : Int32) (M.1 ((a1 + 6) + 8 + 3 * (p3).toNatClampNeg) 5) (M.1 a1 11) M).bind fun (v2 : KM) =>
  if ¬ (0 : Int32) < 0 ∧ ¬ (0 : Int32) < 0 ∧ ¬ (8 : Int32) < 0 ∧ ((0 : Int32)).toNatClampNeg + ((8 : Int32)).toNatClampNeg ≤ 8 ∧ ((0 : Int32)).toNatClampNeg + ((8 : Int32)).toNatClampNeg ≤ 8 then
  lt (uIs v2 (a0 + 2) (va_cpy (v2.1 (a0 + 1)) (v2.1 (a0 + 2)) ((0 : Int32)).toNatClampNeg ((0 : Int32)).toNatClampNeg ((8 : Int32)).toNatClampNeg)) fun (M4 : KM) =>
  if ix p2 8 then
  (f_X6_findTimes n a0 a1 p2 (-1 : Int32) (M4.1 ((a1 + 6) + 8 + 3 * (p2).toNatClampNeg) 5) (M4.1 a1 11) M4).bind fun (v6 : KM) =>
  lt (uI v6 a0 4 (-1 : Int32)) fun (M7 : KM) =>
  lt (uI M7 a0 5 (1000000000 : Int32)) fun (M8 : KM) =>
  lp_X6_findMeeting_69 n a0 a1 (0 : Int32) M8
  else none
  else none
  else none
def lp_X6_plantingCost_30 (n : Nat) (a0 : Nat) (a1 : Nat) (c2 : Int32) (c3 : Int32) (c4 : Int32) (w5 : Int32) (M : KM) (k154 : KM → Option (Int32 × KM)) : Option (Int32 × KM) := match n with
  | 0 => none
  | n + 1 =>
    if (M.1 a1 9) ≤ w5 then
      k154 M
    else
      (f_X2_paceOf n a1 c2 w5 M).bind fun (v3 : Int32) =>
      lt (fun (x4 : Int32) => (
        lt (fun (x5 : Int32) => (
          if ix w5 12 then
          lt ((M.1 (a1 + 2) (w5).toNatClampNeg)) fun (v7 : Int32) =>
          if ix w5 12 then
          lt ((M.1 (a1 + 3) (w5).toNatClampNeg)) fun (v9 : Int32) =>
          if ix v9 8 then
          if ix v7 8 then
          lt ((if ((M.1 (a0 + 1) (v7).toNatClampNeg) + x5) < (M.1 (a0 + 1) (v9).toNatClampNeg) then ((M.1 (a0 + 1) (v7).toNatClampNeg) + x5) else (M.1 (a0 + 1) (v9).toNatClampNeg))) fun (v12 : Int32) =>
          if ix v9 8 then
          lt (uI M (a0 + 1) (v9).toNatClampNeg v12) fun (M14 : KM) =>
          if ix v7 8 then
          if ix v9 8 then
          lt ((if ((M14.1 (a0 + 1) (v9).toNatClampNeg) + x5) < (M14.1 (a0 + 1) (v7).toNatClampNeg) then ((M14.1 (a0 + 1) (v9).toNatClampNeg) + x5) else (M14.1 (a0 + 1) (v7).toNatClampNeg))) fun (v17 : Int32) =>
          if ix v7 8 then
          lt (uI M14 (a0 + 1) (v7).toNatClampNeg v17) fun (M19 : KM) =>
          lt (w5 + (1 : Int32)) fun (v20 : Int32) =>
          lp_X6_plantingCost_30 n a0 a1 c2 c3 c4 v20 M19 k154
          else none
          else none
          else none
          else none
          else none
          else none
          else none
          else none
        ) : Int32 → Option (Int32 × KM)) fun j74 =>
        if x4 = 0 then
          j74 ((4096 : Int32) + ((1 : Int32) <<< (w5 &&& 31)))
        else
          j74 (0 : Int32)
      ) : Int32 → Option (Int32 × KM)) fun j55 =>
      if v3 = (2 : Int32) then
        j55 (0 : Int32)
      else
        j55 (1 : Int32)
def lp_X6_plantingCost_18 (n : Nat) (a0 : Nat) (a1 : Nat) (c2 : Int32) (c3 : Int32) (w4 : Int32) (M : KM) (k160 : KM → Option (Int32 × KM)) : Option (Int32 × KM) := match n with
  | 0 => none
  | n + 1 =>
    if (M.1 a1 8) ≤ w4 then
      k160 M
    else
      lp_X6_plantingCost_30 n a0 a1 c2 c3 w4 (0 : Int32) M
        (fun (M24 : KM) => (
          lt (w4 + (1 : Int32)) fun (v25 : Int32) =>
          lp_X6_plantingCost_18 n a0 a1 c2 c3 v25 M24 k160
        ))
def f_X6_plantingCost (n : Nat) (a0 : Nat) (a1 : Nat) (p2 : Int32) (p3 : Int32) (M : KM) : Option (Int32 × KM) :=
  if ix p2 8 then
  (f_X6_startAt n a0 a1 (M.1 ((a1 + 6) + 8 + 3 * (p2).toNatClampNeg) 5) (0 : Int32) M).bind fun (v2 : KM) =>
  lp_X6_plantingCost_18 n a0 a1 p2 p3 (1 : Int32) v2
    (fun (M27 : KM) => (
      if ix p3 8 then
      lt ((if (1000000000 : Int32) < (M27.1 (a0 + 1) (p3).toNatClampNeg) then (1000000000 : Int32) else (M27.1 (a0 + 1) (p3).toNatClampNeg))) fun (v29 : Int32) =>
      some (v29, M27)
      else none
    ))
  else none
def lp_X6_goOneRoad_2 (n : Nat) (a0 : Nat) (a1 : Nat) (c2 : Int32) (w3 : Int32) (M : KM) (k21 : KM → Option KM) : Option KM := match n with
  | 0 => none
  | n + 1 =>
    if (8 : Int32) ≤ w3 then
      k21 M
    else
      if ix w3 8 then
      lt (uJ M (M.2.2 a0 3) (w3).toNatClampNeg (0 : Int64)) fun (M3 : KM) =>
      lt (w3 + (1 : Int32)) fun (v4 : Int32) =>
      lp_X6_goOneRoad_2 n a0 a1 c2 v4 M3 k21
      else none
def lp_X6_goOneRoad_23 (n : Nat) (a0 : Nat) (a1 : Nat) (c2 : Int32) (w3 : Int32) (M : KM) (k97 : KM → Option KM) : Option KM := match n with
  | 0 => none
  | n + 1 =>
    if (M.1 a1 9) ≤ w3 then
      k97 M
    else
      (f_X2_paceOf n a1 c2 w3 M).bind fun (v7 : Int32) =>
      lt (fun (M8 : KM) => (
        lt (w3 + (1 : Int32)) fun (v9 : Int32) =>
        lp_X6_goOneRoad_23 n a0 a1 c2 v9 M8 k97
      ) : KM → Option KM) fun j91 =>
      if v7 = (2 : Int32) then
        j91 M
      else
        if ix w3 12 then
        lt ((M.1 (a1 + 3) (w3).toNatClampNeg)) fun (v12 : Int32) =>
        if ix v12 8 then
        if ix w3 12 then
        if ix (M.1 (a1 + 2) (w3).toNatClampNeg) 8 then
        if ix v12 8 then
        lt (uJ M (M.2.2 a0 3) (v12).toNatClampNeg ((M.2.1 (M.2.2 a0 3) (v12).toNatClampNeg) + (M.2.1 (M.2.2 a0 2) ((M.1 (a1 + 2) (w3).toNatClampNeg)).toNatClampNeg))) fun (M18 : KM) =>
        if ix w3 12 then
        lt ((M18.1 (a1 + 2) (w3).toNatClampNeg)) fun (v21 : Int32) =>
        if ix v21 8 then
        if ix w3 12 then
        if ix (M18.1 (a1 + 3) (w3).toNatClampNeg) 8 then
        if ix v21 8 then
        lt (uJ M18 (M18.2.2 a0 3) (v21).toNatClampNeg ((M18.2.1 (M18.2.2 a0 3) (v21).toNatClampNeg) + (M18.2.1 (M18.2.2 a0 2) ((M18.1 (a1 + 3) (w3).toNatClampNeg)).toNatClampNeg))) fun (M27 : KM) =>
        j91 M27
        else none
        else none
        else none
        else none
        else none
        else none
        else none
        else none
        else none
        else none
def f_X6_goOneRoad (n : Nat) (a0 : Nat) (a1 : Nat) (p2 : Int32) (M : KM) : Option KM :=
  lp_X6_goOneRoad_2 n a0 a1 p2 (0 : Int32) M
    (fun (M6 : KM) => (
      lp_X6_goOneRoad_23 n a0 a1 p2 (0 : Int32) M6
        (fun (M30 : KM) => (
          lt ((M30.2.2 a0 2)) fun (v32 : Nat) =>
          lt (uR M30 a0 2 (M30.2.2 a0 3)) fun (M34 : KM) =>
          lt (uR M34 a0 3 v32) fun (M35 : KM) =>
          some M35
        ))
    ))
def lp_X6_countWays_3 (n : Nat) (a0 : Nat) (a1 : Nat) (c2 : Int32) (c3 : Int32) (c4 : Int32) (c5 : Int32) (w6 : Int32) (M : KM) (k34 : KM → Option (Int64 × KM)) : Option (Int64 × KM) := match n with
  | 0 => none
  | n + 1 =>
    if (8 : Int32) ≤ w6 then
      k34 M
    else
      lt (fun (x2 : Int64) => (
        if ix w6 8 then
        lt (uJ M (M.2.2 a0 2) (w6).toNatClampNeg x2) fun (M4 : KM) =>
        lt (w6 + (1 : Int32)) fun (v5 : Int32) =>
        lp_X6_countWays_3 n a0 a1 c2 c3 c4 c5 v5 M4 k34
        else none
      ) : Int64 → Option (Int64 × KM)) fun j27 =>
      if w6 = c3 then
        j27 (1 : Int64)
      else
        j27 (0 : Int64)
def lp_X6_countWays_37 (n : Nat) (a0 : Nat) (a1 : Nat) (c2 : Int32) (c4 : Int32) (c5 : Int32) (w6 : Int32) (M : KM) : Option (Int64 × KM) := match n with
  | 0 => none
  | n + 1 =>
    if c5 ≤ w6 then
      if ix c4 8 then
      some ((M.2.1 (M.2.2 a0 2) (c4).toNatClampNeg), M)
      else none
    else
      (f_X6_goOneRoad n a0 a1 c2 M).bind fun (v11 : KM) =>
      lt (w6 + (1 : Int32)) fun (v12 : Int32) =>
      lp_X6_countWays_37 n a0 a1 c2 c4 c5 v12 v11
def f_X6_countWays (n : Nat) (a0 : Nat) (a1 : Nat) (p2 : Int32) (p3 : Int32) (p4 : Int32) (p5 : Int32) (M : KM) : Option (Int64 × KM) :=
  lp_X6_countWays_3 n a0 a1 p2 p3 p4 p5 (0 : Int32) M
    (fun (M8 : KM) => (
      lp_X6_countWays_37 n a0 a1 p2 p4 p5 (0 : Int32) M8
    ))
def f_X5_likes (n : Nat) (a0 : Nat) (p1 : Int32) (p2 : Int32) (p3 : Int32) (M : KM) : Option Int32 :=
  if p3 = (-1 : Int32) then
    some (1 : Int32)
  else
    if ix p2 8 then
    if ix p1 8 then
    lt ((M.1 (((a0 + 6) + 8 + 3 * (p2).toNatClampNeg) + 2) (p1).toNatClampNeg)) fun (v3 : Int32) =>
    if ix p3 8 then
    if ix p1 8 then
    lt ((M.1 (((a0 + 6) + 8 + 3 * (p3).toNatClampNeg) + 2) (p1).toNatClampNeg)) fun (v6 : Int32) =>
    lt ((
      some (1 : Int32)
    ) : Option Int32) fun j52 =>
    if v6 < v3 then
      j52
    else
      if v3 = v6 then
        if p3 ≤ p2 then
          some (0 : Int32)
        else
          j52
      else
        some (0 : Int32)
    else none
    else none
    else none
    else none
def lp_X5_askNext_5 (n : Nat) (a0 : Nat) (a1 : Nat) (c2 : Int32) (M : KM) (w3 : Int32) (w4 : Int32) (k73 : Int32 → Option KM) : Option KM := match n with
  | 0 => none
  | n + 1 =>
    if (M.1 a1 10) ≤ w4 then
      k73 w3
    else
      if ix w4 8 then
      lt (fun (x2 : Int32) => (
        lt (fun (x3 : Int32) => (
          lt (w4 + (1 : Int32)) fun (v4 : Int32) =>
          lp_X5_askNext_5 n a0 a1 c2 M x3 v4 k73
        ) : Int32 → Option KM) fun j67 =>
        if x2 = 0 then
          j67 w3
        else
          (f_X5_likes n a1 c2 w4 w3 M).bind fun (v5 : Int32) =>
          if v5 = 0 then
            j67 w3
          else
            j67 w4
      ) : Int32 → Option KM) fun j46 =>
      lt ((
        j46 (0 : Int32)
      ) : Option KM) fun j45 =>
      if (M.1 ((a1 + 6) + 8 + 3 * (w4).toNatClampNeg) 3) = 0 then
        if ix c2 8 then
        if ((M.1 (a0 + 2) (c2).toNatClampNeg) &&& ((1 : Int32) <<< (w4 &&& 31))) = 0 then
          j46 (1 : Int32)
        else
          j45
        else none
      else
        j45
      else none
def f_X5_askNext (n : Nat) (a0 : Nat) (a1 : Nat) (p2 : Int32) (M : KM) : Option KM :=
  lp_X5_askNext_5 n a0 a1 p2 M (-1 : Int32) (0 : Int32)
    (fun (u12 : Int32) => (
      if u12 = (-1 : Int32) then
        some M
      else
        if ix p2 8 then
        if ix p2 8 then
        lt (uI M (a0 + 2) (p2).toNatClampNeg ((M.1 (a0 + 2) (p2).toNatClampNeg) ||| ((1 : Int32) <<< (u12 &&& 31)))) fun (M15 : KM) =>
        if ix u12 8 then
        lt ((M15.1 (a0 + 1) (u12).toNatClampNeg)) fun (v17 : Int32) =>
        (f_X5_likes n a1 u12 p2 v17 M15).bind fun (v18 : Int32) =>
        if v18 = 0 then
          some M15
        else
          lt (fun (M19 : KM) => (
            if ix u12 8 then
            lt (uI M19 (a0 + 1) (u12).toNatClampNeg p2) fun (M21 : KM) =>
            if ix p2 8 then
            lt (uI M21 (a0 + 1) (p2).toNatClampNeg u12) fun (M23 : KM) =>
            some M23
            else none
            else none
          ) : KM → Option KM) fun j125 =>
          if v17 = (-1 : Int32) then
            j125 M15
          else
            if ix v17 8 then
            lt (uI M15 (a0 + 1) (v17).toNatClampNeg (-1 : Int32)) fun (M25 : KM) =>
            j125 M25
            else none
        else none
        else none
        else none
    ))
def lp_X5_findPairs_2 (n : Nat) (a0 : Nat) (a1 : Nat) (w2 : Int32) (M : KM) (k28 : KM → Option KM) : Option KM := match n with
  | 0 => none
  | n + 1 =>
    if (8 : Int32) ≤ w2 then
      k28 M
    else
      if ix w2 8 then
      lt (uI M (a0 + 1) (w2).toNatClampNeg (-1 : Int32)) fun (M2 : KM) =>
      if ix w2 8 then
      lt (uI M2 (a0 + 2) (w2).toNatClampNeg (0 : Int32)) fun (M4 : KM) =>
      lt (w2 + (1 : Int32)) fun (v5 : Int32) =>
      lp_X5_findPairs_2 n a0 a1 v5 M4 k28
      else none
      else none
def lp_X5_findPairs_38 (n : Nat) (a0 : Nat) (a1 : Nat) (c2 : Int32) (w3 : Int32) (M : KM) (k80 : KM → Option KM) : Option KM := match n with
  | 0 => none
  | n + 1 =>
    if (M.1 a1 10) ≤ w3 then
      k80 M
    else
      if ix w3 8 then
      lt (fun (M9 : KM) => (
        lt (w3 + (1 : Int32)) fun (v10 : Int32) =>
        lp_X5_findPairs_38 n a0 a1 c2 v10 M9 k80
      ) : KM → Option KM) fun j74 =>
      if (M.1 ((a1 + 6) + 8 + 3 * (w3).toNatClampNeg) 3) = 0 then
        j74 M
      else
        if ix w3 8 then
        if (M.1 (a0 + 1) (w3).toNatClampNeg) = (-1 : Int32) then
          (f_X5_askNext n a0 a1 w3 M).bind fun (v12 : KM) =>
          j74 v12
        else
          j74 M
        else none
      else none
def lp_X5_findPairs_30 (n : Nat) (a0 : Nat) (a1 : Nat) (w2 : Int32) (M : KM) : Option KM := match n with
  | 0 => none
  | n + 1 =>
    if (64 : Int32) ≤ w2 then
      some M
    else
      lp_X5_findPairs_38 n a0 a1 w2 (0 : Int32) M
        (fun (M16 : KM) => (
          lt (w2 + (1 : Int32)) fun (v17 : Int32) =>
          lp_X5_findPairs_30 n a0 a1 v17 M16
        ))
def f_X5_findPairs (n : Nat) (a0 : Nat) (a1 : Nat) (M : KM) : Option KM :=
  lp_X5_findPairs_2 n a0 a1 (0 : Int32) M
    (fun (M7 : KM) => (
      lp_X5_findPairs_30 n a0 a1 (0 : Int32) M7
    ))
def lp_X5_countPairs_4 (n : Nat) (a0 : Nat) (a1 : Nat) (M : KM) (w2 : Int32) (w3 : Int32) : Option Int32 := match n with
  | 0 => none
  | n + 1 =>
    if (M.1 a1 10) ≤ w3 then
      some w2
    else
      if ix w3 8 then
      lt (fun (x2 : Int32) => (
        lt ((w2 + x2)) fun (v3 : Int32) =>
        lt (w3 + (1 : Int32)) fun (v4 : Int32) =>
        lp_X5_countPairs_4 n a0 a1 M v3 v4
      ) : Int32 → Option Int32) fun j40 =>
      lt ((
        j40 (0 : Int32)
      ) : Option Int32) fun j39 =>
      if (M.1 ((a1 + 6) + 8 + 3 * (w3).toNatClampNeg) 3) = 0 then
        j39
      else
        if ix w3 8 then
        if (M.1 (a0 + 1) (w3).toNatClampNeg) = (-1 : Int32) then
          j39
        else
          j40 (1 : Int32)
        else none
      else none
def f_X5_countPairs (n : Nat) (a0 : Nat) (a1 : Nat) (M : KM) : Option Int32 :=
  lp_X5_countPairs_4 n a0 a1 M (0 : Int32) (0 : Int32)
def lp_X5_sumOwed_4 (n : Nat) (a0 : Nat) (a1 : Nat) (M : KM) (w2 : Int32) (w3 : Int32) : Option Int32 := match n with
  | 0 => none
  | n + 1 =>
    if (M.1 a1 10) ≤ w3 then
      some w2
    else
      if ix w3 8 then
      lt (fun (x2 : Int32) => (
        lt (w3 + (1 : Int32)) fun (v3 : Int32) =>
        lp_X5_sumOwed_4 n a0 a1 M x2 v3
      ) : Int32 → Option Int32) fun j56 =>
      if (M.1 ((a1 + 6) + 8 + 3 * (w3).toNatClampNeg) 3) = 0 then
        j56 w2
      else
        if ix w3 8 then
        if (M.1 (a0 + 1) (w3).toNatClampNeg) = (-1 : Int32) then
          j56 w2
        else
          if ix w3 8 then
          if ix w3 8 then
          if ix (M.1 (a0 + 1) (w3).toNatClampNeg) 8 then
          lt ((if 0 ≤ (M.1 (((a1 + 6) + 8 + 3 * (w3).toNatClampNeg) + 2) ((M.1 (a0 + 1) (w3).toNatClampNeg)).toNatClampNeg) then (M.1 (((a1 + 6) + 8 + 3 * (w3).toNatClampNeg) + 2) ((M.1 (a0 + 1) (w3).toNatClampNeg)).toNatClampNeg) else 0 - (M.1 (((a1 + 6) + 8 + 3 * (w3).toNatClampNeg) + 2) ((M.1 (a0 + 1) (w3).toNatClampNeg)).toNatClampNeg))) fun (v8 : Int32) =>
          lt ((w2 + v8)) fun (v9 : Int32) =>
          j56 v9
          else none
          else none
          else none
        else none
      else none
def f_X5_sumOwed (n : Nat) (a0 : Nat) (a1 : Nat) (M : KM) : Option Int32 :=
  lp_X5_sumOwed_4 n a0 a1 M (0 : Int32) (0 : Int32)
def lp_X9_scanWord_7 (n : Nat) (a0 : Nat) (w1 : Int64) (M : KM) (k96 : Int64 → KM → Option KM) : Option KM := match n with
  | 0 => none
  | n + 1 =>
    if (M.1 a0 2) ≤ (M.1 a0 3) then
      k96 w1 M
    else
      if ix (M.1 a0 3) (ktl (kty (M.2.2 a0 1))) then
      if (M.1 (M.2.2 a0 1) ((M.1 a0 3)).toNatClampNeg) < (97 : Int32) then
        k96 w1 M
      else
        if ix (M.1 a0 3) (ktl (kty (M.2.2 a0 1))) then
        if (122 : Int32) < (M.1 (M.2.2 a0 1) ((M.1 a0 3)).toNatClampNeg) then
          k96 w1 M
        else
          lt (fun (x6 : Int64) => (
            lt (uI M a0 3 ((M.1 a0 3) + (1 : Int32))) fun (M7 : KM) =>
            lp_X9_scanWord_7 n a0 x6 M7 k96
          ) : Int64 → Option KM) fun j83 =>
          if (8 : Int32) ≤ ((M.1 a0 3) - (M.1 a0 10)) then
            j83 w1
          else
            if ix (M.1 a0 3) (ktl (kty (M.2.2 a0 1))) then
            lt (((((w1 * (32 : Int64)) + ((M.1 (M.2.2 a0 1) ((M.1 a0 3)).toNatClampNeg)).toInt64) - (97 : Int64)) + (1 : Int64))) fun (v10 : Int64) =>
            j83 v10
            else none
        else none
      else none
def lp_X9_scanWord_113 (n : Nat) (a0 : Nat) (c1 : Int64) (M : KM) (w3 : Int32) (k130 : Int32 → Option KM) (k142 : Option KM) : Option KM := match n with
  | 0 => none
  | n + 1 =>
    if (26 : Int32) ≤ w3 then
      k142
    else
      if ix w3 26 then
      if (lg_cmp (M.2.1 (a0 + 1) (w3).toNatClampNeg) c1) = 0 then
        k130 w3
      else
        lt (w3 + (1 : Int32)) fun (v18 : Int32) =>
        lp_X9_scanWord_113 n a0 c1 M v18 k130 k142
      else none
def f_X9_scanWord (n : Nat) (a0 : Nat) (M : KM) : Option KM :=
  lt (uI M a0 6 (1 : Int32)) fun (M1 : KM) =>
  lp_X9_scanWord_7 n a0 (0 : Int64) M1
    (fun (u15 : Int64) (M16 : KM) => (
      if ((M16.1 a0 3) - (M16.1 a0 10)) ≤ (8 : Int32) then
        lp_X9_scanWord_113 n a0 u15 M16 (0 : Int32)
          (fun (u21 : Int32) => (
            lt (uI M16 a0 7 u21) fun (M22 : KM) =>
            some M22
          ))
          ((
            lt (uJ M16 a0 9 u15) fun (M23 : KM) =>
            some M23
          ))
      else
        some M16
    ))
def lp_X9_scanNumber_0 (n : Nat) (a0 : Nat) (M : KM) (k89 : KM → Option KM) : Option KM := match n with
  | 0 => none
  | n + 1 =>
    if (M.1 a0 2) ≤ (M.1 a0 3) then
      k89 M
    else
      if ix (M.1 a0 3) (ktl (kty (M.2.2 a0 1))) then
      if (M.1 (M.2.2 a0 1) ((M.1 a0 3)).toNatClampNeg) < (48 : Int32) then
        k89 M
      else
        if ix (M.1 a0 3) (ktl (kty (M.2.2 a0 1))) then
        if (57 : Int32) < (M.1 (M.2.2 a0 1) ((M.1 a0 3)).toNatClampNeg) then
          k89 M
        else
          lt (fun (M5 : KM) => (
            lt (uI M5 a0 3 ((M5.1 a0 3) + (1 : Int32))) fun (M6 : KM) =>
            lp_X9_scanNumber_0 n a0 M6 k89
          ) : KM → Option KM) fun j76 =>
          if (4 : Int32) ≤ ((M.1 a0 3) - (M.1 a0 10)) then
            j76 M
          else
            if ix (M.1 a0 3) (ktl (kty (M.2.2 a0 1))) then
            lt (uI M a0 8 ((((M.1 a0 8) * (10 : Int32)) + (M.1 (M.2.2 a0 1) ((M.1 a0 3)).toNatClampNeg)) - (48 : Int32))) fun (M9 : KM) =>
            j76 M9
            else none
        else none
      else none
def f_X9_scanNumber (n : Nat) (a0 : Nat) (M : KM) : Option KM :=
  lp_X9_scanNumber_0 n a0 M
    (fun (M14 : KM) => (
      lt (fun (x15 : Int32) => (
        lt (uI M14 a0 6 x15) fun (M16 : KM) =>
        some M16
      ) : Int32 → Option KM) fun j108 =>
      if ((M14.1 a0 3) - (M14.1 a0 10)) ≤ (4 : Int32) then
        j108 (2 : Int32)
      else
        j108 (4 : Int32)
    ))
def lp_X9_advance_8 (n : Nat) (a0 : Nat) (M : KM) (k60 : KM → Option KM) : Option KM := match n with
  | 0 => none
  | n + 1 =>
    if (M.1 a0 2) ≤ (M.1 a0 3) then
      k60 M
    else
      if ix (M.1 a0 3) (ktl (kty (M.2.2 a0 1))) then
      lt ((
        lt (uI M a0 3 ((M.1 a0 3) + (1 : Int32))) fun (M4 : KM) =>
        lp_X9_advance_8 n a0 M4 k60
      ) : Option KM) fun j47 =>
      if (M.1 (M.2.2 a0 1) ((M.1 a0 3)).toNatClampNeg) = (32 : Int32) then
        j47
      else
        if ix (M.1 a0 3) (ktl (kty (M.2.2 a0 1))) then
        if (M.1 (M.2.2 a0 1) ((M.1 a0 3)).toNatClampNeg) = (10 : Int32) then
          j47
        else
          k60 M
        else none
      else none
def f_X9_advance (n : Nat) (a0 : Nat) (M : KM) : Option KM :=
  lt (uI M a0 11 (M.1 a0 10)) fun (M1 : KM) =>
  lp_X9_advance_8 n a0 M1
    (fun (M10 : KM) => (
      lt (uI M10 a0 10 (M10.1 a0 3)) fun (M11 : KM) =>
      lt (uI M11 a0 7 (-1 : Int32)) fun (M12 : KM) =>
      lt (uJ M12 a0 9 (0 : Int64)) fun (M13 : KM) =>
      lt (uI M13 a0 8 (0 : Int32)) fun (M14 : KM) =>
      if (M14.1 a0 3) < (M14.1 a0 2) then
        if ix (M14.1 a0 3) (ktl (kty (M14.2.2 a0 1))) then
        lt ((M14.1 (M14.2.2 a0 1) ((M14.1 a0 3)).toNatClampNeg)) fun (v17 : Int32) =>
        lt ((
          lt ((
            lt (uI M14 a0 8 v17) fun (M18 : KM) =>
            lt (uI M18 a0 3 ((M18.1 a0 3) + (1 : Int32))) fun (M19 : KM) =>
            lt (fun (x20 : Int32) => (
              lt (fun (x21 : Int32) => (
                lt (uI M19 a0 6 x21) fun (M22 : KM) =>
                some M22
              ) : Int32 → Option KM) fun j203 =>
              if x20 = 0 then
                j203 (4 : Int32)
              else
                j203 (3 : Int32)
            ) : Int32 → Option KM) fun j192 =>
            lt ((
              j192 (1 : Int32)
            ) : Option KM) fun j187 =>
            if v17 = (59 : Int32) then
              j187
            else
              if v17 = (60 : Int32) then
                j187
              else
                if v17 = (62 : Int32) then
                  j187
                else
                  if v17 = (61 : Int32) then
                    j187
                  else
                    j192 (0 : Int32)
          ) : Option KM) fun j148 =>
          if v17 < (48 : Int32) then
            j148
          else
            if (57 : Int32) < v17 then
              j148
            else
              (f_X9_scanNumber n a0 M14).bind fun (v28 : KM) =>
              some v28
        ) : Option KM) fun j129 =>
        if v17 < (97 : Int32) then
          j129
        else
          if (122 : Int32) < v17 then
            j129
          else
            (f_X9_scanWord n a0 M14).bind fun (v31 : KM) =>
            some v31
        else none
      else
        lt (uI M14 a0 6 (0 : Int32)) fun (M34 : KM) =>
        some M34
    ))
def f_X9_begin (n : Nat) (a0 : Nat) (a1 : Nat) (p2 : Int32) (M : KM) : Option KM :=
  lt (uR M a0 1 a1) fun (M1 : KM) =>
  lt ((if (Int32.ofNat (ktl (kty a1))) < p2 then (Int32.ofNat (ktl (kty a1))) else p2)) fun (v2 : Int32) =>
  lt (uI M1 a0 2 v2) fun (M3 : KM) =>
  lt (uI M3 a0 3 (0 : Int32)) fun (M4 : KM) =>
  lt (uI M4 a0 11 (0 : Int32)) fun (M5 : KM) =>
  lt (uI M5 a0 4 (0 : Int32)) fun (M6 : KM) =>
  lt (uI M6 a0 5 (-1 : Int32)) fun (M7 : KM) =>
  (f_X9_advance n a0 M7).bind fun (v8 : KM) =>
  some v8
def f_X9_fail (a0 : Nat) (p1 : Int32) (M : KM) : (Int32 × KM) :=
  lt (uI M a0 4 p1) fun (M1 : KM) =>
  lt (uI M1 a0 5 (M1.1 a0 10)) fun (M2 : KM) =>
  ((0 : Int32), M2)
def f_X9_failTaken (a0 : Nat) (p1 : Int32) (M : KM) : (Int32 × KM) :=
  lt (uI M a0 4 p1) fun (M1 : KM) =>
  lt (uI M1 a0 5 (M1.1 a0 11)) fun (M2 : KM) =>
  ((0 : Int32), M2)
def f_X9_failOrder (a0 : Nat) (M : KM) : (Int32 × KM) :=
  lt (fun (x1 : Int32) => (
    lt (f_X9_fail a0 x1 M) fun (v2 : (Int32 × KM)) =>
    (v2.1, v2.2)
  ) : Int32 → (Int32 × KM)) fun j14 =>
  if (M.1 a0 6) = (4 : Int32) then
    j14 (1 : Int32)
  else
    j14 (2 : Int32)
def f_X9_isAtEnd (a0 : Nat) (M : KM) : Int32 :=
  if (M.1 a0 6) = 0 then
    (1 : Int32)
  else
    (0 : Int32)
def f_X9_skip (n : Nat) (a0 : Nat) (M : KM) : Option KM :=
  (f_X9_advance n a0 M).bind fun (v1 : KM) =>
  some v1
def f_X9_skipWord (n : Nat) (a0 : Nat) (p1 : Int32) (M : KM) : Option (Int32 × KM) :=
  if (M.1 a0 7) = p1 then
    (f_X9_advance n a0 M).bind fun (v1 : KM) =>
    some ((1 : Int32), v1)
  else
    some ((0 : Int32), M)
def f_X9_takeWord (n : Nat) (a0 : Nat) (p1 : Int32) (M : KM) : Option (Int32 × KM) :=
  (f_X9_skipWord n a0 p1 M).bind fun (v1 : (Int32 × KM)) =>
  lt (fun (M2 : KM) => (
    some ((1 : Int32), M2)
  ) : KM → Option (Int32 × KM)) fun j15 =>
  if v1.1 = 0 then
    lt (f_X9_failOrder a0 v1.2) fun (v3 : (Int32 × KM)) =>
    if v3.1 = 0 then
      some ((0 : Int32), v3.2)
    else
      j15 v3.2
  else
    j15 v1.2
def f_X9_takeSemicolon (n : Nat) (a0 : Nat) (M : KM) : Option (Int32 × KM) :=
  lt ((
    lt (f_X9_failOrder a0 M) fun (v1 : (Int32 × KM)) =>
    some (v1.1, v1.2)
  ) : Option (Int32 × KM)) fun j17 =>
  if (M.1 a0 6) = (3 : Int32) then
    if (M.1 a0 8) = (59 : Int32) then
      (f_X9_advance n a0 M).bind fun (v2 : KM) =>
      some ((1 : Int32), v2)
    else
      j17
  else
    j17
def f_X9_takeComparison (n : Nat) (a0 : Nat) (M : KM) : Option (Int32 × KM) :=
  lt ((
    lt (f_X9_failOrder a0 M) fun (v1 : (Int32 × KM)) =>
    some ((-1 : Int32), v1.2)
  ) : Option (Int32 × KM)) fun j17 =>
  if (M.1 a0 6) = (3 : Int32) then
    if (M.1 a0 8) = (59 : Int32) then
      j17
    else
      lt ((M.1 a0 8)) fun (v2 : Int32) =>
      (f_X9_advance n a0 M).bind fun (v3 : KM) =>
      some (v2, v3)
  else
    j17
def f_X9_takeNumber (n : Nat) (a0 : Nat) (p1 : Int32) (p2 : Int32) (M : KM) : Option (Int32 × KM) :=
  if (M.1 a0 6) = (2 : Int32) then
    lt ((
      lt (f_X9_fail a0 (4 : Int32) M) fun (v1 : (Int32 × KM)) =>
      some ((-1 : Int32), v1.2)
    ) : Option (Int32 × KM)) fun j31 =>
    if (M.1 a0 8) < p1 then
      j31
    else
      if (M.1 a0 8) ≤ p2 then
        lt ((M.1 a0 8)) fun (v2 : Int32) =>
        (f_X9_advance n a0 M).bind fun (v3 : KM) =>
        some (v2, v3)
      else
        j31
  else
    lt (f_X9_failOrder a0 M) fun (v6 : (Int32 × KM)) =>
    some ((-1 : Int32), v6.2)
def f_X9_takeNewName (n : Nat) (a0 : Nat) (a1 : Nat) (M : KM) : Option (Int64 × KM) :=
  if (lg_cmp (M.2.1 a0 9) (0 : Int64)) = 0 then
    lt (f_X9_failOrder a0 M) fun (v8 : (Int32 × KM)) =>
    some ((0 : Int64), v8.2)
  else
    (f_X2_placeNamed n a1 (M.2.1 a0 9) M).bind fun (v1 : Int32) =>
    lt ((
      lt (f_X9_fail a0 (3 : Int32) M) fun (v2 : (Int32 × KM)) =>
      some ((0 : Int64), v2.2)
    ) : Option (Int64 × KM)) fun j40 =>
    if v1 = (-1 : Int32) then
      (f_X2_personNamed n a1 (M.2.1 a0 9) M).bind fun (v3 : Int32) =>
      if v3 = (-1 : Int32) then
        lt ((M.2.1 a0 9)) fun (v4 : Int64) =>
        (f_X9_advance n a0 M).bind fun (v5 : KM) =>
        some (v4, v5)
      else
        j40
    else
      j40
def f_X9_takeKnown (n : Nat) (a0 : Nat) (p1 : Int32) (M : KM) : Option (Int32 × KM) :=
  if (lg_cmp (M.2.1 a0 9) (0 : Int64)) = 0 then
    lt (f_X9_failOrder a0 M) fun (v4 : (Int32 × KM)) =>
    some ((-1 : Int32), v4.2)
  else
    if p1 = (-1 : Int32) then
      lt (f_X9_fail a0 (3 : Int32) M) fun (v2 : (Int32 × KM)) =>
      some ((-1 : Int32), v2.2)
    else
      (f_X9_advance n a0 M).bind fun (v1 : KM) =>
      some (p1, v1)
def f_X9_takePlace (n : Nat) (a0 : Nat) (a1 : Nat) (M : KM) : Option (Int32 × KM) :=
  (f_X2_placeNamed n a1 (M.2.1 a0 9) M).bind fun (v1 : Int32) =>
  (f_X9_takeKnown n a0 v1 M).bind fun (v2 : (Int32 × KM)) =>
  some (v2.1, v2.2)
def f_X9_takePerson (n : Nat) (a0 : Nat) (a1 : Nat) (M : KM) : Option (Int32 × KM) :=
  (f_X2_personNamed n a1 (M.2.1 a0 9) M).bind fun (v1 : Int32) =>
  (f_X9_takeKnown n a0 v1 M).bind fun (v2 : (Int32 × KM)) =>
  some (v2.1, v2.2)
def f_X3_startOnce (n : Nat) (a0 : Nat) (M : KM) : Option (Int32 × KM) :=
  lt (((1 : Int32) <<< ((M.1 a0 7) &&& 31))) fun (v1 : Int32) =>
  lt ((
    lt (f_X9_fail a0 (5 : Int32) M) fun (v2 : (Int32 × KM)) =>
    some (v2.1, v2.2)
  ) : Option (Int32 × KM)) fun j31 =>
  if ((M.1 a0 12) &&& v1) = 0 then
    lt ((
      lt (uI M a0 12 ((M.1 a0 12) ||| v1)) fun (M3 : KM) =>
      (f_X9_skip n a0 M3).bind fun (v4 : KM) =>
      some ((1 : Int32), v4)
    ) : Option (Int32 × KM)) fun j37 =>
    if (M.1 a0 7) = (4 : Int32) then
      if (M.1 a0 13) = 0 then
        j37
      else
        j31
    else
      j37
  else
    j31
def f_X3_readGlare (n : Nat) (a0 : Nat) (a1 : Nat) (M : KM) : Option (Int32 × KM) :=
  (f_X9_takeNumber n a0 (0 : Int32) (23 : Int32) M).bind fun (v1 : (Int32 × KM)) =>
  if v1.1 = (-1 : Int32) then
    some ((0 : Int32), v1.2)
  else
    (f_X9_takeWord n a0 (1 : Int32) v1.2).bind fun (v2 : (Int32 × KM)) =>
    if v2.1 = 0 then
      some ((0 : Int32), v2.2)
    else
      (f_X9_takeNumber n a0 (v1.1 + (1 : Int32)) (24 : Int32) v2.2).bind fun (v3 : (Int32 × KM)) =>
      if v3.1 = (-1 : Int32) then
        some ((0 : Int32), v3.2)
      else
        lt (f_X1_set (a1 + 7) v1.1 v3.1 v3.2) fun (v4 : KM) =>
        (f_X9_takeSemicolon n a0 v4).bind fun (v5 : (Int32 × KM)) =>
        some (v5.1, v5.2)
def f_X3_readClock (n : Nat) (a0 : Nat) (a1 : Nat) (M : KM) : Option (Int32 × KM) :=
  (f_X9_takeNumber n a0 (0 : Int32) (1439 : Int32) M).bind fun (v1 : (Int32 × KM)) =>
  lt (uI v1.2 a1 11 v1.1) fun (M2 : KM) =>
  if (M2.1 a1 11) = (-1 : Int32) then
    some ((0 : Int32), M2)
  else
    (f_X9_takeSemicolon n a0 M2).bind fun (v3 : (Int32 × KM)) =>
    if v3.1 = 0 then
      some ((0 : Int32), v3.2)
    else
      some ((1 : Int32), v3.2)
def f_X3_readRope (n : Nat) (a0 : Nat) (a1 : Nat) (M : KM) : Option (Int32 × KM) :=
  (f_X9_takeNumber n a0 (1 : Int32) (9 : Int32) M).bind fun (v1 : (Int32 × KM)) =>
  lt (uI v1.2 a1 12 v1.1) fun (M2 : KM) =>
  if (M2.1 a1 12) = (-1 : Int32) then
    some ((0 : Int32), M2)
  else
    (f_X9_takeSemicolon n a0 M2).bind fun (v3 : (Int32 × KM)) =>
    if v3.1 = 0 then
      some ((0 : Int32), v3.2)
    else
      some ((1 : Int32), v3.2)
def f_X3_readHabit (n : Nat) (a0 : Nat) (a1 : Nat) (M : KM) : Option (Int32 × KM) :=
  (f_X9_takeNumber n a0 (1 : Int32) (9 : Int32) M).bind fun (v1 : (Int32 × KM)) =>
  lt (uI v1.2 a1 13 v1.1) fun (M2 : KM) =>
  if (M2.1 a1 13) = (-1 : Int32) then
    some ((0 : Int32), M2)
  else
    (f_X9_takeSemicolon n a0 M2).bind fun (v3 : (Int32 × KM)) =>
    if v3.1 = 0 then
      some ((0 : Int32), v3.2)
    else
      some ((1 : Int32), v3.2)
def f_X3_readOdds (n : Nat) (a0 : Nat) (a1 : Nat) (M : KM) : Option (Int32 × KM) :=
  (f_X9_takeNumber n a0 (0 : Int32) (16 : Int32) M).bind fun (v1 : (Int32 × KM)) =>
  lt (uI v1.2 a1 14 v1.1) fun (M2 : KM) =>
  if (M2.1 a1 14) = (-1 : Int32) then
    some ((0 : Int32), M2)
  else
    (f_X9_takeSemicolon n a0 M2).bind fun (v3 : (Int32 × KM)) =>
    if v3.1 = 0 then
      some ((0 : Int32), v3.2)
    else
      some ((1 : Int32), v3.2)
def f_X3_start (n : Nat) (a0 : Nat) (p1 : Int32) (p2 : Int32) (M : KM) : Option (Int32 × KM) :=
  if p1 < p2 then
    (f_X9_skip n a0 M).bind fun (v1 : KM) =>
    some ((1 : Int32), v1)
  else
    lt (f_X9_fail a0 (6 : Int32) M) fun (v2 : (Int32 × KM)) =>
    some (v2.1, v2.2)
def f_X3_readPlace (n : Nat) (a0 : Nat) (a1 : Nat) (M : KM) : Option (Int32 × KM) :=
  (f_X9_takeNewName n a0 a1 M).bind fun (v1 : (Int64 × KM)) =>
  if (lg_cmp v1.1 (0 : Int64)) = 0 then
    some ((0 : Int32), v1.2)
  else
    (f_X2_addPlace n a1 v1.1 v1.2).bind fun (v2 : KM) =>
    (f_X9_takeSemicolon n a0 v2).bind fun (v3 : (Int32 × KM)) =>
    some (v3.1, v3.2)
def f_X3_readRoad (n : Nat) (a0 : Nat) (a1 : Nat) (M : KM) : Option (Int32 × KM) :=
  (f_X9_takePlace n a0 a1 M).bind fun (v1 : (Int32 × KM)) =>
  lt (fun (x2 : Int32) (M3 : KM) => (
    if x2 = (-1 : Int32) then
      some ((0 : Int32), M3)
    else
      lt ((
        lt (f_X9_failTaken a0 (5 : Int32) M3) fun (v4 : (Int32 × KM)) =>
        some (v4.1, v4.2)
      ) : Option (Int32 × KM)) fun j43 =>
      if v1.1 = x2 then
        j43
      else
        (f_X2_roadBetween n a1 v1.1 x2 M3).bind fun (v5 : Int32) =>
        if v5 = (-1 : Int32) then
          (f_X9_takeWord n a0 (8 : Int32) M3).bind fun (v6 : (Int32 × KM)) =>
          lt (fun (x7 : Int32) (M8 : KM) => (
            if x7 = (-1 : Int32) then
              some ((0 : Int32), M8)
            else
              (f_X9_skipWord n a0 (9 : Int32) M8).bind fun (v9 : (Int32 × KM)) =>
              (f_X2_addRoad n a1 v1.1 x2 x7 v9.1 v9.2).bind fun (v10 : KM) =>
              (f_X9_takeSemicolon n a0 v10).bind fun (v11 : (Int32 × KM)) =>
              some (v11.1, v11.2)
          ) : Int32 → KM → Option (Int32 × KM)) fun j69 =>
          if v6.1 = 0 then
            j69 (-1 : Int32) v6.2
          else
            (f_X9_takeNumber n a0 (1 : Int32) (99 : Int32) v6.2).bind fun (v13 : (Int32 × KM)) =>
            j69 v13.1 v13.2
        else
          j43
  ) : Int32 → KM → Option (Int32 × KM)) fun j20 =>
  if v1.1 = (-1 : Int32) then
    j20 (-1 : Int32) v1.2
  else
    (f_X9_takePlace n a0 a1 v1.2).bind fun (v18 : (Int32 × KM)) =>
    j20 v18.1 v18.2
def f_X3_readPerson (n : Nat) (a0 : Nat) (a1 : Nat) (p2 : Int32) (M : KM) : Option (Int32 × KM) :=
  (f_X9_takeNewName n a0 a1 M).bind fun (v1 : (Int64 × KM)) =>
  if (lg_cmp v1.1 (0 : Int64)) = 0 then
    some ((0 : Int32), v1.2)
  else
    (f_X9_takeWord n a0 (11 : Int32) v1.2).bind fun (v2 : (Int32 × KM)) =>
    if v2.1 = 0 then
      some ((0 : Int32), v2.2)
    else
      (f_X9_takePlace n a0 a1 v2.2).bind fun (v3 : (Int32 × KM)) =>
      if v3.1 = (-1 : Int32) then
        some ((0 : Int32), v3.2)
      else
        lt (fun (x4 : Int32) (M5 : KM) => (
          (f_X2_addPerson n a1 v1.1 p2 x4 v3.1 M5).bind fun (v6 : KM) =>
          (f_X9_takeSemicolon n a0 v6).bind fun (v7 : (Int32 × KM)) =>
          some (v7.1, v7.2)
        ) : Int32 → KM → Option (Int32 × KM)) fun j59 =>
        lt (fun (M8 : KM) => (
          j59 (0 : Int32) M8
        ) : KM → Option (Int32 × KM)) fun j58 =>
        if p2 = 0 then
          j58 v3.2
        else
          (f_X9_skipWord n a0 (12 : Int32) v3.2).bind fun (v9 : (Int32 × KM)) =>
          if v9.1 = 0 then
            j58 v9.2
          else
            j59 (1 : Int32) v9.2
def f_X3_readKnows (n : Nat) (a0 : Nat) (a1 : Nat) (M : KM) : Option (Int32 × KM) :=
  lt (uI M a0 13 (1 : Int32)) fun (M1 : KM) =>
  (f_X9_skip n a0 M1).bind fun (v2 : KM) =>
  (f_X9_takePerson n a0 a1 v2).bind fun (v3 : (Int32 × KM)) =>
  lt (fun (x4 : Int32) (M5 : KM) => (
    lt (fun (x6 : Int32) (M7 : KM) => (
      if x6 = (-1 : Int32) then
        some ((0 : Int32), M7)
      else
        (f_X2_roadBetween n a1 x4 x6 M7).bind fun (v8 : Int32) =>
        if v8 = (-1 : Int32) then
          lt (f_X9_failTaken a0 (3 : Int32) M7) fun (v13 : (Int32 × KM)) =>
          some (v13.1, v13.2)
        else
          if ix v3.1 8 then
          if ix v8 12 then
          lt (uI M7 (((a1 + 6) + 8 + 3 * (v3.1).toNatClampNeg) + 1) (v8).toNatClampNeg (M7.1 a1 13)) fun (M11 : KM) =>
          (f_X9_takeSemicolon n a0 M11).bind fun (v12 : (Int32 × KM)) =>
          some (v12.1, v12.2)
          else none
          else none
    ) : Int32 → KM → Option (Int32 × KM)) fun j44 =>
    if x4 = (-1 : Int32) then
      j44 (-1 : Int32) M5
    else
      (f_X9_takePlace n a0 a1 M5).bind fun (v16 : (Int32 × KM)) =>
      j44 v16.1 v16.2
  ) : Int32 → KM → Option (Int32 × KM)) fun j29 =>
  if v3.1 = (-1 : Int32) then
    j29 (-1 : Int32) v3.2
  else
    (f_X9_takePlace n a0 a1 v3.2).bind fun (v18 : (Int32 × KM)) =>
    j29 v18.1 v18.2
def f_X3_readPart (n : Nat) (a0 : Nat) (a1 : Nat) (M : KM) : Option (Int32 × KM) :=
  lt ((M.1 a0 7)) fun (v1 : Int32) =>
  if v1 = (0 : Int32) then
    (f_X3_startOnce n a0 M).bind fun (v2 : (Int32 × KM)) =>
    if v2.1 = 0 then
      some ((0 : Int32), v2.2)
    else
      (f_X3_readGlare n a0 a1 v2.2).bind fun (v3 : (Int32 × KM)) =>
      if v3.1 = 0 then
        some ((0 : Int32), v3.2)
      else
        some ((1 : Int32), v3.2)
  else
  if v1 = (1 : Int32) then
    lt (f_X9_failOrder a0 M) fun (v7 : (Int32 × KM)) =>
    some (v7.1, v7.2)
  else
  if v1 = (2 : Int32) then
    (f_X3_startOnce n a0 M).bind fun (v9 : (Int32 × KM)) =>
    if v9.1 = 0 then
      some ((0 : Int32), v9.2)
    else
      (f_X3_readClock n a0 a1 v9.2).bind fun (v10 : (Int32 × KM)) =>
      if v10.1 = 0 then
        some ((0 : Int32), v10.2)
      else
        some ((1 : Int32), v10.2)
  else
  if v1 = (3 : Int32) then
    (f_X3_startOnce n a0 M).bind fun (v14 : (Int32 × KM)) =>
    if v14.1 = 0 then
      some ((0 : Int32), v14.2)
    else
      (f_X3_readRope n a0 a1 v14.2).bind fun (v15 : (Int32 × KM)) =>
      if v15.1 = 0 then
        some ((0 : Int32), v15.2)
      else
        some ((1 : Int32), v15.2)
  else
  if v1 = (4 : Int32) then
    (f_X3_startOnce n a0 M).bind fun (v19 : (Int32 × KM)) =>
    if v19.1 = 0 then
      some ((0 : Int32), v19.2)
    else
      (f_X3_readHabit n a0 a1 v19.2).bind fun (v20 : (Int32 × KM)) =>
      if v20.1 = 0 then
        some ((0 : Int32), v20.2)
      else
        some ((1 : Int32), v20.2)
  else
  if v1 = (5 : Int32) then
    (f_X3_startOnce n a0 M).bind fun (v24 : (Int32 × KM)) =>
    if v24.1 = 0 then
      some ((0 : Int32), v24.2)
    else
      (f_X3_readOdds n a0 a1 v24.2).bind fun (v25 : (Int32 × KM)) =>
      if v25.1 = 0 then
        some ((0 : Int32), v25.2)
      else
        some ((1 : Int32), v25.2)
  else
  if v1 = (6 : Int32) then
    (f_X3_start n a0 (M.1 a1 8) (8 : Int32) M).bind fun (v29 : (Int32 × KM)) =>
    if v29.1 = 0 then
      some ((0 : Int32), v29.2)
    else
      (f_X3_readPlace n a0 a1 v29.2).bind fun (v30 : (Int32 × KM)) =>
      if v30.1 = 0 then
        some ((0 : Int32), v30.2)
      else
        some ((1 : Int32), v30.2)
  else
  if v1 = (7 : Int32) then
    (f_X3_start n a0 (M.1 a1 9) (12 : Int32) M).bind fun (v34 : (Int32 × KM)) =>
    if v34.1 = 0 then
      some ((0 : Int32), v34.2)
    else
      (f_X3_readRoad n a0 a1 v34.2).bind fun (v35 : (Int32 × KM)) =>
      if v35.1 = 0 then
        some ((0 : Int32), v35.2)
      else
        some ((1 : Int32), v35.2)
  else
  if v1 = (8 : Int32) then
    lt (f_X9_failOrder a0 M) fun (v39 : (Int32 × KM)) =>
    some (v39.1, v39.2)
  else
  if v1 = (9 : Int32) then
    lt (f_X9_failOrder a0 M) fun (v41 : (Int32 × KM)) =>
    some (v41.1, v41.2)
  else
  if v1 = (10 : Int32) then
    (f_X3_start n a0 (M.1 a1 10) (8 : Int32) M).bind fun (v43 : (Int32 × KM)) =>
    if v43.1 = 0 then
      some ((0 : Int32), v43.2)
    else
      (f_X3_readPerson n a0 a1 (1 : Int32) v43.2).bind fun (v44 : (Int32 × KM)) =>
      if v44.1 = 0 then
        some ((0 : Int32), v44.2)
      else
        some ((1 : Int32), v44.2)
  else
  if v1 = (11 : Int32) then
    lt (f_X9_failOrder a0 M) fun (v48 : (Int32 × KM)) =>
    some (v48.1, v48.2)
  else
  if v1 = (12 : Int32) then
    lt (f_X9_failOrder a0 M) fun (v50 : (Int32 × KM)) =>
    some (v50.1, v50.2)
  else
  if v1 = (13 : Int32) then
    (f_X3_start n a0 (M.1 a1 10) (8 : Int32) M).bind fun (v52 : (Int32 × KM)) =>
    if v52.1 = 0 then
      some ((0 : Int32), v52.2)
    else
      (f_X3_readPerson n a0 a1 (0 : Int32) v52.2).bind fun (v53 : (Int32 × KM)) =>
      if v53.1 = 0 then
        some ((0 : Int32), v53.2)
      else
        some ((1 : Int32), v53.2)
  else
  if v1 = (14 : Int32) then
    (f_X3_readKnows n a0 a1 M).bind fun (v57 : (Int32 × KM)) =>
    some (v57.1, v57.2)
  else
  lt (f_X9_failOrder a0 M) fun (v59 : (Int32 × KM)) =>
  some (v59.1, v59.2)
def lp_X3_readInto_23 (n : Nat) (a0 : Nat) (a1 : Nat) (w4 : Int32) (M : KM) : Option (Int32 × KM) := match n with
  | 0 => none
  | n + 1 =>
    if (900 : Int32) ≤ w4 then
      some ((1 : Int32), M)
    else
      lt (f_X9_isAtEnd a0 M) fun (v5 : Int32) =>
      if v5 = 0 then
        (f_X3_readPart n a0 a1 M).bind fun (v6 : (Int32 × KM)) =>
        if v6.1 = 0 then
          some ((0 : Int32), v6.2)
        else
          lt (w4 + (1 : Int32)) fun (v7 : Int32) =>
          lp_X3_readInto_23 n a0 a1 v7 v6.2
      else
        some ((1 : Int32), M)
def f_X3_readInto (n : Nat) (a0 : Nat) (a1 : Nat) (a2 : Nat) (p3 : Int32) (M : KM) : Option (Int32 × KM) :=
  lt (f_X2_clear a1 M) fun (v1 : KM) =>
  lt (uI v1 a0 12 (0 : Int32)) fun (M2 : KM) =>
  lt (uI M2 a0 13 (0 : Int32)) fun (M3 : KM) =>
  (f_X9_begin n a0 a2 p3 M3).bind fun (v4 : KM) =>
  lp_X3_readInto_23 n a0 a1 (0 : Int32) v4
def f_X0_readEnd (n : Nat) (a0 : Nat) (a1 : Nat) (M : KM) : Option (Int32 × KM) :=
  lt ((
    lt (f_X9_failOrder a0 M) fun (v1 : (Int32 × KM)) =>
    some (v1.1, v1.2)
  ) : Option (Int32 × KM)) fun j15 =>
  if (M.1 a0 13) ≤ 0 then
    j15
  else
    if (M.1 a0 13) ≤ (3 : Int32) then
      lt (uI M a0 13 ((M.1 a0 13) - (1 : Int32))) fun (M2 : KM) =>
      (f_X9_skip n a0 M2).bind fun (v3 : KM) =>
      (f_X8_add n a1 (10 : Int32) (0 : Int32) (0 : Int32) (0 : Int32) v3).bind fun (v4 : (Int32 × KM)) =>
      if ix (v4.2.1 a0 13) 3 then
      (f_X8_close n a1 (v4.2.1 (a0 + 3) ((v4.2.1 a0 13)).toNatClampNeg) v4.2).bind fun (v6 : KM) =>
      (f_X9_takeSemicolon n a0 v6).bind fun (v7 : (Int32 × KM)) =>
      some (v7.1, v7.2)
      else none
    else
      j15
def f_X0_start (n : Nat) (a0 : Nat) (a1 : Nat) (M : KM) : Option (Int32 × KM) :=
  if (M.1 a1 6) < (30 : Int32) then
    (f_X9_skip n a0 M).bind fun (v1 : KM) =>
    some ((1 : Int32), v1)
  else
    lt (f_X9_fail a0 (6 : Int32) M) fun (v2 : (Int32 × KM)) =>
    some (v2.1, v2.2)
def f_X0_addStep (n : Nat) (a0 : Nat) (a1 : Nat) (p2 : Int32) (p3 : Int32) (p4 : Int32) (p5 : Int32) (M : KM) : Option (Int32 × KM) :=
  (f_X9_takeSemicolon n a0 M).bind fun (v1 : (Int32 × KM)) =>
  if v1.1 = 0 then
    some ((0 : Int32), v1.2)
  else
    (f_X8_add n a1 p2 p3 p4 p5 v1.2).bind fun (v2 : (Int32 × KM)) =>
    if v2.1 = 0 then
      some ((0 : Int32), v2.2)
    else
      some ((1 : Int32), v2.2)
def f_X0_readNumberStep (n : Nat) (a0 : Nat) (a1 : Nat) (p2 : Int32) (p3 : Int32) (M : KM) : Option (Int32 × KM) :=
  (f_X9_takeNumber n a0 (1 : Int32) p3 M).bind fun (v1 : (Int32 × KM)) =>
  if v1.1 = (-1 : Int32) then
    some ((0 : Int32), v1.2)
  else
    (f_X0_addStep n a0 a1 p2 v1.1 (0 : Int32) (0 : Int32) v1.2).bind fun (v2 : (Int32 × KM)) =>
    if v2.1 = 0 then
      some ((0 : Int32), v2.2)
    else
      some ((1 : Int32), v2.2)
def f_X0_readGo (n : Nat) (a0 : Nat) (a1 : Nat) (a2 : Nat) (M : KM) : Option (Int32 × KM) :=
  (f_X9_takePerson n a0 a2 M).bind fun (v1 : (Int32 × KM)) =>
  lt (fun (x2 : Int32) (M3 : KM) => (
    if x2 = (-1 : Int32) then
      some ((0 : Int32), M3)
    else
      (f_X0_addStep n a0 a1 (1 : Int32) v1.1 x2 (0 : Int32) M3).bind fun (v4 : (Int32 × KM)) =>
      if v4.1 = 0 then
        some ((0 : Int32), v4.2)
      else
        some ((1 : Int32), v4.2)
  ) : Int32 → KM → Option (Int32 × KM)) fun j20 =>
  if v1.1 = (-1 : Int32) then
    j20 (-1 : Int32) v1.2
  else
    (f_X9_takePlace n a0 a2 v1.2).bind fun (v7 : (Int32 × KM)) =>
    j20 v7.1 v7.2
def f_X0_readLead (n : Nat) (a0 : Nat) (a1 : Nat) (a2 : Nat) (M : KM) : Option (Int32 × KM) :=
  (f_X9_takePerson n a0 a2 M).bind fun (v1 : (Int32 × KM)) =>
  lt (fun (x2 : Int32) (M3 : KM) => (
    if x2 = (-1 : Int32) then
      some ((0 : Int32), M3)
    else
      if v1.1 = x2 then
        lt (f_X9_failTaken a0 (5 : Int32) M3) fun (v8 : (Int32 × KM)) =>
        some (v8.1, v8.2)
      else
        (f_X9_takePlace n a0 a2 M3).bind fun (v4 : (Int32 × KM)) =>
        if v4.1 = (-1 : Int32) then
          some ((0 : Int32), v4.2)
        else
          (f_X0_addStep n a0 a1 (2 : Int32) v1.1 x2 v4.1 v4.2).bind fun (v5 : (Int32 × KM)) =>
          if v5.1 = 0 then
            some ((0 : Int32), v5.2)
          else
            some ((1 : Int32), v5.2)
  ) : Int32 → KM → Option (Int32 × KM)) fun j20 =>
  if v1.1 = (-1 : Int32) then
    j20 (-1 : Int32) v1.2
  else
    (f_X9_takePerson n a0 a2 v1.2).bind fun (v11 : (Int32 × KM)) =>
    j20 v11.1 v11.2
def f_X0_startBlock (n : Nat) (a0 : Nat) (a1 : Nat) (M : KM) : Option (Int32 × KM) :=
  lt ((
    (f_X0_start n a0 a1 M).bind fun (v1 : (Int32 × KM)) =>
    if v1.1 = 0 then
      some ((0 : Int32), v1.2)
    else
      if ix (v1.2.1 a0 13) 3 then
      lt (uI v1.2 (a0 + 3) ((v1.2.1 a0 13)).toNatClampNeg (v1.2.1 a1 5)) fun (M3 : KM) =>
      lt (uI M3 a0 13 ((M3.1 a0 13) + (1 : Int32))) fun (M4 : KM) =>
      some ((1 : Int32), M4)
      else none
  ) : Option (Int32 × KM)) fun j24 =>
  if (30 : Int32) ≤ (M.1 a1 6) then
    j24
  else
    if (M.1 a0 13) < (3 : Int32) then
      j24
    else
      lt (f_X9_fail a0 (7 : Int32) M) fun (v6 : (Int32 × KM)) =>
      some (v6.1, v6.2)
def f_X0_readTest (n : Nat) (a0 : Nat) (a1 : Nat) (a2 : Nat) (M : KM) : Option (Int32 × KM) :=
  (f_X9_skipWord n a0 (0 : Int32) M).bind fun (v1 : (Int32 × KM)) =>
  if v1.1 = 0 then
    (f_X9_skipWord n a0 (11 : Int32) v1.2).bind fun (v2 : (Int32 × KM)) =>
    if v2.1 = 0 then
      (f_X9_takeWord n a0 (22 : Int32) v2.2).bind fun (v3 : (Int32 × KM)) =>
      if v3.1 = 0 then
        some ((0 : Int32), v3.2)
      else
        (f_X9_takePerson n a0 a2 v3.2).bind fun (v4 : (Int32 × KM)) =>
        lt (fun (x5 : Int32) (M6 : KM) => (
          lt (fun (x7 : Int32) (M8 : KM) => (
            if x7 = (-1 : Int32) then
              some ((0 : Int32), M8)
            else
              (f_X0_addStep n a0 a1 (8 : Int32) v4.1 x5 x7 M8).bind fun (v9 : (Int32 × KM)) =>
              if v9.1 = 0 then
                some ((0 : Int32), v9.2)
              else
                some ((1 : Int32), v9.2)
          ) : Int32 → KM → Option (Int32 × KM)) fun j126 =>
          if x5 = (-1 : Int32) then
            j126 (-1 : Int32) M6
          else
            (f_X9_takeNumber n a0 (0 : Int32) (9999 : Int32) M6).bind fun (v12 : (Int32 × KM)) =>
            j126 v12.1 v12.2
        ) : Int32 → KM → Option (Int32 × KM)) fun j106 =>
        if v4.1 = (-1 : Int32) then
          j106 (-1 : Int32) v4.2
        else
          (f_X9_takeComparison n a0 v4.2).bind fun (v14 : (Int32 × KM)) =>
          j106 v14.1 v14.2
    else
      (f_X9_takePerson n a0 a2 v2.2).bind fun (v17 : (Int32 × KM)) =>
      lt (fun (x18 : Int32) (M19 : KM) => (
        if x18 = (-1 : Int32) then
          some ((0 : Int32), M19)
        else
          (f_X0_addStep n a0 a1 (6 : Int32) v17.1 x18 (0 : Int32) M19).bind fun (v20 : (Int32 × KM)) =>
          if v20.1 = 0 then
            some ((0 : Int32), v20.2)
          else
            some ((1 : Int32), v20.2)
      ) : Int32 → KM → Option (Int32 × KM)) fun j48 =>
      if v17.1 = (-1 : Int32) then
        j48 (-1 : Int32) v17.2
      else
        (f_X9_takePlace n a0 a2 v17.2).bind fun (v23 : (Int32 × KM)) =>
        j48 v23.1 v23.2
  else
    (f_X0_addStep n a0 a1 (7 : Int32) (0 : Int32) (0 : Int32) (0 : Int32) v1.2).bind fun (v26 : (Int32 × KM)) =>
    some (v26.1, v26.2)
def f_X0_readStep (n : Nat) (a0 : Nat) (a1 : Nat) (a2 : Nat) (M : KM) : Option (Int32 × KM) :=
  lt ((M.1 a0 7)) fun (v1 : Int32) =>
  if v1 = (15 : Int32) then
    (f_X0_start n a0 a1 M).bind fun (v2 : (Int32 × KM)) =>
    if v2.1 = 0 then
      some ((0 : Int32), v2.2)
    else
      (f_X0_readNumberStep n a0 a1 (0 : Int32) (600 : Int32) v2.2).bind fun (v3 : (Int32 × KM)) =>
      if v3.1 = 0 then
        some ((0 : Int32), v3.2)
      else
        some ((1 : Int32), v3.2)
  else
  if v1 = (16 : Int32) then
    (f_X0_start n a0 a1 M).bind fun (v7 : (Int32 × KM)) =>
    if v7.1 = 0 then
      some ((0 : Int32), v7.2)
    else
      (f_X0_readGo n a0 a1 a2 v7.2).bind fun (v8 : (Int32 × KM)) =>
      if v8.1 = 0 then
        some ((0 : Int32), v8.2)
      else
        some ((1 : Int32), v8.2)
  else
  if v1 = (17 : Int32) then
    (f_X0_start n a0 a1 M).bind fun (v12 : (Int32 × KM)) =>
    if v12.1 = 0 then
      some ((0 : Int32), v12.2)
    else
      (f_X0_readLead n a0 a1 a2 v12.2).bind fun (v13 : (Int32 × KM)) =>
      if v13.1 = 0 then
        some ((0 : Int32), v13.2)
      else
        some ((1 : Int32), v13.2)
  else
  if v1 = (18 : Int32) then
    (f_X0_start n a0 a1 M).bind fun (v17 : (Int32 × KM)) =>
    if v17.1 = 0 then
      some ((0 : Int32), v17.2)
    else
      (f_X0_addStep n a0 a1 (3 : Int32) (0 : Int32) (0 : Int32) (0 : Int32) v17.2).bind fun (v18 : (Int32 × KM)) =>
      if v18.1 = 0 then
        some ((0 : Int32), v18.2)
      else
        some ((1 : Int32), v18.2)
  else
  if v1 = (19 : Int32) then
    (f_X0_start n a0 a1 M).bind fun (v22 : (Int32 × KM)) =>
    if v22.1 = 0 then
      some ((0 : Int32), v22.2)
    else
      (f_X0_addStep n a0 a1 (4 : Int32) (0 : Int32) (0 : Int32) (0 : Int32) v22.2).bind fun (v23 : (Int32 × KM)) =>
      if v23.1 = 0 then
        some ((0 : Int32), v23.2)
      else
        some ((1 : Int32), v23.2)
  else
  if v1 = (20 : Int32) then
    (f_X0_start n a0 a1 M).bind fun (v27 : (Int32 × KM)) =>
    if v27.1 = 0 then
      some ((0 : Int32), v27.2)
    else
      (f_X0_addStep n a0 a1 (5 : Int32) (0 : Int32) (0 : Int32) (0 : Int32) v27.2).bind fun (v28 : (Int32 × KM)) =>
      if v28.1 = 0 then
        some ((0 : Int32), v28.2)
      else
        some ((1 : Int32), v28.2)
  else
  if v1 = (21 : Int32) then
    (f_X0_startBlock n a0 a1 M).bind fun (v32 : (Int32 × KM)) =>
    if v32.1 = 0 then
      some ((0 : Int32), v32.2)
    else
      (f_X0_readTest n a0 a1 a2 v32.2).bind fun (v33 : (Int32 × KM)) =>
      if v33.1 = 0 then
        some ((0 : Int32), v33.2)
      else
        some ((1 : Int32), v33.2)
  else
  if v1 = (22 : Int32) then
    lt (f_X9_failOrder a0 M) fun (v37 : (Int32 × KM)) =>
    some (v37.1, v37.2)
  else
  if v1 = (23 : Int32) then
    (f_X0_startBlock n a0 a1 M).bind fun (v39 : (Int32 × KM)) =>
    if v39.1 = 0 then
      some ((0 : Int32), v39.2)
    else
      (f_X0_readNumberStep n a0 a1 (9 : Int32) (99 : Int32) v39.2).bind fun (v40 : (Int32 × KM)) =>
      if v40.1 = 0 then
        some ((0 : Int32), v40.2)
      else
        some ((1 : Int32), v40.2)
  else
  if v1 = (24 : Int32) then
    lt (f_X9_failOrder a0 M) fun (v44 : (Int32 × KM)) =>
    some (v44.1, v44.2)
  else
  if v1 = (25 : Int32) then
    (f_X0_start n a0 a1 M).bind fun (v46 : (Int32 × KM)) =>
    if v46.1 = 0 then
      some ((0 : Int32), v46.2)
    else
      (f_X0_addStep n a0 a1 (11 : Int32) (0 : Int32) (0 : Int32) (0 : Int32) v46.2).bind fun (v47 : (Int32 × KM)) =>
      if v47.1 = 0 then
        some ((0 : Int32), v47.2)
      else
        some ((1 : Int32), v47.2)
  else
  lt (f_X9_failOrder a0 M) fun (v51 : (Int32 × KM)) =>
  some (v51.1, v51.2)
def lp_X0_readInto_19 (n : Nat) (a0 : Nat) (a1 : Nat) (a2 : Nat) (w5 : Int32) (M : KM) (k72 : KM → Option (Int32 × KM)) : Option (Int32 × KM) := match n with
  | 0 => none
  | n + 1 =>
    if (300 : Int32) ≤ w5 then
      k72 M
    else
      lt (f_X9_isAtEnd a0 M) fun (v4 : Int32) =>
      if v4 = 0 then
        lt (fun (x5 : Int32) (M6 : KM) => (
          if x5 = 0 then
            some ((0 : Int32), M6)
          else
            lt (w5 + (1 : Int32)) fun (v7 : Int32) =>
            lp_X0_readInto_19 n a0 a1 a2 v7 M6 k72
        ) : Int32 → KM → Option (Int32 × KM)) fun j57 =>
        if (M.1 a0 7) = (24 : Int32) then
          (f_X0_readEnd n a0 a1 M).bind fun (v10 : (Int32 × KM)) =>
          j57 v10.1 v10.2
        else
          (f_X0_readStep n a0 a1 a2 M).bind fun (v9 : (Int32 × KM)) =>
          j57 v9.1 v9.2
      else
        k72 M
def f_X0_readInto (n : Nat) (a0 : Nat) (a1 : Nat) (a2 : Nat) (a3 : Nat) (p4 : Int32) (M : KM) : Option (Int32 × KM) :=
  lt (f_X8_clear a1 M) fun (v1 : KM) =>
  lt (uI v1 a0 13 (0 : Int32)) fun (M2 : KM) =>
  (f_X9_begin n a0 a3 p4 M2).bind fun (v3 : KM) =>
  lp_X0_readInto_19 n a0 a1 a2 (0 : Int32) v3
    (fun (M14 : KM) => (
      if (M14.1 a0 13) ≤ 0 then
        lt (uI M14 a1 7 (1 : Int32)) fun (M15 : KM) =>
        some ((1 : Int32), M15)
      else
        lt (f_X9_failOrder a0 M14) fun (v16 : (Int32 × KM)) =>
        some (v16.1, v16.2)
    ))
def f_X11_status (a0 : Nat) (M : KM) : Int32 :=
  (M.1 a0 15)
def f_X11_top (a0 : Nat) (M : KM) : Int64 :=
  (M.2.1 a0 18)
def f_X11_bottom (a0 : Nat) (M : KM) : Int64 :=
  (M.2.1 a0 19)
def f_X11_tell (a0 : Nat) (p1 : Int32) (M : KM) : (Int32 × KM) :=
  lt (uI M a0 15 (0 : Int32)) fun (M1 : KM) =>
  (p1, M1)
def f_X11_refuse (a0 : Nat) (p1 : Int32) (M : KM) : (Int32 × KM) :=
  lt (uI M a0 15 p1) fun (M1 : KM) =>
  ((-1 : Int32), M1)
def f_X11_tellOrNone (a0 : Nat) (p1 : Int32) (M : KM) : (Int32 × KM) :=
  if p1 = (-1 : Int32) then
    lt (f_X11_refuse a0 (8 : Int32) M) fun (v2 : (Int32 × KM)) =>
    (v2.1, v2.2)
  else
    lt (f_X11_tell a0 p1 M) fun (v1 : (Int32 × KM)) =>
    (v1.1, v1.2)
def f_X11_tellSooner (a0 : Nat) (p1 : Int32) (M : KM) : (Int32 × KM) :=
  if p1 < (1000000000 : Int32) then
    lt (f_X11_tell a0 p1 M) fun (v1 : (Int32 × KM)) =>
    (v1.1, v1.2)
  else
    lt (f_X11_refuse a0 (8 : Int32) M) fun (v2 : (Int32 × KM)) =>
    (v2.1, v2.2)
def f_X11_tellIf (a0 : Nat) (p1 : Int32) (M : KM) : (Int32 × KM) :=
  lt (fun (x1 : Int32) => (
    lt (f_X11_tell a0 x1 M) fun (v2 : (Int32 × KM)) =>
    (v2.1, v2.2)
  ) : Int32 → (Int32 × KM)) fun j10 =>
  if p1 = 0 then
    j10 (0 : Int32)
  else
    j10 (1 : Int32)
def f_X11_succeed (a0 : Nat) (M : KM) : (Int32 × KM) :=
  lt (uI M a0 15 (0 : Int32)) fun (M1 : KM) =>
  ((1 : Int32), M1)
def f_X11_deny (a0 : Nat) (p1 : Int32) (M : KM) : (Int32 × KM) :=
  lt (uI M a0 15 p1) fun (M1 : KM) =>
  ((0 : Int32), M1)
def lp_X11_commonDivisor_9 (n : Nat) (M : KM) (w4 : Int64) (w6 : Int64) (w8 : Int32) : Option Int64 := match n with
  | 0 => none
  | n + 1 =>
    if (200 : Int32) ≤ w8 then
      some w4
    else
      if (lg_cmp w6 (0 : Int64)) = 0 then
        some w4
      else
        if ¬ w6 = 0 then
        lt ((w4 - w4 / w6 * w6)) fun (v2 : Int64) =>
        lt (w8 + (1 : Int32)) fun (v3 : Int32) =>
        lp_X11_commonDivisor_9 n M w6 v2 v3
        else none
def f_X11_commonDivisor (n : Nat) (p0 : Int64) (p2 : Int64) (M : KM) : Option Int64 :=
  lp_X11_commonDivisor_9 n M p0 p2 (0 : Int32)
def f_X11_setFraction (n : Nat) (a0 : Nat) (p1 : Int64) (p3 : Int64) (M : KM) : Option KM :=
  (f_X11_commonDivisor n p1 p3 M).bind fun (v1 : Int64) =>
  if 0 < (lg_cmp v1 (0 : Int64)) then
    if ¬ v1 = 0 then
    lt (uJ M a0 18 (p1 / v1)) fun (M3 : KM) =>
    if ¬ v1 = 0 then
    lt (uJ M3 a0 19 (p3 / v1)) fun (M5 : KM) =>
    some M5
    else none
    else none
  else
    some M
def f_X11_isTray (p0 : Int32) (M : KM) : Int32 :=
  if p0 < 0 then
    (0 : Int32)
  else
    if (4 : Int32) ≤ p0 then
      (0 : Int32)
    else
      (1 : Int32)
def f_X11_tray (n : Nat) (a0 : Nat) (p1 : Int32) (p2 : Int32) (p3 : Int32) (M : KM) : Option (Int32 × KM) :=
  lt (f_X11_isTray p1 M) fun (v1 : Int32) =>
  lt ((
    lt (f_X11_deny a0 (1 : Int32) M) fun (v2 : (Int32 × KM)) =>
    some (v2.1, v2.2)
  ) : Option (Int32 × KM)) fun j16 =>
  if v1 = 0 then
    j16
  else
    if p2 < 0 then
      j16
    else
      if p2 ≤ (3 : Int32) then
        if p3 ≤ (60 : Int32) then
          if 0 ≤ p3 then
            if ix p1 4 then
            (f_X10_begin n ((a0 + 1) + 104 + 2 * (p1).toNatClampNeg) p2 p3 M).bind fun (v4 : KM) =>
            lt (f_X11_succeed a0 v4) fun (v5 : (Int32 × KM)) =>
            some (v5.1, v5.2)
            else none
          else
            lt (f_X11_deny a0 (6 : Int32) M) fun (v6 : (Int32 × KM)) =>
            some (v6.1, v6.2)
        else
          lt (f_X11_deny a0 (5 : Int32) M) fun (v8 : (Int32 × KM)) =>
          some (v8.1, v8.2)
      else
        j16
def f_X11_whyNotInTray (n : Nat) (a0 : Nat) (p1 : Int32) (p2 : Int32) (M : KM) : Option Int32 :=
  lt (f_X11_isTray p1 M) fun (v1 : Int32) =>
  if v1 = 0 then
    some (1 : Int32)
  else
    if ix p1 4 then
    lt (f_X10_isMissing ((a0 + 1) + 104 + 2 * (p1).toNatClampNeg) M) fun (v3 : Int32) =>
    if v3 = 0 then
      if ix p1 4 then
      lt (f_X10_hasRun ((a0 + 1) + 104 + 2 * (p1).toNatClampNeg) p2 (1 : Int32) M) fun (v5 : Int32) =>
      if v5 = 0 then
        some (4 : Int32)
      else
        some (0 : Int32)
      else none
    else
      some (3 : Int32)
    else none
def f_X11_write (n : Nat) (a0 : Nat) (p1 : Int32) (p2 : Int32) (p3 : Int64) (M : KM) : Option (Int32 × KM) :=
  (f_X11_whyNotInTray n a0 p1 p2 M).bind fun (v1 : Int32) =>
  if v1 = 0 then
    if ix p1 4 then
    (f_X10_put n ((a0 + 1) + 104 + 2 * (p1).toNatClampNeg) p2 p3 M).bind fun (v3 : KM) =>
    lt (f_X11_succeed a0 v3) fun (v4 : (Int32 × KM)) =>
    some (v4.1, v4.2)
    else none
  else
    lt (f_X11_deny a0 v1 M) fun (v5 : (Int32 × KM)) =>
    some (v5.1, v5.2)
def f_X11_read (n : Nat) (a0 : Nat) (p1 : Int32) (p2 : Int32) (M : KM) : Option (Int64 × KM) :=
  (f_X11_whyNotInTray n a0 p1 p2 M).bind fun (v1 : Int32) =>
  if v1 = 0 then
    lt (uI M a0 15 (0 : Int32)) fun (M2 : KM) =>
    if ix p1 4 then
    if ix p2 60 then
    some ((M2.2.1 (((a0 + 1) + 104 + 2 * (p1).toNatClampNeg) + 1) (p2).toNatClampNeg), M2)
    else none
    else none
  else
    lt (f_X11_refuse a0 v1 M) fun (v5 : (Int32 × KM)) =>
    some ((v5.1).toInt64, v5.2)
def f_X11_pour (n : Nat) (a0 : Nat) (p1 : Int32) (p2 : Int32) (p3 : Int32) (p4 : Int32) (p5 : Int32) (M : KM) : Option (Int32 × KM) :=
  lt (f_X11_isTray p1 M) fun (v1 : Int32) =>
  lt ((
    lt (f_X11_deny a0 (1 : Int32) M) fun (v2 : (Int32 × KM)) =>
    some (v2.1, v2.2)
  ) : Option (Int32 × KM)) fun j14 =>
  if v1 = 0 then
    j14
  else
    lt (f_X11_isTray p3 M) fun (v3 : Int32) =>
    if v3 = 0 then
      j14
    else
      if ix p1 4 then
      lt (((a0 + 1) + 104 + 2 * (p1).toNatClampNeg)) fun (v5 : Nat) =>
      if ix p3 4 then
      lt (((a0 + 1) + 104 + 2 * (p3).toNatClampNeg)) fun (v7 : Nat) =>
      lt (f_X10_isMissing v5 M) fun (v8 : Int32) =>
      lt ((
        lt (f_X11_deny a0 (3 : Int32) M) fun (v9 : (Int32 × KM)) =>
        some (v9.1, v9.2)
      ) : Option (Int32 × KM)) fun j52 =>
      if v8 = 0 then
        lt (f_X10_isMissing v7 M) fun (v10 : Int32) =>
        if v10 = 0 then
          if (M.1 v5 1) = (M.1 v7 1) then
            if 0 ≤ p5 then
              lt (f_X10_hasRun v5 p2 p5 M) fun (v11 : Int32) =>
              lt ((
                lt (f_X11_deny a0 (4 : Int32) M) fun (v12 : (Int32 × KM)) =>
                some (v12.1, v12.2)
              ) : Option (Int32 × KM)) fun j113 =>
              if v11 = 0 then
                j113
              else
                lt (f_X10_hasRun v7 p4 p5 M) fun (v13 : Int32) =>
                if v13 = 0 then
                  j113
                else
                  if ¬ p2 < 0 ∧ ¬ p4 < 0 ∧ ¬ p5 < 0 ∧ (p2).toNatClampNeg + (p5).toNatClampNeg ≤ 60 ∧ (p4).toNatClampNeg + (p5).toNatClampNeg ≤ 60 then
                  lt (uJs M (v7 + 1) (va_cpy (M.2.1 (v5 + 1)) (M.2.1 (v7 + 1)) (p2).toNatClampNeg (p4).toNatClampNeg (p5).toNatClampNeg)) fun (M15 : KM) =>
                  lt (f_X11_succeed a0 M15) fun (v16 : (Int32 × KM)) =>
                  some (v16.1, v16.2)
                  else none
            else
              lt (f_X11_deny a0 (6 : Int32) M) fun (v19 : (Int32 × KM)) =>
              some (v19.1, v19.2)
          else
            lt (f_X11_deny a0 (11 : Int32) M) fun (v21 : (Int32 × KM)) =>
            some (v21.1, v21.2)
        else
          j52
      else
        j52
      else none
      else none
def lp_X11_feedOne_3 (n : Nat) (a0 : Nat) (c1 : Int32) (w2 : Int32) (M : KM) : Option KM := match n with
  | 0 => none
  | n + 1 =>
    if w2 < 0 then
      some M
    else
      if (900 : Int32) ≤ (M.1 a0 13) then
        some M
      else
        if ix (M.1 a0 13) 900 then
        lt (uI M (a0 + 2) ((M.1 a0 13)).toNatClampNeg (vp_nar .byte ((c1 >>> (w2 &&& 31))).toInt8.toInt32)) fun (M2 : KM) =>
        lt (uI M2 a0 13 ((M2.1 a0 13) + (1 : Int32))) fun (M3 : KM) =>
        lt (w2 + (-8 : Int32)) fun (v4 : Int32) =>
        lp_X11_feedOne_3 n a0 c1 v4 M3
        else none
def f_X11_feedOne (n : Nat) (a0 : Nat) (p1 : Int32) (M : KM) : Option KM :=
  lp_X11_feedOne_3 n a0 p1 (24 : Int32) M
def f_X11_feed (n : Nat) (a0 : Nat) (p1 : Int32) (p2 : Int32) (p3 : Int32) (p4 : Int32) (p5 : Int32) (M : KM) : Option (Int32 × KM) :=
  if ((M.1 a0 13) + (20 : Int32)) ≤ (900 : Int32) then
    (f_X11_feedOne n a0 p1 M).bind fun (v1 : KM) =>
    (f_X11_feedOne n a0 p2 v1).bind fun (v2 : KM) =>
    (f_X11_feedOne n a0 p3 v2).bind fun (v3 : KM) =>
    (f_X11_feedOne n a0 p4 v3).bind fun (v4 : KM) =>
    (f_X11_feedOne n a0 p5 v4).bind fun (v5 : KM) =>
    some ((v5.1 a0 13), v5)
  else
    some ((-1 : Int32), M)
def f_X11_keepFault (a0 : Nat) (a1 : Nat) (M : KM) : KM :=
  lt (uI M a0 13 (0 : Int32)) fun (M1 : KM) =>
  lt (uI M1 a0 16 (M1.1 a1 4)) fun (M2 : KM) =>
  lt (uI M2 a0 17 (M2.1 a1 5)) fun (M3 : KM) =>
  M3
def f_X11_land (n : Nat) (a0 : Nat) (p1 : Int32) (M : KM) : Option (Int32 × KM) :=
  lt ((
    lt (f_X11_refuse a0 (5 : Int32) M) fun (v1 : (Int32 × KM)) =>
    some (v1.1, v1.2)
  ) : Option (Int32 × KM)) fun j12 =>
  if p1 < 0 then
    j12
  else
    if p1 ≤ (M.1 a0 13) then
      (f_X3_readInto n (a0 + 5) (M.2.2 a0 11) (a0 + 2) p1 M).bind fun (v3 : (Int32 × KM)) =>
      lt (f_X11_keepFault a0 (a0 + 5) v3.2) fun (v4 : KM) =>
      if v3.1 = 0 then
        lt (f_X11_refuse a0 (10 : Int32) v4) fun (v12 : (Int32 × KM)) =>
        some (v12.1, v12.2)
      else
        lt ((v4.2.2 a0 10)) fun (v6 : Nat) =>
        lt (uR v4 a0 10 (v4.2.2 a0 11)) fun (M8 : KM) =>
        lt (uR M8 a0 11 v6) fun (M9 : KM) =>
        lt (f_X11_tell a0 (M9.1 (M9.2.2 a0 10) 10) M9) fun (v11 : (Int32 × KM)) =>
        some (v11.1, v11.2)
    else
      j12
def f_X11_days (n : Nat) (a0 : Nat) (p1 : Int32) (M : KM) : Option (Int32 × KM) :=
  lt ((
    lt (f_X11_refuse a0 (5 : Int32) M) fun (v1 : (Int32 × KM)) =>
    some (v1.1, v1.2)
  ) : Option (Int32 × KM)) fun j19 =>
  if p1 < 0 then
    j19
  else
    if (M.1 a0 13) < p1 then
      j19
    else
      if p1 ≤ (300 : Int32) then
        (f_X0_readInto n (a0 + 8) (M.2.2 a0 12) (M.2.2 a0 10) (a0 + 2) p1 M).bind fun (v4 : (Int32 × KM)) =>
        lt (f_X11_keepFault a0 (a0 + 8) v4.2) fun (v5 : KM) =>
        if v4.1 = 0 then
          lt (f_X11_refuse a0 (10 : Int32) v5) fun (v16 : (Int32 × KM)) =>
          some (v16.1, v16.2)
        else
          lt ((v5.2.2 (v5.2.2 a0 10) 7)) fun (v8 : Nat) =>
          lt (uR v5 (v5.2.2 a0 10) 7 (v5.2.2 a0 12)) fun (M11 : KM) =>
          lt (uR M11 a0 12 v8) fun (M12 : KM) =>
          lt (f_X11_tell a0 (M12.1 (M12.2.2 (M12.2.2 a0 10) 7) 6) M12) fun (v15 : (Int32 × KM)) =>
          some (v15.1, v15.2)
      else
        j19
def f_X11_fault (a0 : Nat) (p1 : Int32) (M : KM) : Int32 :=
  if p1 = 0 then
    (M.1 a0 16)
  else
    if p1 = (1 : Int32) then
      (M.1 a0 17)
    else
      (-1 : Int32)
def f_X11_many (n : Nat) (a0 : Nat) (p1 : Int32) (M : KM) : Option (Int32 × KM) :=
  if p1 = (0 : Int32) then
    lt (f_X11_tell a0 (M.1 (M.2.2 a0 10) 8) M) fun (v2 : (Int32 × KM)) =>
    some (v2.1, v2.2)
  else
  if p1 = (1 : Int32) then
    lt (f_X11_tell a0 (M.1 (M.2.2 a0 10) 9) M) fun (v5 : (Int32 × KM)) =>
    some (v5.1, v5.2)
  else
  if p1 = (2 : Int32) then
    lt (f_X11_tell a0 (M.1 (M.2.2 a0 10) 10) M) fun (v8 : (Int32 × KM)) =>
    some (v8.1, v8.2)
  else
  if p1 = (3 : Int32) then
    lt (f_X11_tell a0 (M.1 ((M.2.2 a0 10) + 7) 0) M) fun (v11 : (Int32 × KM)) =>
    some (v11.1, v11.2)
  else
  if p1 = (4 : Int32) then
    lt (f_X11_tell a0 (M.1 ((M.2.2 a0 10) + 7) 1) M) fun (v14 : (Int32 × KM)) =>
    some (v14.1, v14.2)
  else
  if p1 = (5 : Int32) then
    lt (f_X11_tell a0 (M.1 (M.2.2 a0 10) 11) M) fun (v17 : (Int32 × KM)) =>
    some (v17.1, v17.2)
  else
  if p1 = (6 : Int32) then
    lt (f_X11_tell a0 (M.1 (M.2.2 a0 10) 12) M) fun (v20 : (Int32 × KM)) =>
    some (v20.1, v20.2)
  else
  if p1 = (7 : Int32) then
    lt (f_X11_tell a0 (M.1 (M.2.2 a0 10) 13) M) fun (v23 : (Int32 × KM)) =>
    some (v23.1, v23.2)
  else
  if p1 = (8 : Int32) then
    lt (f_X11_tell a0 (M.1 (M.2.2 a0 10) 14) M) fun (v26 : (Int32 × KM)) =>
    some (v26.1, v26.2)
  else
  if p1 = (9 : Int32) then
    (f_X2_isGlaring n (M.2.2 a0 10) (M.1 (M.2.2 a0 10) 11) M).bind fun (v30 : Int32) =>
    lt (f_X11_tellIf a0 v30 M) fun (v31 : (Int32 × KM)) =>
    some (v31.1, v31.2)
  else
  if p1 = (10 : Int32) then
    lt (f_X11_tellIf a0 (M.1 (M.2.2 a0 10) 15) M) fun (v34 : (Int32 × KM)) =>
    some (v34.1, v34.2)
  else
  if p1 = (11 : Int32) then
    (f_X2_blindSet n (M.2.2 a0 10) M).bind fun (v37 : Int32) =>
    lt (f_X11_tell a0 v37 M) fun (v38 : (Int32 × KM)) =>
    some (v38.1, v38.2)
  else
  if p1 = (12 : Int32) then
    (f_X2_walkingSet n (M.2.2 a0 10) M).bind fun (v41 : Int32) =>
    lt (f_X11_tell a0 v41 M) fun (v42 : (Int32 × KM)) =>
    some (v42.1, v42.2)
  else
  if p1 = (13 : Int32) then
    (f_X2_ledSet n (M.2.2 a0 10) M).bind fun (v45 : Int32) =>
    lt (f_X11_tell a0 v45 M) fun (v46 : (Int32 × KM)) =>
    some (v46.1, v46.2)
  else
  if p1 = (14 : Int32) then
    (f_X2_lostOfAll n (M.2.2 a0 10) M).bind fun (v49 : Int32) =>
    lt (f_X11_tell a0 v49 M) fun (v50 : (Int32 × KM)) =>
    some (v50.1, v50.2)
  else
  lt (f_X11_refuse a0 (5 : Int32) M) fun (v52 : (Int32 × KM)) =>
  some (v52.1, v52.2)
def f_X11_road (n : Nat) (a0 : Nat) (p1 : Int32) (p2 : Int32) (M : KM) : Option (Int32 × KM) :=
  lt (f_X2_hasRoad (M.2.2 a0 10) p1 M) fun (v2 : Int32) =>
  if v2 = 0 then
    lt (f_X11_refuse a0 (2 : Int32) M) fun (v20 : (Int32 × KM)) =>
    some (v20.1, v20.2)
  else
    if p2 = (0 : Int32) then
      if ix p1 12 then
      lt (f_X11_tell a0 (M.1 ((M.2.2 a0 10) + 2) (p1).toNatClampNeg) M) fun (v5 : (Int32 × KM)) =>
      some (v5.1, v5.2)
      else none
    else
    if p2 = (1 : Int32) then
      if ix p1 12 then
      lt (f_X11_tell a0 (M.1 ((M.2.2 a0 10) + 3) (p1).toNatClampNeg) M) fun (v9 : (Int32 × KM)) =>
      some (v9.1, v9.2)
      else none
    else
    if p2 = (2 : Int32) then
      if ix p1 12 then
      lt (f_X11_tell a0 (M.1 ((M.2.2 a0 10) + 4) (p1).toNatClampNeg) M) fun (v13 : (Int32 × KM)) =>
      some (v13.1, v13.2)
      else none
    else
    if p2 = (3 : Int32) then
      if ix p1 12 then
      lt (f_X11_tellIf a0 (M.1 ((M.2.2 a0 10) + 5) (p1).toNatClampNeg) M) fun (v17 : (Int32 × KM)) =>
      some (v17.1, v17.2)
      else none
    else
    lt (f_X11_refuse a0 (5 : Int32) M) fun (v19 : (Int32 × KM)) =>
    some (v19.1, v19.2)
def f_X11_roadOf (n : Nat) (a0 : Nat) (p1 : Int32) (p2 : Int32) (M : KM) : Option (Int32 × KM) :=
  lt (f_X2_hasPlace (M.2.2 a0 10) p1 M) fun (v2 : Int32) =>
  lt ((
    lt (f_X11_refuse a0 (2 : Int32) M) fun (v3 : (Int32 × KM)) =>
    some (v3.1, v3.2)
  ) : Option (Int32 × KM)) fun j22 =>
  if v2 = 0 then
    j22
  else
    lt (f_X2_hasPlace (M.2.2 a0 10) p2 M) fun (v5 : Int32) =>
    if v5 = 0 then
      j22
    else
      (f_X2_roadBetween n (M.2.2 a0 10) p1 p2 M).bind fun (v7 : Int32) =>
      lt (f_X11_tellOrNone a0 v7 M) fun (v8 : (Int32 × KM)) =>
      some (v8.1, v8.2)
def f_X11_person (n : Nat) (a0 : Nat) (p1 : Int32) (p2 : Int32) (M : KM) : Option (Int32 × KM) :=
  lt (f_X2_hasPerson (M.2.2 a0 10) p1 M) fun (v2 : Int32) =>
  if v2 = 0 then
    lt (f_X11_refuse a0 (2 : Int32) M) fun (v21 : (Int32 × KM)) =>
    some (v21.1, v21.2)
  else
    if ix p1 8 then
    lt ((((M.2.2 a0 10) + 6) + 8 + 3 * (p1).toNatClampNeg)) fun (v5 : Nat) =>
    if p2 = (0 : Int32) then
      lt (f_X11_tellOrNone a0 (M.1 v5 5) M) fun (v6 : (Int32 × KM)) =>
      some (v6.1, v6.2)
    else
    if p2 = (1 : Int32) then
      lt (f_X11_tellOrNone a0 (M.1 v5 8) M) fun (v8 : (Int32 × KM)) =>
      some (v8.1, v8.2)
    else
    if p2 = (2 : Int32) then
      (f_X2_leftOf n (M.2.2 a0 10) p1 M).bind fun (v11 : Int32) =>
      lt (f_X11_tell a0 v11 M) fun (v12 : (Int32 × KM)) =>
      some (v12.1, v12.2)
    else
    if p2 = (3 : Int32) then
      lt (f_X11_tellOrNone a0 (M.1 v5 9) M) fun (v14 : (Int32 × KM)) =>
      some (v14.1, v14.2)
    else
    if p2 = (4 : Int32) then
      lt (f_X11_tell a0 (M.1 v5 11) M) fun (v16 : (Int32 × KM)) =>
      some (v16.1, v16.2)
    else
    if p2 = (5 : Int32) then
      lt (f_X11_tellIf a0 (M.1 v5 4) M) fun (v18 : (Int32 × KM)) =>
      some (v18.1, v18.2)
    else
    lt (f_X11_refuse a0 (5 : Int32) M) fun (v20 : (Int32 × KM)) =>
    some (v20.1, v20.2)
    else none
def f_X11_gone (n : Nat) (a0 : Nat) (p1 : Int32) (p2 : Int32) (M : KM) : Option (Int32 × KM) :=
  lt (f_X2_hasPerson (M.2.2 a0 10) p1 M) fun (v2 : Int32) =>
  lt ((
    lt (f_X11_refuse a0 (2 : Int32) M) fun (v3 : (Int32 × KM)) =>
    some (v3.1, v3.2)
  ) : Option (Int32 × KM)) fun j22 =>
  if v2 = 0 then
    j22
  else
    lt (f_X2_hasRoad (M.2.2 a0 10) p2 M) fun (v5 : Int32) =>
    if v5 = 0 then
      j22
    else
      if ix p1 8 then
      if ix p2 12 then
      lt (f_X11_tell a0 (M.1 ((((M.2.2 a0 10) + 6) + 8 + 3 * (p1).toNatClampNeg) + 1) (p2).toNatClampNeg) M) fun (v9 : (Int32 × KM)) =>
      some (v9.1, v9.2)
      else none
      else none
def f_X11_whyNoTwo (a0 : Nat) (p1 : Int32) (p2 : Int32) (M : KM) : Int32 :=
  lt (f_X2_hasPerson (M.2.2 a0 10) p1 M) fun (v2 : Int32) =>
  if v2 = 0 then
    (2 : Int32)
  else
    lt (f_X2_hasPerson (M.2.2 a0 10) p2 M) fun (v4 : Int32) =>
    if v4 = 0 then
      (2 : Int32)
    else
      if p1 = p2 then
        (9 : Int32)
      else
        (0 : Int32)
def f_X11_owes (n : Nat) (a0 : Nat) (p1 : Int32) (p2 : Int32) (M : KM) : Option (Int32 × KM) :=
  lt (f_X11_whyNoTwo a0 p1 p2 M) fun (v1 : Int32) =>
  if v1 = 0 then
    if ix p1 8 then
    if ix p2 8 then
    lt (f_X11_tell a0 (M.1 ((((M.2.2 a0 10) + 6) + 8 + 3 * (p1).toNatClampNeg) + 2) (p2).toNatClampNeg) M) fun (v5 : (Int32 × KM)) =>
    some (v5.1, v5.2)
    else none
    else none
  else
    lt (f_X11_refuse a0 v1 M) fun (v6 : (Int32 × KM)) =>
    some (v6.1, v6.2)
def f_X11_net (n : Nat) (a0 : Nat) (p1 : Int32) (M : KM) : Option (Int32 × KM) :=
  lt (f_X2_hasPerson (M.2.2 a0 10) p1 M) fun (v2 : Int32) =>
  if v2 = 0 then
    lt (f_X11_refuse a0 (2 : Int32) M) fun (v6 : (Int32 × KM)) =>
    some (v6.1, v6.2)
  else
    (f_X2_owedTo n (M.2.2 a0 10) p1 M).bind fun (v4 : Int32) =>
    lt (f_X11_tell a0 v4 M) fun (v5 : (Int32 × KM)) =>
    some (v5.1, v5.2)
def lp_X11_copyPlaces_55 (n : Nat) (a0 : Nat) (a2 : Nat) (w3 : Int32) (M : KM) (k90 : KM → Option (Int32 × KM)) : Option (Int32 × KM) := match n with
  | 0 => none
  | n + 1 =>
    if (M.1 (M.2.2 a0 10) 10) ≤ w3 then
      k90 M
    else
      if ix w3 8 then
      (f_X10_put n a2 w3 ((M.1 (((M.2.2 a0 10) + 6) + 8 + 3 * (w3).toNatClampNeg) 5)).toInt64 M).bind fun (v9 : KM) =>
      lt (w3 + (1 : Int32)) fun (v10 : Int32) =>
      lp_X11_copyPlaces_55 n a0 a2 v10 v9 k90
      else none
def f_X11_copyPlaces (n : Nat) (a0 : Nat) (p1 : Int32) (M : KM) : Option (Int32 × KM) :=
  lt (f_X11_isTray p1 M) fun (v1 : Int32) =>
  if v1 = 0 then
    lt (f_X11_refuse a0 (1 : Int32) M) fun (v19 : (Int32 × KM)) =>
    some (v19.1, v19.2)
  else
    if ix p1 4 then
    lt (((a0 + 1) + 104 + 2 * (p1).toNatClampNeg)) fun (v3 : Nat) =>
    lt (f_X10_isMissing v3 M) fun (v4 : Int32) =>
    if v4 = 0 then
      if (M.1 (M.2.2 a0 10) 10) ≤ (M.1 v3 2) then
        lp_X11_copyPlaces_55 n a0 v3 (0 : Int32) M
          (fun (M12 : KM) => (
            lt (f_X11_tell a0 (M12.1 (M12.2.2 a0 10) 10) M12) fun (v14 : (Int32 × KM)) =>
            some (v14.1, v14.2)
          ))
      else
        lt (f_X11_refuse a0 (4 : Int32) M) fun (v15 : (Int32 × KM)) =>
        some (v15.1, v15.2)
    else
      lt (f_X11_refuse a0 (3 : Int32) M) fun (v17 : (Int32 × KM)) =>
      some (v17.1, v17.2)
    else none
def f_X11_passes (n : Nat) (a0 : Nat) (p1 : Int32) (M : KM) : Option (Int32 × KM) :=
  lt ((
    lt (f_X11_refuse a0 (5 : Int32) M) fun (v1 : (Int32 × KM)) =>
    some (v1.1, v1.2)
  ) : Option (Int32 × KM)) fun j12 =>
  if p1 < (1 : Int32) then
    j12
  else
    if p1 ≤ (999 : Int32) then
      (f_X2_passMinutes n (M.2.2 a0 10) p1 M).bind fun (v3 : (Int32 × KM)) =>
      if v3.1 = (-1 : Int32) then
        lt (f_X11_refuse a0 (7 : Int32) v3.2) fun (v5 : (Int32 × KM)) =>
        some (v5.1, v5.2)
      else
        lt (f_X11_tell a0 v3.1 v3.2) fun (v4 : (Int32 × KM)) =>
        some (v4.1, v4.2)
    else
      j12
def f_X11_go (n : Nat) (a0 : Nat) (p1 : Int32) (p2 : Int32) (M : KM) : Option (Int32 × KM) :=
  lt (f_X2_hasPerson (M.2.2 a0 10) p1 M) fun (v2 : Int32) =>
  lt ((
    lt (f_X11_refuse a0 (2 : Int32) M) fun (v3 : (Int32 × KM)) =>
    some (v3.1, v3.2)
  ) : Option (Int32 × KM)) fun j22 =>
  if v2 = 0 then
    j22
  else
    lt (f_X2_hasPlace (M.2.2 a0 10) p2 M) fun (v5 : Int32) =>
    if v5 = 0 then
      j22
    else
      (f_X2_setOut n (M.2.2 a0 10) p1 (0 : Int32) p2 M).bind fun (v7 : (Int32 × KM)) =>
      if v7.1 = (-1 : Int32) then
        lt (f_X11_refuse a0 (9 : Int32) v7.2) fun (v9 : (Int32 × KM)) =>
        some (v9.1, v9.2)
      else
        lt (f_X11_tell a0 v7.1 v7.2) fun (v8 : (Int32 × KM)) =>
        some (v8.1, v8.2)
def f_X11_lead (n : Nat) (a0 : Nat) (p1 : Int32) (p2 : Int32) (p3 : Int32) (M : KM) : Option (Int32 × KM) :=
  lt (f_X2_hasPerson (M.2.2 a0 10) p1 M) fun (v2 : Int32) =>
  lt ((
    lt (f_X11_refuse a0 (2 : Int32) M) fun (v3 : (Int32 × KM)) =>
    some (v3.1, v3.2)
  ) : Option (Int32 × KM)) fun j22 =>
  if v2 = 0 then
    j22
  else
    lt (f_X2_hasPlace (M.2.2 a0 10) p3 M) fun (v5 : Int32) =>
    if v5 = 0 then
      j22
    else
      lt (f_X2_isTeam (M.2.2 a0 10) p1 p2 M) fun (v7 : Int32) =>
      if v7 = 0 then
        lt (f_X11_refuse a0 (5 : Int32) M) fun (v13 : (Int32 × KM)) =>
        some (v13.1, v13.2)
      else
        (f_X2_setOut n (M.2.2 a0 10) p1 p2 p3 M).bind fun (v9 : (Int32 × KM)) =>
        if v9.1 = (-1 : Int32) then
          lt (f_X11_refuse a0 (9 : Int32) v9.2) fun (v11 : (Int32 × KM)) =>
          some (v11.1, v11.2)
        else
          lt (f_X11_tell a0 v9.1 v9.2) fun (v10 : (Int32 × KM)) =>
          some (v10.1, v10.2)
def f_X11_turn (n : Nat) (a0 : Nat) (p1 : Int32) (M : KM) : Option (Int32 × KM) :=
  lt (f_X2_hasPerson (M.2.2 a0 10) p1 M) fun (v2 : Int32) =>
  if v2 = 0 then
    lt (f_X11_deny a0 (2 : Int32) M) fun (v11 : (Int32 × KM)) =>
    some (v11.1, v11.2)
  else
    if ix p1 8 then
    lt (f_X7_isWalker (((M.2.2 a0 10) + 6) + 8 + 3 * (p1).toNatClampNeg) M) fun (v5 : Int32) =>
    if v5 = 0 then
      lt (f_X11_deny a0 (9 : Int32) M) fun (v9 : (Int32 × KM)) =>
      some (v9.1, v9.2)
    else
      (f_X2_turnBack n (M.2.2 a0 10) p1 M).bind fun (v7 : KM) =>
      lt (f_X11_succeed a0 v7) fun (v8 : (Int32 × KM)) =>
      some (v8.1, v8.2)
    else none
def f_X11_cloud (n : Nat) (a0 : Nat) (p1 : Int32) (M : KM) : Option (Int32 × KM) :=
  if (M.1 (M.2.2 a0 10) 15) = p1 then
    lt (f_X11_deny a0 (9 : Int32) M) fun (v6 : (Int32 × KM)) =>
    some (v6.1, v6.2)
  else
    if p1 = 0 ∨ p1 = 1 then
    lt (uI M (M.2.2 a0 10) 15 p1) fun (M4 : KM) =>
    lt (f_X11_succeed a0 M4) fun (v5 : (Int32 × KM)) =>
    some (v5.1, v5.2)
    else none
def f_X11_plant (n : Nat) (a0 : Nat) (p1 : Int32) (p2 : Int32) (M : KM) : Option (Int32 × KM) :=
  lt (f_X2_hasRoad (M.2.2 a0 10) p1 M) fun (v2 : Int32) =>
  if v2 = 0 then
    lt (f_X11_deny a0 (2 : Int32) M) fun (v11 : (Int32 × KM)) =>
    some (v11.1, v11.2)
  else
    if ix p1 12 then
    if (M.1 ((M.2.2 a0 10) + 5) (p1).toNatClampNeg) = p2 then
      lt (f_X11_deny a0 (9 : Int32) M) fun (v9 : (Int32 × KM)) =>
      some (v9.1, v9.2)
    else
      if ix p1 12 then
      lt (uI M ((M.2.2 a0 10) + 5) (p1).toNatClampNeg (vp_nar .boolean p2)) fun (M7 : KM) =>
      lt (f_X11_succeed a0 M7) fun (v8 : (Int32 × KM)) =>
      some (v8.1, v8.2)
      else none
    else none
def f_X11_glasses (n : Nat) (a0 : Nat) (p1 : Int32) (p2 : Int32) (M : KM) : Option (Int32 × KM) :=
  lt (f_X2_hasPerson (M.2.2 a0 10) p1 M) fun (v2 : Int32) =>
  if v2 = 0 then
    lt (f_X11_deny a0 (2 : Int32) M) fun (v12 : (Int32 × KM)) =>
    some (v12.1, v12.2)
  else
    if ix p1 8 then
    lt ((((M.2.2 a0 10) + 6) + 8 + 3 * (p1).toNatClampNeg)) fun (v5 : Nat) =>
    lt ((
      lt (f_X11_deny a0 (9 : Int32) M) fun (v6 : (Int32 × KM)) =>
      some (v6.1, v6.2)
    ) : Option (Int32 × KM)) fun j42 =>
    if (M.1 v5 3) = 0 then
      j42
    else
      if (M.1 v5 4) = p2 then
        j42
      else
        if p2 = 0 ∨ p2 = 1 then
        lt (uI M v5 4 p2) fun (M8 : KM) =>
        lt (f_X11_succeed a0 M8) fun (v9 : (Int32 × KM)) =>
        some (v9.1, v9.2)
        else none
    else none
def f_X11_cure (n : Nat) (a0 : Nat) (p1 : Int32) (p2 : Int32) (M : KM) : Option (Int32 × KM) :=
  lt (f_X2_hasPerson (M.2.2 a0 10) p1 M) fun (v2 : Int32) =>
  if v2 = 0 then
    lt (f_X11_deny a0 (2 : Int32) M) fun (v12 : (Int32 × KM)) =>
    some (v12.1, v12.2)
  else
    if ix p1 8 then
    lt ((((M.2.2 a0 10) + 6) + 8 + 3 * (p1).toNatClampNeg)) fun (v5 : Nat) =>
    if (M.1 v5 3) = p2 then
      lt (f_X11_deny a0 (9 : Int32) M) fun (v10 : (Int32 × KM)) =>
      some (v10.1, v10.2)
    else
      if p2 = 0 ∨ p2 = 1 then
      lt (uI M v5 3 p2) fun (M7 : KM) =>
      lt (uI M7 v5 4 (0 : Int32)) fun (M8 : KM) =>
      lt (f_X11_succeed a0 M8) fun (v9 : (Int32 × KM)) =>
      some (v9.1, v9.2)
      else none
    else none
def f_X11_settle (n : Nat) (a0 : Nat) (p1 : Int32) (p2 : Int32) (M : KM) : Option (Int32 × KM) :=
  lt (f_X11_whyNoTwo a0 p1 p2 M) fun (v1 : Int32) =>
  if v1 = 0 then
    if ix p1 8 then
    if ix p2 8 then
    lt ((M.1 ((((M.2.2 a0 10) + 6) + 8 + 3 * (p1).toNatClampNeg) + 2) (p2).toNatClampNeg)) fun (v5 : Int32) =>
    if ix p1 8 then
    if ix p2 8 then
    lt (uI M ((((M.2.2 a0 10) + 6) + 8 + 3 * (p1).toNatClampNeg) + 2) (p2).toNatClampNeg (0 : Int32)) fun (M9 : KM) =>
    if ix p2 8 then
    if ix p1 8 then
    lt (uI M9 ((((M9.2.2 a0 10) + 6) + 8 + 3 * (p2).toNatClampNeg) + 2) (p1).toNatClampNeg (0 : Int32)) fun (M13 : KM) =>
    lt (f_X11_tell a0 v5 M13) fun (v14 : (Int32 × KM)) =>
    some (v14.1, v14.2)
    else none
    else none
    else none
    else none
    else none
    else none
  else
    lt (f_X11_refuse a0 v1 M) fun (v15 : (Int32 × KM)) =>
    some (v15.1, v15.2)
def f_X11_rule (a0 : Nat) (p1 : Int32) (p2 : Int32) (M : KM) : (Int32 × KM) :=
  lt (f_X1_canBe p1 p2 M) fun (v1 : Int32) =>
  if v1 = 0 then
    lt (f_X11_deny a0 (5 : Int32) M) fun (v5 : (Int32 × KM)) =>
    (v5.1, v5.2)
  else
    lt (f_X1_set ((M.2.2 a0 10) + 7) p1 p2 M) fun (v3 : KM) =>
    lt (f_X11_succeed a0 v3) fun (v4 : (Int32 × KM)) =>
    (v4.1, v4.2)
def f_X11_glareAt (n : Nat) (a0 : Nat) (p1 : Int32) (M : KM) : Option (Int32 × KM) :=
  lt ((
    lt (f_X11_refuse a0 (5 : Int32) M) fun (v1 : (Int32 × KM)) =>
    some (v1.1, v1.2)
  ) : Option (Int32 × KM)) fun j11 =>
  if p1 < 0 then
    j11
  else
    if p1 ≤ (99999 : Int32) then
      (f_X2_isGlaring n (M.2.2 a0 10) p1 M).bind fun (v3 : Int32) =>
      lt (f_X11_tellIf a0 v3 M) fun (v4 : (Int32 × KM)) =>
      some (v4.1, v4.2)
    else
      j11
def f_X11_can (n : Nat) (a0 : Nat) (p1 : Int32) (p2 : Int32) (M : KM) : Option (Int32 × KM) :=
  lt (f_X2_hasPerson (M.2.2 a0 10) p1 M) fun (v2 : Int32) =>
  lt ((
    lt (f_X11_refuse a0 (2 : Int32) M) fun (v3 : (Int32 × KM)) =>
    some (v3.1, v3.2)
  ) : Option (Int32 × KM)) fun j22 =>
  if v2 = 0 then
    j22
  else
    lt (f_X2_hasRoad (M.2.2 a0 10) p2 M) fun (v5 : Int32) =>
    if v5 = 0 then
      j22
    else
      (f_X2_isAble n (M.2.2 a0 10) p1 p2 M).bind fun (v7 : Int32) =>
      lt (f_X11_tellIf a0 v7 M) fun (v8 : (Int32 × KM)) =>
      some (v8.1, v8.2)
def f_X11_guides (n : Nat) (a0 : Nat) (p1 : Int32) (p2 : Int32) (M : KM) : Option (Int32 × KM) :=
  lt (f_X2_hasPlace (M.2.2 a0 10) p1 M) fun (v2 : Int32) =>
  lt ((
    lt (f_X11_refuse a0 (2 : Int32) M) fun (v3 : (Int32 × KM)) =>
    some (v3.1, v3.2)
  ) : Option (Int32 × KM)) fun j22 =>
  if v2 = 0 then
    j22
  else
    lt (f_X2_hasPlace (M.2.2 a0 10) p2 M) fun (v5 : Int32) =>
    if v5 = 0 then
      j22
    else
      (f_X2_roadBetween n (M.2.2 a0 10) p1 p2 M).bind fun (v7 : Int32) =>
      if v7 = (-1 : Int32) then
        lt (f_X11_refuse a0 (9 : Int32) M) fun (v11 : (Int32 × KM)) =>
        some (v11.1, v11.2)
      else
        (f_X2_guideSet n (M.2.2 a0 10) p1 v7 M).bind fun (v9 : Int32) =>
        lt (f_X11_tell a0 v9 M) fun (v10 : (Int32 × KM)) =>
        some (v10.1, v10.2)
def f_X11_stuck (n : Nat) (a0 : Nat) (M : KM) : Option (Int32 × KM) :=
  (f_X2_stuckSet n (M.2.2 a0 10) M).bind fun (v2 : Int32) =>
  lt (f_X11_tell a0 v2 M) fun (v3 : (Int32 × KM)) =>
  some (v3.1, v3.2)
def f_X11_whyNotAtPlace (n : Nat) (a0 : Nat) (p1 : Int32) (M : KM) : Option Int32 :=
  lt (f_X2_hasPerson (M.2.2 a0 10) p1 M) fun (v2 : Int32) =>
  if v2 = 0 then
    some (2 : Int32)
  else
    if ix p1 8 then
    lt (f_X7_isAtPlace (((M.2.2 a0 10) + 6) + 8 + 3 * (p1).toNatClampNeg) M) fun (v5 : Int32) =>
    if v5 = 0 then
      some (9 : Int32)
    else
      some (0 : Int32)
    else none
def f_X11_reach (n : Nat) (a0 : Nat) (p1 : Int32) (M : KM) : Option (Int32 × KM) :=
  (f_X11_whyNotAtPlace n a0 p1 M).bind fun (v1 : Int32) =>
  if v1 = 0 then
    (f_X2_reachSet n (M.2.2 a0 10) p1 M).bind fun (v3 : Int32) =>
    lt (f_X11_tell a0 v3 M) fun (v4 : (Int32 × KM)) =>
    some (v4.1, v4.2)
  else
    lt (f_X11_refuse a0 v1 M) fun (v5 : (Int32 × KM)) =>
    some (v5.1, v5.2)
def lp_X11_nextGlare_17 (n : Nat) (a0 : Nat) (c1 : Int32) (M : KM) (w2 : Int32) (k53 : Int32 → Option (Int32 × KM)) (k80 : Option (Int32 × KM)) : Option (Int32 × KM) := match n with
  | 0 => none
  | n + 1 =>
    if (1440 : Int32) < w2 then
      k80
    else
      (f_X2_isGlaring n (M.2.2 a0 10) ((M.1 (M.2.2 a0 10) 11) + w2) M).bind fun (v3 : Int32) =>
      lt (fun (x4 : Int32) => (
        if v3 = x4 then
          k53 w2
        else
          lt ((w2 + ((60 : Int32) - (((M.1 (M.2.2 a0 10) 11) + w2) - ((M.1 (M.2.2 a0 10) 11) + w2) / (60 : Int32) * (60 : Int32))))) fun (v6 : Int32) =>
          lp_X11_nextGlare_17 n a0 c1 M v6 k53 k80
      ) : Int32 → Option (Int32 × KM)) fun j50 =>
      if c1 = (1 : Int32) then
        j50 (1 : Int32)
      else
        j50 (0 : Int32)
def f_X11_nextGlare (n : Nat) (a0 : Nat) (p1 : Int32) (M : KM) : Option (Int32 × KM) :=
  lt ((
    lp_X11_nextGlare_17 n a0 p1 M (0 : Int32)
      (fun (u10 : Int32) => (
        lt (f_X11_tell a0 u10 M) fun (v11 : (Int32 × KM)) =>
        some (v11.1, v11.2)
      ))
      ((
        lt (f_X11_refuse a0 (8 : Int32) M) fun (v12 : (Int32 × KM)) =>
        some (v12.1, v12.2)
      ))
  ) : Option (Int32 × KM)) fun j15 =>
  if p1 = 0 then
    j15
  else
    if p1 = (1 : Int32) then
      j15
    else
      lt (f_X11_refuse a0 (5 : Int32) M) fun (v13 : (Int32 × KM)) =>
      some (v13.1, v13.2)
def f_X11_whyNoWay (n : Nat) (a0 : Nat) (p1 : Int32) (p2 : Int32) (M : KM) : Option Int32 :=
  lt (f_X2_hasPlace (M.2.2 a0 10) p2 M) fun (v2 : Int32) =>
  if v2 = 0 then
    some (2 : Int32)
  else
    (f_X11_whyNotAtPlace n a0 p1 M).bind fun (v3 : Int32) =>
    some v3
def f_X11_soonest (n : Nat) (a0 : Nat) (p1 : Int32) (p2 : Int32) (M : KM) : Option (Int32 × KM) :=
  (f_X11_whyNoWay n a0 p1 p2 M).bind fun (v1 : Int32) =>
  if v1 = 0 then
    (f_X6_minutesTo n (a0 + 14) (M.2.2 a0 10) p1 (-1 : Int32) p2 M).bind fun (v3 : (Int32 × KM)) =>
    lt (f_X11_tellSooner a0 v3.1 v3.2) fun (v4 : (Int32 × KM)) =>
    some (v4.1, v4.2)
  else
    lt (f_X11_refuse a0 v1 M) fun (v5 : (Int32 × KM)) =>
    some (v5.1, v5.2)
def f_X11_soonestFirst (n : Nat) (a0 : Nat) (p1 : Int32) (p2 : Int32) (M : KM) : Option (Int32 × KM) :=
  (f_X11_whyNoWay n a0 p1 p2 M).bind fun (v1 : Int32) =>
  if v1 = 0 then
    if ix p1 8 then
    if (M.1 (((M.2.2 a0 10) + 6) + 8 + 3 * (p1).toNatClampNeg) 5) = p2 then
      lt (f_X11_refuse a0 (9 : Int32) M) fun (v7 : (Int32 × KM)) =>
      some (v7.1, v7.2)
    else
      (f_X6_firstPlaceTo n (a0 + 14) (M.2.2 a0 10) p1 p2 M).bind fun (v5 : (Int32 × KM)) =>
      lt (f_X11_tellOrNone a0 v5.1 v5.2) fun (v6 : (Int32 × KM)) =>
      some (v6.1, v6.2)
    else none
  else
    lt (f_X11_refuse a0 v1 M) fun (v9 : (Int32 × KM)) =>
    some (v9.1, v9.2)
def f_X11_whyNoTwoAtPlaces (n : Nat) (a0 : Nat) (p1 : Int32) (p2 : Int32) (M : KM) : Option Int32 :=
  lt (f_X11_whyNoTwo a0 p1 p2 M) fun (v1 : Int32) =>
  if v1 = 0 then
    (f_X11_whyNotAtPlace n a0 p1 M).bind fun (v2 : Int32) =>
    (f_X11_whyNotAtPlace n a0 p2 M).bind fun (v3 : Int32) =>
    lt ((if v2 < v3 then v3 else v2)) fun (v4 : Int32) =>
    some v4
  else
    some v1
def f_X11_soonestTwo (n : Nat) (a0 : Nat) (p1 : Int32) (p2 : Int32) (p3 : Int32) (M : KM) : Option (Int32 × KM) :=
  lt (f_X2_hasPlace (M.2.2 a0 10) p3 M) fun (v2 : Int32) =>
  if v2 = 0 then
    lt (f_X11_refuse a0 (2 : Int32) M) fun (v15 : (Int32 × KM)) =>
    some (v15.1, v15.2)
  else
    (f_X11_whyNoTwoAtPlaces n a0 p1 p2 M).bind fun (v3 : Int32) =>
    if v3 = 0 then
      if ix p1 8 then
      if ix p2 8 then
      if (M.1 (((M.2.2 a0 10) + 6) + 8 + 3 * (p1).toNatClampNeg) 5) = (M.1 (((M.2.2 a0 10) + 6) + 8 + 3 * (p2).toNatClampNeg) 5) then
        (f_X6_minutesTo n (a0 + 14) (M.2.2 a0 10) p1 p2 p3 M).bind fun (v9 : (Int32 × KM)) =>
        lt (f_X11_tellSooner a0 v9.1 v9.2) fun (v10 : (Int32 × KM)) =>
        some (v10.1, v10.2)
      else
        lt (f_X11_refuse a0 (9 : Int32) M) fun (v11 : (Int32 × KM)) =>
        some (v11.1, v11.2)
      else none
      else none
    else
      lt (f_X11_refuse a0 v3 M) fun (v13 : (Int32 × KM)) =>
      some (v13.1, v13.2)
def f_X11_meet (n : Nat) (a0 : Nat) (p1 : Int32) (p2 : Int32) (M : KM) : Option (Int32 × KM) :=
  (f_X11_whyNoTwoAtPlaces n a0 p1 p2 M).bind fun (v1 : Int32) =>
  if v1 = 0 then
    (f_X6_findMeeting n (a0 + 14) (M.2.2 a0 10) p1 p2 M).bind fun (v3 : KM) =>
    lt (f_X11_tellOrNone a0 (v3.1 (a0 + 14) 4) v3) fun (v4 : (Int32 × KM)) =>
    some (v4.1, v4.2)
  else
    lt (f_X11_refuse a0 v1 M) fun (v5 : (Int32 × KM)) =>
    some (v5.1, v5.2)
def f_X11_meetIn (n : Nat) (a0 : Nat) (p1 : Int32) (p2 : Int32) (M : KM) : Option (Int32 × KM) :=
  (f_X11_whyNoTwoAtPlaces n a0 p1 p2 M).bind fun (v1 : Int32) =>
  if v1 = 0 then
    (f_X6_findMeeting n (a0 + 14) (M.2.2 a0 10) p1 p2 M).bind fun (v3 : KM) =>
    lt (f_X11_tellSooner a0 (v3.1 (a0 + 14) 5) v3) fun (v4 : (Int32 × KM)) =>
    some (v4.1, v4.2)
  else
    lt (f_X11_refuse a0 v1 M) fun (v5 : (Int32 × KM)) =>
    some (v5.1, v5.2)
def f_X11_whyNoPlanting (n : Nat) (a0 : Nat) (p1 : Int32) (p2 : Int32) (M : KM) : Option Int32 :=
  (f_X11_whyNoWay n a0 p1 p2 M).bind fun (v1 : Int32) =>
  if v1 = 0 then
    if ix p1 8 then
    if (M.1 (((M.2.2 a0 10) + 6) + 8 + 3 * (p1).toNatClampNeg) 3) = 0 then
      some (0 : Int32)
    else
      some (9 : Int32)
    else none
  else
    some v1
def f_X11_plants (n : Nat) (a0 : Nat) (p1 : Int32) (p2 : Int32) (M : KM) : Option (Int32 × KM) :=
  (f_X11_whyNoPlanting n a0 p1 p2 M).bind fun (v1 : Int32) =>
  if v1 = 0 then
    (f_X6_plantingCost n (a0 + 14) (M.2.2 a0 10) p1 p2 M).bind fun (v3 : (Int32 × KM)) =>
    if v3.1 < (1000000000 : Int32) then
      lt (f_X11_tell a0 (v3.1 / (4096 : Int32)) v3.2) fun (v4 : (Int32 × KM)) =>
      some (v4.1, v4.2)
    else
      lt (f_X11_refuse a0 (8 : Int32) v3.2) fun (v5 : (Int32 × KM)) =>
      some (v5.1, v5.2)
  else
    lt (f_X11_refuse a0 v1 M) fun (v7 : (Int32 × KM)) =>
    some (v7.1, v7.2)
def f_X11_plantSet (n : Nat) (a0 : Nat) (p1 : Int32) (p2 : Int32) (M : KM) : Option (Int32 × KM) :=
  (f_X11_whyNoPlanting n a0 p1 p2 M).bind fun (v1 : Int32) =>
  if v1 = 0 then
    (f_X6_plantingCost n (a0 + 14) (M.2.2 a0 10) p1 p2 M).bind fun (v3 : (Int32 × KM)) =>
    if v3.1 < (1000000000 : Int32) then
      lt (f_X11_tell a0 (v3.1 - v3.1 / (4096 : Int32) * (4096 : Int32)) v3.2) fun (v4 : (Int32 × KM)) =>
      some (v4.1, v4.2)
    else
      lt (f_X11_refuse a0 (8 : Int32) v3.2) fun (v5 : (Int32 × KM)) =>
      some (v5.1, v5.2)
  else
    lt (f_X11_refuse a0 v1 M) fun (v7 : (Int32 × KM)) =>
    some (v7.1, v7.2)
def f_X11_ways (n : Nat) (a0 : Nat) (p1 : Int32) (p2 : Int32) (p3 : Int32) (p4 : Int32) (M : KM) : Option (Int64 × KM) :=
  lt (f_X2_hasPerson (M.2.2 a0 10) p1 M) fun (v2 : Int32) =>
  lt ((
    lt (f_X11_refuse a0 (2 : Int32) M) fun (v3 : (Int32 × KM)) =>
    some ((v3.1).toInt64, v3.2)
  ) : Option (Int64 × KM)) fun j33 =>
  if v2 = 0 then
    j33
  else
    lt (f_X2_hasPlace (M.2.2 a0 10) p2 M) fun (v5 : Int32) =>
    if v5 = 0 then
      j33
    else
      lt (f_X2_hasPlace (M.2.2 a0 10) p3 M) fun (v7 : Int32) =>
      if v7 = 0 then
        j33
      else
        lt ((
          lt (f_X11_refuse a0 (5 : Int32) M) fun (v8 : (Int32 × KM)) =>
          some ((v8.1).toInt64, v8.2)
        ) : Option (Int64 × KM)) fun j52 =>
        if p4 < 0 then
          j52
        else
          if p4 ≤ (10 : Int32) then
            lt (uI M a0 15 (0 : Int32)) fun (M9 : KM) =>
            (f_X6_countWays n (a0 + 14) (M9.2.2 a0 10) p1 p2 p3 p4 M9).bind fun (v11 : (Int64 × KM)) =>
            some (v11.1, v11.2)
          else
            j52
def f_X11_pair (n : Nat) (a0 : Nat) (p1 : Int32) (M : KM) : Option (Int32 × KM) :=
  lt (f_X2_hasPerson (M.2.2 a0 10) p1 M) fun (v2 : Int32) =>
  if v2 = 0 then
    lt (f_X11_refuse a0 (2 : Int32) M) fun (v7 : (Int32 × KM)) =>
    some (v7.1, v7.2)
  else
    (f_X5_findPairs n (a0 + 19) (M.2.2 a0 10) M).bind fun (v4 : KM) =>
    if ix p1 8 then
    lt (f_X11_tellOrNone a0 (v4.1 ((a0 + 19) + 1) (p1).toNatClampNeg) v4) fun (v6 : (Int32 × KM)) =>
    some (v6.1, v6.2)
    else none
def f_X11_pairs (n : Nat) (a0 : Nat) (M : KM) : Option (Int32 × KM) :=
  (f_X5_findPairs n (a0 + 19) (M.2.2 a0 10) M).bind fun (v2 : KM) =>
  (f_X5_countPairs n (a0 + 19) (v2.2.2 a0 10) v2).bind fun (v4 : Int32) =>
  lt (f_X11_tell a0 v4 v2) fun (v5 : (Int32 × KM)) =>
  some (v5.1, v5.2)
def f_X11_pairsOwe (n : Nat) (a0 : Nat) (M : KM) : Option (Int32 × KM) :=
  (f_X5_findPairs n (a0 + 19) (M.2.2 a0 10) M).bind fun (v2 : KM) =>
  (f_X5_sumOwed n (a0 + 19) (v2.2.2 a0 10) v2).bind fun (v4 : Int32) =>
  lt (f_X11_tell a0 v4 v2) fun (v5 : (Int32 × KM)) =>
  some (v5.1, v5.2)
def f_X11_dearest (n : Nat) (a0 : Nat) (p1 : Int32) (M : KM) : Option (Int32 × KM) :=
  lt (f_X2_hasPerson (M.2.2 a0 10) p1 M) fun (v2 : Int32) =>
  if v2 = 0 then
    lt (f_X11_refuse a0 (2 : Int32) M) fun (v6 : (Int32 × KM)) =>
    some (v6.1, v6.2)
  else
    (f_X2_mostOwedBy n (M.2.2 a0 10) p1 M).bind fun (v4 : Int32) =>
    lt (f_X11_tellOrNone a0 v4 M) fun (v5 : (Int32 × KM)) =>
    some (v5.1, v5.2)
def lp_X11_choices_5 (n : Nat) (c0 : Int32) (c1 : Int32) (M : KM) (w2 : Int64) (w4 : Int32) : Option Int64 := match n with
  | 0 => none
  | n + 1 =>
    if c1 < w4 then
      some w2
    else
      if ¬ (w4).toInt64 = 0 then
      lt (((w2 * (((c0 - c1) + w4)).toInt64) / (w4).toInt64)) fun (v2 : Int64) =>
      lt (w4 + (1 : Int32)) fun (v3 : Int32) =>
      lp_X11_choices_5 n c0 c1 M v2 v3
      else none
def f_X11_choices (n : Nat) (p0 : Int32) (p1 : Int32) (M : KM) : Option Int64 :=
  lp_X11_choices_5 n p0 p1 M (1 : Int64) (1 : Int32)
def lp_X11_power_5 (n : Nat) (c0 : Int32) (c1 : Int32) (M : KM) (w2 : Int64) (w4 : Int32) : Option Int64 := match n with
  | 0 => none
  | n + 1 =>
    if c1 ≤ w4 then
      some w2
    else
      lt ((w2 * (c0).toInt64)) fun (v1 : Int64) =>
      lt (w4 + (1 : Int32)) fun (v2 : Int32) =>
      lp_X11_power_5 n c0 c1 M v1 v2
def f_X11_power (n : Nat) (p0 : Int32) (p1 : Int32) (M : KM) : Option Int64 :=
  lp_X11_power_5 n p0 p1 M (1 : Int64) (0 : Int32)
def lp_X11_clouds_31 (n : Nat) (a0 : Nat) (c1 : Int32) (M : KM) (w3 : Int64) (w5 : Int32) (k83 : Int64 → Option (Int32 × KM)) : Option (Int32 × KM) := match n with
  | 0 => none
  | n + 1 =>
    if c1 < w5 then
      k83 w3
    else
      (f_X11_choices n c1 w5 M).bind fun (v2 : Int64) =>
      (f_X11_power n (M.1 (M.2.2 a0 10) 14) w5 M).bind fun (v4 : Int64) =>
      (f_X11_power n ((16 : Int32) - (M.1 (M.2.2 a0 10) 14)) (c1 - w5) M).bind fun (v6 : Int64) =>
      lt ((w3 + ((v2 * v4) * v6))) fun (v7 : Int64) =>
      lt (w5 + (1 : Int32)) fun (v8 : Int32) =>
      lp_X11_clouds_31 n a0 c1 M v7 v8 k83
def f_X11_clouds (n : Nat) (a0 : Nat) (p1 : Int32) (p2 : Int32) (M : KM) : Option (Int32 × KM) :=
  lt ((
    lt (f_X11_deny a0 (5 : Int32) M) fun (v1 : (Int32 × KM)) =>
    some (v1.1, v1.2)
  ) : Option (Int32 × KM)) fun j20 =>
  if p1 < 0 then
    j20
  else
    if (12 : Int32) < p1 then
      j20
    else
      if p2 < 0 then
        j20
      else
        if p2 ≤ (12 : Int32) then
          lp_X11_clouds_31 n a0 p1 M (0 : Int64) p2
            (fun (u10 : Int64) => (
              (f_X11_power n (16 : Int32) p1 M).bind fun (v11 : Int64) =>
              (f_X11_setFraction n a0 u10 v11 M).bind fun (v12 : KM) =>
              lt (f_X11_succeed a0 v12) fun (v13 : (Int32 × KM)) =>
              some (v13.1, v13.2)
            ))
        else
          j20
def f_X11_lostIn (n : Nat) (a0 : Nat) (p1 : Int32) (M : KM) : Option (Int32 × KM) :=
  lt ((
    lt (f_X11_refuse a0 (5 : Int32) M) fun (v1 : (Int32 × KM)) =>
    some (v1.1, v1.2)
  ) : Option (Int32 × KM)) fun j11 =>
  if p1 < 0 then
    j11
  else
    if p1 ≤ (999 : Int32) then
      (f_X2_lostWithin n (M.2.2 a0 10) p1 ((M.2.2 a0 10) + 7) M).bind fun (v4 : Int32) =>
      lt (f_X11_tell a0 v4 M) fun (v5 : (Int32 × KM)) =>
      some (v5.1, v5.2)
    else
      j11
def f_X11_lostBy (n : Nat) (a0 : Nat) (p1 : Int32) (p2 : Int32) (p3 : Int32) (M : KM) : Option (Int32 × KM) :=
  lt ((
    lt (f_X11_refuse a0 (5 : Int32) M) fun (v1 : (Int32 × KM)) =>
    some (v1.1, v1.2)
  ) : Option (Int32 × KM)) fun j19 =>
  if p1 < 0 then
    j19
  else
    if (999 : Int32) < p1 then
      j19
    else
      lt (f_X1_canBe p2 p3 M) fun (v2 : Int32) =>
      if v2 = 0 then
        j19
      else
        lt (f_X1_set (a0 + 22) p2 p3 M) fun (v3 : KM) =>
        (f_X2_lostWithin n (v3.2.2 a0 10) p1 (a0 + 22) v3).bind fun (v5 : Int32) =>
        lt (f_X11_tell a0 v5 v3) fun (v6 : (Int32 × KM)) =>
        some (v6.1, v6.2)
def lp_X11_bestFrom_48 (n : Nat) (a0 : Nat) (c1 : Int32) (c2 : Int32) (w3 : Int32) (w4 : Int32) (w5 : Int32) (M : KM) (k107 : Int32 → KM → Option (Int32 × KM)) : Option (Int32 × KM) := match n with
  | 0 => none
  | n + 1 =>
    if (23 : Int32) < w5 then
      k107 w3 M
    else
      lt ((if (w5 + c2) < (24 : Int32) then (w5 + c2) else (24 : Int32))) fun (v5 : Int32) =>
      lt (f_X1_set (a0 + 22) w5 v5 M) fun (v6 : KM) =>
      (f_X2_lostWithin n (v6.2.2 a0 10) c1 (a0 + 22) v6).bind fun (v8 : Int32) =>
      lt (fun (x9 : Int32) (x10 : Int32) => (
        lt (w5 + (1 : Int32)) fun (v11 : Int32) =>
        lp_X11_bestFrom_48 n a0 c1 c2 x9 x10 v11 v6 k107
      ) : Int32 → Int32 → Option (Int32 × KM)) fun j101 =>
      if w4 ≤ v8 then
        j101 w3 w4
      else
        j101 w5 v8
def f_X11_bestFrom (n : Nat) (a0 : Nat) (p1 : Int32) (M : KM) : Option (Int32 × KM) :=
  lt ((
    lt (f_X11_refuse a0 (5 : Int32) M) fun (v1 : (Int32 × KM)) =>
    some (v1.1, v1.2)
  ) : Option (Int32 × KM)) fun j11 =>
  if p1 < 0 then
    j11
  else
    if p1 ≤ (999 : Int32) then
      lt (((M.1 ((M.2.2 a0 10) + 7) 1) - (M.1 ((M.2.2 a0 10) + 7) 0))) fun (v4 : Int32) =>
      lp_X11_bestFrom_48 n a0 p1 v4 (0 : Int32) (1000000000 : Int32) (0 : Int32) M
        (fun (u14 : Int32) (M15 : KM) => (
          lt (f_X11_tell a0 u14 M15) fun (v16 : (Int32 × KM)) =>
          some (v16.1, v16.2)
        ))
    else
      j11
def f_X11_arrives (n : Nat) (a0 : Nat) (p1 : Int32) (M : KM) : Option (Int32 × KM) :=
  lt (f_X2_hasPerson (M.2.2 a0 10) p1 M) fun (v2 : Int32) =>
  if v2 = 0 then
    lt (f_X11_refuse a0 (2 : Int32) M) fun (v13 : (Int32 × KM)) =>
    some (v13.1, v13.2)
  else
    if ix p1 8 then
    lt (f_X7_isAtPlace (((M.2.2 a0 10) + 6) + 8 + 3 * (p1).toNatClampNeg) M) fun (v5 : Int32) =>
    if v5 = 0 then
      (f_X2_minutesToGoal n (M.2.2 a0 10) p1 M).bind fun (v7 : Int32) =>
      if v7 ≤ (9999 : Int32) then
        lt (f_X11_tell a0 v7 M) fun (v8 : (Int32 × KM)) =>
        some (v8.1, v8.2)
      else
        lt (f_X11_refuse a0 (8 : Int32) M) fun (v9 : (Int32 × KM)) =>
        some (v9.1, v9.2)
    else
      lt (f_X11_refuse a0 (9 : Int32) M) fun (v11 : (Int32 × KM)) =>
      some (v11.1, v11.2)
    else none
def f_X11_live (n : Nat) (a0 : Nat) (p1 : Int32) (M : KM) : Option (Int32 × KM) :=
  lt ((
    lt (f_X11_refuse a0 (5 : Int32) M) fun (v1 : (Int32 × KM)) =>
    some (v1.1, v1.2)
  ) : Option (Int32 × KM)) fun j11 =>
  if p1 < 0 then
    j11
  else
    if p1 ≤ (9999 : Int32) then
      if (M.1 (M.2.2 (M.2.2 a0 10) 7) 7) = 0 then
        lt (f_X11_refuse a0 (8 : Int32) M) fun (v19 : (Int32 × KM)) =>
        some (v19.1, v19.2)
      else
        (f_X4_run n (a0 + 12) (M.2.2 a0 10) p1 M).bind fun (v5 : KM) =>
        if ix (0 : Int32) 5 then
        lt (uI v5 (a0 + 4) ((0 : Int32)).toNatClampNeg (v5.1 (a0 + 12) 3)) fun (M7 : KM) =>
        if ix (1 : Int32) 5 then
        lt (uI M7 (a0 + 4) ((1 : Int32)).toNatClampNeg (M7.1 (a0 + 12) 4)) fun (M9 : KM) =>
        if ix (2 : Int32) 5 then
        lt (uI M9 (a0 + 4) ((2 : Int32)).toNatClampNeg (M9.1 (a0 + 12) 5)) fun (M11 : KM) =>
        if ix (3 : Int32) 5 then
        lt (uI M11 (a0 + 4) ((3 : Int32)).toNatClampNeg (M11.1 (a0 + 12) 6)) fun (M13 : KM) =>
        lt (fun (x14 : Int32) => (
          if ix (4 : Int32) 5 then
          lt (uI M13 (a0 + 4) ((4 : Int32)).toNatClampNeg x14) fun (M16 : KM) =>
          lt (f_X11_tell a0 (M16.1 (a0 + 12) 2) M16) fun (v17 : (Int32 × KM)) =>
          some (v17.1, v17.2)
          else none
        ) : Int32 → Option (Int32 × KM)) fun j121 =>
        if (M13.1 (a0 + 12) 7) = 0 then
          j121 (0 : Int32)
        else
          j121 (1 : Int32)
        else none
        else none
        else none
        else none
    else
      j11
def f_X11_lived (n : Nat) (a0 : Nat) (p1 : Int32) (M : KM) : Option (Int32 × KM) :=
  lt ((
    lt (f_X11_refuse a0 (5 : Int32) M) fun (v1 : (Int32 × KM)) =>
    some (v1.1, v1.2)
  ) : Option (Int32 × KM)) fun j9 =>
  if p1 < 0 then
    j9
  else
    if p1 < (5 : Int32) then
      if ix (0 : Int32) 5 then
      if (M.1 (a0 + 4) ((0 : Int32)).toNatClampNeg) = (-1 : Int32) then
        lt (f_X11_refuse a0 (8 : Int32) M) fun (v5 : (Int32 × KM)) =>
        some (v5.1, v5.2)
      else
        if ix p1 5 then
        lt (f_X11_tell a0 (M.1 (a0 + 4) (p1).toNatClampNeg) M) fun (v4 : (Int32 × KM)) =>
        some (v4.1, v4.2)
        else none
      else none
    else
      j9
def lp_X11_mean_57 (n : Nat) (a0 : Nat) (c1 : Int32) (c2 : Int32) (w3 : Int64) (w5 : Int32) (M : KM) (k106 : Int64 → KM → Option (Int32 × KM)) : Option (Int32 × KM) := match n with
  | 0 => none
  | n + 1 =>
    if c2 ≤ w5 then
      k106 w3 M
    else
      (f_X2_copyFrom n (M.2.2 a0 11) (M.2.2 a0 10) M).bind fun (v6 : KM) =>
      (f_X4_run n (a0 + 12) (v6.2.2 a0 11) (c1 + w5) v6).bind fun (v8 : KM) =>
      (f_X2_lostOfAll n (v8.2.2 a0 11) v8).bind fun (v10 : Int32) =>
      lt ((w3 + (v10).toInt64)) fun (v11 : Int64) =>
      lt (w5 + (1 : Int32)) fun (v12 : Int32) =>
      lp_X11_mean_57 n a0 c1 c2 v11 v12 v8 k106
def f_X11_mean (n : Nat) (a0 : Nat) (p1 : Int32) (p2 : Int32) (M : KM) : Option (Int32 × KM) :=
  lt ((
    lt (f_X11_deny a0 (5 : Int32) M) fun (v1 : (Int32 × KM)) =>
    some (v1.1, v1.2)
  ) : Option (Int32 × KM)) fun j26 =>
  if p1 < 0 then
    j26
  else
    if p2 < (1 : Int32) then
      j26
    else
      if (20 : Int32) < p2 then
        j26
      else
        if p1 ≤ (((9999 : Int32) - p2) + (1 : Int32)) then
          if (M.1 (M.2.2 (M.2.2 a0 10) 7) 7) = 0 then
            lt (f_X11_deny a0 (8 : Int32) M) fun (v18 : (Int32 × KM)) =>
            some (v18.1, v18.2)
          else
            lp_X11_mean_57 n a0 p1 p2 (0 : Int64) (0 : Int32) M
              (fun (u14 : Int64) (M15 : KM) => (
                (f_X11_setFraction n a0 u14 (p2).toInt64 M15).bind fun (v16 : KM) =>
                lt (f_X11_succeed a0 v16) fun (v17 : (Int32 × KM)) =>
                some (v17.1, v17.2)
              ))
        else
          j26
def f_X11_mark (n : Nat) (a0 : Nat) (M : KM) : Option (Int32 × KM) :=
  if (M.1 a0 14) < (3 : Int32) then
    if ix (M.1 a0 14) 3 then
    (f_X2_copyFrom n ((a0 + 3) + 110 + 38 * ((M.1 a0 14)).toNatClampNeg) (M.2.2 a0 10) M).bind fun (v3 : KM) =>
    lt (uI v3 a0 14 ((v3.1 a0 14) + (1 : Int32))) fun (M4 : KM) =>
    lt (f_X11_tell a0 (M4.1 a0 14) M4) fun (v5 : (Int32 × KM)) =>
    some (v5.1, v5.2)
    else none
  else
    lt (f_X11_refuse a0 (7 : Int32) M) fun (v6 : (Int32 × KM)) =>
    some (v6.1, v6.2)
def f_X11_back (n : Nat) (a0 : Nat) (M : KM) : Option (Int32 × KM) :=
  if (1 : Int32) ≤ (M.1 a0 14) then
    lt (uI M a0 14 ((M.1 a0 14) - (1 : Int32))) fun (M1 : KM) =>
    if ix (M1.1 a0 14) 3 then
    (f_X2_copyFrom n (M1.2.2 a0 10) ((a0 + 3) + 110 + 38 * ((M1.1 a0 14)).toNatClampNeg) M1).bind fun (v4 : KM) =>
    lt (f_X11_tell a0 (v4.1 a0 14) v4) fun (v5 : (Int32 × KM)) =>
    some (v5.1, v5.2)
    else none
  else
    lt (f_X11_refuse a0 (8 : Int32) M) fun (v6 : (Int32 × KM)) =>
    some (v6.1, v6.2)
def f_X12_status (a0 : Nat) (M : KM) : (Int32 × KM) :=
  lt (uI M a0 1 (0 : Int32)) fun (M1 : KM) =>
  ((M1.1 a0 0), M1)
def f_X12_top (a0 : Nat) (M : KM) : (Int64 × KM) :=
  lt (uI M a0 1 (0 : Int32)) fun (M1 : KM) =>
  ((M1.2.1 a0 2), M1)
def f_X12_bottom (a0 : Nat) (M : KM) : (Int64 × KM) :=
  lt (uI M a0 1 (0 : Int32)) fun (M1 : KM) =>
  ((M1.2.1 a0 3), M1)
def f_X12_refuse (a0 : Nat) (p1 : Int32) (M : KM) : (Int32 × KM) :=
  lt (uI M a0 0 p1) fun (M1 : KM) =>
  ((-1 : Int32), M1)
def f_X12_no (a0 : Nat) (p1 : Int32) (M : KM) : (Int32 × KM) :=
  lt (uI M a0 0 p1) fun (M1 : KM) =>
  ((0 : Int32), M1)
def f_X12_isIn (p0 : Int64) (p2 : Int64) (p4 : Int64) (M : KM) : Int32 :=
  if (lg_cmp p0 p2) < 0 then
    (0 : Int32)
  else
    if 0 < (lg_cmp p0 p4) then
      (0 : Int32)
    else
      (1 : Int32)
def lp_X12_fraction_9 (n : Nat) (a0 : Nat) (c1 : Int64) (c3 : Int64) (M : KM) (w5 : Int64) (w7 : Int64) (k34 : Int64 → Option (Int32 × KM)) : Option (Int32 × KM) := match n with
  | 0 => none
  | n + 1 =>
    if (lg_cmp w7 (0 : Int64)) = 0 then
      k34 w5
    else
      if ¬ w7 = 0 then
      lt ((w5 - w5 / w7 * w7)) fun (v3 : Int64) =>
      lp_X12_fraction_9 n a0 c1 c3 M w7 v3 k34
      else none
def f_X12_fraction (n : Nat) (a0 : Nat) (p1 : Int64) (p3 : Int64) (M : KM) : Option (Int32 × KM) :=
  lt ((if 0 < p1 then p1 else -p1)) fun (v1 : Int64) =>
  lp_X12_fraction_9 n a0 p1 p3 M v1 p3
    (fun (u5 : Int64) => (
      if ¬ u5 = 0 then
      lt (uJ M a0 2 (p1 / u5)) fun (M7 : KM) =>
      if ¬ u5 = 0 then
      lt (uJ M7 a0 3 (p3 / u5)) fun (M9 : KM) =>
      some ((1 : Int32), M9)
      else none
      else none
    ))
def f_X12_cut (p0 : Int32) (p1 : Int64) (M : KM) : Int64 :=
  if p0 = 0 then
    (((p1).toInt32).toInt8.toInt32).toInt64
  else
    if p0 = (1 : Int32) then
      (((p1).toInt32).toInt16.toInt32).toInt64
    else
      if p0 = (2 : Int32) then
        ((p1).toInt32).toInt64
      else
        p1
def lp_X12_tray_74 (n : Nat) (a0 : Nat) (c1 : Int32) (c3 : Int32) (w4 : Int32) (M : KM) : Option (Int32 × KM) := match n with
  | 0 => none
  | n + 1 =>
    if c3 ≤ w4 then
      some ((1 : Int32), M)
    else
      if ix (((60 : Int32) * c1) + w4) 240 then
      lt (uJ M (a0 + 3) ((((60 : Int32) * c1) + w4)).toNatClampNeg (0 : Int64)) fun (M9 : KM) =>
      lt (w4 + (1 : Int32)) fun (v10 : Int32) =>
      lp_X12_tray_74 n a0 c1 c3 v10 M9
      else none
def f_X12_tray (n : Nat) (a0 : Nat) (p1 : Int32) (p2 : Int32) (p3 : Int32) (M : KM) : Option (Int32 × KM) :=
  lt (uI M a0 1 (0 : Int32)) fun (M1 : KM) =>
  lt (uI M1 a0 0 (0 : Int32)) fun (M2 : KM) =>
  lt ((
    lt (f_X12_no a0 (1 : Int32) M2) fun (v3 : (Int32 × KM)) =>
    some (v3.1, v3.2)
  ) : Option (Int32 × KM)) fun j28 =>
  if p1 < 0 then
    j28
  else
    if (4 : Int32) ≤ p1 then
      j28
    else
      if p2 < 0 then
        j28
      else
        if p2 ≤ (3 : Int32) then
          if p3 ≤ (60 : Int32) then
            if 0 ≤ p3 then
              if ix p1 4 then
              lt (uI M2 (a0 + 1) (p1).toNatClampNeg p2) fun (M5 : KM) =>
              if ix p1 4 then
              lt (uI M5 (a0 + 2) (p1).toNatClampNeg p3) fun (M7 : KM) =>
              lp_X12_tray_74 n a0 p1 p3 (0 : Int32) M7
              else none
              else none
            else
              lt (f_X12_no a0 (6 : Int32) M2) fun (v12 : (Int32 × KM)) =>
              some (v12.1, v12.2)
          else
            lt (f_X12_no a0 (5 : Int32) M2) fun (v14 : (Int32 × KM)) =>
            some (v14.1, v14.2)
        else
          j28
def f_X12_trayed (n : Nat) (a0 : Nat) (p1 : Int32) (M : KM) : Option Int32 :=
  lt ((
    some (1 : Int32)
  ) : Option Int32) fun j9 =>
  if p1 < 0 then
    j9
  else
    if p1 < (4 : Int32) then
      if ix p1 4 then
      if 0 ≤ (M.1 (a0 + 2) (p1).toNatClampNeg) then
        some (0 : Int32)
      else
        some (3 : Int32)
      else none
    else
      j9
def f_X12_placed (n : Nat) (a0 : Nat) (p1 : Int32) (p2 : Int32) (M : KM) : Option Int32 :=
  (f_X12_trayed n a0 p1 M).bind fun (v1 : Int32) =>
  if v1 ≤ 0 then
    lt ((
      some (4 : Int32)
    ) : Option Int32) fun j28 =>
    if p2 < 0 then
      j28
    else
      if ix p1 4 then
      if p2 < (M.1 (a0 + 2) (p1).toNatClampNeg) then
        some (0 : Int32)
      else
        j28
      else none
  else
    some v1
def f_X12_write (n : Nat) (a0 : Nat) (p1 : Int32) (p2 : Int32) (p3 : Int64) (M : KM) : Option (Int32 × KM) :=
  lt (uI M a0 1 (0 : Int32)) fun (M1 : KM) =>
  (f_X12_placed n a0 p1 p2 M1).bind fun (v2 : Int32) =>
  lt (uI M1 a0 0 v2) fun (M3 : KM) =>
  if (M3.1 a0 0) ≤ 0 then
    if ix p1 4 then
    lt (f_X12_cut (M3.1 (a0 + 1) (p1).toNatClampNeg) p3 M3) fun (v5 : Int64) =>
    if ix (((60 : Int32) * p1) + p2) 240 then
    lt (uJ M3 (a0 + 3) ((((60 : Int32) * p1) + p2)).toNatClampNeg v5) fun (M7 : KM) =>
    some ((1 : Int32), M7)
    else none
    else none
  else
    some ((0 : Int32), M3)
def f_X12_read (n : Nat) (a0 : Nat) (p1 : Int32) (p2 : Int32) (M : KM) : Option (Int64 × KM) :=
  lt (uI M a0 1 (0 : Int32)) fun (M1 : KM) =>
  (f_X12_placed n a0 p1 p2 M1).bind fun (v2 : Int32) =>
  lt (uI M1 a0 0 v2) fun (M3 : KM) =>
  if (M3.1 a0 0) ≤ 0 then
    if ix (((60 : Int32) * p1) + p2) 240 then
    some ((M3.2.1 (a0 + 3) ((((60 : Int32) * p1) + p2)).toNatClampNeg), M3)
    else none
  else
    some ((-1 : Int64), M3)
def lp_X12_pour_158 (n : Nat) (a0 : Nat) (c1 : Int32) (c2 : Int32) (c3 : Int32) (c4 : Int32) (c5 : Int32) (c6 : Int32) (w7 : Int32) (M : KM) : Option (Int32 × KM) := match n with
  | 0 => none
  | n + 1 =>
    if c5 ≤ w7 then
      some ((1 : Int32), M)
    else
      lt (fun (x13 : Int32) => (
        if ix ((((60 : Int32) * c1) + c2) + x13) 240 then
        if ix ((((60 : Int32) * c3) + c4) + x13) 240 then
        lt (uJ M (a0 + 3) (((((60 : Int32) * c3) + c4) + x13)).toNatClampNeg (M.2.1 (a0 + 3) (((((60 : Int32) * c1) + c2) + x13)).toNatClampNeg)) fun (M16 : KM) =>
        lt (w7 + (1 : Int32)) fun (v17 : Int32) =>
        lp_X12_pour_158 n a0 c1 c2 c3 c4 c5 c6 v17 M16
        else none
        else none
      ) : Int32 → Option (Int32 × KM)) fun j182 =>
      if c6 = 0 then
        j182 w7
      else
        j182 ((c5 - (1 : Int32)) - w7)
def f_X12_pour (n : Nat) (a0 : Nat) (p1 : Int32) (p2 : Int32) (p3 : Int32) (p4 : Int32) (p5 : Int32) (M : KM) : Option (Int32 × KM) :=
  lt (uI M a0 1 (0 : Int32)) fun (M1 : KM) =>
  lt (uI M1 a0 0 (0 : Int32)) fun (M2 : KM) =>
  lt ((
    lt (f_X12_no a0 (1 : Int32) M2) fun (v3 : (Int32 × KM)) =>
    some (v3.1, v3.2)
  ) : Option (Int32 × KM)) fun j28 =>
  if p1 < 0 then
    j28
  else
    if (4 : Int32) ≤ p1 then
      j28
    else
      if p3 < 0 then
        j28
      else
        if p3 < (4 : Int32) then
          if ix p1 4 then
          lt ((
            lt (f_X12_no a0 (3 : Int32) M2) fun (v5 : (Int32 × KM)) =>
            some (v5.1, v5.2)
          ) : Option (Int32 × KM)) fun j52 =>
          if (M2.1 (a0 + 2) (p1).toNatClampNeg) < 0 then
            j52
          else
            if ix p3 4 then
            if 0 ≤ (M2.1 (a0 + 2) (p3).toNatClampNeg) then
              if ix p1 4 then
              if ix p3 4 then
              if (M2.1 (a0 + 1) (p1).toNatClampNeg) = (M2.1 (a0 + 1) (p3).toNatClampNeg) then
                if 0 ≤ p5 then
                  lt ((
                    lt (f_X12_no a0 (4 : Int32) M2) fun (v9 : (Int32 × KM)) =>
                    some (v9.1, v9.2)
                  ) : Option (Int32 × KM)) fun j136 =>
                  if p2 < 0 then
                    j136
                  else
                    if p4 < 0 then
                      j136
                    else
                      if ix p1 4 then
                      if 0 < (lg_cmp ((p2).toInt64 + (p5).toInt64) ((M2.1 (a0 + 2) (p1).toNatClampNeg)).toInt64) then
                        j136
                      else
                        if ix p3 4 then
                        if (lg_cmp ((p4).toInt64 + (p5).toInt64) ((M2.1 (a0 + 2) (p3).toNatClampNeg)).toInt64) ≤ 0 then
                          lt (fun (x12 : Int32) => (
                            lp_X12_pour_158 n a0 p1 p2 p3 p4 p5 x12 (0 : Int32) M2
                          ) : Int32 → Option (Int32 × KM)) fun j153 =>
                          if p4 ≤ p2 then
                            j153 (0 : Int32)
                          else
                            j153 (1 : Int32)
                        else
                          j136
                        else none
                      else none
                else
                  lt (f_X12_no a0 (6 : Int32) M2) fun (v25 : (Int32 × KM)) =>
                  some (v25.1, v25.2)
              else
                lt (f_X12_no a0 (11 : Int32) M2) fun (v27 : (Int32 × KM)) =>
                some (v27.1, v27.2)
              else none
              else none
            else
              j52
            else none
          else none
        else
          j28
def f_X12_isTray (a0 : Nat) (p1 : Int32) (M : KM) : Int32 :=
  lt (f_X12_isIn (p1).toInt64 (0 : Int64) (3 : Int64) M) fun (v1 : Int32) =>
  v1
def f_X12_has (p0 : Int32) (p1 : Int32) (M : KM) : Int32 :=
  if ((p0 >>> (p1 &&& 31)) &&& (1 : Int32)) = (1 : Int32) then
    (1 : Int32)
  else
    (0 : Int32)
def lp_X12_sizeOf_4 (n : Nat) (c0 : Int32) (M : KM) (w1 : Int32) (w2 : Int32) : Option Int32 := match n with
  | 0 => none
  | n + 1 =>
    if (12 : Int32) ≤ w2 then
      some w1
    else
      lt (f_X12_has c0 w2 M) fun (v1 : Int32) =>
      lt (fun (x2 : Int32) => (
        lt ((w1 + x2)) fun (v3 : Int32) =>
        lt (w2 + (1 : Int32)) fun (v4 : Int32) =>
        lp_X12_sizeOf_4 n c0 M v3 v4
      ) : Int32 → Option Int32) fun j24 =>
      if v1 = 0 then
        j24 (0 : Int32)
      else
        j24 (1 : Int32)
def f_X12_sizeOf (n : Nat) (p0 : Int32) (M : KM) : Option Int32 :=
  lp_X12_sizeOf_4 n p0 M (0 : Int32) (0 : Int32)
def f_X12_look2 (n : Nat) (a0 : Nat) (p1 : Int32) (M : KM) : Option Int32 :=
  if (M.1 a0 9) ≤ p1 then
    some (0 : Int32)
  else
    if ix p1 900 then
    some ((M.1 (a0 + 4) (p1).toNatClampNeg) &&& (255 : Int32))
    else none
def f_X12_isLetter (p0 : Int32) (M : KM) : Int32 :=
  if p0 < (97 : Int32) then
    (0 : Int32)
  else
    if (122 : Int32) < p0 then
      (0 : Int32)
    else
      (1 : Int32)
def f_X12_isDigit (p0 : Int32) (M : KM) : Int32 :=
  if p0 < (48 : Int32) then
    (0 : Int32)
  else
    if (57 : Int32) < p0 then
      (0 : Int32)
    else
      (1 : Int32)
def f_X12_isSignByte (a0 : Nat) (p1 : Int32) (M : KM) : Int32 :=
  lt ((
    (1 : Int32)
  ) : Int32) fun j24 =>
  if p1 = (59 : Int32) then
    j24
  else
    if p1 = (60 : Int32) then
      j24
    else
      if p1 = (62 : Int32) then
        j24
      else
        if p1 = (61 : Int32) then
          j24
        else
          (0 : Int32)
def lp_X12_advance_8 (n : Nat) (a0 : Nat) (M : KM) (k58 : KM → Option KM) : Option KM := match n with
  | 0 => none
  | n + 1 =>
    if (M.1 a0 9) ≤ (M.1 a0 15) then
      k58 M
    else
      (f_X12_look2 n a0 (M.1 a0 15) M).bind fun (v2 : Int32) =>
      lt ((
        lt (uI M a0 15 ((M.1 a0 15) + (1 : Int32))) fun (M3 : KM) =>
        lp_X12_advance_8 n a0 M3 k58
      ) : Option KM) fun j45 =>
      if v2 = (10 : Int32) then
        j45
      else
        (f_X12_look2 n a0 (M.1 a0 15) M).bind fun (v4 : Int32) =>
        if v4 = (32 : Int32) then
          j45
        else
          k58 M
def lp_X12_advance_210 (n : Nat) (a0 : Nat) (M : KM) (k273 : KM → Option KM) : Option KM := match n with
  | 0 => none
  | n + 1 =>
    (f_X12_look2 n a0 (M.1 a0 16) M).bind fun (v20 : Int32) =>
    lt (f_X12_isDigit v20 M) fun (v21 : Int32) =>
    if v21 = 0 then
      k273 M
    else
      lt (fun (M22 : KM) => (
        lt (uI M22 a0 16 ((M22.1 a0 16) + (1 : Int32))) fun (M23 : KM) =>
        lp_X12_advance_210 n a0 M23 k273
      ) : KM → Option KM) fun j260 =>
      if (4 : Int32) ≤ ((M.1 a0 16) - (M.1 a0 15)) then
        j260 M
      else
        (f_X12_look2 n a0 (M.1 a0 16) M).bind fun (v24 : Int32) =>
        lt (uI M a0 17 ((((10 : Int32) * (M.1 a0 17)) + v24) - (48 : Int32))) fun (M25 : KM) =>
        j260 M25
def lp_X12_advance_109 (n : Nat) (a0 : Nat) (M : KM) (k182 : KM → Option KM) : Option KM := match n with
  | 0 => none
  | n + 1 =>
    (f_X12_look2 n a0 (M.1 a0 16) M).bind fun (v35 : Int32) =>
    lt (f_X12_isLetter v35 M) fun (v36 : Int32) =>
    if v36 = 0 then
      k182 M
    else
      lt (fun (x37 : Int64) => (
        lt (uJ M a0 19 x37) fun (M38 : KM) =>
        lt (uI M38 a0 16 ((M38.1 a0 16) + (1 : Int32))) fun (M39 : KM) =>
        lp_X12_advance_109 n a0 M39 k182
      ) : Int64 → Option KM) fun j166 =>
      if (8 : Int32) ≤ ((M.1 a0 16) - (M.1 a0 15)) then
        j166 (-1 : Int64)
      else
        (f_X12_look2 n a0 (M.1 a0 16) M).bind fun (v40 : Int32) =>
        j166 ((((M.2.1 a0 19) * (32 : Int64)) + (v40).toInt64) - (96 : Int64))
def f_X12_advance (n : Nat) (a0 : Nat) (M : KM) : Option KM :=
  lt (uI M a0 15 (M.1 a0 16)) fun (M1 : KM) =>
  lp_X12_advance_8 n a0 M1
    (fun (M8 : KM) => (
      lt (uI M8 a0 16 (M8.1 a0 15)) fun (M9 : KM) =>
      if (M9.1 a0 15) < (M9.1 a0 9) then
        (f_X12_look2 n a0 (M9.1 a0 15) M9).bind fun (v10 : Int32) =>
        lt (f_X12_isLetter v10 M9) fun (v11 : Int32) =>
        if v11 = 0 then
          lt (f_X12_isDigit v10 M9) fun (v12 : Int32) =>
          if v12 = 0 then
            lt (uI M9 a0 16 ((M9.1 a0 15) + (1 : Int32))) fun (M13 : KM) =>
            lt (uI M13 a0 17 v10) fun (M14 : KM) =>
            lt (f_X12_isSignByte a0 v10 M14) fun (v15 : Int32) =>
            lt (fun (x16 : Int32) => (
              lt (uI M14 a0 14 x16) fun (M17 : KM) =>
              some M17
            ) : Int32 → Option KM) fun j327 =>
            if v15 = 0 then
              j327 (4 : Int32)
            else
              j327 (3 : Int32)
          else
            lt (uI M9 a0 17 (0 : Int32)) fun (M19 : KM) =>
            lp_X12_advance_210 n a0 M19
              (fun (M28 : KM) => (
                lt (fun (x29 : Int32) => (
                  lt (uI M28 a0 14 x29) fun (M30 : KM) =>
                  some M30
                ) : Int32 → Option KM) fun j292 =>
                if ((M28.1 a0 16) - (M28.1 a0 15)) ≤ (4 : Int32) then
                  j292 (2 : Int32)
                else
                  j292 (4 : Int32)
              ))
        else
          lt (uI M9 a0 14 (1 : Int32)) fun (M33 : KM) =>
          lt (uJ M33 a0 19 (0 : Int64)) fun (M34 : KM) =>
          lp_X12_advance_109 n a0 M34
            (fun (M43 : KM) => (
              lt (uI M43 a0 18 ((M43.1 a0 16) - (M43.1 a0 15))) fun (M44 : KM) =>
              some M44
            ))
      else
        lt (uI M9 a0 14 (0 : Int32)) fun (M46 : KM) =>
        some M46
    ))
def f_X12_isSign (a0 : Nat) (p1 : Int32) (M : KM) : Int32 :=
  if (M.1 a0 14) = (3 : Int32) then
    if (M.1 a0 17) = p1 then
      (1 : Int32)
    else
      (0 : Int32)
  else
    (0 : Int32)
def f_X12_spelled (p0 : Int32) (p1 : Int32) (p2 : Int32) (p3 : Int32) (p4 : Int32) (p5 : Int32) (M : KM) : Int64 :=
  lt ((((((p0).toInt64 - (96 : Int64)) * (32 : Int64)) + (p1).toInt64) - (96 : Int64))) fun (v1 : Int64) =>
  lt (fun (x2 : Int64) => (
    lt (fun (x3 : Int64) => (
      lt (fun (x4 : Int64) => (
        if p5 ≤ 0 then
          x4
        else
          (((x4 * (32 : Int64)) + (p5).toInt64) - (96 : Int64))
      ) : Int64 → Int64) fun j91 =>
      if p4 ≤ 0 then
        j91 x3
      else
        j91 (((x3 * (32 : Int64)) + (p4).toInt64) - (96 : Int64))
    ) : Int64 → Int64) fun j65 =>
    if p3 ≤ 0 then
      j65 x2
    else
      j65 (((x2 * (32 : Int64)) + (p3).toInt64) - (96 : Int64))
  ) : Int64 → Int64) fun j41 =>
  if p2 ≤ 0 then
    j41 v1
  else
    j41 (((v1 * (32 : Int64)) + (p2).toInt64) - (96 : Int64))
def f_X12_isWord (a0 : Nat) (p1 : Int64) (M : KM) : Int32 :=
  if (M.1 a0 14) = (1 : Int32) then
    if (lg_cmp (M.2.1 a0 19) p1) = 0 then
      (1 : Int32)
    else
      (0 : Int32)
  else
    (0 : Int32)
def f_X12_isTo (a0 : Nat) (M : KM) : Int32 :=
  lt (f_X12_spelled (116 : Int32) (111 : Int32) (0 : Int32) (0 : Int32) (0 : Int32) (0 : Int32) M) fun (v1 : Int64) =>
  lt (f_X12_isWord a0 v1 M) fun (v2 : Int32) =>
  v2
def f_X12_isClock (a0 : Nat) (M : KM) : Int32 :=
  lt (f_X12_spelled (99 : Int32) (108 : Int32) (111 : Int32) (99 : Int32) (107 : Int32) (0 : Int32) M) fun (v1 : Int64) =>
  lt (f_X12_isWord a0 v1 M) fun (v2 : Int32) =>
  v2
def f_X12_isRope (a0 : Nat) (M : KM) : Int32 :=
  lt (f_X12_spelled (114 : Int32) (111 : Int32) (112 : Int32) (101 : Int32) (0 : Int32) (0 : Int32) M) fun (v1 : Int64) =>
  lt (f_X12_isWord a0 v1 M) fun (v2 : Int32) =>
  v2
def f_X12_isHabit (a0 : Nat) (M : KM) : Int32 :=
  lt (f_X12_spelled (104 : Int32) (97 : Int32) (98 : Int32) (105 : Int32) (116 : Int32) (0 : Int32) M) fun (v1 : Int64) =>
  lt (f_X12_isWord a0 v1 M) fun (v2 : Int32) =>
  v2
def f_X12_isOdds (a0 : Nat) (M : KM) : Int32 :=
  lt (f_X12_spelled (111 : Int32) (100 : Int32) (100 : Int32) (115 : Int32) (0 : Int32) (0 : Int32) M) fun (v1 : Int64) =>
  lt (f_X12_isWord a0 v1 M) fun (v2 : Int32) =>
  v2
def f_X12_isPlace (a0 : Nat) (M : KM) : Int32 :=
  lt (f_X12_spelled (112 : Int32) (108 : Int32) (97 : Int32) (99 : Int32) (101 : Int32) (0 : Int32) M) fun (v1 : Int64) =>
  lt (f_X12_isWord a0 v1 M) fun (v2 : Int32) =>
  v2
def f_X12_isRoad (a0 : Nat) (M : KM) : Int32 :=
  lt (f_X12_spelled (114 : Int32) (111 : Int32) (97 : Int32) (100 : Int32) (0 : Int32) (0 : Int32) M) fun (v1 : Int64) =>
  lt (f_X12_isWord a0 v1 M) fun (v2 : Int32) =>
  v2
def f_X12_isMinutes (a0 : Nat) (M : KM) : Int32 :=
  lt (f_X12_spelled (109 : Int32) (105 : Int32) (110 : Int32) (117 : Int32) (116 : Int32) (101 : Int32) M) fun (v1 : Int64) =>
  lt (f_X12_isWord a0 ((v1 * (32 : Int64)) + (19 : Int64)) M) fun (v2 : Int32) =>
  v2
def f_X12_isSmells (a0 : Nat) (M : KM) : Int32 :=
  lt (f_X12_spelled (115 : Int32) (109 : Int32) (101 : Int32) (108 : Int32) (108 : Int32) (115 : Int32) M) fun (v1 : Int64) =>
  lt (f_X12_isWord a0 v1 M) fun (v2 : Int32) =>
  v2
def f_X12_isSighted (a0 : Nat) (M : KM) : Int32 :=
  lt (f_X12_spelled (115 : Int32) (105 : Int32) (103 : Int32) (104 : Int32) (116 : Int32) (101 : Int32) M) fun (v1 : Int64) =>
  lt (f_X12_isWord a0 ((v1 * (32 : Int64)) + (4 : Int64)) M) fun (v2 : Int32) =>
  v2
def f_X12_isGlasses (a0 : Nat) (M : KM) : Int32 :=
  lt (f_X12_spelled (103 : Int32) (108 : Int32) (97 : Int32) (115 : Int32) (115 : Int32) (101 : Int32) M) fun (v1 : Int64) =>
  lt (f_X12_isWord a0 ((v1 * (32 : Int64)) + (19 : Int64)) M) fun (v2 : Int32) =>
  v2
def f_X12_isBlind (a0 : Nat) (M : KM) : Int32 :=
  lt (f_X12_spelled (98 : Int32) (108 : Int32) (105 : Int32) (110 : Int32) (100 : Int32) (0 : Int32) M) fun (v1 : Int64) =>
  lt (f_X12_isWord a0 v1 M) fun (v2 : Int32) =>
  v2
def f_X12_isKnows (a0 : Nat) (M : KM) : Int32 :=
  lt (f_X12_spelled (107 : Int32) (110 : Int32) (111 : Int32) (119 : Int32) (115 : Int32) (0 : Int32) M) fun (v1 : Int64) =>
  lt (f_X12_isWord a0 v1 M) fun (v2 : Int32) =>
  v2
def f_X12_stepWord (a0 : Nat) (M : KM) : Int32 :=
  lt (f_X12_spelled (119 : Int32) (97 : Int32) (105 : Int32) (116 : Int32) (0 : Int32) (0 : Int32) M) fun (v1 : Int64) =>
  lt (f_X12_isWord a0 v1 M) fun (v2 : Int32) =>
  if v2 = 0 then
    lt (f_X12_spelled (103 : Int32) (111 : Int32) (0 : Int32) (0 : Int32) (0 : Int32) (0 : Int32) M) fun (v3 : Int64) =>
    lt (f_X12_isWord a0 v3 M) fun (v4 : Int32) =>
    if v4 = 0 then
      lt (f_X12_spelled (108 : Int32) (101 : Int32) (97 : Int32) (100 : Int32) (0 : Int32) (0 : Int32) M) fun (v5 : Int64) =>
      lt (f_X12_isWord a0 v5 M) fun (v6 : Int32) =>
      if v6 = 0 then
        lt (f_X12_spelled (97 : Int32) (110 : Int32) (121 : Int32) (0 : Int32) (0 : Int32) (0 : Int32) M) fun (v7 : Int64) =>
        lt (f_X12_isWord a0 v7 M) fun (v8 : Int32) =>
        if v8 = 0 then
          lt (f_X12_spelled (99 : Int32) (108 : Int32) (111 : Int32) (117 : Int32) (100 : Int32) (0 : Int32) M) fun (v9 : Int64) =>
          lt (f_X12_isWord a0 v9 M) fun (v10 : Int32) =>
          if v10 = 0 then
            lt (f_X12_spelled (99 : Int32) (108 : Int32) (101 : Int32) (97 : Int32) (114 : Int32) (0 : Int32) M) fun (v11 : Int64) =>
            lt (f_X12_isWord a0 v11 M) fun (v12 : Int32) =>
            if v12 = 0 then
              lt (f_X12_spelled (119 : Int32) (104 : Int32) (101 : Int32) (110 : Int32) (0 : Int32) (0 : Int32) M) fun (v13 : Int64) =>
              lt (f_X12_isWord a0 v13 M) fun (v14 : Int32) =>
              if v14 = 0 then
                lt (f_X12_spelled (108 : Int32) (111 : Int32) (111 : Int32) (112 : Int32) (0 : Int32) (0 : Int32) M) fun (v15 : Int64) =>
                lt (f_X12_isWord a0 v15 M) fun (v16 : Int32) =>
                if v16 = 0 then
                  lt (f_X12_spelled (115 : Int32) (116 : Int32) (111 : Int32) (112 : Int32) (0 : Int32) (0 : Int32) M) fun (v17 : Int64) =>
                  lt (f_X12_isWord a0 v17 M) fun (v18 : Int32) =>
                  if v18 = 0 then
                    (-1 : Int32)
                  else
                    (8 : Int32)
                else
                  (7 : Int32)
              else
                (6 : Int32)
            else
              (5 : Int32)
          else
            (4 : Int32)
        else
          (3 : Int32)
      else
        (2 : Int32)
    else
      (1 : Int32)
  else
    (0 : Int32)
def f_X12_testWord (a0 : Nat) (M : KM) : Int32 :=
  lt (f_X12_spelled (97 : Int32) (116 : Int32) (0 : Int32) (0 : Int32) (0 : Int32) (0 : Int32) M) fun (v1 : Int64) =>
  lt (f_X12_isWord a0 v1 M) fun (v2 : Int32) =>
  if v2 = 0 then
    lt (f_X12_spelled (103 : Int32) (108 : Int32) (97 : Int32) (114 : Int32) (101 : Int32) (0 : Int32) M) fun (v3 : Int64) =>
    lt (f_X12_isWord a0 v3 M) fun (v4 : Int32) =>
    if v4 = 0 then
      lt (f_X12_spelled (108 : Int32) (111 : Int32) (115 : Int32) (116 : Int32) (0 : Int32) (0 : Int32) M) fun (v5 : Int64) =>
      lt (f_X12_isWord a0 v5 M) fun (v6 : Int32) =>
      if v6 = 0 then
        (-1 : Int32)
      else
        (2 : Int32)
    else
      (1 : Int32)
  else
    (0 : Int32)
def f_X12_isEnd (a0 : Nat) (M : KM) : Int32 :=
  lt (f_X12_spelled (101 : Int32) (110 : Int32) (100 : Int32) (0 : Int32) (0 : Int32) (0 : Int32) M) fun (v1 : Int64) =>
  lt (f_X12_isWord a0 v1 M) fun (v2 : Int32) =>
  v2
def f_X12_isKept (a0 : Nat) (M : KM) : Int32 :=
  lt (f_X12_isTo a0 M) fun (v1 : Int32) =>
  if v1 = 0 then
    lt (f_X12_isClock a0 M) fun (v2 : Int32) =>
    if v2 = 0 then
      lt (f_X12_isRope a0 M) fun (v3 : Int32) =>
      if v3 = 0 then
        lt (f_X12_isHabit a0 M) fun (v4 : Int32) =>
        if v4 = 0 then
          lt (f_X12_isOdds a0 M) fun (v5 : Int32) =>
          if v5 = 0 then
            lt (f_X12_isPlace a0 M) fun (v6 : Int32) =>
            if v6 = 0 then
              lt (f_X12_isRoad a0 M) fun (v7 : Int32) =>
              if v7 = 0 then
                lt (f_X12_isMinutes a0 M) fun (v8 : Int32) =>
                if v8 = 0 then
                  lt (f_X12_isSmells a0 M) fun (v9 : Int32) =>
                  if v9 = 0 then
                    lt (f_X12_isSighted a0 M) fun (v10 : Int32) =>
                    if v10 = 0 then
                      lt (f_X12_isGlasses a0 M) fun (v11 : Int32) =>
                      if v11 = 0 then
                        lt (f_X12_isBlind a0 M) fun (v12 : Int32) =>
                        if v12 = 0 then
                          lt (f_X12_isKnows a0 M) fun (v13 : Int32) =>
                          if v13 = 0 then
                            lt (f_X12_stepWord a0 M) fun (v14 : Int32) =>
                            lt ((
                              (1 : Int32)
                            ) : Int32) fun j116 =>
                            if 0 ≤ v14 then
                              j116
                            else
                              lt (f_X12_testWord a0 M) fun (v15 : Int32) =>
                              if 0 ≤ v15 then
                                j116
                              else
                                lt (f_X12_isEnd a0 M) fun (v16 : Int32) =>
                                if v16 = 0 then
                                  (0 : Int32)
                                else
                                  j116
                          else
                            (1 : Int32)
                        else
                          (1 : Int32)
                      else
                        (1 : Int32)
                    else
                      (1 : Int32)
                  else
                    (1 : Int32)
                else
                  (1 : Int32)
              else
                (1 : Int32)
            else
              (1 : Int32)
          else
            (1 : Int32)
        else
          (1 : Int32)
      else
        (1 : Int32)
    else
      (1 : Int32)
  else
    (1 : Int32)
def f_X12_isName (a0 : Nat) (M : KM) : Int32 :=
  if (M.1 a0 14) = (1 : Int32) then
    if (8 : Int32) < (M.1 a0 18) then
      (0 : Int32)
    else
      lt (f_X12_isKept a0 M) fun (v1 : Int32) =>
      if v1 = 0 then
        (1 : Int32)
      else
        (0 : Int32)
  else
    (0 : Int32)
def f_X12_fail (a0 : Nat) (p1 : Int32) (p2 : Int32) (M : KM) : KM :=
  if (M.1 a0 12) ≤ 0 then
    lt (uI M a0 12 p1) fun (M1 : KM) =>
    lt (uI M1 a0 13 p2) fun (M2 : KM) =>
    M2
  else
    M
def f_X12_amiss (a0 : Nat) (M : KM) : KM :=
  lt (fun (x1 : Int32) => (
    lt (f_X12_fail a0 x1 (M.1 a0 15) M) fun (v2 : KM) =>
    v2
  ) : Int32 → KM) fun j14 =>
  if (M.1 a0 14) = (4 : Int32) then
    j14 (1 : Int32)
  else
    j14 (2 : Int32)
def f_X12_must (n : Nat) (a0 : Nat) (p1 : Int32) (M : KM) : Option KM :=
  if (M.1 a0 12) ≤ 0 then
    if p1 = 0 then
      lt (f_X12_amiss a0 M) fun (v1 : KM) =>
      some v1
    else
      (f_X12_advance n a0 M).bind fun (v2 : KM) =>
      some v2
  else
    some M
def f_X12_count (n : Nat) (a0 : Nat) (p1 : Int32) (p2 : Int32) (M : KM) : Option (Int32 × KM) :=
  lt (fun (M1 : KM) => (
    lt (fun (M2 : KM) => (
      if (M2.1 a0 12) ≤ 0 then
        lt ((M2.1 a0 17)) fun (v3 : Int32) =>
        (f_X12_advance n a0 M2).bind fun (v4 : KM) =>
        some (v3, v4)
      else
        some ((0 : Int32), M2)
    ) : KM → Option (Int32 × KM)) fun j50 =>
    if (M1.1 a0 12) = 0 then
      lt (f_X12_isIn ((M1.1 a0 17)).toInt64 (p1).toInt64 (p2).toInt64 M1) fun (v6 : Int32) =>
      if v6 = 0 then
        lt (f_X12_fail a0 (4 : Int32) (M1.1 a0 15) M1) fun (v7 : KM) =>
        j50 v7
      else
        j50 M1
    else
      j50 M1
  ) : KM → Option (Int32 × KM)) fun j19 =>
  if (M.1 a0 12) = 0 then
    if (M.1 a0 14) = (2 : Int32) then
      j19 M
    else
      lt (f_X12_amiss a0 M) fun (v10 : KM) =>
      j19 v10
  else
    j19 M
def f_X12_perhaps (n : Nat) (a0 : Nat) (p1 : Int32) (M : KM) : Option (Int32 × KM) :=
  if 0 < (M.1 a0 12) then
    some ((0 : Int32), M)
  else
    if p1 = 0 then
      some ((0 : Int32), M)
    else
      (f_X12_advance n a0 M).bind fun (v1 : KM) =>
      some ((1 : Int32), v1)
def lp_X12_lay_2 (n : Nat) (a0 : Nat) (c1 : Int32) (w2 : Int32) (M : KM) : Option KM := match n with
  | 0 => none
  | n + 1 =>
    if w2 < 0 then
      some M
    else
      if ix (M.1 a0 8) 900 then
      lt (uI M (a0 + 4) ((M.1 a0 8)).toNatClampNeg (vp_nar .byte ((c1 >>> (((8 : Int32) * w2) &&& 31))).toInt8.toInt32)) fun (M2 : KM) =>
      lt (uI M2 a0 8 ((M2.1 a0 8) + (1 : Int32))) fun (M3 : KM) =>
      lt (w2 + (-1 : Int32)) fun (v4 : Int32) =>
      lp_X12_lay_2 n a0 c1 v4 M3
      else none
def f_X12_lay (n : Nat) (a0 : Nat) (p1 : Int32) (M : KM) : Option KM :=
  lp_X12_lay_2 n a0 p1 (3 : Int32) M
def f_X12_feed (n : Nat) (a0 : Nat) (p1 : Int32) (p2 : Int32) (p3 : Int32) (p4 : Int32) (p5 : Int32) (M : KM) : Option (Int32 × KM) :=
  lt (uI M a0 1 (0 : Int32)) fun (M1 : KM) =>
  if ((M1.1 a0 8) + (20 : Int32)) ≤ (900 : Int32) then
    (f_X12_lay n a0 p1 M1).bind fun (v2 : KM) =>
    (f_X12_lay n a0 p2 v2).bind fun (v3 : KM) =>
    (f_X12_lay n a0 p3 v3).bind fun (v4 : KM) =>
    (f_X12_lay n a0 p4 v4).bind fun (v5 : KM) =>
    (f_X12_lay n a0 p5 v5).bind fun (v6 : KM) =>
    some ((v6.1 a0 8), v6)
  else
    some ((-1 : Int32), M1)
def f_X12_starts (n : Nat) (a0 : Nat) (p1 : Int32) (p2 : Int32) (M : KM) : Option (Int32 × KM) :=
  lt ((
    lt (f_X12_no a0 (5 : Int32) M) fun (v1 : (Int32 × KM)) =>
    some (v1.1, v1.2)
  ) : Option (Int32 × KM)) fun j17 =>
  if p1 < 0 then
    j17
  else
    if (M.1 a0 8) < p1 then
      j17
    else
      if p1 ≤ p2 then
        lt (uI M a0 9 p1) fun (M2 : KM) =>
        lt (uI M2 a0 8 (0 : Int32)) fun (M3 : KM) =>
        lt (uI M3 a0 16 (0 : Int32)) fun (M4 : KM) =>
        lt (uI M4 a0 12 (0 : Int32)) fun (M5 : KM) =>
        (f_X12_advance n a0 M5).bind fun (v6 : KM) =>
        some ((1 : Int32), v6)
      else
        j17
def f_X12_isWell (a0 : Nat) (M : KM) : (Int32 × KM) :=
  lt (uI M a0 10 (M.1 a0 12)) fun (M1 : KM) =>
  lt (fun (x2 : Int32) => (
    lt (uI M1 a0 11 x2) fun (M3 : KM) =>
    lt (fun (M4 : KM) => (
      ((1 : Int32), M4)
    ) : KM → (Int32 × KM)) fun j43 =>
    if (M3.1 a0 12) = 0 then
      j43 M3
    else
      lt (f_X12_no a0 (10 : Int32) M3) fun (v5 : (Int32 × KM)) =>
      if v5.1 = 0 then
        ((0 : Int32), v5.2)
      else
        j43 v5.2
  ) : Int32 → (Int32 × KM)) fun j24 =>
  if (M1.1 a0 12) = 0 then
    j24 (-1 : Int32)
  else
    j24 (M1.1 a0 13)
def f_X12_fault (a0 : Nat) (p1 : Int32) (M : KM) : (Int32 × KM) :=
  lt (uI M a0 1 (0 : Int32)) fun (M1 : KM) =>
  if p1 = 0 then
    ((M1.1 a0 10), M1)
  else
    if p1 = (1 : Int32) then
      ((M1.1 a0 11), M1)
    else
      ((-1 : Int32), M1)
def lp_X12_empties_8 (n : Nat) (a0 : Nat) (c2 : Int32) (w3 : Int32) (M : KM) (k30 : KM → Option KM) : Option KM := match n with
  | 0 => none
  | n + 1 =>
    if (562 : Int32) ≤ w3 then
      k30 M
    else
      if ix (c2 + w3) 2810 then
      lt (uI M (a0 + 5) ((c2 + w3)).toNatClampNeg (0 : Int32)) fun (M3 : KM) =>
      lt (w3 + (1 : Int32)) fun (v4 : Int32) =>
      lp_X12_empties_8 n a0 c2 v4 M3 k30
      else none
def lp_X12_empties_94 (n : Nat) (a0 : Nat) (c2 : Int32) (w3 : Int32) (M : KM) : Option KM := match n with
  | 0 => none
  | n + 1 =>
    if (8 : Int32) ≤ w3 then
      some M
    else
      if ix ((c2 + (66 : Int32)) + w3) 2810 then
      lt (uI M (a0 + 5) (((c2 + (66 : Int32)) + w3)).toNatClampNeg (-1 : Int32)) fun (M20 : KM) =>
      if ix ((c2 + (82 : Int32)) + w3) 2810 then
      lt (uI M20 (a0 + 5) (((c2 + (82 : Int32)) + w3)).toNatClampNeg (-1 : Int32)) fun (M22 : KM) =>
      lt (w3 + (1 : Int32)) fun (v23 : Int32) =>
      lp_X12_empties_94 n a0 c2 v23 M22
      else none
      else none
def f_X12_empties (n : Nat) (a0 : Nat) (p1 : Int32) (M : KM) : Option KM :=
  lt (((562 : Int32) * p1)) fun (v1 : Int32) =>
  lp_X12_empties_8 n a0 v1 (0 : Int32) M
    (fun (M6 : KM) => (
      if ix (v1 + (3 : Int32)) 2810 then
      lt (uI M6 (a0 + 5) ((v1 + (3 : Int32))).toNatClampNeg (10 : Int32)) fun (M8 : KM) =>
      if ix (v1 + (4 : Int32)) 2810 then
      lt (uI M8 (a0 + 5) ((v1 + (4 : Int32))).toNatClampNeg (16 : Int32)) fun (M10 : KM) =>
      if ix (v1 + (5 : Int32)) 2810 then
      lt (uI M10 (a0 + 5) ((v1 + (5 : Int32))).toNatClampNeg (480 : Int32)) fun (M12 : KM) =>
      if ix (v1 + (6 : Int32)) 2810 then
      lt (uI M12 (a0 + 5) ((v1 + (6 : Int32))).toNatClampNeg (9 : Int32)) fun (M14 : KM) =>
      if ix (v1 + (7 : Int32)) 2810 then
      lt (uI M14 (a0 + 5) ((v1 + (7 : Int32))).toNatClampNeg (3 : Int32)) fun (M16 : KM) =>
      if ix (v1 + (8 : Int32)) 2810 then
      lt (uI M16 (a0 + 5) ((v1 + (8 : Int32))).toNatClampNeg (4 : Int32)) fun (M18 : KM) =>
      lp_X12_empties_94 n a0 v1 (0 : Int32) M18
      else none
      else none
      else none
      else none
      else none
      else none
    ))
def f_X12_manyOf (n : Nat) (a0 : Nat) (p1 : Int32) (p2 : Int32) (M : KM) : Option Int32 :=
  if p2 = 0 then
    if ix (((562 : Int32) * p1) + (0 : Int32)) 2810 then
    some (M.1 (a0 + 5) ((((562 : Int32) * p1) + (0 : Int32))).toNatClampNeg)
    else none
  else
    if ix (((562 : Int32) * p1) + (2 : Int32)) 2810 then
    some (M.1 (a0 + 5) ((((562 : Int32) * p1) + (2 : Int32))).toNatClampNeg)
    else none
def lp_X12_named_2 (n : Nat) (a0 : Nat) (c1 : Int32) (c2 : Int32) (M : KM) (w3 : Int32) : Option Int32 := match n with
  | 0 => none
  | n + 1 =>
    (f_X12_manyOf n a0 c1 c2 M).bind fun (v1 : Int32) =>
    if v1 ≤ w3 then
      some (-1 : Int32)
    else
      if ix ((((16 : Int32) * c1) + ((8 : Int32) * c2)) + w3) 80 then
      if (lg_cmp (M.2.1 (a0 + 8) (((((16 : Int32) * c1) + ((8 : Int32) * c2)) + w3)).toNatClampNeg) (M.2.1 a0 19)) = 0 then
        some w3
      else
        lt (w3 + (1 : Int32)) fun (v3 : Int32) =>
        lp_X12_named_2 n a0 c1 c2 M v3
      else none
def f_X12_named (n : Nat) (a0 : Nat) (p1 : Int32) (p2 : Int32) (M : KM) : Option Int32 :=
  lp_X12_named_2 n a0 p1 p2 M (0 : Int32)
def f_X12_readNew (n : Nat) (a0 : Nat) (p1 : Int32) (M : KM) : Option (Int32 × KM) :=
  (f_X12_manyOf n a0 (4 : Int32) p1 M).bind fun (v1 : Int32) =>
  lt (fun (M2 : KM) => (
    if (M2.1 a0 12) ≤ 0 then
      (f_X12_advance n a0 M2).bind fun (v3 : KM) =>
      lt (f_X12_isName a0 v3) fun (v4 : Int32) =>
      lt (fun (M5 : KM) => (
        lt (fun (M6 : KM) => (
          if (M6.1 a0 12) ≤ 0 then
            if ix (((64 : Int32) + ((8 : Int32) * p1)) + v1) 80 then
            lt (uJ M6 (a0 + 8) ((((64 : Int32) + ((8 : Int32) * p1)) + v1)).toNatClampNeg (M6.2.1 a0 19)) fun (M8 : KM) =>
            (f_X12_advance n a0 M8).bind fun (v9 : KM) =>
            some (v1, v9)
            else none
          else
            some ((0 : Int32), M6)
        ) : KM → Option (Int32 × KM)) fun j81 =>
        if (M5.1 a0 12) = 0 then
          (f_X12_named n a0 (4 : Int32) (0 : Int32) M5).bind fun (v11 : Int32) =>
          lt ((
            lt (f_X12_fail a0 (3 : Int32) (M5.1 a0 15) M5) fun (v12 : KM) =>
            j81 v12
          ) : Option (Int32 × KM)) fun j72 =>
          if 0 ≤ v11 then
            j72
          else
            (f_X12_named n a0 (4 : Int32) (1 : Int32) M5).bind fun (v13 : Int32) =>
            if v13 < 0 then
              j81 M5
            else
              j72
        else
          j81 M5
      ) : KM → Option (Int32 × KM)) fun j47 =>
      if v4 = 0 then
        lt (f_X12_amiss a0 v3) fun (v17 : KM) =>
        j47 v17
      else
        j47 v3
    else
      some ((0 : Int32), M2)
  ) : KM → Option (Int32 × KM)) fun j23 =>
  if v1 = (8 : Int32) then
    lt (f_X12_fail a0 (6 : Int32) (M.1 a0 15) M) fun (v20 : KM) =>
    j23 v20
  else
    j23 M
def f_X12_told (n : Nat) (a0 : Nat) (p1 : Int32) (p2 : Int32) (M : KM) : Option (Int32 × KM) :=
  lt (fun (M1 : KM) => (
    if (M1.1 a0 12) ≤ 0 then
      (f_X12_named n a0 p1 p2 M1).bind fun (v2 : Int32) =>
      lt (fun (M3 : KM) => (
        lt ((if (0 : Int32) < v2 then v2 else (0 : Int32))) fun (v4 : Int32) =>
        some (v4, M3)
      ) : KM → Option (Int32 × KM)) fun j47 =>
      if 0 ≤ v2 then
        j47 M1
      else
        lt (f_X12_fail a0 (3 : Int32) (M1.1 a0 15) M1) fun (v5 : KM) =>
        j47 v5
    else
      some ((0 : Int32), M1)
  ) : KM → Option (Int32 × KM)) fun j18 =>
  if (M.1 a0 12) = 0 then
    lt (f_X12_isName a0 M) fun (v8 : Int32) =>
    if v8 = 0 then
      lt (f_X12_amiss a0 M) fun (v9 : KM) =>
      j18 v9
    else
      j18 M
  else
    j18 M
def f_X12_readTold (n : Nat) (a0 : Nat) (p1 : Int32) (p2 : Int32) (M : KM) : Option (Int32 × KM) :=
  (f_X12_told n a0 p1 p2 M).bind fun (v1 : (Int32 × KM)) =>
  (f_X12_must n a0 (1 : Int32) v1.2).bind fun (v2 : KM) =>
  some (v1.1, v2)
def f_X12_isOnce (n : Nat) (a0 : Nat) (p1 : Int32) (M : KM) : Option (Int32 × KM) :=
  lt (f_X12_has (M.1 a0 25) p1 M) fun (v1 : Int32) =>
  lt (fun (M2 : KM) => (
    if (M2.1 a0 12) ≤ 0 then
      lt (uI M2 a0 25 ((M2.1 a0 25) ||| ((1 : Int32) <<< (p1 &&& 31)))) fun (M3 : KM) =>
      (f_X12_advance n a0 M3).bind fun (v4 : KM) =>
      some ((1 : Int32), v4)
    else
      some ((0 : Int32), M2)
  ) : KM → Option (Int32 × KM)) fun j20 =>
  if v1 = 0 then
    j20 M
  else
    lt (f_X12_fail a0 (5 : Int32) (M.1 a0 15) M) fun (v6 : KM) =>
    j20 v6
def f_X12_readGlare (n : Nat) (a0 : Nat) (M : KM) : Option KM :=
  (f_X12_isOnce n a0 (0 : Int32) M).bind fun (v1 : (Int32 × KM)) =>
  if v1.1 = 0 then
    some v1.2
  else
    (f_X12_count n a0 (0 : Int32) (23 : Int32) v1.2).bind fun (v2 : (Int32 × KM)) =>
    lt (f_X12_isTo a0 v2.2) fun (v3 : Int32) =>
    (f_X12_must n a0 v3 v2.2).bind fun (v4 : KM) =>
    (f_X12_count n a0 (v2.1 + (1 : Int32)) (24 : Int32) v4).bind fun (v5 : (Int32 × KM)) =>
    if ix (2251 : Int32) 2810 then
    lt (uI v5.2 (a0 + 5) ((2251 : Int32)).toNatClampNeg v2.1) fun (M7 : KM) =>
    if ix (2252 : Int32) 2810 then
    lt (uI M7 (a0 + 5) ((2252 : Int32)).toNatClampNeg v5.1) fun (M9 : KM) =>
    some M9
    else none
    else none
def f_X12_readOnce (n : Nat) (a0 : Nat) (p1 : Int32) (p2 : Int32) (p3 : Int32) (p4 : Int32) (M : KM) : Option KM :=
  (f_X12_isOnce n a0 p1 M).bind fun (v1 : (Int32 × KM)) =>
  if v1.1 = 0 then
    some v1.2
  else
    (f_X12_count n a0 p3 p4 v1.2).bind fun (v2 : (Int32 × KM)) =>
    if ix ((2248 : Int32) + p2) 2810 then
    lt (uI v2.2 (a0 + 5) (((2248 : Int32) + p2)).toNatClampNeg v2.1) fun (M4 : KM) =>
    some M4
    else none
def f_X12_readHabit (n : Nat) (a0 : Nat) (M : KM) : Option KM :=
  lt (fun (M1 : KM) => (
    (f_X12_readOnce n a0 (3 : Int32) (7 : Int32) (1 : Int32) (9 : Int32) M1).bind fun (v2 : KM) =>
    some v2
  ) : KM → Option KM) fun j16 =>
  if (M.1 a0 26) = 0 then
    j16 M
  else
    lt (f_X12_fail a0 (5 : Int32) (M.1 a0 15) M) fun (v3 : KM) =>
    j16 v3
def f_X12_readPlace (n : Nat) (a0 : Nat) (M : KM) : Option KM :=
  (f_X12_readNew n a0 (0 : Int32) M).bind fun (v1 : (Int32 × KM)) =>
  if (v1.2.1 a0 12) = 0 then
    if ix (2248 : Int32) 2810 then
    if ix (2248 : Int32) 2810 then
    lt (uI v1.2 (a0 + 5) ((2248 : Int32)).toNatClampNeg ((v1.2.1 (a0 + 5) ((2248 : Int32)).toNatClampNeg) + (1 : Int32))) fun (M4 : KM) =>
    some M4
    else none
    else none
  else
    some v1.2
def lp_X12_roadBy_10 (n : Nat) (a0 : Nat) (c2 : Int32) (c3 : Int32) (c4 : Int32) (M : KM) (w5 : Int32) : Option Int32 := match n with
  | 0 => none
  | n + 1 =>
    if ix (c4 + (1 : Int32)) 2810 then
    if (M.1 (a0 + 5) ((c4 + (1 : Int32))).toNatClampNeg) ≤ w5 then
      some (-1 : Int32)
    else
      if ix ((c4 + (10 : Int32)) + w5) 2810 then
      lt ((
        if ix ((c4 + (10 : Int32)) + w5) 2810 then
        lt ((
          lt (w5 + (1 : Int32)) fun (v5 : Int32) =>
          lp_X12_roadBy_10 n a0 c2 c3 c4 M v5
        ) : Option Int32) fun j95 =>
        if (M.1 (a0 + 5) (((c4 + (10 : Int32)) + w5)).toNatClampNeg) = c3 then
          if ix ((c4 + (22 : Int32)) + w5) 2810 then
          if (M.1 (a0 + 5) (((c4 + (22 : Int32)) + w5)).toNatClampNeg) = c2 then
            some w5
          else
            j95
          else none
        else
          j95
        else none
      ) : Option Int32) fun j58 =>
      if (M.1 (a0 + 5) (((c4 + (10 : Int32)) + w5)).toNatClampNeg) = c2 then
        if ix ((c4 + (22 : Int32)) + w5) 2810 then
        if (M.1 (a0 + 5) (((c4 + (22 : Int32)) + w5)).toNatClampNeg) = c3 then
          some w5
        else
          j58
        else none
      else
        j58
      else none
    else none
def f_X12_roadBy (n : Nat) (a0 : Nat) (p1 : Int32) (p2 : Int32) (p3 : Int32) (M : KM) : Option Int32 :=
  lt (((562 : Int32) * p1)) fun (v1 : Int32) =>
  lp_X12_roadBy_10 n a0 p2 p3 v1 M (0 : Int32)
def f_X12_readRoad (n : Nat) (a0 : Nat) (M : KM) : Option KM :=
  if ix (2249 : Int32) 2810 then
  lt ((M.1 (a0 + 5) ((2249 : Int32)).toNatClampNeg)) fun (v2 : Int32) =>
  lt (fun (M3 : KM) => (
    if (M3.1 a0 12) ≤ 0 then
      (f_X12_advance n a0 M3).bind fun (v4 : KM) =>
      (f_X12_readTold n a0 (4 : Int32) (0 : Int32) v4).bind fun (v5 : (Int32 × KM)) =>
      (f_X12_told n a0 (4 : Int32) (0 : Int32) v5.2).bind fun (v6 : (Int32 × KM)) =>
      lt (fun (M7 : KM) => (
        (f_X12_must n a0 (1 : Int32) M7).bind fun (v8 : KM) =>
        lt (f_X12_isMinutes a0 v8) fun (v9 : Int32) =>
        (f_X12_must n a0 v9 v8).bind fun (v10 : KM) =>
        if ix ((2258 : Int32) + v2) 2810 then
        lt (uI v10 (a0 + 5) (((2258 : Int32) + v2)).toNatClampNeg v5.1) fun (M12 : KM) =>
        if ix ((2270 : Int32) + v2) 2810 then
        lt (uI M12 (a0 + 5) (((2270 : Int32) + v2)).toNatClampNeg v6.1) fun (M14 : KM) =>
        (f_X12_count n a0 (1 : Int32) (99 : Int32) M14).bind fun (v15 : (Int32 × KM)) =>
        if ix ((2282 : Int32) + v2) 2810 then
        lt (uI v15.2 (a0 + 5) (((2282 : Int32) + v2)).toNatClampNeg v15.1) fun (M17 : KM) =>
        lt (f_X12_isSmells a0 M17) fun (v18 : Int32) =>
        (f_X12_perhaps n a0 v18 M17).bind fun (v19 : (Int32 × KM)) =>
        lt (fun (M20 : KM) => (
          if (M20.1 a0 12) = 0 then
            if ix (2249 : Int32) 2810 then
            if ix (2249 : Int32) 2810 then
            lt (uI M20 (a0 + 5) ((2249 : Int32)).toNatClampNeg ((M20.1 (a0 + 5) ((2249 : Int32)).toNatClampNeg) + (1 : Int32))) fun (M23 : KM) =>
            some M23
            else none
            else none
          else
            some M20
        ) : KM → Option KM) fun j156 =>
        if v19.1 = 0 then
          j156 v19.2
        else
          if ix ((2294 : Int32) + v2) 2810 then
          lt (uI v19.2 (a0 + 5) (((2294 : Int32) + v2)).toNatClampNeg (1 : Int32)) fun (M26 : KM) =>
          j156 M26
          else none
        else none
        else none
        else none
      ) : KM → Option KM) fun j82 =>
      if (v6.2.1 a0 12) = 0 then
        lt ((
          lt (f_X12_fail a0 (5 : Int32) (v6.2.1 a0 15) v6.2) fun (v28 : KM) =>
          j82 v28
        ) : Option KM) fun j73 =>
        if v5.1 = v6.1 then
          j73
        else
          (f_X12_roadBy n a0 (4 : Int32) v5.1 v6.1 v6.2).bind fun (v29 : Int32) =>
          if v29 < 0 then
            j82 v6.2
          else
            j73
      else
        j82 v6.2
    else
      some M3
  ) : KM → Option KM) fun j25 =>
  if v2 = (12 : Int32) then
    lt (f_X12_fail a0 (6 : Int32) (M.1 a0 15) M) fun (v34 : KM) =>
    j25 v34
  else
    j25 M
  else none
def f_X12_readPerson (n : Nat) (a0 : Nat) (p1 : Int32) (M : KM) : Option KM :=
  (f_X12_readNew n a0 (1 : Int32) M).bind fun (v1 : (Int32 × KM)) =>
  lt (f_X12_testWord a0 v1.2) fun (v2 : Int32) =>
  lt (fun (x3 : Int32) => (
    (f_X12_must n a0 x3 v1.2).bind fun (v4 : KM) =>
    (f_X12_readTold n a0 (4 : Int32) (0 : Int32) v4).bind fun (v5 : (Int32 × KM)) =>
    if ix ((2306 : Int32) + v1.1) 2810 then
    lt (uI v5.2 (a0 + 5) (((2306 : Int32) + v1.1)).toNatClampNeg v5.1) fun (M7 : KM) =>
    lt (fun (M8 : KM) => (
      if (M8.1 a0 12) = 0 then
        if ix (2250 : Int32) 2810 then
        if ix (2250 : Int32) 2810 then
        lt (uI M8 (a0 + 5) ((2250 : Int32)).toNatClampNeg ((M8.1 (a0 + 5) ((2250 : Int32)).toNatClampNeg) + (1 : Int32))) fun (M11 : KM) =>
        some M11
        else none
        else none
      else
        some M8
    ) : KM → Option KM) fun j78 =>
    if p1 = 0 then
      lt (f_X12_isGlasses a0 M7) fun (v13 : Int32) =>
      (f_X12_perhaps n a0 v13 M7).bind fun (v14 : (Int32 × KM)) =>
      if v14.1 = 0 then
        j78 v14.2
      else
        if ix ((2346 : Int32) + v1.1) 2810 then
        lt (uI v14.2 (a0 + 5) (((2346 : Int32) + v1.1)).toNatClampNeg (1 : Int32)) fun (M16 : KM) =>
        j78 M16
        else none
    else
      if ix ((2354 : Int32) + v1.1) 2810 then
      lt (uI M7 (a0 + 5) (((2354 : Int32) + v1.1)).toNatClampNeg (1 : Int32)) fun (M19 : KM) =>
      j78 M19
      else none
    else none
  ) : Int32 → Option KM) fun j19 =>
  if v2 = 0 then
    j19 (1 : Int32)
  else
    j19 (0 : Int32)
def f_X12_readKnows (n : Nat) (a0 : Nat) (M : KM) : Option KM :=
  (f_X12_advance n a0 M).bind fun (v1 : KM) =>
  lt (uI v1 a0 26 (1 : Int32)) fun (M2 : KM) =>
  (f_X12_readTold n a0 (4 : Int32) (1 : Int32) M2).bind fun (v3 : (Int32 × KM)) =>
  (f_X12_readTold n a0 (4 : Int32) (0 : Int32) v3.2).bind fun (v4 : (Int32 × KM)) =>
  (f_X12_told n a0 (4 : Int32) (0 : Int32) v4.2).bind fun (v5 : (Int32 × KM)) =>
  lt (fun (x6 : Int32) => (
    lt (fun (M7 : KM) => (
      (f_X12_must n a0 (1 : Int32) M7).bind fun (v8 : KM) =>
      if (v8.1 a0 12) = 0 then
        if ix (2255 : Int32) 2810 then
        if ix (((2378 : Int32) + ((12 : Int32) * v3.1)) + x6) 2810 then
        lt (uI v8 (a0 + 5) ((((2378 : Int32) + ((12 : Int32) * v3.1)) + x6)).toNatClampNeg (v8.1 (a0 + 5) ((2255 : Int32)).toNatClampNeg)) fun (M11 : KM) =>
        some M11
        else none
        else none
      else
        some v8
    ) : KM → Option KM) fun j64 =>
    if 0 ≤ x6 then
      j64 v5.2
    else
      lt (f_X12_fail a0 (3 : Int32) (v5.2.1 a0 15) v5.2) fun (v13 : KM) =>
      j64 v13
  ) : Int32 → Option KM) fun j48 =>
  if (v5.2.1 a0 12) = 0 then
    (f_X12_roadBy n a0 (4 : Int32) v4.1 v5.1 v5.2).bind fun (v15 : Int32) =>
    j48 v15
  else
    j48 (0 : Int32)
def f_X12_readPart (n : Nat) (a0 : Nat) (M : KM) : Option KM :=
  lt (f_X12_testWord a0 M) fun (v1 : Int32) =>
  if v1 = (1 : Int32) then
    (f_X12_readGlare n a0 M).bind fun (v30 : KM) =>
    some v30
  else
    lt (f_X12_isClock a0 M) fun (v2 : Int32) =>
    if v2 = 0 then
      lt (f_X12_isRope a0 M) fun (v3 : Int32) =>
      if v3 = 0 then
        lt (f_X12_isHabit a0 M) fun (v4 : Int32) =>
        if v4 = 0 then
          lt (f_X12_isOdds a0 M) fun (v5 : Int32) =>
          if v5 = 0 then
            lt (f_X12_isPlace a0 M) fun (v6 : Int32) =>
            if v6 = 0 then
              lt (f_X12_isRoad a0 M) fun (v7 : Int32) =>
              if v7 = 0 then
                lt (f_X12_isSighted a0 M) fun (v8 : Int32) =>
                if v8 = 0 then
                  lt (f_X12_isBlind a0 M) fun (v9 : Int32) =>
                  if v9 = 0 then
                    lt (f_X12_isKnows a0 M) fun (v10 : Int32) =>
                    if v10 = 0 then
                      lt (f_X12_amiss a0 M) fun (v11 : KM) =>
                      some v11
                    else
                      (f_X12_readKnows n a0 M).bind fun (v12 : KM) =>
                      some v12
                  else
                    (f_X12_readPerson n a0 (1 : Int32) M).bind fun (v14 : KM) =>
                    some v14
                else
                  (f_X12_readPerson n a0 (0 : Int32) M).bind fun (v16 : KM) =>
                  some v16
              else
                (f_X12_readRoad n a0 M).bind fun (v18 : KM) =>
                some v18
            else
              (f_X12_readPlace n a0 M).bind fun (v20 : KM) =>
              some v20
          else
            (f_X12_readOnce n a0 (4 : Int32) (8 : Int32) (0 : Int32) (16 : Int32) M).bind fun (v22 : KM) =>
            some v22
        else
          (f_X12_readHabit n a0 M).bind fun (v24 : KM) =>
          some v24
      else
        (f_X12_readOnce n a0 (2 : Int32) (6 : Int32) (1 : Int32) (9 : Int32) M).bind fun (v26 : KM) =>
        some v26
    else
      (f_X12_readOnce n a0 (1 : Int32) (5 : Int32) (0 : Int32) (1439 : Int32) M).bind fun (v28 : KM) =>
      some v28
def lp_X12_copy_2 (n : Nat) (a0 : Nat) (c1 : Int32) (c2 : Int32) (w3 : Int32) (M : KM) (k39 : KM → Option KM) : Option KM := match n with
  | 0 => none
  | n + 1 =>
    if (562 : Int32) ≤ w3 then
      k39 M
    else
      if ix (((562 : Int32) * c1) + w3) 2810 then
      if ix (((562 : Int32) * c2) + w3) 2810 then
      lt (uI M (a0 + 5) ((((562 : Int32) * c2) + w3)).toNatClampNeg (M.1 (a0 + 5) ((((562 : Int32) * c1) + w3)).toNatClampNeg)) fun (M3 : KM) =>
      lt (w3 + (1 : Int32)) fun (v4 : Int32) =>
      lp_X12_copy_2 n a0 c1 c2 v4 M3 k39
      else none
      else none
def lp_X12_copy_41 (n : Nat) (a0 : Nat) (c1 : Int32) (c2 : Int32) (w3 : Int32) (M : KM) : Option KM := match n with
  | 0 => none
  | n + 1 =>
    if (16 : Int32) ≤ w3 then
      some M
    else
      if ix (((16 : Int32) * c1) + w3) 80 then
      if ix (((16 : Int32) * c2) + w3) 80 then
      lt (uJ M (a0 + 8) ((((16 : Int32) * c2) + w3)).toNatClampNeg (M.2.1 (a0 + 8) ((((16 : Int32) * c1) + w3)).toNatClampNeg)) fun (M9 : KM) =>
      lt (w3 + (1 : Int32)) fun (v10 : Int32) =>
      lp_X12_copy_41 n a0 c1 c2 v10 M9
      else none
      else none
def f_X12_copy (n : Nat) (a0 : Nat) (p1 : Int32) (p2 : Int32) (M : KM) : Option KM :=
  lp_X12_copy_2 n a0 p1 p2 (0 : Int32) M
    (fun (M6 : KM) => (
      lp_X12_copy_41 n a0 p1 p2 (0 : Int32) M6
    ))
def lp_X12_land_38 (n : Nat) (a0 : Nat) (M : KM) (k69 : KM → Option (Int32 × KM)) : Option (Int32 × KM) := match n with
  | 0 => none
  | n + 1 =>
    if (M.1 a0 12) = 0 then
      if (M.1 a0 14) = 0 then
        k69 M
      else
        (f_X12_readPart n a0 M).bind fun (v7 : KM) =>
        lt (f_X12_isSign a0 (59 : Int32) v7) fun (v8 : Int32) =>
        (f_X12_must n a0 v8 v7).bind fun (v9 : KM) =>
        lp_X12_land_38 n a0 v9 k69
    else
      k69 M
def f_X12_land (n : Nat) (a0 : Nat) (p1 : Int32) (M : KM) : Option (Int32 × KM) :=
  lt (uI M a0 1 (0 : Int32)) fun (M1 : KM) =>
  lt (uI M1 a0 0 (0 : Int32)) fun (M2 : KM) =>
  (f_X12_starts n a0 p1 (900 : Int32) M2).bind fun (v3 : (Int32 × KM)) =>
  if v3.1 = 0 then
    some ((-1 : Int32), v3.2)
  else
    (f_X12_empties n a0 (4 : Int32) v3.2).bind fun (v4 : KM) =>
    lt (uI v4 a0 25 (0 : Int32)) fun (M5 : KM) =>
    lt (uI M5 a0 26 (0 : Int32)) fun (M6 : KM) =>
    lp_X12_land_38 n a0 M6
      (fun (M12 : KM) => (
        lt (f_X12_isWell a0 M12) fun (v13 : (Int32 × KM)) =>
        if v13.1 = 0 then
          some ((-1 : Int32), v13.2)
        else
          (f_X12_copy n a0 (4 : Int32) (0 : Int32) v13.2).bind fun (v14 : KM) =>
          if ix (2 : Int32) 2810 then
          some ((v14.1 (a0 + 5) ((2 : Int32)).toNatClampNeg), v14)
          else none
      ))
def f_X12_readMany (n : Nat) (a0 : Nat) (p1 : Int32) (M : KM) : Option KM :=
  if (M.1 a0 12) ≤ 0 then
    lt (fun (x1 : Int32) => (
      if ix (p1 + (7 : Int32)) 2810 then
      lt (uI M (a0 + 5) ((p1 + (7 : Int32))).toNatClampNeg x1) fun (M3 : KM) =>
      lt (f_X12_isSign a0 (60 : Int32) M3) fun (v4 : Int32) =>
      lt (fun (x5 : Int32) => (
        (f_X12_must n a0 x5 M3).bind fun (v6 : KM) =>
        (f_X12_count n a0 (0 : Int32) (9999 : Int32) v6).bind fun (v7 : (Int32 × KM)) =>
        if ix (p1 + (2 : Int32)) 2810 then
        lt (uI v7.2 (a0 + 5) ((p1 + (2 : Int32))).toNatClampNeg v7.1) fun (M9 : KM) =>
        some M9
        else none
      ) : Int32 → Option KM) fun j66 =>
      lt ((
        j66 (1 : Int32)
      ) : Option KM) fun j61 =>
      if v4 = 0 then
        lt (f_X12_isSign a0 (62 : Int32) M3) fun (v10 : Int32) =>
        if v10 = 0 then
          lt (f_X12_isSign a0 (61 : Int32) M3) fun (v11 : Int32) =>
          if v11 = 0 then
            j66 (0 : Int32)
          else
            j61
        else
          j61
      else
        j61
      else none
    ) : Int32 → Option KM) fun j32 =>
    if (M.1 a0 14) = (3 : Int32) then
      j32 (M.1 a0 17)
    else
      j32 (0 : Int32)
  else
    some M
def f_X12_readTest (n : Nat) (a0 : Nat) (p1 : Int32) (M : KM) : Option KM :=
  lt (f_X12_testWord a0 M) fun (v1 : Int32) =>
  lt (fun (x2 : Int32) => (
    (f_X12_must n a0 x2 M).bind fun (v3 : KM) =>
    if ix (p1 + (6 : Int32)) 2810 then
    lt (uI v3 (a0 + 5) ((p1 + (6 : Int32))).toNatClampNeg v1) fun (M5 : KM) =>
    if 0 < (M5.1 a0 12) then
      some M5
    else
      if v1 = (1 : Int32) then
        some M5
      else
        (f_X12_readTold n a0 (0 : Int32) (1 : Int32) M5).bind fun (v6 : (Int32 × KM)) =>
        if ix (p1 + (1 : Int32)) 2810 then
        lt (uI v6.2 (a0 + 5) ((p1 + (1 : Int32))).toNatClampNeg v6.1) fun (M8 : KM) =>
        if v1 = 0 then
          (f_X12_readTold n a0 (0 : Int32) (0 : Int32) M8).bind fun (v10 : (Int32 × KM)) =>
          if ix (p1 + (2 : Int32)) 2810 then
          lt (uI v10.2 (a0 + 5) ((p1 + (2 : Int32))).toNatClampNeg v10.1) fun (M12 : KM) =>
          some M12
          else none
        else
          (f_X12_readMany n a0 p1 M8).bind fun (v9 : KM) =>
          some v9
        else none
    else none
  ) : Int32 → Option KM) fun j15 =>
  if v1 < 0 then
    j15 (0 : Int32)
  else
    j15 (1 : Int32)
def f_X12_readOther (n : Nat) (a0 : Nat) (p1 : Int32) (M : KM) : Option (Int32 × KM) :=
  (f_X12_told n a0 (0 : Int32) (1 : Int32) M).bind fun (v1 : (Int32 × KM)) =>
  lt (fun (M2 : KM) => (
    (f_X12_must n a0 (1 : Int32) M2).bind fun (v3 : KM) =>
    some (v1.1, v3)
  ) : KM → Option (Int32 × KM)) fun j28 =>
  if (v1.2.1 a0 12) = 0 then
    if p1 = v1.1 then
      lt (f_X12_fail a0 (5 : Int32) (v1.2.1 a0 15) v1.2) fun (v4 : KM) =>
      j28 v4
    else
      j28 v1.2
  else
    j28 v1.2
def f_X12_readRest (n : Nat) (a0 : Nat) (p1 : Int32) (M : KM) : Option KM :=
  if ix p1 2810 then
  lt ((M.1 (a0 + 5) (p1).toNatClampNeg)) fun (v2 : Int32) =>
  lt (fun (M3 : KM) => (
    lt (fun (M4 : KM) => (
      lt ((
        (f_X12_readTold n a0 (0 : Int32) (0 : Int32) M4).bind fun (v5 : (Int32 × KM)) =>
        if ix (p1 + (2 : Int32)) 2810 then
        lt (uI v5.2 (a0 + 5) ((p1 + (2 : Int32))).toNatClampNeg v5.1) fun (M7 : KM) =>
        some M7
        else none
      ) : Option KM) fun j122 =>
      if v2 = (1 : Int32) then
        j122
      else
        if v2 = (2 : Int32) then
          j122
        else
          some M4
    ) : KM → Option KM) fun j112 =>
    if v2 = (2 : Int32) then
      if ix (p1 + (1 : Int32)) 2810 then
      (f_X12_readOther n a0 (M3.1 (a0 + 5) ((p1 + (1 : Int32))).toNatClampNeg) M3).bind fun (v11 : (Int32 × KM)) =>
      if ix (p1 + (3 : Int32)) 2810 then
      lt (uI v11.2 (a0 + 5) ((p1 + (3 : Int32))).toNatClampNeg v11.1) fun (M13 : KM) =>
      j112 M13
      else none
      else none
    else
      j112 M3
  ) : KM → Option KM) fun j87 =>
  if v2 = 0 then
    (f_X12_count n a0 (1 : Int32) (600 : Int32) M).bind fun (v25 : (Int32 × KM)) =>
    if ix (p1 + (1 : Int32)) 2810 then
    lt (uI v25.2 (a0 + 5) ((p1 + (1 : Int32))).toNatClampNeg v25.1) fun (M27 : KM) =>
    j87 M27
    else none
  else
    if v2 = (7 : Int32) then
      (f_X12_count n a0 (1 : Int32) (99 : Int32) M).bind fun (v21 : (Int32 × KM)) =>
      if ix (p1 + (1 : Int32)) 2810 then
      lt (uI v21.2 (a0 + 5) ((p1 + (1 : Int32))).toNatClampNeg v21.1) fun (M23 : KM) =>
      j87 M23
      else none
    else
      if v2 = (6 : Int32) then
        (f_X12_readTest n a0 p1 M).bind fun (v19 : KM) =>
        j87 v19
      else
        if (3 : Int32) ≤ v2 then
          j87 M
        else
          (f_X12_readTold n a0 (0 : Int32) (1 : Int32) M).bind fun (v15 : (Int32 × KM)) =>
          if ix (p1 + (1 : Int32)) 2810 then
          lt (uI v15.2 (a0 + 5) ((p1 + (1 : Int32))).toNatClampNeg v15.1) fun (M17 : KM) =>
          j87 M17
          else none
  else none
def lp_X12_readStep_142 (n : Nat) (r_X12_readStep : Int32 → KM → Option KM) (a0 : Nat) (c1 : Int32) (c3 : Int32) (c4 : Int32) (M : KM) (k170 : KM → Option KM) : Option KM := match n with
  | 0 => none
  | n + 1 =>
    if c3 = 0 then
      k170 M
    else
      if (M.1 a0 12) = 0 then
        lt (f_X12_isEnd a0 M) fun (v14 : Int32) =>
        if v14 = 0 then
          (r_X12_readStep (c1 + (1 : Int32)) M).bind fun (v15 : KM) =>
          lp_X12_readStep_142 n r_X12_readStep a0 c1 c3 c4 v15 k170
        else
          k170 M
      else
        k170 M
def f_X12_readStep_G (r_X12_readStep : Int32 → KM → Option KM) (n : Nat) (a0 : Nat) (p1 : Int32) (M : KM) : Option KM :=
  lt (f_X12_stepWord a0 M) fun (v1 : Int32) =>
  lt (fun (x2 : Int32) => (
    lt (fun (M3 : KM) => (
      lt (fun (M4 : KM) => (
        lt (fun (M5 : KM) => (
          if (M5.1 a0 12) ≤ 0 then
            lt (((2540 : Int32) + ((9 : Int32) * (M5.1 a0 27)))) fun (v6 : Int32) =>
            lt (uI M5 a0 27 ((M5.1 a0 27) + (1 : Int32))) fun (M7 : KM) =>
            (f_X12_advance n a0 M7).bind fun (v8 : KM) =>
            if ix v6 2810 then
            lt (uI v8 (a0 + 5) (v6).toNatClampNeg v1) fun (M10 : KM) =>
            (f_X12_readRest n a0 v6 M10).bind fun (v11 : KM) =>
            lt (f_X12_isSign a0 (59 : Int32) v11) fun (v12 : Int32) =>
            (f_X12_must n a0 v12 v11).bind fun (v13 : KM) =>
            lp_X12_readStep_142 n r_X12_readStep a0 p1 x2 v6 v13
              (fun (M19 : KM) => (
                lt (fun (M20 : KM) => (
                  if ix (v6 + (8 : Int32)) 2810 then
                  lt (uI M20 (a0 + 5) ((v6 + (8 : Int32))).toNatClampNeg (M20.1 a0 27)) fun (M22 : KM) =>
                  some M22
                  else none
                ) : KM → Option KM) fun j192 =>
                if x2 = 0 then
                  j192 M19
                else
                  lt (f_X12_isEnd a0 M19) fun (v23 : Int32) =>
                  (f_X12_must n a0 v23 M19).bind fun (v24 : KM) =>
                  lt (f_X12_isSign a0 (59 : Int32) v24) fun (v25 : Int32) =>
                  (f_X12_must n a0 v25 v24).bind fun (v26 : KM) =>
                  j192 v26
              ))
            else none
          else
            some M5
        ) : KM → Option KM) fun j83 =>
        if (M4.1 a0 12) = 0 then
          if x2 = 0 then
            j83 M4
          else
            if p1 = (3 : Int32) then
              lt (f_X12_fail a0 (7 : Int32) (M4.1 a0 15) M4) fun (v29 : KM) =>
              j83 v29
            else
              j83 M4
        else
          j83 M4
      ) : KM → Option KM) fun j57 =>
      if (M3.1 a0 12) = 0 then
        if (M3.1 a0 27) = (30 : Int32) then
          lt (f_X12_fail a0 (6 : Int32) (M3.1 a0 15) M3) fun (v33 : KM) =>
          j57 v33
        else
          j57 M3
      else
        j57 M3
    ) : KM → Option KM) fun j31 =>
    if 0 ≤ v1 then
      j31 M
    else
      lt (f_X12_amiss a0 M) fun (v36 : KM) =>
      j31 v36
  ) : Int32 → Option KM) fun j22 =>
  lt ((
    j22 (1 : Int32)
  ) : Option KM) fun j17 =>
  if v1 = (6 : Int32) then
    j17
  else
    if v1 = (7 : Int32) then
      j17
    else
      j22 (0 : Int32)
def rs_X12 : Nat → Nat → Nat → Int32 → KM → Option KM
  | 0, _, _, _, _ => none
  | e + 1, n, a0, p1, M => f_X12_readStep_G (fun q M => rs_X12 e n a0 q M) n a0 p1 M
def f_X12_readStep (n : Nat) (a0 : Nat) (p1 : Int32) (M : KM) : Option KM := rs_X12 8 n a0 p1 M
def lp_X12_days_28 (n : Nat) (a0 : Nat) (M : KM) (k50 : KM → Option (Int32 × KM)) : Option (Int32 × KM) := match n with
  | 0 => none
  | n + 1 =>
    if (M.1 a0 12) = 0 then
      if (M.1 a0 14) = 0 then
        k50 M
      else
        (f_X12_readStep n a0 (0 : Int32) M).bind fun (v5 : KM) =>
        lp_X12_days_28 n a0 v5 k50
    else
      k50 M
def lp_X12_days_82 (n : Nat) (a0 : Nat) (w2 : Int32) (M : KM) : Option (Int32 × KM) := match n with
  | 0 => none
  | n + 1 =>
    if ((9 : Int32) * (M.1 a0 27)) ≤ w2 then
      some ((M.1 a0 27), M)
    else
      if ix ((2540 : Int32) + w2) 2810 then
      if ix ((292 : Int32) + w2) 2810 then
      lt (uI M (a0 + 5) (((292 : Int32) + w2)).toNatClampNeg (M.1 (a0 + 5) (((2540 : Int32) + w2)).toNatClampNeg)) fun (M16 : KM) =>
      lt (w2 + (1 : Int32)) fun (v17 : Int32) =>
      lp_X12_days_82 n a0 v17 M16
      else none
      else none
def f_X12_days (n : Nat) (a0 : Nat) (p1 : Int32) (M : KM) : Option (Int32 × KM) :=
  lt (uI M a0 1 (0 : Int32)) fun (M1 : KM) =>
  lt (uI M1 a0 0 (0 : Int32)) fun (M2 : KM) =>
  (f_X12_starts n a0 p1 (300 : Int32) M2).bind fun (v3 : (Int32 × KM)) =>
  if v3.1 = 0 then
    some ((-1 : Int32), v3.2)
  else
    lt (uI v3.2 a0 27 (0 : Int32)) fun (M4 : KM) =>
    lp_X12_days_28 n a0 M4
      (fun (M8 : KM) => (
        lt (f_X12_isWell a0 M8) fun (v9 : (Int32 × KM)) =>
        if v9.1 = 0 then
          some ((-1 : Int32), v9.2)
        else
          if ix (290 : Int32) 2810 then
          lt (uI v9.2 (a0 + 5) ((290 : Int32)).toNatClampNeg (1 : Int32)) fun (M11 : KM) =>
          if ix (291 : Int32) 2810 then
          lt (uI M11 (a0 + 5) ((291 : Int32)).toNatClampNeg (M11.1 a0 27)) fun (M13 : KM) =>
          lp_X12_days_82 n a0 (0 : Int32) M13
          else none
          else none
      ))
def f_X12_isPlaceAt (n : Nat) (a0 : Nat) (p1 : Int32) (M : KM) : Option Int32 :=
  if ix (0 : Int32) 2810 then
  lt (f_X12_isIn (p1).toInt64 (0 : Int64) (((M.1 (a0 + 5) ((0 : Int32)).toNatClampNeg) - (1 : Int32))).toInt64 M) fun (v2 : Int32) =>
  some v2
  else none
def f_X12_isRoadAt (n : Nat) (a0 : Nat) (p1 : Int32) (M : KM) : Option Int32 :=
  if ix (1 : Int32) 2810 then
  lt (f_X12_isIn (p1).toInt64 (0 : Int64) (((M.1 (a0 + 5) ((1 : Int32)).toNatClampNeg) - (1 : Int32))).toInt64 M) fun (v2 : Int32) =>
  some v2
  else none
def f_X12_isPerson (n : Nat) (a0 : Nat) (p1 : Int32) (M : KM) : Option Int32 :=
  if ix (2 : Int32) 2810 then
  lt (f_X12_isIn (p1).toInt64 (0 : Int64) (((M.1 (a0 + 5) ((2 : Int32)).toNatClampNeg) - (1 : Int32))).toInt64 M) fun (v2 : Int32) =>
  some v2
  else none
def f_X12_isGoing (n : Nat) (a0 : Nat) (p1 : Int32) (M : KM) : Option Int32 :=
  if ix ((66 : Int32) + p1) 2810 then
  if (M.1 (a0 + 5) (((66 : Int32) + p1)).toNatClampNeg) < 0 then
    some (0 : Int32)
  else
    some (1 : Int32)
  else none
def f_X12_glares (n : Nat) (a0 : Nat) (p1 : Int32) (M : KM) : Option Int32 :=
  lt (((p1 / (60 : Int32)) - (p1 / (60 : Int32)) / (24 : Int32) * (24 : Int32))) fun (v1 : Int32) =>
  if ix (9 : Int32) 2810 then
  if (M.1 (a0 + 5) ((9 : Int32)).toNatClampNeg) = 0 then
    if ix (3 : Int32) 2810 then
    if v1 < (M.1 (a0 + 5) ((3 : Int32)).toNatClampNeg) then
      some (0 : Int32)
    else
      if ix (4 : Int32) 2810 then
      if (M.1 (a0 + 5) ((4 : Int32)).toNatClampNeg) ≤ v1 then
        some (0 : Int32)
      else
        some (1 : Int32)
      else none
    else none
  else
    some (0 : Int32)
  else none
def f_X12_canGo (n : Nat) (a0 : Nat) (p1 : Int32) (p2 : Int32) (p3 : Int32) (M : KM) : Option Int32 :=
  if ix ((106 : Int32) + p1) 2810 then
  if (M.1 (a0 + 5) (((106 : Int32) + p1)).toNatClampNeg) = (1 : Int32) then
    if ix ((46 : Int32) + p2) 2810 then
    lt ((
      some (1 : Int32)
    ) : Option Int32) fun j51 =>
    if (M.1 (a0 + 5) (((46 : Int32) + p2)).toNatClampNeg) = (1 : Int32) then
      j51
    else
      if ix (((130 : Int32) + ((12 : Int32) * p1)) + p2) 2810 then
      if ix (7 : Int32) 2810 then
      if (M.1 (a0 + 5) ((((130 : Int32) + ((12 : Int32) * p1)) + p2)).toNatClampNeg) < (M.1 (a0 + 5) ((7 : Int32)).toNatClampNeg) then
        some (0 : Int32)
      else
        j51
      else none
      else none
    else none
  else
    lt ((
      some (1 : Int32)
    ) : Option Int32) fun j74 =>
    if p3 = 0 then
      j74
    else
      if ix ((98 : Int32) + p1) 2810 then
      if (M.1 (a0 + 5) (((98 : Int32) + p1)).toNatClampNeg) = (1 : Int32) then
        j74
      else
        some (0 : Int32)
      else none
  else none
def f_X12_canNow (n : Nat) (a0 : Nat) (p1 : Int32) (p2 : Int32) (M : KM) : Option Int32 :=
  if ix (5 : Int32) 2810 then
  (f_X12_glares n a0 (M.1 (a0 + 5) ((5 : Int32)).toNatClampNeg) M).bind fun (v2 : Int32) =>
  (f_X12_canGo n a0 p1 p2 v2 M).bind fun (v3 : Int32) =>
  some v3
  else none
def lp_X12_allLost_4 (n : Nat) (a0 : Nat) (M : KM) (w1 : Int32) (w2 : Int32) : Option Int32 := match n with
  | 0 => none
  | n + 1 =>
    if ix (2 : Int32) 2810 then
    if (M.1 (a0 + 5) ((2 : Int32)).toNatClampNeg) ≤ w2 then
      some w1
    else
      if ix ((90 : Int32) + w2) 2810 then
      lt ((w1 + (M.1 (a0 + 5) (((90 : Int32) + w2)).toNatClampNeg))) fun (v3 : Int32) =>
      lt (w2 + (1 : Int32)) fun (v4 : Int32) =>
      lp_X12_allLost_4 n a0 M v3 v4
      else none
    else none
def f_X12_allLost (n : Nat) (a0 : Nat) (M : KM) : Option Int32 :=
  lp_X12_allLost_4 n a0 M (0 : Int32) (0 : Int32)
def lp_X12_peopleThat_4 (n : Nat) (a0 : Nat) (c1 : Int32) (M : KM) (w2 : Int32) (w3 : Int32) : Option Int32 := match n with
  | 0 => none
  | n + 1 =>
    if ix (2 : Int32) 2810 then
    if (M.1 (a0 + 5) ((2 : Int32)).toNatClampNeg) ≤ w3 then
      some w2
    else
      lt (fun (x2 : Int32) => (
        lt ((w2 ||| x2)) fun (v3 : Int32) =>
        lt (w3 + (1 : Int32)) fun (v4 : Int32) =>
        lp_X12_peopleThat_4 n a0 c1 M v3 v4
      ) : Int32 → Option Int32) fun j70 =>
      lt ((
        j70 (0 : Int32)
      ) : Option Int32) fun j69 =>
      lt ((
        j70 ((1 : Int32) <<< (w3 &&& 31))
      ) : Option Int32) fun j63 =>
      if c1 = 0 then
        if ix ((106 : Int32) + w3) 2810 then
        if (M.1 (a0 + 5) (((106 : Int32) + w3)).toNatClampNeg) = (1 : Int32) then
          j63
        else
          j69
        else none
      else
        if c1 = (1 : Int32) then
          (f_X12_isGoing n a0 w3 M).bind fun (v7 : Int32) =>
          if v7 = 0 then
            j69
          else
            j63
        else
          if ix ((82 : Int32) + w3) 2810 then
          if (M.1 (a0 + 5) (((82 : Int32) + w3)).toNatClampNeg) < 0 then
            j69
          else
            j63
          else none
    else none
def f_X12_peopleThat (n : Nat) (a0 : Nat) (p1 : Int32) (M : KM) : Option Int32 :=
  lp_X12_peopleThat_4 n a0 p1 M (0 : Int32) (0 : Int32)
def f_X12_many (n : Nat) (a0 : Nat) (p1 : Int32) (M : KM) : Option (Int32 × KM) :=
  lt (uI M a0 1 (0 : Int32)) fun (M1 : KM) =>
  lt (uI M1 a0 0 (0 : Int32)) fun (M2 : KM) =>
  lt (f_X12_isIn (p1).toInt64 (0 : Int64) (14 : Int64) M2) fun (v3 : Int32) =>
  if v3 = 0 then
    lt (f_X12_refuse a0 (5 : Int32) M2) fun (v15 : (Int32 × KM)) =>
    some (v15.1, v15.2)
  else
    if (9 : Int32) ≤ p1 then
      if p1 = (9 : Int32) then
        if ix (5 : Int32) 2810 then
        (f_X12_glares n a0 (M2.1 (a0 + 5) ((5 : Int32)).toNatClampNeg) M2).bind fun (v10 : Int32) =>
        if v10 = 0 then
          some ((0 : Int32), M2)
        else
          some ((1 : Int32), M2)
        else none
      else
        if p1 = (10 : Int32) then
          if ix (9 : Int32) 2810 then
          some ((M2.1 (a0 + 5) ((9 : Int32)).toNatClampNeg), M2)
          else none
        else
          if p1 = (14 : Int32) then
            (f_X12_allLost n a0 M2).bind fun (v5 : Int32) =>
            some (v5, M2)
          else
            (f_X12_peopleThat n a0 (p1 - (11 : Int32)) M2).bind fun (v4 : Int32) =>
            some (v4, M2)
    else
      if ix p1 2810 then
      some ((M2.1 (a0 + 5) (p1).toNatClampNeg), M2)
      else none
def f_X12_road (n : Nat) (a0 : Nat) (p1 : Int32) (p2 : Int32) (M : KM) : Option (Int32 × KM) :=
  lt (uI M a0 1 (0 : Int32)) fun (M1 : KM) =>
  lt (uI M1 a0 0 (0 : Int32)) fun (M2 : KM) =>
  (f_X12_isRoadAt n a0 p1 M2).bind fun (v3 : Int32) =>
  if v3 = 0 then
    lt (f_X12_refuse a0 (2 : Int32) M2) fun (v8 : (Int32 × KM)) =>
    some (v8.1, v8.2)
  else
    lt (f_X12_isIn (p2).toInt64 (0 : Int64) (3 : Int64) M2) fun (v4 : Int32) =>
    if v4 = 0 then
      lt (f_X12_refuse a0 (5 : Int32) M2) fun (v5 : (Int32 × KM)) =>
      some (v5.1, v5.2)
    else
      if ix (((10 : Int32) + ((12 : Int32) * p2)) + p1) 2810 then
      some ((M2.1 (a0 + 5) ((((10 : Int32) + ((12 : Int32) * p2)) + p1)).toNatClampNeg), M2)
      else none
def f_X12_between (n : Nat) (a0 : Nat) (p1 : Int32) (p2 : Int32) (M : KM) : Option Int32 :=
  if p1 = p2 then
    some (-1 : Int32)
  else
    (f_X12_roadBy n a0 (0 : Int32) p1 p2 M).bind fun (v1 : Int32) =>
    some v1
def f_X12_roadOf (n : Nat) (a0 : Nat) (p1 : Int32) (p2 : Int32) (M : KM) : Option (Int32 × KM) :=
  lt (uI M a0 1 (0 : Int32)) fun (M1 : KM) =>
  lt (uI M1 a0 0 (0 : Int32)) fun (M2 : KM) =>
  (f_X12_isPlaceAt n a0 p1 M2).bind fun (v3 : Int32) =>
  lt ((
    lt (f_X12_refuse a0 (2 : Int32) M2) fun (v4 : (Int32 × KM)) =>
    some (v4.1, v4.2)
  ) : Option (Int32 × KM)) fun j26 =>
  if v3 = 0 then
    j26
  else
    (f_X12_isPlaceAt n a0 p2 M2).bind fun (v5 : Int32) =>
    if v5 = 0 then
      j26
    else
      (f_X12_between n a0 p1 p2 M2).bind fun (v6 : Int32) =>
      if 0 ≤ v6 then
        some (v6, M2)
      else
        lt (f_X12_refuse a0 (8 : Int32) M2) fun (v7 : (Int32 × KM)) =>
        some (v7.1, v7.2)
def f_X12_person (n : Nat) (a0 : Nat) (p1 : Int32) (p2 : Int32) (M : KM) : Option (Int32 × KM) :=
  lt (uI M a0 1 (0 : Int32)) fun (M1 : KM) =>
  lt (uI M1 a0 0 (0 : Int32)) fun (M2 : KM) =>
  (f_X12_isPerson n a0 p1 M2).bind fun (v3 : Int32) =>
  if v3 = 0 then
    lt (f_X12_refuse a0 (2 : Int32) M2) fun (v15 : (Int32 × KM)) =>
    some (v15.1, v15.2)
  else
    lt (f_X12_isIn (p2).toInt64 (0 : Int64) (5 : Int64) M2) fun (v4 : Int32) =>
    if v4 = 0 then
      lt (f_X12_refuse a0 (5 : Int32) M2) fun (v13 : (Int32 × KM)) =>
      some (v13.1, v13.2)
    else
      lt ((
        if ix (((58 : Int32) + ((8 : Int32) * p2)) + p1) 2810 then
        lt ((M2.1 (a0 + 5) ((((58 : Int32) + ((8 : Int32) * p2)) + p1)).toNatClampNeg)) fun (v6 : Int32) =>
        if 0 ≤ v6 then
          some (v6, M2)
        else
          lt (f_X12_refuse a0 (8 : Int32) M2) fun (v7 : (Int32 × KM)) =>
          some (v7.1, v7.2)
        else none
      ) : Option (Int32 × KM)) fun j61 =>
      if p2 = 0 then
        (f_X12_isGoing n a0 p1 M2).bind fun (v9 : Int32) =>
        if v9 = 0 then
          j61
        else
          lt (f_X12_refuse a0 (8 : Int32) M2) fun (v10 : (Int32 × KM)) =>
          some (v10.1, v10.2)
      else
        j61
def f_X12_gone (n : Nat) (a0 : Nat) (p1 : Int32) (p2 : Int32) (M : KM) : Option (Int32 × KM) :=
  lt (uI M a0 1 (0 : Int32)) fun (M1 : KM) =>
  lt (uI M1 a0 0 (0 : Int32)) fun (M2 : KM) =>
  (f_X12_isPerson n a0 p1 M2).bind fun (v3 : Int32) =>
  lt ((
    lt (f_X12_refuse a0 (2 : Int32) M2) fun (v4 : (Int32 × KM)) =>
    some (v4.1, v4.2)
  ) : Option (Int32 × KM)) fun j44 =>
  if v3 = 0 then
    j44
  else
    (f_X12_isRoadAt n a0 p2 M2).bind fun (v5 : Int32) =>
    if v5 = 0 then
      j44
    else
      if ix (((130 : Int32) + ((12 : Int32) * p1)) + p2) 2810 then
      some ((M2.1 (a0 + 5) ((((130 : Int32) + ((12 : Int32) * p1)) + p2)).toNatClampNeg), M2)
      else none
def f_X12_owes (n : Nat) (a0 : Nat) (p1 : Int32) (p2 : Int32) (M : KM) : Option (Int32 × KM) :=
  lt (uI M a0 1 (0 : Int32)) fun (M1 : KM) =>
  lt (uI M1 a0 0 (0 : Int32)) fun (M2 : KM) =>
  (f_X12_isPerson n a0 p1 M2).bind fun (v3 : Int32) =>
  lt ((
    lt (f_X12_refuse a0 (2 : Int32) M2) fun (v4 : (Int32 × KM)) =>
    some (v4.1, v4.2)
  ) : Option (Int32 × KM)) fun j26 =>
  if v3 = 0 then
    j26
  else
    (f_X12_isPerson n a0 p2 M2).bind fun (v5 : Int32) =>
    if v5 = 0 then
      j26
    else
      if p1 = p2 then
        lt (f_X12_refuse a0 (9 : Int32) M2) fun (v7 : (Int32 × KM)) =>
        some (v7.1, v7.2)
      else
        if ix (((226 : Int32) + ((8 : Int32) * p1)) + p2) 2810 then
        some ((M2.1 (a0 + 5) ((((226 : Int32) + ((8 : Int32) * p1)) + p2)).toNatClampNeg), M2)
        else none
def lp_X12_net_28 (n : Nat) (a0 : Nat) (c1 : Int32) (M : KM) (w2 : Int32) (w3 : Int32) : Option (Int32 × KM) := match n with
  | 0 => none
  | n + 1 =>
    if ix (2 : Int32) 2810 then
    if (M.1 (a0 + 5) ((2 : Int32)).toNatClampNeg) ≤ w3 then
      some (w2, M)
    else
      if ix (((226 : Int32) + ((8 : Int32) * w3)) + c1) 2810 then
      lt ((w2 + (M.1 (a0 + 5) ((((226 : Int32) + ((8 : Int32) * w3)) + c1)).toNatClampNeg))) fun (v6 : Int32) =>
      lt (w3 + (1 : Int32)) fun (v7 : Int32) =>
      lp_X12_net_28 n a0 c1 M v6 v7
      else none
    else none
def f_X12_net (n : Nat) (a0 : Nat) (p1 : Int32) (M : KM) : Option (Int32 × KM) :=
  lt (uI M a0 1 (0 : Int32)) fun (M1 : KM) =>
  lt (uI M1 a0 0 (0 : Int32)) fun (M2 : KM) =>
  (f_X12_isPerson n a0 p1 M2).bind fun (v3 : Int32) =>
  if v3 = 0 then
    lt (f_X12_refuse a0 (2 : Int32) M2) fun (v9 : (Int32 × KM)) =>
    some (v9.1, v9.2)
  else
    lp_X12_net_28 n a0 p1 M2 (0 : Int32) (0 : Int32)
def lp_X12_copyPlaces_62 (n : Nat) (a0 : Nat) (c1 : Int32) (w2 : Int32) (M : KM) : Option (Int32 × KM) := match n with
  | 0 => none
  | n + 1 =>
    if ix (2 : Int32) 2810 then
    if (M.1 (a0 + 5) ((2 : Int32)).toNatClampNeg) ≤ w2 then
      if ix (2 : Int32) 2810 then
      some ((M.1 (a0 + 5) ((2 : Int32)).toNatClampNeg), M)
      else none
    else
      (f_X12_isGoing n a0 w2 M).bind fun (v9 : Int32) =>
      lt (fun (x10 : Int64) => (
        if ix (((60 : Int32) * c1) + w2) 240 then
        lt (uJ M (a0 + 3) ((((60 : Int32) * c1) + w2)).toNatClampNeg x10) fun (M12 : KM) =>
        lt (w2 + (1 : Int32)) fun (v13 : Int32) =>
        lp_X12_copyPlaces_62 n a0 c1 v13 M12
        else none
      ) : Int64 → Option (Int32 × KM)) fun j106 =>
      if v9 = 0 then
        if ix ((58 : Int32) + w2) 2810 then
        j106 ((M.1 (a0 + 5) (((58 : Int32) + w2)).toNatClampNeg)).toInt64
        else none
      else
        j106 (-1 : Int64)
    else none
def f_X12_copyPlaces (n : Nat) (a0 : Nat) (p1 : Int32) (M : KM) : Option (Int32 × KM) :=
  lt (uI M a0 1 (0 : Int32)) fun (M1 : KM) =>
  lt (uI M1 a0 0 (0 : Int32)) fun (M2 : KM) =>
  lt (f_X12_isTray a0 p1 M2) fun (v3 : Int32) =>
  if v3 = 0 then
    lt (f_X12_refuse a0 (1 : Int32) M2) fun (v21 : (Int32 × KM)) =>
    some (v21.1, v21.2)
  else
    if ix p1 4 then
    if 0 ≤ (M2.1 (a0 + 2) (p1).toNatClampNeg) then
      if ix p1 4 then
      if ix (2 : Int32) 2810 then
      if (M2.1 (a0 + 5) ((2 : Int32)).toNatClampNeg) ≤ (M2.1 (a0 + 2) (p1).toNatClampNeg) then
        lp_X12_copyPlaces_62 n a0 p1 (0 : Int32) M2
      else
        lt (f_X12_refuse a0 (4 : Int32) M2) fun (v17 : (Int32 × KM)) =>
        some (v17.1, v17.2)
      else none
      else none
    else
      lt (f_X12_refuse a0 (3 : Int32) M2) fun (v19 : (Int32 × KM)) =>
      some (v19.1, v19.2)
    else none
def f_X12_isWith (n : Nat) (a0 : Nat) (p1 : Int32) (p2 : Int32) (M : KM) : Option Int32 :=
  lt ((
    some (1 : Int32)
  ) : Option Int32) fun j18 =>
  if p1 = p2 then
    j18
  else
    if ix ((82 : Int32) + p1) 2810 then
    if (M.1 (a0 + 5) (((82 : Int32) + p1)).toNatClampNeg) = p2 then
      j18
    else
      some (0 : Int32)
    else none
def f_X12_owe (n : Nat) (a0 : Nat) (p1 : Int32) (p2 : Int32) (p3 : Int32) (M : KM) : Option KM :=
  if ix (((226 : Int32) + ((8 : Int32) * p1)) + p2) 2810 then
  lt ((if ((M.1 (a0 + 5) ((((226 : Int32) + ((8 : Int32) * p1)) + p2)).toNatClampNeg) + p3) < (9999 : Int32) then ((M.1 (a0 + 5) ((((226 : Int32) + ((8 : Int32) * p1)) + p2)).toNatClampNeg) + p3) else (9999 : Int32))) fun (v2 : Int32) =>
  lt ((if (-9999 : Int32) < v2 then v2 else (-9999 : Int32))) fun (v3 : Int32) =>
  if ix (((226 : Int32) + ((8 : Int32) * p1)) + p2) 2810 then
  lt (uI M (a0 + 5) ((((226 : Int32) + ((8 : Int32) * p1)) + p2)).toNatClampNeg v3) fun (M5 : KM) =>
  if ix (((226 : Int32) + ((8 : Int32) * p2)) + p1) 2810 then
  lt (uI M5 (a0 + 5) ((((226 : Int32) + ((8 : Int32) * p2)) + p1)).toNatClampNeg (-v3)) fun (M7 : KM) =>
  some M7
  else none
  else none
  else none
def f_X12_comes (n : Nat) (a0 : Nat) (p1 : Int32) (p2 : Int32) (M : KM) : Option KM :=
  if ix ((122 : Int32) + p2) 2810 then
  lt ((M.1 (a0 + 5) (((122 : Int32) + p2)).toNatClampNeg)) fun (v2 : Int32) =>
  if ix ((66 : Int32) + p1) 2810 then
  if ix ((58 : Int32) + p1) 2810 then
  lt (uI M (a0 + 5) (((58 : Int32) + p1)).toNatClampNeg (M.1 (a0 + 5) (((66 : Int32) + p1)).toNatClampNeg)) fun (M5 : KM) =>
  if ix ((66 : Int32) + p1) 2810 then
  lt (uI M5 (a0 + 5) (((66 : Int32) + p1)).toNatClampNeg (-1 : Int32)) fun (M7 : KM) =>
  if ix ((74 : Int32) + p1) 2810 then
  lt (uI M7 (a0 + 5) (((74 : Int32) + p1)).toNatClampNeg (0 : Int32)) fun (M9 : KM) =>
  if ix (((130 : Int32) + ((12 : Int32) * p1)) + v2) 2810 then
  lt ((if ((M9.1 (a0 + 5) ((((130 : Int32) + ((12 : Int32) * p1)) + v2)).toNatClampNeg) + (1 : Int32)) < (99 : Int32) then ((M9.1 (a0 + 5) ((((130 : Int32) + ((12 : Int32) * p1)) + v2)).toNatClampNeg) + (1 : Int32)) else (99 : Int32))) fun (v11 : Int32) =>
  if ix (((130 : Int32) + ((12 : Int32) * p1)) + v2) 2810 then
  lt (uI M9 (a0 + 5) ((((130 : Int32) + ((12 : Int32) * p1)) + v2)).toNatClampNeg v11) fun (M13 : KM) =>
  lt (uI M13 a0 28 ((M13.1 a0 28) ||| ((1 : Int32) <<< (p1 &&& 31)))) fun (M14 : KM) =>
  if p1 = p2 then
    some M14
  else
    if ix ((82 : Int32) + p1) 2810 then
    lt (uI M14 (a0 + 5) (((82 : Int32) + p1)).toNatClampNeg (-1 : Int32)) fun (M16 : KM) =>
    if ix ((34 : Int32) + v2) 2810 then
    (f_X12_owe n a0 p1 p2 (M16.1 (a0 + 5) (((34 : Int32) + v2)).toNatClampNeg) M16).bind fun (v18 : KM) =>
    some v18
    else none
    else none
  else none
  else none
  else none
  else none
  else none
  else none
  else none
def f_X12_moves (n : Nat) (a0 : Nat) (p1 : Int32) (p2 : Int32) (p3 : Int32) (p4 : Int32) (M : KM) : Option KM :=
  if p3 = 0 then
    lt (((90 : Int32) + p1)) fun (v7 : Int32) =>
    if ix v7 2810 then
    if ix v7 2810 then
    lt (uI M (a0 + 5) (v7).toNatClampNeg ((M.1 (a0 + 5) (v7).toNatClampNeg) + (1 : Int32))) fun (M10 : KM) =>
    lt (uI M10 a0 29 ((M10.1 a0 29) + (1 : Int32))) fun (M11 : KM) =>
    some M11
    else none
    else none
  else
    if p4 = 0 then
      lt (((74 : Int32) + p1)) fun (v1 : Int32) =>
      if ix v1 2810 then
      if ix v1 2810 then
      lt (uI M (a0 + 5) (v1).toNatClampNeg ((M.1 (a0 + 5) (v1).toNatClampNeg) - (1 : Int32))) fun (M4 : KM) =>
      some M4
      else none
      else none
    else
      (f_X12_comes n a0 p1 p2 M).bind fun (v5 : KM) =>
      some v5
def lp_X12_goesOne_26 (n : Nat) (a0 : Nat) (c1 : Int32) (c2 : Int32) (c3 : Int32) (w4 : Int32) (M : KM) (k75 : KM → Option KM) : Option KM := match n with
  | 0 => none
  | n + 1 =>
    if ix (2 : Int32) 2810 then
    if (M.1 (a0 + 5) ((2 : Int32)).toNatClampNeg) ≤ w4 then
      k75 M
    else
      lt (fun (M3 : KM) => (
        lt (w4 + (1 : Int32)) fun (v4 : Int32) =>
        lp_X12_goesOne_26 n a0 c1 c2 c3 v4 M3 k75
      ) : KM → Option KM) fun j69 =>
      if w4 = c1 then
        j69 M
      else
        if ix ((82 : Int32) + w4) 2810 then
        if (M.1 (a0 + 5) (((82 : Int32) + w4)).toNatClampNeg) = c1 then
          (f_X12_moves n a0 w4 c1 c2 c3 M).bind fun (v6 : KM) =>
          j69 v6
        else
          j69 M
        else none
    else none
def f_X12_goesOne (n : Nat) (a0 : Nat) (p1 : Int32) (p2 : Int32) (M : KM) : Option KM :=
  lt (fun (x1 : Int32) => (
    lp_X12_goesOne_26 n a0 p1 p2 x1 (0 : Int32) M
      (fun (M10 : KM) => (
        (f_X12_moves n a0 p1 p1 p2 x1 M10).bind fun (v11 : KM) =>
        some v11
      ))
  ) : Int32 → Option KM) fun j22 =>
  lt ((
    j22 (0 : Int32)
  ) : Option KM) fun j21 =>
  if p2 = 0 then
    j21
  else
    if ix ((74 : Int32) + p1) 2810 then
    if (M.1 (a0 + 5) (((74 : Int32) + p1)).toNatClampNeg) = (1 : Int32) then
      j22 (1 : Int32)
    else
      j21
    else none
def lp_X12_goesMinute_23 (n : Nat) (a0 : Nat) (c1 : Int32) (w2 : Int32) (M : KM) (k79 : KM → Option KM) : Option KM := match n with
  | 0 => none
  | n + 1 =>
    if ix (2 : Int32) 2810 then
    if (M.1 (a0 + 5) ((2 : Int32)).toNatClampNeg) ≤ w2 then
      k79 M
    else
      (f_X12_isGoing n a0 w2 M).bind fun (v6 : Int32) =>
      lt (fun (M7 : KM) => (
        lt (w2 + (1 : Int32)) fun (v8 : Int32) =>
        lp_X12_goesMinute_23 n a0 c1 v8 M7 k79
      ) : KM → Option KM) fun j73 =>
      if v6 = 0 then
        j73 M
      else
        if ix ((82 : Int32) + w2) 2810 then
        if 0 ≤ (M.1 (a0 + 5) (((82 : Int32) + w2)).toNatClampNeg) then
          j73 M
        else
          if ix ((122 : Int32) + w2) 2810 then
          (f_X12_canGo n a0 w2 (M.1 (a0 + 5) (((122 : Int32) + w2)).toNatClampNeg) c1 M).bind fun (v11 : Int32) =>
          (f_X12_goesOne n a0 w2 v11 M).bind fun (v12 : KM) =>
          j73 v12
          else none
        else none
    else none
def f_X12_goesMinute (n : Nat) (a0 : Nat) (M : KM) : Option KM :=
  if ix (5 : Int32) 2810 then
  (f_X12_glares n a0 (M.1 (a0 + 5) ((5 : Int32)).toNatClampNeg) M).bind fun (v2 : Int32) =>
  lt (uI M a0 28 (0 : Int32)) fun (M3 : KM) =>
  lt (uI M3 a0 29 (0 : Int32)) fun (M4 : KM) =>
  lp_X12_goesMinute_23 n a0 v2 (0 : Int32) M4
    (fun (M16 : KM) => (
      if ix (5 : Int32) 2810 then
      if ix (5 : Int32) 2810 then
      lt (uI M16 (a0 + 5) ((5 : Int32)).toNatClampNeg ((M16.1 (a0 + 5) ((5 : Int32)).toNatClampNeg) + (1 : Int32))) fun (M19 : KM) =>
      some M19
      else none
      else none
    ))
  else none
def lp_X12_passes_53 (n : Nat) (a0 : Nat) (c1 : Int32) (w2 : Int32) (w3 : Int32) (M : KM) : Option (Int32 × KM) := match n with
  | 0 => none
  | n + 1 =>
    if c1 ≤ w3 then
      some (w2, M)
    else
      (f_X12_goesMinute n a0 M).bind fun (v5 : KM) =>
      lt ((w2 ||| (v5.1 a0 28))) fun (v6 : Int32) =>
      lt (w3 + (1 : Int32)) fun (v7 : Int32) =>
      lp_X12_passes_53 n a0 c1 v6 v7 v5
def f_X12_passes (n : Nat) (a0 : Nat) (p1 : Int32) (M : KM) : Option (Int32 × KM) :=
  lt (uI M a0 1 (0 : Int32)) fun (M1 : KM) =>
  lt (uI M1 a0 0 (0 : Int32)) fun (M2 : KM) =>
  lt (f_X12_isIn (p1).toInt64 (1 : Int64) (999 : Int64) M2) fun (v3 : Int32) =>
  if v3 = 0 then
    lt (f_X12_refuse a0 (5 : Int32) M2) fun (v11 : (Int32 × KM)) =>
    some (v11.1, v11.2)
  else
    if ix (5 : Int32) 2810 then
    if ((M2.1 (a0 + 5) ((5 : Int32)).toNatClampNeg) + p1) ≤ (99999 : Int32) then
      lp_X12_passes_53 n a0 p1 (0 : Int32) (0 : Int32) M2
    else
      lt (f_X12_refuse a0 (7 : Int32) M2) fun (v9 : (Int32 × KM)) =>
      some (v9.1, v9.2)
    else none
def f_X12_sets (n : Nat) (a0 : Nat) (p1 : Int32) (p2 : Int32) (p3 : Int32) (M : KM) : Option KM :=
  if ix ((58 : Int32) + p1) 2810 then
  if ix ((114 : Int32) + p1) 2810 then
  lt (uI M (a0 + 5) (((114 : Int32) + p1)).toNatClampNeg (M.1 (a0 + 5) (((58 : Int32) + p1)).toNatClampNeg)) fun (M3 : KM) =>
  if ix ((122 : Int32) + p1) 2810 then
  lt (uI M3 (a0 + 5) (((122 : Int32) + p1)).toNatClampNeg p3) fun (M5 : KM) =>
  if ix ((66 : Int32) + p1) 2810 then
  lt (uI M5 (a0 + 5) (((66 : Int32) + p1)).toNatClampNeg p2) fun (M7 : KM) =>
  if ix ((34 : Int32) + p3) 2810 then
  if ix ((74 : Int32) + p1) 2810 then
  lt (uI M7 (a0 + 5) (((74 : Int32) + p1)).toNatClampNeg (M7.1 (a0 + 5) (((34 : Int32) + p3)).toNatClampNeg)) fun (M10 : KM) =>
  some M10
  else none
  else none
  else none
  else none
  else none
  else none
def f_X12_canStart (n : Nat) (a0 : Nat) (p1 : Int32) (p2 : Int32) (M : KM) : Option Int32 :=
  (f_X12_isGoing n a0 p1 M).bind fun (v1 : Int32) =>
  if v1 = 0 then
    if ix ((58 : Int32) + p1) 2810 then
    (f_X12_between n a0 (M.1 (a0 + 5) (((58 : Int32) + p1)).toNatClampNeg) p2 M).bind fun (v3 : Int32) =>
    if v3 < 0 then
      some (0 : Int32)
    else
      (f_X12_canNow n a0 p1 v3 M).bind fun (v4 : Int32) =>
      if v4 = 0 then
        some (0 : Int32)
      else
        some (1 : Int32)
    else none
  else
    some (0 : Int32)
def f_X12_goes (n : Nat) (a0 : Nat) (p1 : Int32) (p2 : Int32) (M : KM) : Option (Int32 × KM) :=
  (f_X12_canStart n a0 p1 p2 M).bind fun (v1 : Int32) =>
  if v1 = 0 then
    some ((0 : Int32), M)
  else
    if ix ((58 : Int32) + p1) 2810 then
    (f_X12_between n a0 (M.1 (a0 + 5) (((58 : Int32) + p1)).toNatClampNeg) p2 M).bind fun (v3 : Int32) =>
    (f_X12_sets n a0 p1 p2 v3 M).bind fun (v4 : KM) =>
    some ((1 : Int32), v4)
    else none
def f_X12_go (n : Nat) (a0 : Nat) (p1 : Int32) (p2 : Int32) (M : KM) : Option (Int32 × KM) :=
  lt (uI M a0 1 (0 : Int32)) fun (M1 : KM) =>
  lt (uI M1 a0 0 (0 : Int32)) fun (M2 : KM) =>
  (f_X12_isPerson n a0 p1 M2).bind fun (v3 : Int32) =>
  lt ((
    lt (f_X12_refuse a0 (2 : Int32) M2) fun (v4 : (Int32 × KM)) =>
    some (v4.1, v4.2)
  ) : Option (Int32 × KM)) fun j26 =>
  if v3 = 0 then
    j26
  else
    (f_X12_isPlaceAt n a0 p2 M2).bind fun (v5 : Int32) =>
    if v5 = 0 then
      j26
    else
      (f_X12_goes n a0 p1 p2 M2).bind fun (v6 : (Int32 × KM)) =>
      if v6.1 = 0 then
        lt (f_X12_refuse a0 (9 : Int32) v6.2) fun (v7 : (Int32 × KM)) =>
        some (v7.1, v7.2)
      else
        if ix ((74 : Int32) + p1) 2810 then
        some ((v6.2.1 (a0 + 5) (((74 : Int32) + p1)).toNatClampNeg), v6.2)
        else none
def lp_X12_leads_14 (n : Nat) (a0 : Nat) (c1 : Int32) (c2 : Int32) (c3 : Int32) (M : KM) (w4 : Int32) (k73 : Option (Int32 × KM)) : Option (Int32 × KM) := match n with
  | 0 => none
  | n + 1 =>
    if ix (2 : Int32) 2810 then
    if (M.1 (a0 + 5) ((2 : Int32)).toNatClampNeg) ≤ w4 then
      k73
    else
      lt (f_X12_has c2 w4 M) fun (v3 : Int32) =>
      lt ((
        lt (w4 + (1 : Int32)) fun (v4 : Int32) =>
        lp_X12_leads_14 n a0 c1 c2 c3 M v4 k73
      ) : Option (Int32 × KM)) fun j67 =>
      if v3 = 0 then
        j67
      else
        (f_X12_isGoing n a0 w4 M).bind fun (v5 : Int32) =>
        if v5 = 0 then
          if ix ((58 : Int32) + w4) 2810 then
          if ix ((58 : Int32) + c1) 2810 then
          if (M.1 (a0 + 5) (((58 : Int32) + w4)).toNatClampNeg) = (M.1 (a0 + 5) (((58 : Int32) + c1)).toNatClampNeg) then
            j67
          else
            some ((0 : Int32), M)
          else none
          else none
        else
          some ((0 : Int32), M)
    else none
def lp_X12_leads_92 (n : Nat) (a0 : Nat) (c1 : Int32) (c2 : Int32) (c3 : Int32) (c4 : Int32) (w5 : Int32) (M : KM) (k141 : KM → Option (Int32 × KM)) : Option (Int32 × KM) := match n with
  | 0 => none
  | n + 1 =>
    if ix (2 : Int32) 2810 then
    if (M.1 (a0 + 5) ((2 : Int32)).toNatClampNeg) ≤ w5 then
      k141 M
    else
      lt (f_X12_has c2 w5 M) fun (v15 : Int32) =>
      lt (fun (M16 : KM) => (
        lt (w5 + (1 : Int32)) fun (v17 : Int32) =>
        lp_X12_leads_92 n a0 c1 c2 c3 c4 v17 M16 k141
      ) : KM → Option (Int32 × KM)) fun j135 =>
      if v15 = 0 then
        j135 M
      else
        (f_X12_sets n a0 w5 c3 c4 M).bind fun (v18 : KM) =>
        if ix ((82 : Int32) + w5) 2810 then
        lt (uI v18 (a0 + 5) (((82 : Int32) + w5)).toNatClampNeg c1) fun (M20 : KM) =>
        j135 M20
        else none
    else none
def f_X12_leads (n : Nat) (a0 : Nat) (p1 : Int32) (p2 : Int32) (p3 : Int32) (M : KM) : Option (Int32 × KM) :=
  (f_X12_canStart n a0 p1 p3 M).bind fun (v1 : Int32) =>
  if v1 = 0 then
    some ((0 : Int32), M)
  else
    lp_X12_leads_14 n a0 p1 p2 p3 M (0 : Int32)
      ((
        if ix ((58 : Int32) + p1) 2810 then
        (f_X12_between n a0 (M.1 (a0 + 5) (((58 : Int32) + p1)).toNatClampNeg) p3 M).bind fun (v13 : Int32) =>
        lp_X12_leads_92 n a0 p1 p2 p3 v13 (0 : Int32) M
          (fun (M23 : KM) => (
            (f_X12_sets n a0 p1 p3 v13 M23).bind fun (v24 : KM) =>
            some ((1 : Int32), v24)
          ))
        else none
      ))
def f_X12_lead (n : Nat) (a0 : Nat) (p1 : Int32) (p2 : Int32) (p3 : Int32) (M : KM) : Option (Int32 × KM) :=
  lt (uI M a0 1 (0 : Int32)) fun (M1 : KM) =>
  lt (uI M1 a0 0 (0 : Int32)) fun (M2 : KM) =>
  (f_X12_isPerson n a0 p1 M2).bind fun (v3 : Int32) =>
  lt ((
    lt (f_X12_refuse a0 (2 : Int32) M2) fun (v4 : (Int32 × KM)) =>
    some (v4.1, v4.2)
  ) : Option (Int32 × KM)) fun j26 =>
  if v3 = 0 then
    j26
  else
    (f_X12_isPlaceAt n a0 p3 M2).bind fun (v5 : Int32) =>
    if v5 = 0 then
      j26
    else
      if ix (2 : Int32) 2810 then
      lt (f_X12_isIn (p2).toInt64 (1 : Int64) ((((1 : Int32) <<< ((M2.1 (a0 + 5) ((2 : Int32)).toNatClampNeg) &&& 31)) - (1 : Int32))).toInt64 M2) fun (v7 : Int32) =>
      lt ((
        lt (f_X12_refuse a0 (5 : Int32) M2) fun (v8 : (Int32 × KM)) =>
        some (v8.1, v8.2)
      ) : Option (Int32 × KM)) fun j74 =>
      if v7 = 0 then
        j74
      else
        lt (f_X12_has p2 p1 M2) fun (v9 : Int32) =>
        if v9 = 0 then
          (f_X12_sizeOf n p2 M2).bind fun (v10 : Int32) =>
          if ix (6 : Int32) 2810 then
          if v10 ≤ (M2.1 (a0 + 5) ((6 : Int32)).toNatClampNeg) then
            (f_X12_leads n a0 p1 p2 p3 M2).bind fun (v12 : (Int32 × KM)) =>
            if v12.1 = 0 then
              lt (f_X12_refuse a0 (9 : Int32) v12.2) fun (v13 : (Int32 × KM)) =>
              some (v13.1, v13.2)
            else
              if ix ((74 : Int32) + p1) 2810 then
              some ((v12.2.1 (a0 + 5) (((74 : Int32) + p1)).toNatClampNeg), v12.2)
              else none
          else
            j74
          else none
        else
          j74
      else none
def lp_X12_turn_53 (n : Nat) (a0 : Nat) (c1 : Int32) (w2 : Int32) (M : KM) : Option (Int32 × KM) := match n with
  | 0 => none
  | n + 1 =>
    if ix (2 : Int32) 2810 then
    if (M.1 (a0 + 5) ((2 : Int32)).toNatClampNeg) ≤ w2 then
      some ((1 : Int32), M)
    else
      (f_X12_isWith n a0 w2 c1 M).bind fun (v8 : Int32) =>
      lt (fun (M9 : KM) => (
        lt (w2 + (1 : Int32)) fun (v10 : Int32) =>
        lp_X12_turn_53 n a0 c1 v10 M9
      ) : KM → Option (Int32 × KM)) fun j123 =>
      if v8 = 0 then
        j123 M
      else
        if ix ((114 : Int32) + w2) 2810 then
        if ix ((58 : Int32) + w2) 2810 then
        lt (uI M (a0 + 5) (((58 : Int32) + w2)).toNatClampNeg (M.1 (a0 + 5) (((114 : Int32) + w2)).toNatClampNeg)) fun (M13 : KM) =>
        if ix ((66 : Int32) + w2) 2810 then
        lt (uI M13 (a0 + 5) (((66 : Int32) + w2)).toNatClampNeg (-1 : Int32)) fun (M15 : KM) =>
        if ix ((74 : Int32) + w2) 2810 then
        lt (uI M15 (a0 + 5) (((74 : Int32) + w2)).toNatClampNeg (0 : Int32)) fun (M17 : KM) =>
        if ix ((82 : Int32) + w2) 2810 then
        lt (uI M17 (a0 + 5) (((82 : Int32) + w2)).toNatClampNeg (-1 : Int32)) fun (M19 : KM) =>
        j123 M19
        else none
        else none
        else none
        else none
        else none
    else none
def f_X12_turn (n : Nat) (a0 : Nat) (p1 : Int32) (M : KM) : Option (Int32 × KM) :=
  lt (uI M a0 1 (0 : Int32)) fun (M1 : KM) =>
  lt (uI M1 a0 0 (0 : Int32)) fun (M2 : KM) =>
  (f_X12_isPerson n a0 p1 M2).bind fun (v3 : Int32) =>
  if v3 = 0 then
    lt (f_X12_no a0 (2 : Int32) M2) fun (v24 : (Int32 × KM)) =>
    some (v24.1, v24.2)
  else
    (f_X12_isGoing n a0 p1 M2).bind fun (v4 : Int32) =>
    lt ((
      lt (f_X12_no a0 (9 : Int32) M2) fun (v5 : (Int32 × KM)) =>
      some (v5.1, v5.2)
    ) : Option (Int32 × KM)) fun j44 =>
    if v4 = 0 then
      j44
    else
      if ix ((82 : Int32) + p1) 2810 then
      if (M2.1 (a0 + 5) (((82 : Int32) + p1)).toNatClampNeg) < 0 then
        lp_X12_turn_53 n a0 p1 (0 : Int32) M2
      else
        j44
      else none
def f_X12_becomes (n : Nat) (a0 : Nat) (p1 : Int32) (M : KM) : Option (Int32 × KM) :=
  if ix (9 : Int32) 2810 then
  lt (fun (x2 : Int32) => (
    if x2 = p1 then
      some ((0 : Int32), M)
    else
      if p1 = 0 then
        if ix (9 : Int32) 2810 then
        lt (uI M (a0 + 5) ((9 : Int32)).toNatClampNeg (0 : Int32)) fun (M4 : KM) =>
        some ((1 : Int32), M4)
        else none
      else
        if ix (9 : Int32) 2810 then
        lt (uI M (a0 + 5) ((9 : Int32)).toNatClampNeg (1 : Int32)) fun (M6 : KM) =>
        some ((1 : Int32), M6)
        else none
  ) : Int32 → Option (Int32 × KM)) fun j16 =>
  if (M.1 (a0 + 5) ((9 : Int32)).toNatClampNeg) = (1 : Int32) then
    j16 (1 : Int32)
  else
    j16 (0 : Int32)
  else none
def f_X12_cloud (n : Nat) (a0 : Nat) (p1 : Int32) (M : KM) : Option (Int32 × KM) :=
  lt (uI M a0 1 (0 : Int32)) fun (M1 : KM) =>
  lt (uI M1 a0 0 (0 : Int32)) fun (M2 : KM) =>
  (f_X12_becomes n a0 p1 M2).bind fun (v3 : (Int32 × KM)) =>
  lt (fun (M4 : KM) => (
    some ((1 : Int32), M4)
  ) : KM → Option (Int32 × KM)) fun j27 =>
  if v3.1 = 0 then
    lt (f_X12_no a0 (9 : Int32) v3.2) fun (v5 : (Int32 × KM)) =>
    if v5.1 = 0 then
      some ((0 : Int32), v5.2)
    else
      j27 v5.2
  else
    j27 v3.2
def f_X12_plant (n : Nat) (a0 : Nat) (p1 : Int32) (p2 : Int32) (M : KM) : Option (Int32 × KM) :=
  lt (uI M a0 1 (0 : Int32)) fun (M1 : KM) =>
  lt (uI M1 a0 0 (0 : Int32)) fun (M2 : KM) =>
  (f_X12_isRoadAt n a0 p1 M2).bind fun (v3 : Int32) =>
  if v3 = 0 then
    lt (f_X12_no a0 (2 : Int32) M2) fun (v14 : (Int32 × KM)) =>
    some (v14.1, v14.2)
  else
    if ix ((46 : Int32) + p1) 2810 then
    lt (fun (x5 : Int32) => (
      if x5 = p2 then
        lt (f_X12_no a0 (9 : Int32) M2) fun (v11 : (Int32 × KM)) =>
        some (v11.1, v11.2)
      else
        if p2 = 0 then
          if ix ((46 : Int32) + p1) 2810 then
          lt (uI M2 (a0 + 5) (((46 : Int32) + p1)).toNatClampNeg (0 : Int32)) fun (M7 : KM) =>
          some ((1 : Int32), M7)
          else none
        else
          if ix ((46 : Int32) + p1) 2810 then
          lt (uI M2 (a0 + 5) (((46 : Int32) + p1)).toNatClampNeg (1 : Int32)) fun (M9 : KM) =>
          some ((1 : Int32), M9)
          else none
    ) : Int32 → Option (Int32 × KM)) fun j42 =>
    if (M2.1 (a0 + 5) (((46 : Int32) + p1)).toNatClampNeg) = (1 : Int32) then
      j42 (1 : Int32)
    else
      j42 (0 : Int32)
    else none
def f_X12_glasses (n : Nat) (a0 : Nat) (p1 : Int32) (p2 : Int32) (M : KM) : Option (Int32 × KM) :=
  lt (uI M a0 1 (0 : Int32)) fun (M1 : KM) =>
  lt (uI M1 a0 0 (0 : Int32)) fun (M2 : KM) =>
  (f_X12_isPerson n a0 p1 M2).bind fun (v3 : Int32) =>
  if v3 = 0 then
    lt (f_X12_no a0 (2 : Int32) M2) fun (v16 : (Int32 × KM)) =>
    some (v16.1, v16.2)
  else
    if ix ((106 : Int32) + p1) 2810 then
    lt ((
      lt (f_X12_no a0 (9 : Int32) M2) fun (v5 : (Int32 × KM)) =>
      some (v5.1, v5.2)
    ) : Option (Int32 × KM)) fun j59 =>
    if (M2.1 (a0 + 5) (((106 : Int32) + p1)).toNatClampNeg) = (1 : Int32) then
      j59
    else
      if ix ((98 : Int32) + p1) 2810 then
      lt (fun (x7 : Int32) => (
        if x7 = p2 then
          j59
        else
          if p2 = 0 then
            if ix ((98 : Int32) + p1) 2810 then
            lt (uI M2 (a0 + 5) (((98 : Int32) + p1)).toNatClampNeg (0 : Int32)) fun (M9 : KM) =>
            some ((1 : Int32), M9)
            else none
          else
            if ix ((98 : Int32) + p1) 2810 then
            lt (uI M2 (a0 + 5) (((98 : Int32) + p1)).toNatClampNeg (1 : Int32)) fun (M11 : KM) =>
            some ((1 : Int32), M11)
            else none
      ) : Int32 → Option (Int32 × KM)) fun j55 =>
      if (M2.1 (a0 + 5) (((98 : Int32) + p1)).toNatClampNeg) = (1 : Int32) then
        j55 (1 : Int32)
      else
        j55 (0 : Int32)
      else none
    else none
def f_X12_cure (n : Nat) (a0 : Nat) (p1 : Int32) (p2 : Int32) (M : KM) : Option (Int32 × KM) :=
  lt (uI M a0 1 (0 : Int32)) fun (M1 : KM) =>
  lt (uI M1 a0 0 (0 : Int32)) fun (M2 : KM) =>
  (f_X12_isPerson n a0 p1 M2).bind fun (v3 : Int32) =>
  if v3 = 0 then
    lt (f_X12_no a0 (2 : Int32) M2) fun (v15 : (Int32 × KM)) =>
    some (v15.1, v15.2)
  else
    if ix ((106 : Int32) + p1) 2810 then
    lt (fun (x5 : Int32) => (
      if x5 = p2 then
        lt (f_X12_no a0 (9 : Int32) M2) fun (v12 : (Int32 × KM)) =>
        some (v12.1, v12.2)
      else
        lt (fun (x6 : Int32) => (
          if ix ((106 : Int32) + p1) 2810 then
          lt (uI M2 (a0 + 5) (((106 : Int32) + p1)).toNatClampNeg x6) fun (M8 : KM) =>
          if ix ((98 : Int32) + p1) 2810 then
          lt (uI M8 (a0 + 5) (((98 : Int32) + p1)).toNatClampNeg (0 : Int32)) fun (M10 : KM) =>
          some ((1 : Int32), M10)
          else none
          else none
        ) : Int32 → Option (Int32 × KM)) fun j69 =>
        if p2 = 0 then
          j69 (1 : Int32)
        else
          j69 (0 : Int32)
    ) : Int32 → Option (Int32 × KM)) fun j41 =>
    if (M2.1 (a0 + 5) (((106 : Int32) + p1)).toNatClampNeg) = 0 then
      j41 (1 : Int32)
    else
      j41 (0 : Int32)
    else none
def f_X12_settle (n : Nat) (a0 : Nat) (p1 : Int32) (p2 : Int32) (M : KM) : Option (Int32 × KM) :=
  lt (uI M a0 1 (0 : Int32)) fun (M1 : KM) =>
  lt (uI M1 a0 0 (0 : Int32)) fun (M2 : KM) =>
  (f_X12_isPerson n a0 p1 M2).bind fun (v3 : Int32) =>
  lt ((
    lt (f_X12_refuse a0 (2 : Int32) M2) fun (v4 : (Int32 × KM)) =>
    some (v4.1, v4.2)
  ) : Option (Int32 × KM)) fun j26 =>
  if v3 = 0 then
    j26
  else
    (f_X12_isPerson n a0 p2 M2).bind fun (v5 : Int32) =>
    if v5 = 0 then
      j26
    else
      if p1 = p2 then
        lt (f_X12_refuse a0 (9 : Int32) M2) fun (v12 : (Int32 × KM)) =>
        some (v12.1, v12.2)
      else
        if ix (((226 : Int32) + ((8 : Int32) * p1)) + p2) 2810 then
        lt ((M2.1 (a0 + 5) ((((226 : Int32) + ((8 : Int32) * p1)) + p2)).toNatClampNeg)) fun (v7 : Int32) =>
        if ix (((226 : Int32) + ((8 : Int32) * p1)) + p2) 2810 then
        lt (uI M2 (a0 + 5) ((((226 : Int32) + ((8 : Int32) * p1)) + p2)).toNatClampNeg (0 : Int32)) fun (M9 : KM) =>
        if ix (((226 : Int32) + ((8 : Int32) * p2)) + p1) 2810 then
        lt (uI M9 (a0 + 5) ((((226 : Int32) + ((8 : Int32) * p2)) + p1)).toNatClampNeg (0 : Int32)) fun (M11 : KM) =>
        some (v7, M11)
        else none
        else none
        else none
def f_X12_areHours (p0 : Int32) (p1 : Int32) (M : KM) : Int32 :=
  lt (f_X12_isIn (p0).toInt64 (0 : Int64) (23 : Int64) M) fun (v1 : Int32) =>
  if v1 = 0 then
    (0 : Int32)
  else
    lt (f_X12_isIn (p1).toInt64 ((p0).toInt64 + (1 : Int64)) (24 : Int64) M) fun (v2 : Int32) =>
    if v2 = 0 then
      (0 : Int32)
    else
      (1 : Int32)
def f_X12_rule (n : Nat) (a0 : Nat) (p1 : Int32) (p2 : Int32) (M : KM) : Option (Int32 × KM) :=
  lt (uI M a0 1 (0 : Int32)) fun (M1 : KM) =>
  lt (uI M1 a0 0 (0 : Int32)) fun (M2 : KM) =>
  lt (f_X12_areHours p1 p2 M2) fun (v3 : Int32) =>
  if v3 = 0 then
    lt (f_X12_no a0 (5 : Int32) M2) fun (v8 : (Int32 × KM)) =>
    some (v8.1, v8.2)
  else
    if ix (3 : Int32) 2810 then
    lt (uI M2 (a0 + 5) ((3 : Int32)).toNatClampNeg p1) fun (M5 : KM) =>
    if ix (4 : Int32) 2810 then
    lt (uI M5 (a0 + 5) ((4 : Int32)).toNatClampNeg p2) fun (M7 : KM) =>
    some ((1 : Int32), M7)
    else none
    else none
def f_X12_glareAt (n : Nat) (a0 : Nat) (p1 : Int32) (M : KM) : Option (Int32 × KM) :=
  lt (uI M a0 1 (0 : Int32)) fun (M1 : KM) =>
  lt (uI M1 a0 0 (0 : Int32)) fun (M2 : KM) =>
  lt (f_X12_isIn (p1).toInt64 (0 : Int64) (99999 : Int64) M2) fun (v3 : Int32) =>
  if v3 = 0 then
    lt (f_X12_refuse a0 (5 : Int32) M2) fun (v6 : (Int32 × KM)) =>
    some (v6.1, v6.2)
  else
    (f_X12_glares n a0 p1 M2).bind fun (v4 : Int32) =>
    if v4 = 0 then
      some ((0 : Int32), M2)
    else
      some ((1 : Int32), M2)
def f_X12_can (n : Nat) (a0 : Nat) (p1 : Int32) (p2 : Int32) (M : KM) : Option (Int32 × KM) :=
  lt (uI M a0 1 (0 : Int32)) fun (M1 : KM) =>
  lt (uI M1 a0 0 (0 : Int32)) fun (M2 : KM) =>
  (f_X12_isPerson n a0 p1 M2).bind fun (v3 : Int32) =>
  lt ((
    lt (f_X12_refuse a0 (2 : Int32) M2) fun (v4 : (Int32 × KM)) =>
    some (v4.1, v4.2)
  ) : Option (Int32 × KM)) fun j26 =>
  if v3 = 0 then
    j26
  else
    (f_X12_isRoadAt n a0 p2 M2).bind fun (v5 : Int32) =>
    if v5 = 0 then
      j26
    else
      (f_X12_canNow n a0 p1 p2 M2).bind fun (v6 : Int32) =>
      if v6 = 0 then
        some ((0 : Int32), M2)
      else
        some ((1 : Int32), M2)
def lp_X12_guides_56 (n : Nat) (a0 : Nat) (c1 : Int32) (c3 : Int32) (M : KM) (w4 : Int32) (w5 : Int32) : Option (Int32 × KM) := match n with
  | 0 => none
  | n + 1 =>
    if ix (2 : Int32) 2810 then
    if (M.1 (a0 + 5) ((2 : Int32)).toNatClampNeg) ≤ w5 then
      some (w4, M)
    else
      (f_X12_isGoing n a0 w5 M).bind fun (v8 : Int32) =>
      lt (fun (x9 : Int32) => (
        lt ((w4 ||| x9)) fun (v10 : Int32) =>
        lt (w5 + (1 : Int32)) fun (v11 : Int32) =>
        lp_X12_guides_56 n a0 c1 c3 M v10 v11
      ) : Int32 → Option (Int32 × KM)) fun j110 =>
      lt ((
        j110 (0 : Int32)
      ) : Option (Int32 × KM)) fun j109 =>
      if v8 = 0 then
        if ix ((58 : Int32) + w5) 2810 then
        if (M.1 (a0 + 5) (((58 : Int32) + w5)).toNatClampNeg) = c1 then
          (f_X12_canNow n a0 w5 c3 M).bind fun (v13 : Int32) =>
          if v13 = 0 then
            j109
          else
            j110 ((1 : Int32) <<< (w5 &&& 31))
        else
          j109
        else none
      else
        j109
    else none
def f_X12_guides (n : Nat) (a0 : Nat) (p1 : Int32) (p2 : Int32) (M : KM) : Option (Int32 × KM) :=
  lt (uI M a0 1 (0 : Int32)) fun (M1 : KM) =>
  lt (uI M1 a0 0 (0 : Int32)) fun (M2 : KM) =>
  (f_X12_isPlaceAt n a0 p1 M2).bind fun (v3 : Int32) =>
  lt ((
    lt (f_X12_refuse a0 (2 : Int32) M2) fun (v4 : (Int32 × KM)) =>
    some (v4.1, v4.2)
  ) : Option (Int32 × KM)) fun j26 =>
  if v3 = 0 then
    j26
  else
    (f_X12_isPlaceAt n a0 p2 M2).bind fun (v5 : Int32) =>
    if v5 = 0 then
      j26
    else
      (f_X12_between n a0 p1 p2 M2).bind fun (v6 : Int32) =>
      if 0 ≤ v6 then
        lp_X12_guides_56 n a0 p1 v6 M2 (0 : Int32) (0 : Int32)
      else
        lt (f_X12_refuse a0 (9 : Int32) M2) fun (v18 : (Int32 × KM)) =>
        some (v18.1, v18.2)
def f_X12_isFrom (n : Nat) (a0 : Nat) (p1 : Int32) (p2 : Int32) (M : KM) : Option Int32 :=
  if ix ((10 : Int32) + p1) 2810 then
  lt ((
    some (1 : Int32)
  ) : Option Int32) fun j26 =>
  if (M.1 (a0 + 5) (((10 : Int32) + p1)).toNatClampNeg) = p2 then
    j26
  else
    if ix ((22 : Int32) + p1) 2810 then
    if (M.1 (a0 + 5) (((22 : Int32) + p1)).toNatClampNeg) = p2 then
      j26
    else
      some (0 : Int32)
    else none
  else none
def lp_X12_stuck_41 (n : Nat) (a0 : Nat) (c1 : Int32) (c2 : Int32) (M : KM) (w3 : Int32) (w4 : Int32) (k96 : Int32 → Option (Int32 × KM)) : Option (Int32 × KM) := match n with
  | 0 => none
  | n + 1 =>
    if ix (1 : Int32) 2810 then
    if (M.1 (a0 + 5) ((1 : Int32)).toNatClampNeg) ≤ w4 then
      k96 w3
    else
      lt (fun (x7 : Int32) => (
        lt (w4 + (1 : Int32)) fun (v8 : Int32) =>
        lp_X12_stuck_41 n a0 c1 c2 M x7 v8 k96
      ) : Int32 → Option (Int32 × KM)) fun j89 =>
      lt ((
        j89 (0 : Int32)
      ) : Option (Int32 × KM)) fun j88 =>
      if w3 = 0 then
        j88
      else
        if ix ((58 : Int32) + c2) 2810 then
        (f_X12_isFrom n a0 w4 (M.1 (a0 + 5) (((58 : Int32) + c2)).toNatClampNeg) M).bind fun (v10 : Int32) =>
        lt ((
          j89 (1 : Int32)
        ) : Option (Int32 × KM)) fun j84 =>
        if v10 = 0 then
          j84
        else
          (f_X12_canNow n a0 c2 w4 M).bind fun (v11 : Int32) =>
          if v11 = 0 then
            j84
          else
            j88
        else none
    else none
def lp_X12_stuck_14 (n : Nat) (a0 : Nat) (M : KM) (w1 : Int32) (w2 : Int32) : Option (Int32 × KM) := match n with
  | 0 => none
  | n + 1 =>
    if ix (2 : Int32) 2810 then
    if (M.1 (a0 + 5) ((2 : Int32)).toNatClampNeg) ≤ w2 then
      some (w1, M)
    else
      (f_X12_isGoing n a0 w2 M).bind fun (v4 : Int32) =>
      lt (fun (x5 : Int32) => (
        lp_X12_stuck_41 n a0 w1 w2 M x5 (0 : Int32)
          (fun (u16 : Int32) => (
            lt (fun (x17 : Int32) => (
              lt ((w1 ||| x17)) fun (v18 : Int32) =>
              lt (w2 + (1 : Int32)) fun (v19 : Int32) =>
              lp_X12_stuck_14 n a0 M v18 v19
            ) : Int32 → Option (Int32 × KM)) fun j108 =>
            if u16 = 0 then
              j108 (0 : Int32)
            else
              j108 ((1 : Int32) <<< (w2 &&& 31))
          ))
      ) : Int32 → Option (Int32 × KM)) fun j37 =>
      if v4 = 0 then
        j37 (1 : Int32)
      else
        j37 (0 : Int32)
    else none
def f_X12_stuck (n : Nat) (a0 : Nat) (M : KM) : Option (Int32 × KM) :=
  lt (uI M a0 1 (0 : Int32)) fun (M1 : KM) =>
  lt (uI M1 a0 0 (0 : Int32)) fun (M2 : KM) =>
  lp_X12_stuck_14 n a0 M2 (0 : Int32) (0 : Int32)
def lp_X12_reach_62 (n : Nat) (a0 : Nat) (c1 : Int32) (c3 : Int32) (M : KM) (w2 : Int32) (w4 : Int32) (k151 : Int32 → Option (Int32 × KM)) : Option (Int32 × KM) := match n with
  | 0 => none
  | n + 1 =>
    if ix (1 : Int32) 2810 then
    if (M.1 (a0 + 5) ((1 : Int32)).toNatClampNeg) ≤ w4 then
      k151 w2
    else
      (f_X12_canNow n a0 c1 w4 M).bind fun (v8 : Int32) =>
      lt (fun (x9 : Int32) => (
        lt (w4 + (1 : Int32)) fun (v10 : Int32) =>
        lp_X12_reach_62 n a0 c1 c3 M x9 v10 k151
      ) : Int32 → Option (Int32 × KM)) fun j145 =>
      if v8 = 0 then
        j145 w2
      else
        if ix ((10 : Int32) + w4) 2810 then
        lt (f_X12_has w2 (M.1 (a0 + 5) (((10 : Int32) + w4)).toNatClampNeg) M) fun (v12 : Int32) =>
        lt ((
          if ix ((10 : Int32) + w4) 2810 then
          if ix ((22 : Int32) + w4) 2810 then
          lt ((w2 ||| (((1 : Int32) <<< ((M.1 (a0 + 5) (((10 : Int32) + w4)).toNatClampNeg) &&& 31)) ||| ((1 : Int32) <<< ((M.1 (a0 + 5) (((22 : Int32) + w4)).toNatClampNeg) &&& 31))))) fun (v15 : Int32) =>
          j145 v15
          else none
          else none
        ) : Option (Int32 × KM)) fun j117 =>
        if v12 = 0 then
          if ix ((22 : Int32) + w4) 2810 then
          lt (f_X12_has w2 (M.1 (a0 + 5) (((22 : Int32) + w4)).toNatClampNeg) M) fun (v17 : Int32) =>
          if v17 = 0 then
            j145 w2
          else
            j117
          else none
        else
          j117
        else none
    else none
def lp_X12_reach_53 (n : Nat) (a0 : Nat) (c1 : Int32) (M : KM) (w2 : Int32) (w3 : Int32) : Option (Int32 × KM) := match n with
  | 0 => none
  | n + 1 =>
    if (8 : Int32) ≤ w3 then
      some (w2, M)
    else
      lp_X12_reach_62 n a0 c1 w3 M w2 (0 : Int32)
        (fun (u22 : Int32) => (
          lt (w3 + (1 : Int32)) fun (v23 : Int32) =>
          lp_X12_reach_53 n a0 c1 M u22 v23
        ))
def f_X12_reach (n : Nat) (a0 : Nat) (p1 : Int32) (M : KM) : Option (Int32 × KM) :=
  lt (uI M a0 1 (0 : Int32)) fun (M1 : KM) =>
  lt (uI M1 a0 0 (0 : Int32)) fun (M2 : KM) =>
  (f_X12_isPerson n a0 p1 M2).bind fun (v3 : Int32) =>
  if v3 = 0 then
    lt (f_X12_refuse a0 (2 : Int32) M2) fun (v27 : (Int32 × KM)) =>
    some (v27.1, v27.2)
  else
    (f_X12_isGoing n a0 p1 M2).bind fun (v4 : Int32) =>
    if v4 = 0 then
      if ix ((58 : Int32) + p1) 2810 then
      lt (((1 : Int32) <<< ((M2.1 (a0 + 5) (((58 : Int32) + p1)).toNatClampNeg) &&& 31))) fun (v6 : Int32) =>
      lp_X12_reach_53 n a0 p1 M2 v6 (0 : Int32)
      else none
    else
      lt (f_X12_refuse a0 (9 : Int32) M2) fun (v25 : (Int32 × KM)) =>
      some (v25.1, v25.2)
def lp_X12_nextGlare_28 (n : Nat) (a0 : Nat) (c1 : Int32) (M : KM) (w2 : Int32) (k68 : Option (Int32 × KM)) : Option (Int32 × KM) := match n with
  | 0 => none
  | n + 1 =>
    if (1440 : Int32) < w2 then
      k68
    else
      if ix (5 : Int32) 2810 then
      (f_X12_glares n a0 ((M.1 (a0 + 5) ((5 : Int32)).toNatClampNeg) + w2) M).bind fun (v5 : Int32) =>
      lt (fun (x6 : Int32) => (
        if v5 = x6 then
          some (w2, M)
        else
          lt (w2 + (1 : Int32)) fun (v7 : Int32) =>
          lp_X12_nextGlare_28 n a0 c1 M v7 k68
      ) : Int32 → Option (Int32 × KM)) fun j57 =>
      if c1 = (1 : Int32) then
        j57 (1 : Int32)
      else
        j57 (0 : Int32)
      else none
def f_X12_nextGlare (n : Nat) (a0 : Nat) (p1 : Int32) (M : KM) : Option (Int32 × KM) :=
  lt (uI M a0 1 (0 : Int32)) fun (M1 : KM) =>
  lt (uI M1 a0 0 (0 : Int32)) fun (M2 : KM) =>
  lt (f_X12_isIn (p1).toInt64 (0 : Int64) (1 : Int64) M2) fun (v3 : Int32) =>
  if v3 = 0 then
    lt (f_X12_refuse a0 (5 : Int32) M2) fun (v12 : (Int32 × KM)) =>
    some (v12.1, v12.2)
  else
    lp_X12_nextGlare_28 n a0 p1 M2 (0 : Int32)
      ((
        lt (f_X12_refuse a0 (8 : Int32) M2) fun (v11 : (Int32 × KM)) =>
        some (v11.1, v11.2)
      ))
def lp_X12_endBy_98 (n : Nat) (a0 : Nat) (M : KM) (w4 : Int32) (w5 : Int32) : Option Int32 := match n with
  | 0 => none
  | n + 1 =>
    if w5 ≤ 0 then
      some w4
    else
      (f_X12_glares n a0 w4 M).bind fun (v9 : Int32) =>
      lt (fun (x10 : Int32) => (
        lt (w4 + (1 : Int32)) fun (v11 : Int32) =>
        lp_X12_endBy_98 n a0 M v11 x10
      ) : Int32 → Option Int32) fun j115 =>
      if v9 = 0 then
        lt (w5 + (-1 : Int32)) fun (v12 : Int32) =>
        j115 v12
      else
        j115 w5
def f_X12_endBy (n : Nat) (a0 : Nat) (p1 : Int32) (p2 : Int32) (p3 : Int32) (M : KM) : Option Int32 :=
  if ix ((106 : Int32) + p1) 2810 then
  lt ((
    (f_X12_canGo n a0 p1 p2 (1 : Int32) M).bind fun (v2 : Int32) =>
    if v2 = 0 then
      some (-1 : Int32)
    else
      if ix ((34 : Int32) + p2) 2810 then
      some (p3 + (M.1 (a0 + 5) (((34 : Int32) + p2)).toNatClampNeg))
      else none
  ) : Option Int32) fun j26 =>
  if (M.1 (a0 + 5) (((106 : Int32) + p1)).toNatClampNeg) = (1 : Int32) then
    j26
  else
    if ix ((98 : Int32) + p1) 2810 then
    if (M.1 (a0 + 5) (((98 : Int32) + p1)).toNatClampNeg) = (1 : Int32) then
      j26
    else
      if ix (9 : Int32) 2810 then
      lt ((
        if ix ((34 : Int32) + p2) 2810 then
        lt ((M.1 (a0 + 5) (((34 : Int32) + p2)).toNatClampNeg)) fun (v8 : Int32) =>
        lp_X12_endBy_98 n a0 M p3 v8
        else none
      ) : Option Int32) fun j84 =>
      if (M.1 (a0 + 5) ((9 : Int32)).toNatClampNeg) = 0 then
        if ix (3 : Int32) 2810 then
        if (M.1 (a0 + 5) ((3 : Int32)).toNatClampNeg) = 0 then
          if ix (4 : Int32) 2810 then
          if (M.1 (a0 + 5) ((4 : Int32)).toNatClampNeg) = (24 : Int32) then
            some (-1 : Int32)
          else
            j84
          else none
        else
          j84
        else none
      else
        j84
      else none
    else none
  else none
def f_X12_endOfTwo (n : Nat) (a0 : Nat) (p1 : Int32) (p2 : Int32) (p3 : Int32) (p4 : Int32) (M : KM) : Option Int32 :=
  (f_X12_endBy n a0 p1 p3 p4 M).bind fun (v1 : Int32) =>
  lt (fun (x2 : Int32) => (
    if 0 ≤ v1 then
      if 0 ≤ x2 then
        lt ((if x2 < v1 then x2 else v1)) fun (v3 : Int32) =>
        some v3
      else
        some v1
    else
      some x2
  ) : Int32 → Option Int32) fun j26 =>
  if 0 ≤ p2 then
    (f_X12_endBy n a0 p2 p3 p4 M).bind fun (v6 : Int32) =>
    j26 v6
  else
    j26 (-1 : Int32)
def f_X12_improves (n : Nat) (a0 : Nat) (a1 : Nat) (p2 : Int32) (p3 : Int32) (p4 : Int32) (p5 : Int32) (p6 : Int32) (M : KM) : Option (Int32 × KM) :=
  if ix p5 8 then
  lt (fun (x2 : Int32) => (
    if x2 < 0 then
      some ((0 : Int32), M)
    else
      if ix p6 8 then
      lt ((
        if ix p6 8 then
        lt (uI M a1 (p6).toNatClampNeg x2) fun (M5 : KM) =>
        some ((1 : Int32), M5)
        else none
      ) : Option (Int32 × KM)) fun j48 =>
      if (M.1 a1 (p6).toNatClampNeg) < 0 then
        j48
      else
        if ix p6 8 then
        if x2 < (M.1 a1 (p6).toNatClampNeg) then
          j48
        else
          some ((0 : Int32), M)
        else none
      else none
  ) : Int32 → Option (Int32 × KM)) fun j23 =>
  if 0 ≤ (M.1 a1 (p5).toNatClampNeg) then
    if ix p5 8 then
    (f_X12_endOfTwo n a0 p2 p3 p4 (M.1 a1 (p5).toNatClampNeg) M).bind fun (v11 : Int32) =>
    j23 v11
    else none
  else
    j23 (-1 : Int32)
  else none
def lp_X12_laysWhen_3 (n : Nat) (a0 : Nat) (a1 : Nat) (c2 : Int32) (c3 : Int32) (c4 : Int32) (c5 : Int32) (w6 : Int32) (M : KM) (k33 : KM → Option KM) : Option KM := match n with
  | 0 => none
  | n + 1 =>
    if (8 : Int32) ≤ w6 then
      k33 M
    else
      lt (fun (x1 : Int32) => (
        if ix w6 8 then
        lt (uI M a1 (w6).toNatClampNeg x1) fun (M3 : KM) =>
        lt (w6 + (1 : Int32)) fun (v4 : Int32) =>
        lp_X12_laysWhen_3 n a0 a1 c2 c3 c4 c5 v4 M3 k33
        else none
      ) : Int32 → Option KM) fun j26 =>
      if w6 = c4 then
        j26 c5
      else
        j26 (-1 : Int32)
def lp_X12_laysWhen_47 (n : Nat) (a0 : Nat) (a1 : Nat) (c2 : Int32) (c3 : Int32) (w6 : Int32) (w7 : Int32) (M : KM) (k152 : Int32 → KM → Option KM) : Option KM := match n with
  | 0 => none
  | n + 1 =>
    if ix (1 : Int32) 2810 then
    if (M.1 (a0 + 5) ((1 : Int32)).toNatClampNeg) ≤ w7 then
      k152 w6 M
    else
      if ix ((10 : Int32) + w7) 2810 then
      if ix ((22 : Int32) + w7) 2810 then
      (f_X12_improves n a0 a1 c2 c3 w7 (M.1 (a0 + 5) (((10 : Int32) + w7)).toNatClampNeg) (M.1 (a0 + 5) (((22 : Int32) + w7)).toNatClampNeg) M).bind fun (v11 : (Int32 × KM)) =>
      lt (fun (x12 : Int32) => (
        if ix ((22 : Int32) + w7) 2810 then
        if ix ((10 : Int32) + w7) 2810 then
        (f_X12_improves n a0 a1 c2 c3 w7 (v11.2.1 (a0 + 5) (((22 : Int32) + w7)).toNatClampNeg) (v11.2.1 (a0 + 5) (((10 : Int32) + w7)).toNatClampNeg) v11.2).bind fun (v15 : (Int32 × KM)) =>
        lt (fun (x16 : Int32) => (
          lt (w7 + (1 : Int32)) fun (v17 : Int32) =>
          lp_X12_laysWhen_47 n a0 a1 c2 c3 x16 v17 v15.2 k152
        ) : Int32 → Option KM) fun j144 =>
        lt ((
          j144 (1 : Int32)
        ) : Option KM) fun j139 =>
        if v15.1 = 0 then
          if x12 = 0 then
            j144 (0 : Int32)
          else
            j139
        else
          j139
        else none
        else none
      ) : Int32 → Option KM) fun j100 =>
      lt ((
        j100 (1 : Int32)
      ) : Option KM) fun j95 =>
      if v11.1 = 0 then
        if w6 = 0 then
          j100 (0 : Int32)
        else
          j95
      else
        j95
      else none
      else none
    else none
def lp_X12_laysWhen_36 (n : Nat) (a0 : Nat) (a1 : Nat) (c2 : Int32) (c3 : Int32) (w6 : Int32) (M : KM) : Option KM := match n with
  | 0 => none
  | n + 1 =>
    if w6 = 0 then
      some M
    else
      lp_X12_laysWhen_47 n a0 a1 c2 c3 (0 : Int32) (0 : Int32) M
        (fun (u23 : Int32) (M24 : KM) => (
          lp_X12_laysWhen_36 n a0 a1 c2 c3 u23 M24
        ))
def f_X12_laysWhen (n : Nat) (a0 : Nat) (a1 : Nat) (p2 : Int32) (p3 : Int32) (p4 : Int32) (p5 : Int32) (M : KM) : Option KM :=
  lp_X12_laysWhen_3 n a0 a1 p2 p3 p4 p5 (0 : Int32) M
    (fun (M7 : KM) => (
      lp_X12_laysWhen_36 n a0 a1 p2 p3 (1 : Int32) M7
    ))
def f_X12_whyNotSoon (n : Nat) (a0 : Nat) (p1 : Int32) (p2 : Int32) (M : KM) : Option Int32 :=
  (f_X12_isPerson n a0 p1 M).bind fun (v1 : Int32) =>
  if v1 = 0 then
    some (2 : Int32)
  else
    (f_X12_isPlaceAt n a0 p2 M).bind fun (v2 : Int32) =>
    if v2 = 0 then
      some (2 : Int32)
    else
      (f_X12_isGoing n a0 p1 M).bind fun (v3 : Int32) =>
      if v3 = 0 then
        some (0 : Int32)
      else
        some (9 : Int32)
def f_X12_soonest (n : Nat) (a0 : Nat) (p1 : Int32) (p2 : Int32) (M : KM) : Option (Int32 × KM) :=
  lt (uI M a0 1 (0 : Int32)) fun (M1 : KM) =>
  (f_X12_whyNotSoon n a0 p1 p2 M1).bind fun (v2 : Int32) =>
  lt (uI M1 a0 0 v2) fun (M3 : KM) =>
  if (M3.1 a0 0) ≤ 0 then
    if ix ((58 : Int32) + p1) 2810 then
    if ix (5 : Int32) 2810 then
    (f_X12_laysWhen n a0 (a0 + 9) p1 (-1 : Int32) (M3.1 (a0 + 5) (((58 : Int32) + p1)).toNatClampNeg) (M3.1 (a0 + 5) ((5 : Int32)).toNatClampNeg) M3).bind fun (v6 : KM) =>
    if ix p2 8 then
    if 0 ≤ (v6.1 (a0 + 9) (p2).toNatClampNeg) then
      if ix p2 8 then
      if ix (5 : Int32) 2810 then
      some (((v6.1 (a0 + 9) (p2).toNatClampNeg) - (v6.1 (a0 + 5) ((5 : Int32)).toNatClampNeg)), v6)
      else none
      else none
    else
      lt (f_X12_refuse a0 (8 : Int32) v6) fun (v10 : (Int32 × KM)) =>
      some (v10.1, v10.2)
    else none
    else none
    else none
  else
    some ((-1 : Int32), M3)
def lp_X12_soonestFirst_79 (n : Nat) (a0 : Nat) (c1 : Int32) (c2 : Int32) (c3 : Int32) (w4 : Int32) (M : KM) (k176 : KM → Option (Int32 × KM)) : Option (Int32 × KM) := match n with
  | 0 => none
  | n + 1 =>
    if ix (0 : Int32) 2810 then
    if (M.1 (a0 + 5) ((0 : Int32)).toNatClampNeg) ≤ w4 then
      k176 M
    else
      if c3 < 0 then
        k176 M
      else
        if ix ((58 : Int32) + c1) 2810 then
        (f_X12_between n a0 (M.1 (a0 + 5) (((58 : Int32) + c1)).toNatClampNeg) w4 M).bind fun (v12 : Int32) =>
        lt (fun (x13 : Int32) => (
          lt (fun (M14 : KM) => (
            lt (w4 + (1 : Int32)) fun (v15 : Int32) =>
            lp_X12_soonestFirst_79 n a0 c1 c2 c3 v15 M14 k176
          ) : KM → Option (Int32 × KM)) fun j170 =>
          if 0 ≤ x13 then
            (f_X12_laysWhen n a0 (a0 + 10) c1 (-1 : Int32) w4 x13 M).bind fun (v16 : KM) =>
            if ix c2 8 then
            if (v16.1 (a0 + 10) (c2).toNatClampNeg) = c3 then
              some (w4, v16)
            else
              j170 v16
            else none
          else
            j170 M
        ) : Int32 → Option (Int32 × KM)) fun j133 =>
        if 0 ≤ v12 then
          if ix (5 : Int32) 2810 then
          (f_X12_endBy n a0 c1 v12 (M.1 (a0 + 5) ((5 : Int32)).toNatClampNeg) M).bind fun (v21 : Int32) =>
          j133 v21
          else none
        else
          j133 (-1 : Int32)
        else none
    else none
def f_X12_soonestFirst (n : Nat) (a0 : Nat) (p1 : Int32) (p2 : Int32) (M : KM) : Option (Int32 × KM) :=
  lt (uI M a0 1 (0 : Int32)) fun (M1 : KM) =>
  (f_X12_whyNotSoon n a0 p1 p2 M1).bind fun (v2 : Int32) =>
  lt (uI M1 a0 0 v2) fun (M3 : KM) =>
  if (M3.1 a0 0) ≤ 0 then
    if ix ((58 : Int32) + p1) 2810 then
    if (M3.1 (a0 + 5) (((58 : Int32) + p1)).toNatClampNeg) = p2 then
      lt (f_X12_refuse a0 (9 : Int32) M3) fun (v27 : (Int32 × KM)) =>
      some (v27.1, v27.2)
    else
      if ix ((58 : Int32) + p1) 2810 then
      if ix (5 : Int32) 2810 then
      (f_X12_laysWhen n a0 (a0 + 9) p1 (-1 : Int32) (M3.1 (a0 + 5) (((58 : Int32) + p1)).toNatClampNeg) (M3.1 (a0 + 5) ((5 : Int32)).toNatClampNeg) M3).bind fun (v7 : KM) =>
      if ix p2 8 then
      lt ((v7.1 (a0 + 9) (p2).toNatClampNeg)) fun (v9 : Int32) =>
      lp_X12_soonestFirst_79 n a0 p1 p2 v9 (0 : Int32) v7
        (fun (M25 : KM) => (
          lt (f_X12_refuse a0 (8 : Int32) M25) fun (v26 : (Int32 × KM)) =>
          some (v26.1, v26.2)
        ))
      else none
      else none
      else none
    else none
  else
    some ((-1 : Int32), M3)
def f_X12_whyNotTwo (n : Nat) (a0 : Nat) (p1 : Int32) (p2 : Int32) (M : KM) : Option Int32 :=
  (f_X12_isPerson n a0 p1 M).bind fun (v1 : Int32) =>
  if v1 = 0 then
    some (2 : Int32)
  else
    (f_X12_isPerson n a0 p2 M).bind fun (v2 : Int32) =>
    if v2 = 0 then
      some (2 : Int32)
    else
      lt ((
        some (9 : Int32)
      ) : Option Int32) fun j39 =>
      if p1 = p2 then
        j39
      else
        (f_X12_isGoing n a0 p1 M).bind fun (v3 : Int32) =>
        if v3 = 0 then
          (f_X12_isGoing n a0 p2 M).bind fun (v4 : Int32) =>
          if v4 = 0 then
            some (0 : Int32)
          else
            j39
        else
          j39
def f_X12_soonestTwo (n : Nat) (a0 : Nat) (p1 : Int32) (p2 : Int32) (p3 : Int32) (M : KM) : Option (Int32 × KM) :=
  lt (uI M a0 1 (0 : Int32)) fun (M1 : KM) =>
  (f_X12_isPlaceAt n a0 p3 M1).bind fun (v2 : Int32) =>
  lt (fun (x3 : Int32) => (
    lt (uI M1 a0 0 x3) fun (M4 : KM) =>
    lt (fun (M5 : KM) => (
      if (M5.1 a0 0) ≤ 0 then
        if ix ((58 : Int32) + p1) 2810 then
        if ix (5 : Int32) 2810 then
        (f_X12_laysWhen n a0 (a0 + 9) p1 p2 (M5.1 (a0 + 5) (((58 : Int32) + p1)).toNatClampNeg) (M5.1 (a0 + 5) ((5 : Int32)).toNatClampNeg) M5).bind fun (v8 : KM) =>
        if ix p3 8 then
        if 0 ≤ (v8.1 (a0 + 9) (p3).toNatClampNeg) then
          if ix p3 8 then
          if ix (5 : Int32) 2810 then
          some (((v8.1 (a0 + 9) (p3).toNatClampNeg) - (v8.1 (a0 + 5) ((5 : Int32)).toNatClampNeg)), v8)
          else none
          else none
        else
          lt (f_X12_refuse a0 (8 : Int32) v8) fun (v12 : (Int32 × KM)) =>
          some (v12.1, v12.2)
        else none
        else none
        else none
      else
        some ((-1 : Int32), M5)
    ) : KM → Option (Int32 × KM)) fun j61 =>
    if (M4.1 a0 0) = 0 then
      if ix ((58 : Int32) + p1) 2810 then
      if ix ((58 : Int32) + p2) 2810 then
      if (M4.1 (a0 + 5) (((58 : Int32) + p1)).toNatClampNeg) = (M4.1 (a0 + 5) (((58 : Int32) + p2)).toNatClampNeg) then
        j61 M4
      else
        lt (uI M4 a0 0 (9 : Int32)) fun (M17 : KM) =>
        j61 M17
      else none
      else none
    else
      j61 M4
  ) : Int32 → Option (Int32 × KM)) fun j24 =>
  if v2 = 0 then
    j24 (2 : Int32)
  else
    (f_X12_whyNotTwo n a0 p1 p2 M1).bind fun (v20 : Int32) =>
    j24 v20
def lp_X12_meeting_55 (n : Nat) (a0 : Nat) (w3 : Int32) (w4 : Int32) (M : KM) : Option (Int32 × KM) := match n with
  | 0 => none
  | n + 1 =>
    if ix (0 : Int32) 2810 then
    if (M.1 (a0 + 5) ((0 : Int32)).toNatClampNeg) ≤ w4 then
      some (w3, M)
    else
      if ix w4 8 then
      lt (fun (x9 : Int32) (M10 : KM) => (
        lt (w4 + (1 : Int32)) fun (v11 : Int32) =>
        lp_X12_meeting_55 n a0 x9 v11 M10
      ) : Int32 → KM → Option (Int32 × KM)) fun j136 =>
      if (M.1 (a0 + 9) (w4).toNatClampNeg) < 0 then
        j136 w3 M
      else
        if ix w4 8 then
        if 0 ≤ (M.1 (a0 + 10) (w4).toNatClampNeg) then
          if ix w4 8 then
          if ix w4 8 then
          lt ((if (M.1 (a0 + 9) (w4).toNatClampNeg) < (M.1 (a0 + 10) (w4).toNatClampNeg) then (M.1 (a0 + 10) (w4).toNatClampNeg) else (M.1 (a0 + 9) (w4).toNatClampNeg))) fun (v15 : Int32) =>
          if ix w4 8 then
          lt (uI M (a0 + 9) (w4).toNatClampNeg v15) fun (M17 : KM) =>
          lt ((
            j136 w4 M17
          ) : Option (Int32 × KM)) fun j133 =>
          if w3 < 0 then
            j133
          else
            if ix w4 8 then
            if ix w3 8 then
            if (M17.1 (a0 + 9) (w3).toNatClampNeg) ≤ (M17.1 (a0 + 9) (w4).toNatClampNeg) then
              j136 w3 M17
            else
              j133
            else none
            else none
          else none
          else none
          else none
        else
          j136 w3 M
        else none
      else none
    else none
def f_X12_meeting (n : Nat) (a0 : Nat) (p1 : Int32) (p2 : Int32) (M : KM) : Option (Int32 × KM) :=
  if ix ((58 : Int32) + p1) 2810 then
  if ix (5 : Int32) 2810 then
  (f_X12_laysWhen n a0 (a0 + 9) p1 (-1 : Int32) (M.1 (a0 + 5) (((58 : Int32) + p1)).toNatClampNeg) (M.1 (a0 + 5) ((5 : Int32)).toNatClampNeg) M).bind fun (v3 : KM) =>
  if ix ((58 : Int32) + p2) 2810 then
  if ix (5 : Int32) 2810 then
  (f_X12_laysWhen n a0 (a0 + 10) p2 (-1 : Int32) (v3.1 (a0 + 5) (((58 : Int32) + p2)).toNatClampNeg) (v3.1 (a0 + 5) ((5 : Int32)).toNatClampNeg) v3).bind fun (v6 : KM) =>
  lp_X12_meeting_55 n a0 (-1 : Int32) (0 : Int32) v6
  else none
  else none
  else none
  else none
def f_X12_meet (n : Nat) (a0 : Nat) (p1 : Int32) (p2 : Int32) (M : KM) : Option (Int32 × KM) :=
  lt (uI M a0 1 (0 : Int32)) fun (M1 : KM) =>
  (f_X12_whyNotTwo n a0 p1 p2 M1).bind fun (v2 : Int32) =>
  lt (uI M1 a0 0 v2) fun (M3 : KM) =>
  if (M3.1 a0 0) ≤ 0 then
    (f_X12_meeting n a0 p1 p2 M3).bind fun (v4 : (Int32 × KM)) =>
    if 0 ≤ v4.1 then
      some (v4.1, v4.2)
    else
      lt (f_X12_refuse a0 (8 : Int32) v4.2) fun (v5 : (Int32 × KM)) =>
      some (v5.1, v5.2)
  else
    some ((-1 : Int32), M3)
def f_X12_meetIn (n : Nat) (a0 : Nat) (p1 : Int32) (p2 : Int32) (M : KM) : Option (Int32 × KM) :=
  lt (uI M a0 1 (0 : Int32)) fun (M1 : KM) =>
  (f_X12_whyNotTwo n a0 p1 p2 M1).bind fun (v2 : Int32) =>
  lt (uI M1 a0 0 v2) fun (M3 : KM) =>
  if (M3.1 a0 0) ≤ 0 then
    (f_X12_meeting n a0 p1 p2 M3).bind fun (v4 : (Int32 × KM)) =>
    if 0 ≤ v4.1 then
      if ix v4.1 8 then
      if ix (5 : Int32) 2810 then
      some (((v4.2.1 (a0 + 9) (v4.1).toNatClampNeg) - (v4.2.1 (a0 + 5) ((5 : Int32)).toNatClampNeg)), v4.2)
      else none
      else none
    else
      lt (f_X12_refuse a0 (8 : Int32) v4.2) fun (v7 : (Int32 × KM)) =>
      some (v7.1, v7.2)
  else
    some ((-1 : Int32), M3)
def lp_X12_comesBy_26 (n : Nat) (a0 : Nat) (c1 : Int32) (c2 : Int32) (c3 : Int32) (c5 : Int32) (M : KM) (w4 : Int32) (w6 : Int32) (k128 : Int32 → Option Int32) : Option Int32 := match n with
  | 0 => none
  | n + 1 =>
    if ix (1 : Int32) 2810 then
    if (M.1 (a0 + 5) ((1 : Int32)).toNatClampNeg) ≤ w6 then
      k128 w4
    else
      lt (f_X12_has c3 w6 M) fun (v4 : Int32) =>
      lt (fun (x5 : Int32) => (
        lt (w6 + (1 : Int32)) fun (v6 : Int32) =>
        lp_X12_comesBy_26 n a0 c1 c2 c3 c5 M x5 v6 k128
      ) : Int32 → Option Int32) fun j122 =>
      lt ((
        if ix ((10 : Int32) + w6) 2810 then
        lt (f_X12_has w4 (M.1 (a0 + 5) (((10 : Int32) + w6)).toNatClampNeg) M) fun (v8 : Int32) =>
        lt ((
          if ix ((10 : Int32) + w6) 2810 then
          if ix ((22 : Int32) + w6) 2810 then
          lt ((w4 ||| (((1 : Int32) <<< ((M.1 (a0 + 5) (((10 : Int32) + w6)).toNatClampNeg) &&& 31)) ||| ((1 : Int32) <<< ((M.1 (a0 + 5) (((22 : Int32) + w6)).toNatClampNeg) &&& 31))))) fun (v11 : Int32) =>
          j122 v11
          else none
          else none
        ) : Option Int32) fun j92 =>
        if v8 = 0 then
          if ix ((22 : Int32) + w6) 2810 then
          lt (f_X12_has w4 (M.1 (a0 + 5) (((22 : Int32) + w6)).toNatClampNeg) M) fun (v13 : Int32) =>
          if v13 = 0 then
            j122 w4
          else
            j92
          else none
        else
          j92
        else none
      ) : Option Int32) fun j56 =>
      if v4 = 0 then
        (f_X12_canNow n a0 c1 w6 M).bind fun (v16 : Int32) =>
        if v16 = 0 then
          j122 w4
        else
          j56
      else
        j56
    else none
def lp_X12_comesBy_16 (n : Nat) (a0 : Nat) (c1 : Int32) (c2 : Int32) (c3 : Int32) (M : KM) (w4 : Int32) (w5 : Int32) (k134 : Int32 → Option Int32) : Option Int32 := match n with
  | 0 => none
  | n + 1 =>
    if (8 : Int32) ≤ w5 then
      k134 w4
    else
      lp_X12_comesBy_26 n a0 c1 c2 c3 w5 M w4 (0 : Int32)
        (fun (u20 : Int32) => (
          lt (w5 + (1 : Int32)) fun (v21 : Int32) =>
          lp_X12_comesBy_16 n a0 c1 c2 c3 M u20 v21 k134
        ))
def f_X12_comesBy (n : Nat) (a0 : Nat) (p1 : Int32) (p2 : Int32) (p3 : Int32) (M : KM) : Option Int32 :=
  if ix ((58 : Int32) + p1) 2810 then
  lt (((1 : Int32) <<< ((M.1 (a0 + 5) (((58 : Int32) + p1)).toNatClampNeg) &&& 31))) fun (v2 : Int32) =>
  lp_X12_comesBy_16 n a0 p1 p2 p3 M v2 (0 : Int32)
    (fun (u23 : Int32) => (
      lt (f_X12_has u23 p2 M) fun (v24 : Int32) =>
      some v24
    ))
  else none
def lp_X12_planting_5 (n : Nat) (a0 : Nat) (c1 : Int32) (c2 : Int32) (M : KM) (w3 : Int32) (w4 : Int32) : Option Int32 := match n with
  | 0 => none
  | n + 1 =>
    if ix (1 : Int32) 2810 then
    if ((1 : Int32) <<< ((M.1 (a0 + 5) ((1 : Int32)).toNatClampNeg) &&& 31)) ≤ w4 then
      some w3
    else
      lt (fun (x2 : Int32) => (
        lt (w4 + (1 : Int32)) fun (v3 : Int32) =>
        lp_X12_planting_5 n a0 c1 c2 M x2 v3
      ) : Int32 → Option Int32) fun j48 =>
      lt ((
        (f_X12_comesBy n a0 c1 c2 w4 M).bind fun (v4 : Int32) =>
        if v4 = 0 then
          j48 w3
        else
          j48 w4
      ) : Option Int32) fun j34 =>
      if w3 < 0 then
        j34
      else
        (f_X12_sizeOf n w4 M).bind fun (v6 : Int32) =>
        (f_X12_sizeOf n w3 M).bind fun (v7 : Int32) =>
        if v7 ≤ v6 then
          j48 w3
        else
          j34
    else none
def f_X12_planting (n : Nat) (a0 : Nat) (p1 : Int32) (p2 : Int32) (M : KM) : Option Int32 :=
  lp_X12_planting_5 n a0 p1 p2 M (-1 : Int32) (0 : Int32)
def f_X12_whyNoPlant (n : Nat) (a0 : Nat) (p1 : Int32) (p2 : Int32) (M : KM) : Option Int32 :=
  (f_X12_isPerson n a0 p1 M).bind fun (v1 : Int32) =>
  if v1 = 0 then
    some (2 : Int32)
  else
    (f_X12_isPlaceAt n a0 p2 M).bind fun (v2 : Int32) =>
    if v2 = 0 then
      some (2 : Int32)
    else
      if ix ((106 : Int32) + p1) 2810 then
      lt ((
        some (9 : Int32)
      ) : Option Int32) fun j38 =>
      if (M.1 (a0 + 5) (((106 : Int32) + p1)).toNatClampNeg) = 0 then
        j38
      else
        (f_X12_isGoing n a0 p1 M).bind fun (v4 : Int32) =>
        if v4 = 0 then
          some (0 : Int32)
        else
          j38
      else none
def f_X12_plants (n : Nat) (a0 : Nat) (p1 : Int32) (p2 : Int32) (M : KM) : Option (Int32 × KM) :=
  lt (uI M a0 1 (0 : Int32)) fun (M1 : KM) =>
  (f_X12_whyNoPlant n a0 p1 p2 M1).bind fun (v2 : Int32) =>
  lt (uI M1 a0 0 v2) fun (M3 : KM) =>
  if (M3.1 a0 0) ≤ 0 then
    (f_X12_planting n a0 p1 p2 M3).bind fun (v4 : Int32) =>
    if 0 ≤ v4 then
      (f_X12_sizeOf n v4 M3).bind fun (v5 : Int32) =>
      some (v5, M3)
    else
      lt (f_X12_refuse a0 (8 : Int32) M3) fun (v6 : (Int32 × KM)) =>
      some (v6.1, v6.2)
  else
    some ((-1 : Int32), M3)
def f_X12_plantSet (n : Nat) (a0 : Nat) (p1 : Int32) (p2 : Int32) (M : KM) : Option (Int32 × KM) :=
  lt (uI M a0 1 (0 : Int32)) fun (M1 : KM) =>
  (f_X12_whyNoPlant n a0 p1 p2 M1).bind fun (v2 : Int32) =>
  lt (uI M1 a0 0 v2) fun (M3 : KM) =>
  if (M3.1 a0 0) ≤ 0 then
    (f_X12_planting n a0 p1 p2 M3).bind fun (v4 : Int32) =>
    if 0 ≤ v4 then
      some (v4, M3)
    else
      lt (f_X12_refuse a0 (8 : Int32) M3) fun (v5 : (Int32 × KM)) =>
      some (v5.1, v5.2)
  else
    some ((-1 : Int32), M3)
def lp_X12_ways_64 (n : Nat) (a0 : Nat) (c1 : Int32) (c2 : Int32) (c3 : Int32) (c4 : Int32) (w5 : Int32) (M : KM) (k95 : KM → Option (Int64 × KM)) : Option (Int64 × KM) := match n with
  | 0 => none
  | n + 1 =>
    if (8 : Int32) ≤ w5 then
      k95 M
    else
      lt (fun (x8 : Int64) => (
        if ix w5 8 then
        lt (uJ M (a0 + 11) (w5).toNatClampNeg x8) fun (M10 : KM) =>
        lt (w5 + (1 : Int32)) fun (v11 : Int32) =>
        lp_X12_ways_64 n a0 c1 c2 c3 c4 v11 M10 k95
        else none
      ) : Int64 → Option (Int64 × KM)) fun j88 =>
      if w5 = c2 then
        j88 (1 : Int64)
      else
        j88 (0 : Int64)
def lp_X12_ways_108 (n : Nat) (a0 : Nat) (c1 : Int32) (c3 : Int32) (c4 : Int32) (c5 : Int32) (w6 : Int32) (M : KM) (k129 : KM → Option (Int64 × KM)) : Option (Int64 × KM) := match n with
  | 0 => none
  | n + 1 =>
    if (8 : Int32) ≤ w6 then
      k129 M
    else
      if ix w6 8 then
      lt (uJ M (a0 + 12) (w6).toNatClampNeg (0 : Int64)) fun (M17 : KM) =>
      lt (w6 + (1 : Int32)) fun (v18 : Int32) =>
      lp_X12_ways_108 n a0 c1 c3 c4 c5 v18 M17 k129
      else none
def lp_X12_ways_132 (n : Nat) (a0 : Nat) (c1 : Int32) (c3 : Int32) (c4 : Int32) (c5 : Int32) (w6 : Int32) (M : KM) (k229 : KM → Option (Int64 × KM)) : Option (Int64 × KM) := match n with
  | 0 => none
  | n + 1 =>
    if ix (1 : Int32) 2810 then
    if (M.1 (a0 + 5) ((1 : Int32)).toNatClampNeg) ≤ w6 then
      k229 M
    else
      (f_X12_canGo n a0 c1 w6 (0 : Int32) M).bind fun (v22 : Int32) =>
      lt (fun (M23 : KM) => (
        lt (w6 + (1 : Int32)) fun (v24 : Int32) =>
        lp_X12_ways_132 n a0 c1 c3 c4 c5 v24 M23 k229
      ) : KM → Option (Int64 × KM)) fun j223 =>
      if v22 = 0 then
        j223 M
      else
        if ix ((10 : Int32) + w6) 2810 then
        lt ((M.1 (a0 + 5) (((10 : Int32) + w6)).toNatClampNeg)) fun (v26 : Int32) =>
        if ix v26 8 then
        if ix ((22 : Int32) + w6) 2810 then
        if ix (M.1 (a0 + 5) (((22 : Int32) + w6)).toNatClampNeg) 8 then
        if ix v26 8 then
        lt (uJ M (a0 + 12) (v26).toNatClampNeg ((M.2.1 (a0 + 12) (v26).toNatClampNeg) + (M.2.1 (a0 + 11) ((M.1 (a0 + 5) (((22 : Int32) + w6)).toNatClampNeg)).toNatClampNeg))) fun (M31 : KM) =>
        if ix ((22 : Int32) + w6) 2810 then
        lt ((M31.1 (a0 + 5) (((22 : Int32) + w6)).toNatClampNeg)) fun (v33 : Int32) =>
        if ix v33 8 then
        if ix ((10 : Int32) + w6) 2810 then
        if ix (M31.1 (a0 + 5) (((10 : Int32) + w6)).toNatClampNeg) 8 then
        if ix v33 8 then
        lt (uJ M31 (a0 + 12) (v33).toNatClampNeg ((M31.2.1 (a0 + 12) (v33).toNatClampNeg) + (M31.2.1 (a0 + 11) ((M31.1 (a0 + 5) (((10 : Int32) + w6)).toNatClampNeg)).toNatClampNeg))) fun (M38 : KM) =>
        j223 M38
        else none
        else none
        else none
        else none
        else none
        else none
        else none
        else none
        else none
        else none
    else none
def lp_X12_ways_232 (n : Nat) (a0 : Nat) (c1 : Int32) (c3 : Int32) (c4 : Int32) (c5 : Int32) (w6 : Int32) (M : KM) (k259 : KM → Option (Int64 × KM)) : Option (Int64 × KM) := match n with
  | 0 => none
  | n + 1 =>
    if (8 : Int32) ≤ w6 then
      k259 M
    else
      if ix w6 8 then
      if ix w6 8 then
      lt (uJ M (a0 + 11) (w6).toNatClampNeg (M.2.1 (a0 + 12) (w6).toNatClampNeg)) fun (M44 : KM) =>
      lt (w6 + (1 : Int32)) fun (v45 : Int32) =>
      lp_X12_ways_232 n a0 c1 c3 c4 c5 v45 M44 k259
      else none
      else none
def lp_X12_ways_98 (n : Nat) (a0 : Nat) (c1 : Int32) (c3 : Int32) (c4 : Int32) (w5 : Int32) (M : KM) : Option (Int64 × KM) := match n with
  | 0 => none
  | n + 1 =>
    if c4 ≤ w5 then
      if ix c3 8 then
      some ((M.2.1 (a0 + 11) (c3).toNatClampNeg), M)
      else none
    else
      lp_X12_ways_108 n a0 c1 c3 c4 w5 (0 : Int32) M
        (fun (M20 : KM) => (
          lp_X12_ways_132 n a0 c1 c3 c4 w5 (0 : Int32) M20
            (fun (M41 : KM) => (
              lp_X12_ways_232 n a0 c1 c3 c4 w5 (0 : Int32) M41
                (fun (M47 : KM) => (
                  lt (w5 + (1 : Int32)) fun (v48 : Int32) =>
                  lp_X12_ways_98 n a0 c1 c3 c4 v48 M47
                ))
            ))
        ))
def f_X12_ways (n : Nat) (a0 : Nat) (p1 : Int32) (p2 : Int32) (p3 : Int32) (p4 : Int32) (M : KM) : Option (Int64 × KM) :=
  lt (uI M a0 1 (0 : Int32)) fun (M1 : KM) =>
  lt (uI M1 a0 0 (0 : Int32)) fun (M2 : KM) =>
  (f_X12_isPerson n a0 p1 M2).bind fun (v3 : Int32) =>
  lt ((
    lt (f_X12_refuse a0 (2 : Int32) M2) fun (v4 : (Int32 × KM)) =>
    some ((v4.1).toInt64, v4.2)
  ) : Option (Int64 × KM)) fun j34 =>
  if v3 = 0 then
    j34
  else
    (f_X12_isPlaceAt n a0 p2 M2).bind fun (v5 : Int32) =>
    if v5 = 0 then
      j34
    else
      (f_X12_isPlaceAt n a0 p3 M2).bind fun (v6 : Int32) =>
      if v6 = 0 then
        j34
      else
        lt (f_X12_isIn (p4).toInt64 (0 : Int64) (10 : Int64) M2) fun (v7 : Int32) =>
        if v7 = 0 then
          lt (f_X12_refuse a0 (5 : Int32) M2) fun (v50 : (Int32 × KM)) =>
          some ((v50.1).toInt64, v50.2)
        else
          lp_X12_ways_64 n a0 p1 p2 p3 p4 (0 : Int32) M2
            (fun (M14 : KM) => (
              lp_X12_ways_98 n a0 p1 p3 p4 (0 : Int32) M14
            ))
def f_X12_likes (n : Nat) (a0 : Nat) (p1 : Int32) (p2 : Int32) (p3 : Int32) (M : KM) : Option Int32 :=
  if ix (((226 : Int32) + ((8 : Int32) * p2)) + p1) 2810 then
  lt ((M.1 (a0 + 5) ((((226 : Int32) + ((8 : Int32) * p2)) + p1)).toNatClampNeg)) fun (v2 : Int32) =>
  if ix (((226 : Int32) + ((8 : Int32) * p3)) + p1) 2810 then
  lt ((M.1 (a0 + 5) ((((226 : Int32) + ((8 : Int32) * p3)) + p1)).toNatClampNeg)) fun (v4 : Int32) =>
  lt ((
    some (1 : Int32)
  ) : Option Int32) fun j53 =>
  if v4 < v2 then
    j53
  else
    if v2 = v4 then
      if p3 ≤ p2 then
        some (0 : Int32)
      else
        j53
    else
      some (0 : Int32)
  else none
  else none
def lp_X12_nextAsked_4 (n : Nat) (a0 : Nat) (c1 : Int32) (M : KM) (w2 : Int32) (w3 : Int32) : Option Int32 := match n with
  | 0 => none
  | n + 1 =>
    if ix (2 : Int32) 2810 then
    if (M.1 (a0 + 5) ((2 : Int32)).toNatClampNeg) ≤ w3 then
      some w2
    else
      if ix ((106 : Int32) + w3) 2810 then
      lt (fun (x3 : Int32) => (
        lt (w3 + (1 : Int32)) fun (v4 : Int32) =>
        lp_X12_nextAsked_4 n a0 c1 M x3 v4
      ) : Int32 → Option Int32) fun j56 =>
      if (M.1 (a0 + 5) (((106 : Int32) + w3)).toNatClampNeg) = (1 : Int32) then
        if ix c1 8 then
        lt (f_X12_has (M.1 (a0 + 14) (c1).toNatClampNeg) w3 M) fun (v6 : Int32) =>
        if v6 = 0 then
          lt ((
            j56 w3
          ) : Option Int32) fun j54 =>
          if w2 < 0 then
            j54
          else
            (f_X12_likes n a0 c1 w3 w2 M).bind fun (v7 : Int32) =>
            if v7 = 0 then
              j56 w2
            else
              j54
        else
          j56 w2
        else none
      else
        j56 w2
      else none
    else none
def f_X12_nextAsked (n : Nat) (a0 : Nat) (p1 : Int32) (M : KM) : Option Int32 :=
  lp_X12_nextAsked_4 n a0 p1 M (-1 : Int32) (0 : Int32)
def lp_X12_asksOn_2 (n : Nat) (a0 : Nat) (w2 : Int32) (M : KM) : Option KM := match n with
  | 0 => none
  | n + 1 =>
    if w2 < 0 then
      some M
    else
      (f_X12_nextAsked n a0 w2 M).bind fun (v1 : Int32) =>
      if 0 ≤ v1 then
        if ix w2 8 then
        if ix w2 8 then
        lt (uI M (a0 + 14) (w2).toNatClampNeg ((M.1 (a0 + 14) (w2).toNatClampNeg) ||| ((1 : Int32) <<< (v1 &&& 31)))) fun (M4 : KM) =>
        if ix v1 8 then
        lt ((M4.1 (a0 + 13) (v1).toNatClampNeg)) fun (v6 : Int32) =>
        lt ((
          if ix v1 8 then
          lt (uI M4 (a0 + 13) (v1).toNatClampNeg w2) fun (M8 : KM) =>
          if ix w2 8 then
          lt (uI M8 (a0 + 13) (w2).toNatClampNeg v1) fun (M10 : KM) =>
          lt (fun (M11 : KM) => (
            lp_X12_asksOn_2 n a0 v6 M11
          ) : KM → Option KM) fun j83 =>
          if v6 < 0 then
            j83 M10
          else
            if ix v6 8 then
            lt (uI M10 (a0 + 13) (v6).toNatClampNeg (-1 : Int32)) fun (M13 : KM) =>
            j83 M13
            else none
          else none
          else none
        ) : Option KM) fun j56 =>
        if v6 < 0 then
          j56
        else
          (f_X12_likes n a0 v1 w2 v6 M4).bind fun (v15 : Int32) =>
          if v15 = 0 then
            lp_X12_asksOn_2 n a0 w2 M4
          else
            j56
        else none
        else none
        else none
      else
        some M
def f_X12_asksOn (n : Nat) (a0 : Nat) (p1 : Int32) (M : KM) : Option KM :=
  lp_X12_asksOn_2 n a0 p1 M
def lp_X12_laysPairs_2 (n : Nat) (a0 : Nat) (w1 : Int32) (M : KM) (k28 : KM → Option KM) : Option KM := match n with
  | 0 => none
  | n + 1 =>
    if (8 : Int32) ≤ w1 then
      k28 M
    else
      if ix w1 8 then
      lt (uI M (a0 + 13) (w1).toNatClampNeg (-1 : Int32)) fun (M2 : KM) =>
      if ix w1 8 then
      lt (uI M2 (a0 + 14) (w1).toNatClampNeg (0 : Int32)) fun (M4 : KM) =>
      lt (w1 + (1 : Int32)) fun (v5 : Int32) =>
      lp_X12_laysPairs_2 n a0 v5 M4 k28
      else none
      else none
def lp_X12_laysPairs_30 (n : Nat) (a0 : Nat) (w1 : Int32) (M : KM) : Option KM := match n with
  | 0 => none
  | n + 1 =>
    if ix (2 : Int32) 2810 then
    if (M.1 (a0 + 5) ((2 : Int32)).toNatClampNeg) ≤ w1 then
      some M
    else
      if ix ((106 : Int32) + w1) 2810 then
      lt (fun (M10 : KM) => (
        lt (w1 + (1 : Int32)) fun (v11 : Int32) =>
        lp_X12_laysPairs_30 n a0 v11 M10
      ) : KM → Option KM) fun j57 =>
      if (M.1 (a0 + 5) (((106 : Int32) + w1)).toNatClampNeg) = 0 then
        (f_X12_asksOn n a0 w1 M).bind fun (v12 : KM) =>
        j57 v12
      else
        j57 M
      else none
    else none
def f_X12_laysPairs (n : Nat) (a0 : Nat) (M : KM) : Option KM :=
  lp_X12_laysPairs_2 n a0 (0 : Int32) M
    (fun (M7 : KM) => (
      lp_X12_laysPairs_30 n a0 (0 : Int32) M7
    ))
def f_X12_pair (n : Nat) (a0 : Nat) (p1 : Int32) (M : KM) : Option (Int32 × KM) :=
  lt (uI M a0 1 (0 : Int32)) fun (M1 : KM) =>
  lt (uI M1 a0 0 (0 : Int32)) fun (M2 : KM) =>
  (f_X12_isPerson n a0 p1 M2).bind fun (v3 : Int32) =>
  if v3 = 0 then
    lt (f_X12_refuse a0 (2 : Int32) M2) fun (v9 : (Int32 × KM)) =>
    some (v9.1, v9.2)
  else
    (f_X12_laysPairs n a0 M2).bind fun (v4 : KM) =>
    if ix p1 8 then
    if 0 ≤ (v4.1 (a0 + 13) (p1).toNatClampNeg) then
      if ix p1 8 then
      some ((v4.1 (a0 + 13) (p1).toNatClampNeg), v4)
      else none
    else
      lt (f_X12_refuse a0 (8 : Int32) v4) fun (v7 : (Int32 × KM)) =>
      some (v7.1, v7.2)
    else none
def lp_X12_pairs_18 (n : Nat) (a0 : Nat) (M : KM) (w1 : Int32) (w2 : Int32) : Option (Int32 × KM) := match n with
  | 0 => none
  | n + 1 =>
    if (8 : Int32) ≤ w2 then
      some (w1, M)
    else
      if ix w2 8 then
      lt (fun (x5 : Int32) => (
        lt ((w1 + x5)) fun (v6 : Int32) =>
        lt (w2 + (1 : Int32)) fun (v7 : Int32) =>
        lp_X12_pairs_18 n a0 M v6 v7
      ) : Int32 → Option (Int32 × KM)) fun j40 =>
      if (M.1 (a0 + 13) (w2).toNatClampNeg) ≤ w2 then
        j40 (0 : Int32)
      else
        j40 (1 : Int32)
      else none
def f_X12_pairs (n : Nat) (a0 : Nat) (M : KM) : Option (Int32 × KM) :=
  lt (uI M a0 1 (0 : Int32)) fun (M1 : KM) =>
  lt (uI M1 a0 0 (0 : Int32)) fun (M2 : KM) =>
  (f_X12_laysPairs n a0 M2).bind fun (v3 : KM) =>
  lp_X12_pairs_18 n a0 v3 (0 : Int32) (0 : Int32)
def lp_X12_pairsOwe_18 (n : Nat) (a0 : Nat) (M : KM) (w1 : Int32) (w2 : Int32) : Option (Int32 × KM) := match n with
  | 0 => none
  | n + 1 =>
    if (8 : Int32) ≤ w2 then
      some (w1, M)
    else
      if ix w2 8 then
      lt (fun (x5 : Int32) => (
        lt ((w1 + x5)) fun (v6 : Int32) =>
        lt (w2 + (1 : Int32)) fun (v7 : Int32) =>
        lp_X12_pairsOwe_18 n a0 M v6 v7
      ) : Int32 → Option (Int32 × KM)) fun j62 =>
      if (M.1 (a0 + 13) (w2).toNatClampNeg) ≤ w2 then
        j62 (0 : Int32)
      else
        if ix w2 8 then
        if ix (((226 : Int32) + ((8 : Int32) * w2)) + (M.1 (a0 + 13) (w2).toNatClampNeg)) 2810 then
        lt ((if 0 ≤ (M.1 (a0 + 5) ((((226 : Int32) + ((8 : Int32) * w2)) + (M.1 (a0 + 13) (w2).toNatClampNeg))).toNatClampNeg) then (M.1 (a0 + 5) ((((226 : Int32) + ((8 : Int32) * w2)) + (M.1 (a0 + 13) (w2).toNatClampNeg))).toNatClampNeg) else 0 - (M.1 (a0 + 5) ((((226 : Int32) + ((8 : Int32) * w2)) + (M.1 (a0 + 13) (w2).toNatClampNeg))).toNatClampNeg))) fun (v10 : Int32) =>
        j62 v10
        else none
        else none
      else none
def f_X12_pairsOwe (n : Nat) (a0 : Nat) (M : KM) : Option (Int32 × KM) :=
  lt (uI M a0 1 (0 : Int32)) fun (M1 : KM) =>
  lt (uI M1 a0 0 (0 : Int32)) fun (M2 : KM) =>
  (f_X12_laysPairs n a0 M2).bind fun (v3 : KM) =>
  lp_X12_pairsOwe_18 n a0 v3 (0 : Int32) (0 : Int32)
def lp_X12_dearest_31 (n : Nat) (a0 : Nat) (c1 : Int32) (M : KM) (w2 : Int32) (w3 : Int32) (w4 : Int32) (k91 : Int32 → Option (Int32 × KM)) : Option (Int32 × KM) := match n with
  | 0 => none
  | n + 1 =>
    if ix (2 : Int32) 2810 then
    if (M.1 (a0 + 5) ((2 : Int32)).toNatClampNeg) ≤ w4 then
      k91 w2
    else
      if ix (((226 : Int32) + ((8 : Int32) * c1)) + w4) 2810 then
      lt (fun (x6 : Int32) (x7 : Int32) => (
        lt (w4 + (1 : Int32)) fun (v8 : Int32) =>
        lp_X12_dearest_31 n a0 c1 M x6 x7 v8 k91
      ) : Int32 → Int32 → Option (Int32 × KM)) fun j85 =>
      if w3 < (M.1 (a0 + 5) ((((226 : Int32) + ((8 : Int32) * c1)) + w4)).toNatClampNeg) then
        if ix (((226 : Int32) + ((8 : Int32) * c1)) + w4) 2810 then
        lt ((M.1 (a0 + 5) ((((226 : Int32) + ((8 : Int32) * c1)) + w4)).toNatClampNeg)) fun (v10 : Int32) =>
        j85 w4 v10
        else none
      else
        j85 w2 w3
      else none
    else none
def f_X12_dearest (n : Nat) (a0 : Nat) (p1 : Int32) (M : KM) : Option (Int32 × KM) :=
  lt (uI M a0 1 (0 : Int32)) fun (M1 : KM) =>
  lt (uI M1 a0 0 (0 : Int32)) fun (M2 : KM) =>
  (f_X12_isPerson n a0 p1 M2).bind fun (v3 : Int32) =>
  if v3 = 0 then
    lt (f_X12_refuse a0 (2 : Int32) M2) fun (v16 : (Int32 × KM)) =>
    some (v16.1, v16.2)
  else
    lp_X12_dearest_31 n a0 p1 M2 (-1 : Int32) (0 : Int32) (0 : Int32)
      (fun (u13 : Int32) => (
        if 0 ≤ u13 then
          some (u13, M2)
        else
          lt (f_X12_refuse a0 (8 : Int32) M2) fun (v14 : (Int32 × KM)) =>
          some (v14.1, v14.2)
      ))
def lp_X12_clouds_45 (n : Nat) (a0 : Nat) (c1 : Int32) (c2 : Int32) (c3 : Int64) (w5 : Int32) (M : KM) (k75 : KM → Option (Int32 × KM)) : Option (Int32 × KM) := match n with
  | 0 => none
  | n + 1 =>
    if (12 : Int32) < w5 then
      k75 M
    else
      lt (fun (x6 : Int64) => (
        if ix w5 13 then
        lt (uJ M (a0 + 15) (w5).toNatClampNeg x6) fun (M8 : KM) =>
        lt (w5 + (1 : Int32)) fun (v9 : Int32) =>
        lp_X12_clouds_45 n a0 c1 c2 c3 v9 M8 k75
        else none
      ) : Int64 → Option (Int32 × KM)) fun j68 =>
      if w5 = 0 then
        j68 (1 : Int64)
      else
        j68 (0 : Int64)
def lp_X12_clouds_88 (n : Nat) (a0 : Nat) (c1 : Int32) (c2 : Int32) (c3 : Int64) (c5 : Int32) (w6 : Int32) (M : KM) (k144 : KM → Option (Int32 × KM)) : Option (Int32 × KM) := match n with
  | 0 => none
  | n + 1 =>
    if w6 ≤ 0 then
      k144 M
    else
      if ix w6 13 then
      if ix (8 : Int32) 2810 then
      if ix (w6 - (1 : Int32)) 13 then
      if ix (8 : Int32) 2810 then
      if ix w6 13 then
      lt (uJ M (a0 + 15) (w6).toNatClampNeg (((M.2.1 (a0 + 15) (w6).toNatClampNeg) * (((16 : Int32) - (M.1 (a0 + 5) ((8 : Int32)).toNatClampNeg))).toInt64) + ((M.2.1 (a0 + 15) ((w6 - (1 : Int32))).toNatClampNeg) * ((M.1 (a0 + 5) ((8 : Int32)).toNatClampNeg)).toInt64))) fun (M18 : KM) =>
      lt (w6 + (-1 : Int32)) fun (v19 : Int32) =>
      lp_X12_clouds_88 n a0 c1 c2 c3 c5 v19 M18 k144
      else none
      else none
      else none
      else none
      else none
def lp_X12_clouds_78 (n : Nat) (a0 : Nat) (c1 : Int32) (c2 : Int32) (w3 : Int64) (w5 : Int32) (M : KM) (k176 : Int64 → KM → Option (Int32 × KM)) : Option (Int32 × KM) := match n with
  | 0 => none
  | n + 1 =>
    if c1 ≤ w5 then
      k176 w3 M
    else
      lp_X12_clouds_88 n a0 c1 c2 w3 w5 (12 : Int32) M
        (fun (M21 : KM) => (
          if ix (0 : Int32) 13 then
          if ix (8 : Int32) 2810 then
          if ix (0 : Int32) 13 then
          lt (uJ M21 (a0 + 15) ((0 : Int32)).toNatClampNeg ((M21.2.1 (a0 + 15) ((0 : Int32)).toNatClampNeg) * (((16 : Int32) - (M21.1 (a0 + 5) ((8 : Int32)).toNatClampNeg))).toInt64)) fun (M25 : KM) =>
          lt ((w3 * (16 : Int64))) fun (v26 : Int64) =>
          lt (w5 + (1 : Int32)) fun (v27 : Int32) =>
          lp_X12_clouds_78 n a0 c1 c2 v26 v27 M25 k176
          else none
          else none
          else none
        ))
def lp_X12_clouds_182 (n : Nat) (a0 : Nat) (c3 : Int64) (M : KM) (w5 : Int64) (w7 : Int32) (k207 : Int64 → Option (Int32 × KM)) : Option (Int32 × KM) := match n with
  | 0 => none
  | n + 1 =>
    if (12 : Int32) < w7 then
      k207 w5
    else
      if ix w7 13 then
      lt ((w5 + (M.2.1 (a0 + 15) (w7).toNatClampNeg))) fun (v32 : Int64) =>
      lt (w7 + (1 : Int32)) fun (v33 : Int32) =>
      lp_X12_clouds_182 n a0 c3 M v32 v33 k207
      else none
def f_X12_clouds (n : Nat) (a0 : Nat) (p1 : Int32) (p2 : Int32) (M : KM) : Option (Int32 × KM) :=
  lt (uI M a0 1 (0 : Int32)) fun (M1 : KM) =>
  lt (uI M1 a0 0 (0 : Int32)) fun (M2 : KM) =>
  lt (f_X12_isIn (p1).toInt64 (0 : Int64) (12 : Int64) M2) fun (v3 : Int32) =>
  lt ((
    lt (f_X12_no a0 (5 : Int32) M2) fun (v4 : (Int32 × KM)) =>
    some (v4.1, v4.2)
  ) : Option (Int32 × KM)) fun j34 =>
  if v3 = 0 then
    j34
  else
    lt (f_X12_isIn (p2).toInt64 (0 : Int64) (12 : Int64) M2) fun (v5 : Int32) =>
    if v5 = 0 then
      j34
    else
      lp_X12_clouds_45 n a0 p1 p2 (1 : Int64) (0 : Int32) M2
        (fun (M12 : KM) => (
          lp_X12_clouds_78 n a0 p1 p2 (1 : Int64) (0 : Int32) M12
            (fun (u29 : Int64) (M30 : KM) => (
              lp_X12_clouds_182 n a0 u29 M30 (0 : Int64) p2
                (fun (u35 : Int64) => (
                  (f_X12_fraction n a0 u35 u29 M30).bind fun (v36 : (Int32 × KM)) =>
                  some (v36.1, v36.2)
                ))
            ))
        ))
def lp_X12_keeps_2 (n : Nat) (a0 : Nat) (w1 : Int32) (M : KM) : Option KM := match n with
  | 0 => none
  | n + 1 =>
    if (290 : Int32) ≤ w1 then
      some M
    else
      if ix w1 2810 then
      if ix w1 290 then
      lt (uI M (a0 + 6) (w1).toNatClampNeg (M.1 (a0 + 5) (w1).toNatClampNeg)) fun (M3 : KM) =>
      lt (w1 + (1 : Int32)) fun (v4 : Int32) =>
      lp_X12_keeps_2 n a0 v4 M3
      else none
      else none
def f_X12_keeps (n : Nat) (a0 : Nat) (M : KM) : Option KM :=
  lp_X12_keeps_2 n a0 (0 : Int32) M
def lp_X12_gives_2 (n : Nat) (a0 : Nat) (w1 : Int32) (M : KM) : Option KM := match n with
  | 0 => none
  | n + 1 =>
    if (290 : Int32) ≤ w1 then
      some M
    else
      if ix w1 290 then
      if ix w1 2810 then
      lt (uI M (a0 + 5) (w1).toNatClampNeg (M.1 (a0 + 6) (w1).toNatClampNeg)) fun (M3 : KM) =>
      lt (w1 + (1 : Int32)) fun (v4 : Int32) =>
      lp_X12_gives_2 n a0 v4 M3
      else none
      else none
def f_X12_gives (n : Nat) (a0 : Nat) (M : KM) : Option KM :=
  lp_X12_gives_2 n a0 (0 : Int32) M
def lp_X12_losesBy_24 (n : Nat) (a0 : Nat) (c1 : Int32) (w4 : Int32) (w5 : Int32) (M : KM) (k49 : Int32 → KM → Option (Int32 × KM)) : Option (Int32 × KM) := match n with
  | 0 => none
  | n + 1 =>
    if c1 ≤ w5 then
      k49 w4 M
    else
      (f_X12_goesMinute n a0 M).bind fun (v6 : KM) =>
      lt ((w4 + (v6.1 a0 29))) fun (v7 : Int32) =>
      lt (w5 + (1 : Int32)) fun (v8 : Int32) =>
      lp_X12_losesBy_24 n a0 c1 v7 v8 v6 k49
def f_X12_losesBy (n : Nat) (a0 : Nat) (p1 : Int32) (p2 : Int32) (p3 : Int32) (M : KM) : Option (Int32 × KM) :=
  (f_X12_keeps n a0 M).bind fun (v1 : KM) =>
  if ix (3 : Int32) 2810 then
  lt (uI v1 (a0 + 5) ((3 : Int32)).toNatClampNeg p2) fun (M3 : KM) =>
  if ix (4 : Int32) 2810 then
  lt (uI M3 (a0 + 5) ((4 : Int32)).toNatClampNeg p3) fun (M5 : KM) =>
  lp_X12_losesBy_24 n a0 p1 (0 : Int32) (0 : Int32) M5
    (fun (u10 : Int32) (M11 : KM) => (
      (f_X12_gives n a0 M11).bind fun (v12 : KM) =>
      some (u10, v12)
    ))
  else none
  else none
def f_X12_lostIn (n : Nat) (a0 : Nat) (p1 : Int32) (M : KM) : Option (Int32 × KM) :=
  lt (uI M a0 1 (0 : Int32)) fun (M1 : KM) =>
  lt (uI M1 a0 0 (0 : Int32)) fun (M2 : KM) =>
  lt (f_X12_isIn (p1).toInt64 (0 : Int64) (999 : Int64) M2) fun (v3 : Int32) =>
  if v3 = 0 then
    lt (f_X12_refuse a0 (5 : Int32) M2) fun (v4 : (Int32 × KM)) =>
    some (v4.1, v4.2)
  else
    if ix (3 : Int32) 2810 then
    if ix (4 : Int32) 2810 then
    (f_X12_losesBy n a0 p1 (M2.1 (a0 + 5) ((3 : Int32)).toNatClampNeg) (M2.1 (a0 + 5) ((4 : Int32)).toNatClampNeg) M2).bind fun (v7 : (Int32 × KM)) =>
    some (v7.1, v7.2)
    else none
    else none
def f_X12_lostBy (n : Nat) (a0 : Nat) (p1 : Int32) (p2 : Int32) (p3 : Int32) (M : KM) : Option (Int32 × KM) :=
  lt (uI M a0 1 (0 : Int32)) fun (M1 : KM) =>
  lt (uI M1 a0 0 (0 : Int32)) fun (M2 : KM) =>
  lt (f_X12_isIn (p1).toInt64 (0 : Int64) (999 : Int64) M2) fun (v3 : Int32) =>
  lt ((
    lt (f_X12_refuse a0 (5 : Int32) M2) fun (v4 : (Int32 × KM)) =>
    some (v4.1, v4.2)
  ) : Option (Int32 × KM)) fun j40 =>
  if v3 = 0 then
    j40
  else
    lt (f_X12_areHours p2 p3 M2) fun (v5 : Int32) =>
    if v5 = 0 then
      j40
    else
      (f_X12_losesBy n a0 p1 p2 p3 M2).bind fun (v6 : (Int32 × KM)) =>
      some (v6.1, v6.2)
def lp_X12_bestFrom_50 (n : Nat) (a0 : Nat) (c1 : Int32) (c2 : Int32) (w3 : Int32) (w4 : Int32) (w5 : Int32) (M : KM) : Option (Int32 × KM) := match n with
  | 0 => none
  | n + 1 =>
    if (24 : Int32) ≤ w5 then
      some (w3, M)
    else
      lt ((if (w5 + c2) < (24 : Int32) then (w5 + c2) else (24 : Int32))) fun (v7 : Int32) =>
      (f_X12_losesBy n a0 c1 w5 v7 M).bind fun (v8 : (Int32 × KM)) =>
      lt (fun (x9 : Int32) (x10 : Int32) => (
        lt (w5 + (1 : Int32)) fun (v11 : Int32) =>
        lp_X12_bestFrom_50 n a0 c1 c2 x9 x10 v11 v8.2
      ) : Int32 → Int32 → Option (Int32 × KM)) fun j96 =>
      lt ((
        j96 w5 v8.1
      ) : Option (Int32 × KM)) fun j89 =>
      if w3 < 0 then
        j89
      else
        if v8.1 < w4 then
          j89
        else
          j96 w3 w4
def f_X12_bestFrom (n : Nat) (a0 : Nat) (p1 : Int32) (M : KM) : Option (Int32 × KM) :=
  lt (uI M a0 1 (0 : Int32)) fun (M1 : KM) =>
  lt (uI M1 a0 0 (0 : Int32)) fun (M2 : KM) =>
  lt (f_X12_isIn (p1).toInt64 (0 : Int64) (999 : Int64) M2) fun (v3 : Int32) =>
  if v3 = 0 then
    lt (f_X12_refuse a0 (5 : Int32) M2) fun (v15 : (Int32 × KM)) =>
    some (v15.1, v15.2)
  else
    if ix (4 : Int32) 2810 then
    if ix (3 : Int32) 2810 then
    lt (((M2.1 (a0 + 5) ((4 : Int32)).toNatClampNeg) - (M2.1 (a0 + 5) ((3 : Int32)).toNatClampNeg))) fun (v6 : Int32) =>
    lp_X12_bestFrom_50 n a0 p1 v6 (-1 : Int32) (0 : Int32) (0 : Int32) M2
    else none
    else none
def lp_X12_arrives_47 (n : Nat) (a0 : Nat) (c1 : Int32) (w2 : Int32) (w3 : Int32) (M : KM) (k78 : Int32 → KM → Option (Int32 × KM)) : Option (Int32 × KM) := match n with
  | 0 => none
  | n + 1 =>
    if (9999 : Int32) < w3 then
      k78 w2 M
    else
      if 0 ≤ w2 then
        k78 w2 M
      else
        (f_X12_goesMinute n a0 M).bind fun (v6 : KM) =>
        (f_X12_isGoing n a0 c1 v6).bind fun (v7 : Int32) =>
        lt (fun (x8 : Int32) => (
          lt (w3 + (1 : Int32)) fun (v9 : Int32) =>
          lp_X12_arrives_47 n a0 c1 x8 v9 v6 k78
        ) : Int32 → Option (Int32 × KM)) fun j72 =>
        if v7 = 0 then
          j72 w3
        else
          j72 w2
def f_X12_arrives (n : Nat) (a0 : Nat) (p1 : Int32) (M : KM) : Option (Int32 × KM) :=
  lt (uI M a0 1 (0 : Int32)) fun (M1 : KM) =>
  lt (uI M1 a0 0 (0 : Int32)) fun (M2 : KM) =>
  (f_X12_isPerson n a0 p1 M2).bind fun (v3 : Int32) =>
  if v3 = 0 then
    lt (f_X12_refuse a0 (2 : Int32) M2) fun (v20 : (Int32 × KM)) =>
    some (v20.1, v20.2)
  else
    (f_X12_isGoing n a0 p1 M2).bind fun (v4 : Int32) =>
    if v4 = 0 then
      lt (f_X12_refuse a0 (9 : Int32) M2) fun (v18 : (Int32 × KM)) =>
      some (v18.1, v18.2)
    else
      (f_X12_keeps n a0 M2).bind fun (v5 : KM) =>
      lp_X12_arrives_47 n a0 p1 (-1 : Int32) (1 : Int32) v5
        (fun (u13 : Int32) (M14 : KM) => (
          (f_X12_gives n a0 M14).bind fun (v15 : KM) =>
          if 0 ≤ u13 then
            some (u13, v15)
          else
            lt (f_X12_refuse a0 (8 : Int32) v15) fun (v16 : (Int32 × KM)) =>
            some (v16.1, v16.2)
        ))
def f_X12_draw (n : Nat) (a0 : Nat) (p1 : Int32) (M : KM) : Option (Int32 × KM) :=
  lt (uI M a0 40 ((((M.1 a0 40) * (2971 : Int32)) + (10733 : Int32)) - (((M.1 a0 40) * (2971 : Int32)) + (10733 : Int32)) / (65536 : Int32) * (65536 : Int32))) fun (M1 : KM) =>
  if ¬ p1 = 0 then
  some ((((M1.1 a0 40) / (8 : Int32)) - ((M1.1 a0 40) / (8 : Int32)) / p1 * p1), M1)
  else none
def lp_X12_waits_18 (n : Nat) (a0 : Nat) (c1 : Int32) (w2 : Int32) (M : KM) (k62 : KM → Option (Int32 × KM)) : Option (Int32 × KM) := match n with
  | 0 => none
  | n + 1 =>
    if c1 ≤ w2 then
      k62 M
    else
      (f_X12_goesMinute n a0 M).bind fun (v2 : KM) =>
      (f_X12_sizeOf n (v2.1 a0 28) v2).bind fun (v3 : Int32) =>
      lt (uI v2 a0 44 ((v2.1 a0 44) + v3)) fun (M4 : KM) =>
      lt (uI M4 a0 45 ((M4.1 a0 45) + (M4.1 a0 29))) fun (M5 : KM) =>
      lt (w2 + (1 : Int32)) fun (v6 : Int32) =>
      lp_X12_waits_18 n a0 c1 v6 M5 k62
def f_X12_waits (n : Nat) (a0 : Nat) (p1 : Int32) (M : KM) : Option (Int32 × KM) :=
  if ix (5 : Int32) 2810 then
  if ((M.1 (a0 + 5) ((5 : Int32)).toNatClampNeg) + p1) ≤ (99999 : Int32) then
    lp_X12_waits_18 n a0 p1 (0 : Int32) M
      (fun (M8 : KM) => (
        lt (uI M8 a0 43 ((M8.1 a0 43) + p1)) fun (M9 : KM) =>
        some ((1 : Int32), M9)
      ))
  else
    some ((0 : Int32), M)
  else none
def f_X12_isAny (n : Nat) (a0 : Nat) (M : KM) : Option (Int32 × KM) :=
  if ix (2 : Int32) 2810 then
  if (M.1 (a0 + 5) ((2 : Int32)).toNatClampNeg) = 0 then
    some ((0 : Int32), M)
  else
    if ix (2 : Int32) 2810 then
    (f_X12_draw n a0 (M.1 (a0 + 5) ((2 : Int32)).toNatClampNeg) M).bind fun (v3 : (Int32 × KM)) =>
    if ix (0 : Int32) 2810 then
    (f_X12_draw n a0 (v3.2.1 (a0 + 5) ((0 : Int32)).toNatClampNeg) v3.2).bind fun (v5 : (Int32 × KM)) =>
    (f_X12_goes n a0 v3.1 v5.1 v5.2).bind fun (v6 : (Int32 × KM)) =>
    some (v6.1, v6.2)
    else none
    else none
  else none
def f_X12_does (n : Nat) (a0 : Nat) (p1 : Int32) (M : KM) : Option (Int32 × KM) :=
  if ix p1 2810 then
  lt ((M.1 (a0 + 5) (p1).toNatClampNeg)) fun (v2 : Int32) =>
  if v2 = 0 then
    if ix (p1 + (1 : Int32)) 2810 then
    (f_X12_waits n a0 (M.1 (a0 + 5) ((p1 + (1 : Int32))).toNatClampNeg) M).bind fun (v18 : (Int32 × KM)) =>
    some (v18.1, v18.2)
    else none
  else
    if v2 = (1 : Int32) then
      if ix (p1 + (1 : Int32)) 2810 then
      if ix (p1 + (2 : Int32)) 2810 then
      (f_X12_goes n a0 (M.1 (a0 + 5) ((p1 + (1 : Int32))).toNatClampNeg) (M.1 (a0 + 5) ((p1 + (2 : Int32))).toNatClampNeg) M).bind fun (v15 : (Int32 × KM)) =>
      some (v15.1, v15.2)
      else none
      else none
    else
      if v2 = (2 : Int32) then
        if ix (p1 + (1 : Int32)) 2810 then
        if ix (p1 + (3 : Int32)) 2810 then
        if ix (p1 + (2 : Int32)) 2810 then
        (f_X12_leads n a0 (M.1 (a0 + 5) ((p1 + (1 : Int32))).toNatClampNeg) ((1 : Int32) <<< ((M.1 (a0 + 5) ((p1 + (3 : Int32))).toNatClampNeg) &&& 31)) (M.1 (a0 + 5) ((p1 + (2 : Int32))).toNatClampNeg) M).bind fun (v11 : (Int32 × KM)) =>
        some (v11.1, v11.2)
        else none
        else none
        else none
      else
        if v2 = (3 : Int32) then
          (f_X12_isAny n a0 M).bind fun (v6 : (Int32 × KM)) =>
          some (v6.1, v6.2)
        else
          lt (fun (x3 : Int32) => (
            (f_X12_becomes n a0 x3 M).bind fun (v4 : (Int32 × KM)) =>
            some (v4.1, v4.2)
          ) : Int32 → Option (Int32 × KM)) fun j109 =>
          if v2 = (4 : Int32) then
            j109 (1 : Int32)
          else
            j109 (0 : Int32)
  else none
def f_X12_isSo (n : Nat) (a0 : Nat) (p1 : Int32) (M : KM) : Option Int32 :=
  if ix (p1 + (6 : Int32)) 2810 then
  lt ((M.1 (a0 + 5) ((p1 + (6 : Int32))).toNatClampNeg)) fun (v2 : Int32) =>
  if ix (p1 + (1 : Int32)) 2810 then
  lt ((M.1 (a0 + 5) ((p1 + (1 : Int32))).toNatClampNeg)) fun (v4 : Int32) =>
  if v2 = 0 then
    (f_X12_isGoing n a0 v4 M).bind fun (v20 : Int32) =>
    if v20 = 0 then
      if ix ((58 : Int32) + v4) 2810 then
      if ix (p1 + (2 : Int32)) 2810 then
      if (M.1 (a0 + 5) (((58 : Int32) + v4)).toNatClampNeg) = (M.1 (a0 + 5) ((p1 + (2 : Int32))).toNatClampNeg) then
        some (1 : Int32)
      else
        some (0 : Int32)
      else none
      else none
    else
      some (0 : Int32)
  else
    if v2 = (1 : Int32) then
      if ix (5 : Int32) 2810 then
      (f_X12_glares n a0 (M.1 (a0 + 5) ((5 : Int32)).toNatClampNeg) M).bind fun (v18 : Int32) =>
      some v18
      else none
    else
      if ix ((90 : Int32) + v4) 2810 then
      lt ((M.1 (a0 + 5) (((90 : Int32) + v4)).toNatClampNeg)) fun (v6 : Int32) =>
      if ix (p1 + (7 : Int32)) 2810 then
      if (M.1 (a0 + 5) ((p1 + (7 : Int32))).toNatClampNeg) = (60 : Int32) then
        if ix (p1 + (2 : Int32)) 2810 then
        if (M.1 (a0 + 5) ((p1 + (2 : Int32))).toNatClampNeg) ≤ v6 then
          some (0 : Int32)
        else
          some (1 : Int32)
        else none
      else
        if ix (p1 + (7 : Int32)) 2810 then
        if (M.1 (a0 + 5) ((p1 + (7 : Int32))).toNatClampNeg) = (62 : Int32) then
          if ix (p1 + (2 : Int32)) 2810 then
          if v6 ≤ (M.1 (a0 + 5) ((p1 + (2 : Int32))).toNatClampNeg) then
            some (0 : Int32)
          else
            some (1 : Int32)
          else none
        else
          if ix (p1 + (2 : Int32)) 2810 then
          if v6 = (M.1 (a0 + 5) ((p1 + (2 : Int32))).toNatClampNeg) then
            some (1 : Int32)
          else
            some (0 : Int32)
          else none
        else none
      else none
      else none
  else none
  else none
def lp_X12_doAll_2 (n : Nat) (r_X12_doOne : Int32 → KM → Option KM) (a0 : Nat) (c2 : Int32) (w3 : Int32) (M : KM) : Option KM := match n with
  | 0 => none
  | n + 1 =>
    if c2 ≤ w3 then
      some M
    else
      if (M.1 a0 39) = 0 then
        (r_X12_doOne w3 M).bind fun (v1 : KM) =>
        if ix (((292 : Int32) + ((9 : Int32) * w3)) + (8 : Int32)) 2810 then
        lt ((v1.1 (a0 + 5) ((((292 : Int32) + ((9 : Int32) * w3)) + (8 : Int32))).toNatClampNeg)) fun (v3 : Int32) =>
        lp_X12_doAll_2 n r_X12_doOne a0 c2 v3 v1
        else none
      else
        some M
def f_X12_doAll_G (r_X12_doOne : Int32 → KM → Option KM) (n : Nat) (a0 : Nat) (p1 : Int32) (p2 : Int32) (M : KM) : Option KM :=
  lp_X12_doAll_2 n r_X12_doOne a0 p2 p1 M
def lp_X12_doOne_120 (n : Nat) (r_X12_doAll : Int32 → Int32 → KM → Option KM) (a0 : Nat) (c1 : Int32) (c2 : Int32) (w4 : Int32) (M : KM) (k162 : KM → Option KM) : Option KM := match n with
  | 0 => none
  | n + 1 =>
    if ix (c2 + (1 : Int32)) 2810 then
    if (M.1 (a0 + 5) ((c2 + (1 : Int32))).toNatClampNeg) ≤ w4 then
      k162 M
    else
      if (M.1 a0 39) = 0 then
        if ix (c2 + (8 : Int32)) 2810 then
        (r_X12_doAll (c1 + (1 : Int32)) (M.1 (a0 + 5) ((c2 + (8 : Int32))).toNatClampNeg) M).bind fun (v9 : KM) =>
        lt (w4 + (1 : Int32)) fun (v10 : Int32) =>
        lp_X12_doOne_120 n r_X12_doAll a0 c1 c2 v10 v9 k162
        else none
      else
        k162 M
    else none
def f_X12_doOne_G (r_X12_doAll : Int32 → Int32 → KM → Option KM) (n : Nat) (a0 : Nat) (p1 : Int32) (M : KM) : Option KM :=
  if (M.1 a0 41) = (300 : Int32) then
    lt (uI M a0 39 (1 : Int32)) fun (M25 : KM) =>
    lt (uI M25 a0 46 (1 : Int32)) fun (M26 : KM) =>
    some M26
  else
    lt (uI M a0 41 ((M.1 a0 41) + (1 : Int32))) fun (M1 : KM) =>
    lt (((292 : Int32) + ((9 : Int32) * p1))) fun (v2 : Int32) =>
    if ix v2 2810 then
    lt ((M1.1 (a0 + 5) (v2).toNatClampNeg)) fun (v4 : Int32) =>
    if (6 : Int32) ≤ v4 then
      lt ((
        if v4 = (7 : Int32) then
          lp_X12_doOne_120 n r_X12_doAll a0 p1 v2 (0 : Int32) M1
            (fun (M13 : KM) => (
              some M13
            ))
        else
          if v4 ≤ (7 : Int32) then
            some M1
          else
            lt (uI M1 a0 39 (1 : Int32)) fun (M5 : KM) =>
            some M5
      ) : Option KM) fun j111 =>
      if v4 = (6 : Int32) then
        (f_X12_isSo n a0 v2 M1).bind fun (v15 : Int32) =>
        if v15 = 0 then
          j111
        else
          if ix (v2 + (8 : Int32)) 2810 then
          (r_X12_doAll (p1 + (1 : Int32)) (M1.1 (a0 + 5) ((v2 + (8 : Int32))).toNatClampNeg) M1).bind fun (v17 : KM) =>
          some v17
          else none
      else
        j111
    else
      (f_X12_does n a0 v2 M1).bind fun (v20 : (Int32 × KM)) =>
      lt (fun (x21 : Int32) => (
        lt (uI v20.2 a0 42 ((M1.1 a0 42) + x21)) fun (M22 : KM) =>
        some M22
      ) : Int32 → Option KM) fun j71 =>
      if v20.1 = 0 then
        j71 (1 : Int32)
      else
        j71 (0 : Int32)
    else none
def da_X12 : Nat → Nat → Nat → Int32 → Int32 → KM → Option KM
  | 0, _, _, _, _, _ => none
  | e + 1, n, a0, p1, p2, M => f_X12_doAll_G (fun s M => f_X12_doOne_G (fun u v M => da_X12 e n a0 u v M) n a0 s M) n a0 p1 p2 M
def f_X12_doAll (n : Nat) (a0 : Nat) (p1 p2 : Int32) (M : KM) : Option KM := da_X12 10 n a0 p1 p2 M
def f_X12_runsDays (n : Nat) (a0 : Nat) (p1 : Int32) (M : KM) : Option KM :=
  lt (uI M a0 40 p1) fun (M1 : KM) =>
  lt (uI M1 a0 41 (0 : Int32)) fun (M2 : KM) =>
  lt (uI M2 a0 42 (0 : Int32)) fun (M3 : KM) =>
  lt (uI M3 a0 43 (0 : Int32)) fun (M4 : KM) =>
  lt (uI M4 a0 44 (0 : Int32)) fun (M5 : KM) =>
  lt (uI M5 a0 45 (0 : Int32)) fun (M6 : KM) =>
  lt (uI M6 a0 46 (0 : Int32)) fun (M7 : KM) =>
  lt (uI M7 a0 39 (0 : Int32)) fun (M8 : KM) =>
  if ix (291 : Int32) 2810 then
  (f_X12_doAll n a0 (0 : Int32) (M8.1 (a0 + 5) ((291 : Int32)).toNatClampNeg) M8).bind fun (v10 : KM) =>
  some v10
  else none
def f_X12_live (n : Nat) (a0 : Nat) (p1 : Int32) (M : KM) : Option (Int32 × KM) :=
  lt (uI M a0 1 (0 : Int32)) fun (M1 : KM) =>
  lt (uI M1 a0 0 (0 : Int32)) fun (M2 : KM) =>
  lt (f_X12_isIn (p1).toInt64 (0 : Int64) (9999 : Int64) M2) fun (v3 : Int32) =>
  if v3 = 0 then
    lt (f_X12_refuse a0 (5 : Int32) M2) fun (v19 : (Int32 × KM)) =>
    some (v19.1, v19.2)
  else
    if ix (290 : Int32) 2810 then
    if (M2.1 (a0 + 5) ((290 : Int32)).toNatClampNeg) = 0 then
      lt (f_X12_refuse a0 (8 : Int32) M2) fun (v17 : (Int32 × KM)) =>
      some (v17.1, v17.2)
    else
      (f_X12_runsDays n a0 p1 M2).bind fun (v5 : KM) =>
      if ix (0 : Int32) 5 then
      lt (uI v5 (a0 + 16) ((0 : Int32)).toNatClampNeg (v5.1 a0 42)) fun (M7 : KM) =>
      if ix (1 : Int32) 5 then
      lt (uI M7 (a0 + 16) ((1 : Int32)).toNatClampNeg (M7.1 a0 43)) fun (M9 : KM) =>
      if ix (2 : Int32) 5 then
      lt (uI M9 (a0 + 16) ((2 : Int32)).toNatClampNeg (M9.1 a0 44)) fun (M11 : KM) =>
      if ix (3 : Int32) 5 then
      lt (uI M11 (a0 + 16) ((3 : Int32)).toNatClampNeg (M11.1 a0 45)) fun (M13 : KM) =>
      if ix (4 : Int32) 5 then
      lt (uI M13 (a0 + 16) ((4 : Int32)).toNatClampNeg (M13.1 a0 46)) fun (M15 : KM) =>
      lt (uI M15 a0 38 (1 : Int32)) fun (M16 : KM) =>
      some ((M16.1 a0 41), M16)
      else none
      else none
      else none
      else none
      else none
    else none
def f_X12_lived (n : Nat) (a0 : Nat) (p1 : Int32) (M : KM) : Option (Int32 × KM) :=
  lt (uI M a0 1 (0 : Int32)) fun (M1 : KM) =>
  lt (uI M1 a0 0 (0 : Int32)) fun (M2 : KM) =>
  lt (f_X12_isIn (p1).toInt64 (0 : Int64) (4 : Int64) M2) fun (v3 : Int32) =>
  if v3 = 0 then
    lt (f_X12_refuse a0 (5 : Int32) M2) fun (v7 : (Int32 × KM)) =>
    some (v7.1, v7.2)
  else
    if (M2.1 a0 38) = 0 then
      lt (f_X12_refuse a0 (8 : Int32) M2) fun (v4 : (Int32 × KM)) =>
      some (v4.1, v4.2)
    else
      if ix p1 5 then
      some ((M2.1 (a0 + 16) (p1).toNatClampNeg), M2)
      else none
def lp_X12_mean_63 (n : Nat) (a0 : Nat) (c1 : Int32) (c2 : Int32) (w3 : Int32) (M : KM) (k88 : KM → Option (Int32 × KM)) : Option (Int32 × KM) := match n with
  | 0 => none
  | n + 1 =>
    if (290 : Int32) ≤ w3 then
      k88 M
    else
      if ix w3 2810 then
      if ix w3 290 then
      lt (uI M (a0 + 7) (w3).toNatClampNeg (M.1 (a0 + 5) (w3).toNatClampNeg)) fun (M9 : KM) =>
      lt (w3 + (1 : Int32)) fun (v10 : Int32) =>
      lp_X12_mean_63 n a0 c1 c2 v10 M9 k88
      else none
      else none
def lp_X12_mean_118 (n : Nat) (a0 : Nat) (c1 : Int32) (c2 : Int32) (c3 : Int64) (c5 : Int32) (w6 : Int32) (M : KM) (k146 : KM → Option (Int32 × KM)) : Option (Int32 × KM) := match n with
  | 0 => none
  | n + 1 =>
    if (290 : Int32) ≤ w6 then
      k146 M
    else
      if ix w6 290 then
      if ix w6 2810 then
      lt (uI M (a0 + 5) (w6).toNatClampNeg (M.1 (a0 + 7) (w6).toNatClampNeg)) fun (M18 : KM) =>
      lt (w6 + (1 : Int32)) fun (v19 : Int32) =>
      lp_X12_mean_118 n a0 c1 c2 c3 c5 v19 M18 k146
      else none
      else none
def lp_X12_mean_93 (n : Nat) (a0 : Nat) (c1 : Int32) (c2 : Int32) (w3 : Int64) (w5 : Int32) (M : KM) (k152 : Int64 → KM → Option (Int32 × KM)) : Option (Int32 × KM) := match n with
  | 0 => none
  | n + 1 =>
    if c2 ≤ w5 then
      k152 w3 M
    else
      (f_X12_runsDays n a0 (c1 + w5) M).bind fun (v13 : KM) =>
      (f_X12_allLost n a0 v13).bind fun (v14 : Int32) =>
      lt ((w3 + (v14).toInt64)) fun (v15 : Int64) =>
      lp_X12_mean_118 n a0 c1 c2 v15 w5 (0 : Int32) v13
        (fun (M21 : KM) => (
          lt (w5 + (1 : Int32)) fun (v22 : Int32) =>
          lp_X12_mean_93 n a0 c1 c2 v15 v22 M21 k152
        ))
def f_X12_mean (n : Nat) (a0 : Nat) (p1 : Int32) (p2 : Int32) (M : KM) : Option (Int32 × KM) :=
  lt (uI M a0 1 (0 : Int32)) fun (M1 : KM) =>
  lt (uI M1 a0 0 (0 : Int32)) fun (M2 : KM) =>
  lt (f_X12_isIn (p2).toInt64 (1 : Int64) (20 : Int64) M2) fun (v3 : Int32) =>
  lt ((
    lt (f_X12_no a0 (5 : Int32) M2) fun (v4 : (Int32 × KM)) =>
    some (v4.1, v4.2)
  ) : Option (Int32 × KM)) fun j37 =>
  if v3 = 0 then
    j37
  else
    lt (f_X12_isIn (p1).toInt64 (0 : Int64) (((10000 : Int32) - p2)).toInt64 M2) fun (v5 : Int32) =>
    if v5 = 0 then
      j37
    else
      if ix (290 : Int32) 2810 then
      if (M2.1 (a0 + 5) ((290 : Int32)).toNatClampNeg) = 0 then
        lt (f_X12_no a0 (8 : Int32) M2) fun (v27 : (Int32 × KM)) =>
        some (v27.1, v27.2)
      else
        lp_X12_mean_63 n a0 p1 p2 (0 : Int32) M2
          (fun (M12 : KM) => (
            lp_X12_mean_93 n a0 p1 p2 (0 : Int64) (0 : Int32) M12
              (fun (u24 : Int64) (M25 : KM) => (
                (f_X12_fraction n a0 u24 (p2).toInt64 M25).bind fun (v26 : (Int32 × KM)) =>
                some (v26.1, v26.2)
              ))
          ))
      else none
def f_X12_mark (n : Nat) (a0 : Nat) (M : KM) : Option (Int32 × KM) :=
  lt (uI M a0 1 (0 : Int32)) fun (M1 : KM) =>
  lt (uI M1 a0 0 (0 : Int32)) fun (M2 : KM) =>
  if (M2.1 a0 24) = (3 : Int32) then
    lt (f_X12_refuse a0 (7 : Int32) M2) fun (v5 : (Int32 × KM)) =>
    some (v5.1, v5.2)
  else
    lt (uI M2 a0 24 ((M2.1 a0 24) + (1 : Int32))) fun (M3 : KM) =>
    (f_X12_copy n a0 (0 : Int32) (M3.1 a0 24) M3).bind fun (v4 : KM) =>
    some ((v4.1 a0 24), v4)
def f_X12_back (n : Nat) (a0 : Nat) (M : KM) : Option (Int32 × KM) :=
  lt (uI M a0 1 (0 : Int32)) fun (M1 : KM) =>
  lt (uI M1 a0 0 (0 : Int32)) fun (M2 : KM) =>
  if (M2.1 a0 24) = 0 then
    lt (f_X12_refuse a0 (8 : Int32) M2) fun (v5 : (Int32 × KM)) =>
    some (v5.1, v5.2)
  else
    (f_X12_copy n a0 (M2.1 a0 24) (0 : Int32) M2).bind fun (v3 : KM) =>
    lt (uI v3 a0 24 ((v3.1 a0 24) - (1 : Int32))) fun (M4 : KM) =>
    some ((M4.1 a0 24), M4)
def lp_L_law_18 (n : Nat) (Ln : Nat) (xs : Nat → Int32) (a1 : Nat) (a2 : Nat) (w3 : Int32) (M : KM) : Option Int32 := match n with
  | 0 => none
  | n + 1 =>
    if ((Int32.ofNat Ln) - (6 : Int32)) < w3 then
      some (1 : Int32)
    else
      if ix w3 Ln then
      lt (((xs (w3).toNatClampNeg) &&& (63 : Int32))) fun (v2 : Int32) =>
      lt (fun (M3 : KM) => (
        lt (w3 + (6 : Int32)) fun (v4 : Int32) =>
        lp_L_law_18 n Ln xs a1 a2 v4 M3
      ) : KM → Option Int32) fun j2035 =>
      if v2 = (0 : Int32) then
        lt (f_X11_status a1 M) fun (v5 : Int32) =>
        lt (f_X12_status a2 M) fun (v6 : (Int32 × KM)) =>
        if v5 = v6.1 then
          j2035 v6.2
        else
          some (0 : Int32)
      else
      if v2 = (1 : Int32) then
        lt (f_X11_top a1 M) fun (v9 : Int64) =>
        lt (f_X12_top a2 M) fun (v10 : (Int64 × KM)) =>
        if (lg_cmp v9 v10.1) = 0 then
          j2035 v10.2
        else
          some (0 : Int32)
      else
      if v2 = (2 : Int32) then
        lt (f_X11_bottom a1 M) fun (v13 : Int64) =>
        lt (f_X12_bottom a2 M) fun (v14 : (Int64 × KM)) =>
        if (lg_cmp v13 v14.1) = 0 then
          j2035 v14.2
        else
          some (0 : Int32)
      else
      if v2 = (3 : Int32) then
        if ix (w3 + (1 : Int32)) Ln then
        if ix (w3 + (2 : Int32)) Ln then
        if ix (w3 + (3 : Int32)) Ln then
        (f_X11_tray n a1 (xs ((w3 + (1 : Int32))).toNatClampNeg) (xs ((w3 + (2 : Int32))).toNatClampNeg) (xs ((w3 + (3 : Int32))).toNatClampNeg) M).bind fun (v20 : (Int32 × KM)) =>
        if ix (w3 + (1 : Int32)) Ln then
        if ix (w3 + (2 : Int32)) Ln then
        if ix (w3 + (3 : Int32)) Ln then
        (f_X12_tray n a2 (xs ((w3 + (1 : Int32))).toNatClampNeg) (xs ((w3 + (2 : Int32))).toNatClampNeg) (xs ((w3 + (3 : Int32))).toNatClampNeg) v20.2).bind fun (v24 : (Int32 × KM)) =>
        if v20.1 = v24.1 then
          j2035 v24.2
        else
          some (0 : Int32)
        else none
        else none
        else none
        else none
        else none
        else none
      else
      if v2 = (4 : Int32) then
        if ix (w3 + (1 : Int32)) Ln then
        if ix (w3 + (2 : Int32)) Ln then
        if ix (w3 + (3 : Int32)) Ln then
        if ix (w3 + (4 : Int32)) Ln then
        (f_X11_write n a1 (xs ((w3 + (1 : Int32))).toNatClampNeg) (xs ((w3 + (2 : Int32))).toNatClampNeg) ((((xs ((w3 + (3 : Int32))).toNatClampNeg)).toInt64 <<< (((32 : Int32)).toInt64 &&& 63)) ||| (((xs ((w3 + (4 : Int32))).toNatClampNeg)).toInt64 &&& (4294967295 : Int64))) M).bind fun (v31 : (Int32 × KM)) =>
        if ix (w3 + (1 : Int32)) Ln then
        if ix (w3 + (2 : Int32)) Ln then
        if ix (w3 + (3 : Int32)) Ln then
        if ix (w3 + (4 : Int32)) Ln then
        (f_X12_write n a2 (xs ((w3 + (1 : Int32))).toNatClampNeg) (xs ((w3 + (2 : Int32))).toNatClampNeg) ((((xs ((w3 + (3 : Int32))).toNatClampNeg)).toInt64 <<< (((32 : Int32)).toInt64 &&& 63)) ||| (((xs ((w3 + (4 : Int32))).toNatClampNeg)).toInt64 &&& (4294967295 : Int64))) v31.2).bind fun (v36 : (Int32 × KM)) =>
        if v31.1 = v36.1 then
          j2035 v36.2
        else
          some (0 : Int32)
        else none
        else none
        else none
        else none
        else none
        else none
        else none
        else none
      else
      if v2 = (5 : Int32) then
        if ix (w3 + (1 : Int32)) Ln then
        if ix (w3 + (2 : Int32)) Ln then
        (f_X11_read n a1 (xs ((w3 + (1 : Int32))).toNatClampNeg) (xs ((w3 + (2 : Int32))).toNatClampNeg) M).bind fun (v41 : (Int64 × KM)) =>
        if ix (w3 + (1 : Int32)) Ln then
        if ix (w3 + (2 : Int32)) Ln then
        (f_X12_read n a2 (xs ((w3 + (1 : Int32))).toNatClampNeg) (xs ((w3 + (2 : Int32))).toNatClampNeg) v41.2).bind fun (v44 : (Int64 × KM)) =>
        if (lg_cmp v41.1 v44.1) = 0 then
          j2035 v44.2
        else
          some (0 : Int32)
        else none
        else none
        else none
        else none
      else
      if v2 = (6 : Int32) then
        if ix (w3 + (1 : Int32)) Ln then
        if ix (w3 + (2 : Int32)) Ln then
        if ix (w3 + (3 : Int32)) Ln then
        if ix (w3 + (4 : Int32)) Ln then
        if ix (w3 + (5 : Int32)) Ln then
        (f_X11_pour n a1 (xs ((w3 + (1 : Int32))).toNatClampNeg) (xs ((w3 + (2 : Int32))).toNatClampNeg) (xs ((w3 + (3 : Int32))).toNatClampNeg) (xs ((w3 + (4 : Int32))).toNatClampNeg) (xs ((w3 + (5 : Int32))).toNatClampNeg) M).bind fun (v52 : (Int32 × KM)) =>
        if ix (w3 + (1 : Int32)) Ln then
        if ix (w3 + (2 : Int32)) Ln then
        if ix (w3 + (3 : Int32)) Ln then
        if ix (w3 + (4 : Int32)) Ln then
        if ix (w3 + (5 : Int32)) Ln then
        (f_X12_pour n a2 (xs ((w3 + (1 : Int32))).toNatClampNeg) (xs ((w3 + (2 : Int32))).toNatClampNeg) (xs ((w3 + (3 : Int32))).toNatClampNeg) (xs ((w3 + (4 : Int32))).toNatClampNeg) (xs ((w3 + (5 : Int32))).toNatClampNeg) v52.2).bind fun (v58 : (Int32 × KM)) =>
        if v52.1 = v58.1 then
          j2035 v58.2
        else
          some (0 : Int32)
        else none
        else none
        else none
        else none
        else none
        else none
        else none
        else none
        else none
        else none
      else
      if v2 = (7 : Int32) then
        if ix (w3 + (1 : Int32)) Ln then
        if ix (w3 + (2 : Int32)) Ln then
        if ix (w3 + (3 : Int32)) Ln then
        if ix (w3 + (4 : Int32)) Ln then
        if ix (w3 + (5 : Int32)) Ln then
        (f_X11_feed n a1 (xs ((w3 + (1 : Int32))).toNatClampNeg) (xs ((w3 + (2 : Int32))).toNatClampNeg) (xs ((w3 + (3 : Int32))).toNatClampNeg) (xs ((w3 + (4 : Int32))).toNatClampNeg) (xs ((w3 + (5 : Int32))).toNatClampNeg) M).bind fun (v66 : (Int32 × KM)) =>
        if ix (w3 + (1 : Int32)) Ln then
        if ix (w3 + (2 : Int32)) Ln then
        if ix (w3 + (3 : Int32)) Ln then
        if ix (w3 + (4 : Int32)) Ln then
        if ix (w3 + (5 : Int32)) Ln then
        (f_X12_feed n a2 (xs ((w3 + (1 : Int32))).toNatClampNeg) (xs ((w3 + (2 : Int32))).toNatClampNeg) (xs ((w3 + (3 : Int32))).toNatClampNeg) (xs ((w3 + (4 : Int32))).toNatClampNeg) (xs ((w3 + (5 : Int32))).toNatClampNeg) v66.2).bind fun (v72 : (Int32 × KM)) =>
        if v66.1 = v72.1 then
          j2035 v72.2
        else
          some (0 : Int32)
        else none
        else none
        else none
        else none
        else none
        else none
        else none
        else none
        else none
        else none
      else
      if v2 = (8 : Int32) then
        if ix (w3 + (1 : Int32)) Ln then
        (f_X11_land n a1 (xs ((w3 + (1 : Int32))).toNatClampNeg) M).bind fun (v76 : (Int32 × KM)) =>
        if ix (w3 + (1 : Int32)) Ln then
        (f_X12_land n a2 (xs ((w3 + (1 : Int32))).toNatClampNeg) v76.2).bind fun (v78 : (Int32 × KM)) =>
        if v76.1 = v78.1 then
          j2035 v78.2
        else
          some (0 : Int32)
        else none
        else none
      else
      if v2 = (9 : Int32) then
        if ix (w3 + (1 : Int32)) Ln then
        (f_X11_days n a1 (xs ((w3 + (1 : Int32))).toNatClampNeg) M).bind fun (v82 : (Int32 × KM)) =>
        if ix (w3 + (1 : Int32)) Ln then
        (f_X12_days n a2 (xs ((w3 + (1 : Int32))).toNatClampNeg) v82.2).bind fun (v84 : (Int32 × KM)) =>
        if v82.1 = v84.1 then
          j2035 v84.2
        else
          some (0 : Int32)
        else none
        else none
      else
      if v2 = (10 : Int32) then
        if ix (w3 + (1 : Int32)) Ln then
        lt (f_X11_fault a1 (xs ((w3 + (1 : Int32))).toNatClampNeg) M) fun (v88 : Int32) =>
        if ix (w3 + (1 : Int32)) Ln then
        lt (f_X12_fault a2 (xs ((w3 + (1 : Int32))).toNatClampNeg) M) fun (v90 : (Int32 × KM)) =>
        if v88 = v90.1 then
          j2035 v90.2
        else
          some (0 : Int32)
        else none
        else none
      else
      if v2 = (11 : Int32) then
        if ix (w3 + (1 : Int32)) Ln then
        (f_X11_many n a1 (xs ((w3 + (1 : Int32))).toNatClampNeg) M).bind fun (v94 : (Int32 × KM)) =>
        if ix (w3 + (1 : Int32)) Ln then
        (f_X12_many n a2 (xs ((w3 + (1 : Int32))).toNatClampNeg) v94.2).bind fun (v96 : (Int32 × KM)) =>
        if v94.1 = v96.1 then
          j2035 v96.2
        else
          some (0 : Int32)
        else none
        else none
      else
      if v2 = (12 : Int32) then
        if ix (w3 + (1 : Int32)) Ln then
        if ix (w3 + (2 : Int32)) Ln then
        (f_X11_road n a1 (xs ((w3 + (1 : Int32))).toNatClampNeg) (xs ((w3 + (2 : Int32))).toNatClampNeg) M).bind fun (v101 : (Int32 × KM)) =>
        if ix (w3 + (1 : Int32)) Ln then
        if ix (w3 + (2 : Int32)) Ln then
        (f_X12_road n a2 (xs ((w3 + (1 : Int32))).toNatClampNeg) (xs ((w3 + (2 : Int32))).toNatClampNeg) v101.2).bind fun (v104 : (Int32 × KM)) =>
        if v101.1 = v104.1 then
          j2035 v104.2
        else
          some (0 : Int32)
        else none
        else none
        else none
        else none
      else
      if v2 = (13 : Int32) then
        if ix (w3 + (1 : Int32)) Ln then
        if ix (w3 + (2 : Int32)) Ln then
        (f_X11_roadOf n a1 (xs ((w3 + (1 : Int32))).toNatClampNeg) (xs ((w3 + (2 : Int32))).toNatClampNeg) M).bind fun (v109 : (Int32 × KM)) =>
        if ix (w3 + (1 : Int32)) Ln then
        if ix (w3 + (2 : Int32)) Ln then
        (f_X12_roadOf n a2 (xs ((w3 + (1 : Int32))).toNatClampNeg) (xs ((w3 + (2 : Int32))).toNatClampNeg) v109.2).bind fun (v112 : (Int32 × KM)) =>
        if v109.1 = v112.1 then
          j2035 v112.2
        else
          some (0 : Int32)
        else none
        else none
        else none
        else none
      else
      if v2 = (14 : Int32) then
        if ix (w3 + (1 : Int32)) Ln then
        if ix (w3 + (2 : Int32)) Ln then
        (f_X11_person n a1 (xs ((w3 + (1 : Int32))).toNatClampNeg) (xs ((w3 + (2 : Int32))).toNatClampNeg) M).bind fun (v117 : (Int32 × KM)) =>
        if ix (w3 + (1 : Int32)) Ln then
        if ix (w3 + (2 : Int32)) Ln then
        (f_X12_person n a2 (xs ((w3 + (1 : Int32))).toNatClampNeg) (xs ((w3 + (2 : Int32))).toNatClampNeg) v117.2).bind fun (v120 : (Int32 × KM)) =>
        if v117.1 = v120.1 then
          j2035 v120.2
        else
          some (0 : Int32)
        else none
        else none
        else none
        else none
      else
      if v2 = (15 : Int32) then
        if ix (w3 + (1 : Int32)) Ln then
        if ix (w3 + (2 : Int32)) Ln then
        (f_X11_gone n a1 (xs ((w3 + (1 : Int32))).toNatClampNeg) (xs ((w3 + (2 : Int32))).toNatClampNeg) M).bind fun (v125 : (Int32 × KM)) =>
        if ix (w3 + (1 : Int32)) Ln then
        if ix (w3 + (2 : Int32)) Ln then
        (f_X12_gone n a2 (xs ((w3 + (1 : Int32))).toNatClampNeg) (xs ((w3 + (2 : Int32))).toNatClampNeg) v125.2).bind fun (v128 : (Int32 × KM)) =>
        if v125.1 = v128.1 then
          j2035 v128.2
        else
          some (0 : Int32)
        else none
        else none
        else none
        else none
      else
      if v2 = (16 : Int32) then
        if ix (w3 + (1 : Int32)) Ln then
        if ix (w3 + (2 : Int32)) Ln then
        (f_X11_owes n a1 (xs ((w3 + (1 : Int32))).toNatClampNeg) (xs ((w3 + (2 : Int32))).toNatClampNeg) M).bind fun (v133 : (Int32 × KM)) =>
        if ix (w3 + (1 : Int32)) Ln then
        if ix (w3 + (2 : Int32)) Ln then
        (f_X12_owes n a2 (xs ((w3 + (1 : Int32))).toNatClampNeg) (xs ((w3 + (2 : Int32))).toNatClampNeg) v133.2).bind fun (v136 : (Int32 × KM)) =>
        if v133.1 = v136.1 then
          j2035 v136.2
        else
          some (0 : Int32)
        else none
        else none
        else none
        else none
      else
      if v2 = (17 : Int32) then
        if ix (w3 + (1 : Int32)) Ln then
        (f_X11_net n a1 (xs ((w3 + (1 : Int32))).toNatClampNeg) M).bind fun (v140 : (Int32 × KM)) =>
        if ix (w3 + (1 : Int32)) Ln then
        (f_X12_net n a2 (xs ((w3 + (1 : Int32))).toNatClampNeg) v140.2).bind fun (v142 : (Int32 × KM)) =>
        if v140.1 = v142.1 then
          j2035 v142.2
        else
          some (0 : Int32)
        else none
        else none
      else
      if v2 = (18 : Int32) then
        if ix (w3 + (1 : Int32)) Ln then
        (f_X11_copyPlaces n a1 (xs ((w3 + (1 : Int32))).toNatClampNeg) M).bind fun (v146 : (Int32 × KM)) =>
        if ix (w3 + (1 : Int32)) Ln then
        (f_X12_copyPlaces n a2 (xs ((w3 + (1 : Int32))).toNatClampNeg) v146.2).bind fun (v148 : (Int32 × KM)) =>
        if v146.1 = v148.1 then
          j2035 v148.2
        else
          some (0 : Int32)
        else none
        else none
      else
      if v2 = (19 : Int32) then
        if ix (w3 + (1 : Int32)) Ln then
        (f_X11_passes n a1 (xs ((w3 + (1 : Int32))).toNatClampNeg) M).bind fun (v152 : (Int32 × KM)) =>
        if ix (w3 + (1 : Int32)) Ln then
        (f_X12_passes n a2 (xs ((w3 + (1 : Int32))).toNatClampNeg) v152.2).bind fun (v154 : (Int32 × KM)) =>
        if v152.1 = v154.1 then
          j2035 v154.2
        else
          some (0 : Int32)
        else none
        else none
      else
      if v2 = (20 : Int32) then
        if ix (w3 + (1 : Int32)) Ln then
        if ix (w3 + (2 : Int32)) Ln then
        (f_X11_go n a1 (xs ((w3 + (1 : Int32))).toNatClampNeg) (xs ((w3 + (2 : Int32))).toNatClampNeg) M).bind fun (v159 : (Int32 × KM)) =>
        if ix (w3 + (1 : Int32)) Ln then
        if ix (w3 + (2 : Int32)) Ln then
        (f_X12_go n a2 (xs ((w3 + (1 : Int32))).toNatClampNeg) (xs ((w3 + (2 : Int32))).toNatClampNeg) v159.2).bind fun (v162 : (Int32 × KM)) =>
        if v159.1 = v162.1 then
          j2035 v162.2
        else
          some (0 : Int32)
        else none
        else none
        else none
        else none
      else
      if v2 = (21 : Int32) then
        if ix (w3 + (1 : Int32)) Ln then
        if ix (w3 + (2 : Int32)) Ln then
        if ix (w3 + (3 : Int32)) Ln then
        (f_X11_lead n a1 (xs ((w3 + (1 : Int32))).toNatClampNeg) (xs ((w3 + (2 : Int32))).toNatClampNeg) (xs ((w3 + (3 : Int32))).toNatClampNeg) M).bind fun (v168 : (Int32 × KM)) =>
        if ix (w3 + (1 : Int32)) Ln then
        if ix (w3 + (2 : Int32)) Ln then
        if ix (w3 + (3 : Int32)) Ln then
        (f_X12_lead n a2 (xs ((w3 + (1 : Int32))).toNatClampNeg) (xs ((w3 + (2 : Int32))).toNatClampNeg) (xs ((w3 + (3 : Int32))).toNatClampNeg) v168.2).bind fun (v172 : (Int32 × KM)) =>
        if v168.1 = v172.1 then
          j2035 v172.2
        else
          some (0 : Int32)
        else none
        else none
        else none
        else none
        else none
        else none
      else
      if v2 = (22 : Int32) then
        if ix (w3 + (1 : Int32)) Ln then
        (f_X11_turn n a1 (xs ((w3 + (1 : Int32))).toNatClampNeg) M).bind fun (v176 : (Int32 × KM)) =>
        if ix (w3 + (1 : Int32)) Ln then
        (f_X12_turn n a2 (xs ((w3 + (1 : Int32))).toNatClampNeg) v176.2).bind fun (v178 : (Int32 × KM)) =>
        if v176.1 = v178.1 then
          j2035 v178.2
        else
          some (0 : Int32)
        else none
        else none
      else
      if v2 = (23 : Int32) then
        if ix (w3 + (1 : Int32)) Ln then
        lt (fun (x182 : Int32) => (
          (f_X11_cloud n a1 x182 M).bind fun (v183 : (Int32 × KM)) =>
          if ix (w3 + (1 : Int32)) Ln then
          lt (fun (x185 : Int32) => (
            (f_X12_cloud n a2 x185 v183.2).bind fun (v186 : (Int32 × KM)) =>
            if v183.1 = v186.1 then
              j2035 v186.2
            else
              some (0 : Int32)
          ) : Int32 → Option Int32) fun j1049 =>
          if (xs ((w3 + (1 : Int32))).toNatClampNeg) = 0 then
            j1049 (0 : Int32)
          else
            j1049 (1 : Int32)
          else none
        ) : Int32 → Option Int32) fun j1032 =>
        if (xs ((w3 + (1 : Int32))).toNatClampNeg) = 0 then
          j1032 (0 : Int32)
        else
          j1032 (1 : Int32)
        else none
      else
      if v2 = (24 : Int32) then
        if ix (w3 + (1 : Int32)) Ln then
        if ix (w3 + (2 : Int32)) Ln then
        lt (fun (x193 : Int32) => (
          (f_X11_plant n a1 (xs ((w3 + (1 : Int32))).toNatClampNeg) x193 M).bind fun (v194 : (Int32 × KM)) =>
          if ix (w3 + (1 : Int32)) Ln then
          if ix (w3 + (2 : Int32)) Ln then
          lt (fun (x197 : Int32) => (
            (f_X12_plant n a2 (xs ((w3 + (1 : Int32))).toNatClampNeg) x197 v194.2).bind fun (v198 : (Int32 × KM)) =>
            if v194.1 = v198.1 then
              j2035 v198.2
            else
              some (0 : Int32)
          ) : Int32 → Option Int32) fun j1098 =>
          if (xs ((w3 + (2 : Int32))).toNatClampNeg) = 0 then
            j1098 (0 : Int32)
          else
            j1098 (1 : Int32)
          else none
          else none
        ) : Int32 → Option Int32) fun j1076 =>
        if (xs ((w3 + (2 : Int32))).toNatClampNeg) = 0 then
          j1076 (0 : Int32)
        else
          j1076 (1 : Int32)
        else none
        else none
      else
      if v2 = (25 : Int32) then
        if ix (w3 + (1 : Int32)) Ln then
        if ix (w3 + (2 : Int32)) Ln then
        lt (fun (x205 : Int32) => (
          (f_X11_glasses n a1 (xs ((w3 + (1 : Int32))).toNatClampNeg) x205 M).bind fun (v206 : (Int32 × KM)) =>
          if ix (w3 + (1 : Int32)) Ln then
          if ix (w3 + (2 : Int32)) Ln then
          lt (fun (x209 : Int32) => (
            (f_X12_glasses n a2 (xs ((w3 + (1 : Int32))).toNatClampNeg) x209 v206.2).bind fun (v210 : (Int32 × KM)) =>
            if v206.1 = v210.1 then
              j2035 v210.2
            else
              some (0 : Int32)
          ) : Int32 → Option Int32) fun j1147 =>
          if (xs ((w3 + (2 : Int32))).toNatClampNeg) = 0 then
            j1147 (0 : Int32)
          else
            j1147 (1 : Int32)
          else none
          else none
        ) : Int32 → Option Int32) fun j1125 =>
        if (xs ((w3 + (2 : Int32))).toNatClampNeg) = 0 then
          j1125 (0 : Int32)
        else
          j1125 (1 : Int32)
        else none
        else none
      else
      if v2 = (26 : Int32) then
        if ix (w3 + (1 : Int32)) Ln then
        if ix (w3 + (2 : Int32)) Ln then
        lt (fun (x217 : Int32) => (
          (f_X11_cure n a1 (xs ((w3 + (1 : Int32))).toNatClampNeg) x217 M).bind fun (v218 : (Int32 × KM)) =>
          if ix (w3 + (1 : Int32)) Ln then
          if ix (w3 + (2 : Int32)) Ln then
          lt (fun (x221 : Int32) => (
            (f_X12_cure n a2 (xs ((w3 + (1 : Int32))).toNatClampNeg) x221 v218.2).bind fun (v222 : (Int32 × KM)) =>
            if v218.1 = v222.1 then
              j2035 v222.2
            else
              some (0 : Int32)
          ) : Int32 → Option Int32) fun j1196 =>
          if (xs ((w3 + (2 : Int32))).toNatClampNeg) = 0 then
            j1196 (0 : Int32)
          else
            j1196 (1 : Int32)
          else none
          else none
        ) : Int32 → Option Int32) fun j1174 =>
        if (xs ((w3 + (2 : Int32))).toNatClampNeg) = 0 then
          j1174 (0 : Int32)
        else
          j1174 (1 : Int32)
        else none
        else none
      else
      if v2 = (27 : Int32) then
        if ix (w3 + (1 : Int32)) Ln then
        if ix (w3 + (2 : Int32)) Ln then
        (f_X11_settle n a1 (xs ((w3 + (1 : Int32))).toNatClampNeg) (xs ((w3 + (2 : Int32))).toNatClampNeg) M).bind fun (v229 : (Int32 × KM)) =>
        if ix (w3 + (1 : Int32)) Ln then
        if ix (w3 + (2 : Int32)) Ln then
        (f_X12_settle n a2 (xs ((w3 + (1 : Int32))).toNatClampNeg) (xs ((w3 + (2 : Int32))).toNatClampNeg) v229.2).bind fun (v232 : (Int32 × KM)) =>
        if v229.1 = v232.1 then
          j2035 v232.2
        else
          some (0 : Int32)
        else none
        else none
        else none
        else none
      else
      if v2 = (28 : Int32) then
        if ix (w3 + (1 : Int32)) Ln then
        if ix (w3 + (2 : Int32)) Ln then
        lt (f_X11_rule a1 (xs ((w3 + (1 : Int32))).toNatClampNeg) (xs ((w3 + (2 : Int32))).toNatClampNeg) M) fun (v237 : (Int32 × KM)) =>
        if ix (w3 + (1 : Int32)) Ln then
        if ix (w3 + (2 : Int32)) Ln then
        (f_X12_rule n a2 (xs ((w3 + (1 : Int32))).toNatClampNeg) (xs ((w3 + (2 : Int32))).toNatClampNeg) v237.2).bind fun (v240 : (Int32 × KM)) =>
        if v237.1 = v240.1 then
          j2035 v240.2
        else
          some (0 : Int32)
        else none
        else none
        else none
        else none
      else
      if v2 = (29 : Int32) then
        if ix (w3 + (1 : Int32)) Ln then
        (f_X11_glareAt n a1 (xs ((w3 + (1 : Int32))).toNatClampNeg) M).bind fun (v244 : (Int32 × KM)) =>
        if ix (w3 + (1 : Int32)) Ln then
        (f_X12_glareAt n a2 (xs ((w3 + (1 : Int32))).toNatClampNeg) v244.2).bind fun (v246 : (Int32 × KM)) =>
        if v244.1 = v246.1 then
          j2035 v246.2
        else
          some (0 : Int32)
        else none
        else none
      else
      if v2 = (30 : Int32) then
        if ix (w3 + (1 : Int32)) Ln then
        if ix (w3 + (2 : Int32)) Ln then
        (f_X11_can n a1 (xs ((w3 + (1 : Int32))).toNatClampNeg) (xs ((w3 + (2 : Int32))).toNatClampNeg) M).bind fun (v251 : (Int32 × KM)) =>
        if ix (w3 + (1 : Int32)) Ln then
        if ix (w3 + (2 : Int32)) Ln then
        (f_X12_can n a2 (xs ((w3 + (1 : Int32))).toNatClampNeg) (xs ((w3 + (2 : Int32))).toNatClampNeg) v251.2).bind fun (v254 : (Int32 × KM)) =>
        if v251.1 = v254.1 then
          j2035 v254.2
        else
          some (0 : Int32)
        else none
        else none
        else none
        else none
      else
      if v2 = (31 : Int32) then
        if ix (w3 + (1 : Int32)) Ln then
        if ix (w3 + (2 : Int32)) Ln then
        (f_X11_guides n a1 (xs ((w3 + (1 : Int32))).toNatClampNeg) (xs ((w3 + (2 : Int32))).toNatClampNeg) M).bind fun (v259 : (Int32 × KM)) =>
        if ix (w3 + (1 : Int32)) Ln then
        if ix (w3 + (2 : Int32)) Ln then
        (f_X12_guides n a2 (xs ((w3 + (1 : Int32))).toNatClampNeg) (xs ((w3 + (2 : Int32))).toNatClampNeg) v259.2).bind fun (v262 : (Int32 × KM)) =>
        if v259.1 = v262.1 then
          j2035 v262.2
        else
          some (0 : Int32)
        else none
        else none
        else none
        else none
      else
      if v2 = (32 : Int32) then
        (f_X11_stuck n a1 M).bind fun (v265 : (Int32 × KM)) =>
        (f_X12_stuck n a2 v265.2).bind fun (v266 : (Int32 × KM)) =>
        if v265.1 = v266.1 then
          j2035 v266.2
        else
          some (0 : Int32)
      else
      if v2 = (33 : Int32) then
        if ix (w3 + (1 : Int32)) Ln then
        (f_X11_reach n a1 (xs ((w3 + (1 : Int32))).toNatClampNeg) M).bind fun (v270 : (Int32 × KM)) =>
        if ix (w3 + (1 : Int32)) Ln then
        (f_X12_reach n a2 (xs ((w3 + (1 : Int32))).toNatClampNeg) v270.2).bind fun (v272 : (Int32 × KM)) =>
        if v270.1 = v272.1 then
          j2035 v272.2
        else
          some (0 : Int32)
        else none
        else none
      else
      if v2 = (34 : Int32) then
        if ix (w3 + (1 : Int32)) Ln then
        (f_X11_nextGlare n a1 (xs ((w3 + (1 : Int32))).toNatClampNeg) M).bind fun (v276 : (Int32 × KM)) =>
        if ix (w3 + (1 : Int32)) Ln then
        (f_X12_nextGlare n a2 (xs ((w3 + (1 : Int32))).toNatClampNeg) v276.2).bind fun (v278 : (Int32 × KM)) =>
        if v276.1 = v278.1 then
          j2035 v278.2
        else
          some (0 : Int32)
        else none
        else none
      else
      if v2 = (35 : Int32) then
        if ix (w3 + (1 : Int32)) Ln then
        if ix (w3 + (2 : Int32)) Ln then
        (f_X11_soonest n a1 (xs ((w3 + (1 : Int32))).toNatClampNeg) (xs ((w3 + (2 : Int32))).toNatClampNeg) M).bind fun (v283 : (Int32 × KM)) =>
        if ix (w3 + (1 : Int32)) Ln then
        if ix (w3 + (2 : Int32)) Ln then
        (f_X12_soonest n a2 (xs ((w3 + (1 : Int32))).toNatClampNeg) (xs ((w3 + (2 : Int32))).toNatClampNeg) v283.2).bind fun (v286 : (Int32 × KM)) =>
        if v283.1 = v286.1 then
          j2035 v286.2
        else
          some (0 : Int32)
        else none
        else none
        else none
        else none
      else
      if v2 = (36 : Int32) then
        if ix (w3 + (1 : Int32)) Ln then
        if ix (w3 + (2 : Int32)) Ln then
        (f_X11_soonestFirst n a1 (xs ((w3 + (1 : Int32))).toNatClampNeg) (xs ((w3 + (2 : Int32))).toNatClampNeg) M).bind fun (v291 : (Int32 × KM)) =>
        if ix (w3 + (1 : Int32)) Ln then
        if ix (w3 + (2 : Int32)) Ln then
        (f_X12_soonestFirst n a2 (xs ((w3 + (1 : Int32))).toNatClampNeg) (xs ((w3 + (2 : Int32))).toNatClampNeg) v291.2).bind fun (v294 : (Int32 × KM)) =>
        if v291.1 = v294.1 then
          j2035 v294.2
        else
          some (0 : Int32)
        else none
        else none
        else none
        else none
      else
      if v2 = (37 : Int32) then
        if ix (w3 + (1 : Int32)) Ln then
        if ix (w3 + (2 : Int32)) Ln then
        if ix (w3 + (3 : Int32)) Ln then
        (f_X11_soonestTwo n a1 (xs ((w3 + (1 : Int32))).toNatClampNeg) (xs ((w3 + (2 : Int32))).toNatClampNeg) (xs ((w3 + (3 : Int32))).toNatClampNeg) M).bind fun (v300 : (Int32 × KM)) =>
        if ix (w3 + (1 : Int32)) Ln then
        if ix (w3 + (2 : Int32)) Ln then
        if ix (w3 + (3 : Int32)) Ln then
        (f_X12_soonestTwo n a2 (xs ((w3 + (1 : Int32))).toNatClampNeg) (xs ((w3 + (2 : Int32))).toNatClampNeg) (xs ((w3 + (3 : Int32))).toNatClampNeg) v300.2).bind fun (v304 : (Int32 × KM)) =>
        if v300.1 = v304.1 then
          j2035 v304.2
        else
          some (0 : Int32)
        else none
        else none
        else none
        else none
        else none
        else none
      else
      if v2 = (38 : Int32) then
        if ix (w3 + (1 : Int32)) Ln then
        if ix (w3 + (2 : Int32)) Ln then
        (f_X11_meet n a1 (xs ((w3 + (1 : Int32))).toNatClampNeg) (xs ((w3 + (2 : Int32))).toNatClampNeg) M).bind fun (v309 : (Int32 × KM)) =>
        if ix (w3 + (1 : Int32)) Ln then
        if ix (w3 + (2 : Int32)) Ln then
        (f_X12_meet n a2 (xs ((w3 + (1 : Int32))).toNatClampNeg) (xs ((w3 + (2 : Int32))).toNatClampNeg) v309.2).bind fun (v312 : (Int32 × KM)) =>
        if v309.1 = v312.1 then
          j2035 v312.2
        else
          some (0 : Int32)
        else none
        else none
        else none
        else none
      else
      if v2 = (39 : Int32) then
        if ix (w3 + (1 : Int32)) Ln then
        if ix (w3 + (2 : Int32)) Ln then
        (f_X11_meetIn n a1 (xs ((w3 + (1 : Int32))).toNatClampNeg) (xs ((w3 + (2 : Int32))).toNatClampNeg) M).bind fun (v317 : (Int32 × KM)) =>
        if ix (w3 + (1 : Int32)) Ln then
        if ix (w3 + (2 : Int32)) Ln then
        (f_X12_meetIn n a2 (xs ((w3 + (1 : Int32))).toNatClampNeg) (xs ((w3 + (2 : Int32))).toNatClampNeg) v317.2).bind fun (v320 : (Int32 × KM)) =>
        if v317.1 = v320.1 then
          j2035 v320.2
        else
          some (0 : Int32)
        else none
        else none
        else none
        else none
      else
      if v2 = (40 : Int32) then
        if ix (w3 + (1 : Int32)) Ln then
        if ix (w3 + (2 : Int32)) Ln then
        (f_X11_plants n a1 (xs ((w3 + (1 : Int32))).toNatClampNeg) (xs ((w3 + (2 : Int32))).toNatClampNeg) M).bind fun (v325 : (Int32 × KM)) =>
        if ix (w3 + (1 : Int32)) Ln then
        if ix (w3 + (2 : Int32)) Ln then
        (f_X12_plants n a2 (xs ((w3 + (1 : Int32))).toNatClampNeg) (xs ((w3 + (2 : Int32))).toNatClampNeg) v325.2).bind fun (v328 : (Int32 × KM)) =>
        if v325.1 = v328.1 then
          j2035 v328.2
        else
          some (0 : Int32)
        else none
        else none
        else none
        else none
      else
      if v2 = (41 : Int32) then
        if ix (w3 + (1 : Int32)) Ln then
        if ix (w3 + (2 : Int32)) Ln then
        (f_X11_plantSet n a1 (xs ((w3 + (1 : Int32))).toNatClampNeg) (xs ((w3 + (2 : Int32))).toNatClampNeg) M).bind fun (v333 : (Int32 × KM)) =>
        if ix (w3 + (1 : Int32)) Ln then
        if ix (w3 + (2 : Int32)) Ln then
        (f_X12_plantSet n a2 (xs ((w3 + (1 : Int32))).toNatClampNeg) (xs ((w3 + (2 : Int32))).toNatClampNeg) v333.2).bind fun (v336 : (Int32 × KM)) =>
        if v333.1 = v336.1 then
          j2035 v336.2
        else
          some (0 : Int32)
        else none
        else none
        else none
        else none
      else
      if v2 = (42 : Int32) then
        if ix (w3 + (1 : Int32)) Ln then
        if ix (w3 + (2 : Int32)) Ln then
        if ix (w3 + (3 : Int32)) Ln then
        if ix (w3 + (4 : Int32)) Ln then
        (f_X11_ways n a1 (xs ((w3 + (1 : Int32))).toNatClampNeg) (xs ((w3 + (2 : Int32))).toNatClampNeg) (xs ((w3 + (3 : Int32))).toNatClampNeg) (xs ((w3 + (4 : Int32))).toNatClampNeg) M).bind fun (v343 : (Int64 × KM)) =>
        if ix (w3 + (1 : Int32)) Ln then
        if ix (w3 + (2 : Int32)) Ln then
        if ix (w3 + (3 : Int32)) Ln then
        if ix (w3 + (4 : Int32)) Ln then
        (f_X12_ways n a2 (xs ((w3 + (1 : Int32))).toNatClampNeg) (xs ((w3 + (2 : Int32))).toNatClampNeg) (xs ((w3 + (3 : Int32))).toNatClampNeg) (xs ((w3 + (4 : Int32))).toNatClampNeg) v343.2).bind fun (v348 : (Int64 × KM)) =>
        if (lg_cmp v343.1 v348.1) = 0 then
          j2035 v348.2
        else
          some (0 : Int32)
        else none
        else none
        else none
        else none
        else none
        else none
        else none
        else none
      else
      if v2 = (43 : Int32) then
        if ix (w3 + (1 : Int32)) Ln then
        (f_X11_pair n a1 (xs ((w3 + (1 : Int32))).toNatClampNeg) M).bind fun (v352 : (Int32 × KM)) =>
        if ix (w3 + (1 : Int32)) Ln then
        (f_X12_pair n a2 (xs ((w3 + (1 : Int32))).toNatClampNeg) v352.2).bind fun (v354 : (Int32 × KM)) =>
        if v352.1 = v354.1 then
          j2035 v354.2
        else
          some (0 : Int32)
        else none
        else none
      else
      if v2 = (44 : Int32) then
        (f_X11_pairs n a1 M).bind fun (v357 : (Int32 × KM)) =>
        (f_X12_pairs n a2 v357.2).bind fun (v358 : (Int32 × KM)) =>
        if v357.1 = v358.1 then
          j2035 v358.2
        else
          some (0 : Int32)
      else
      if v2 = (45 : Int32) then
        (f_X11_pairsOwe n a1 M).bind fun (v361 : (Int32 × KM)) =>
        (f_X12_pairsOwe n a2 v361.2).bind fun (v362 : (Int32 × KM)) =>
        if v361.1 = v362.1 then
          j2035 v362.2
        else
          some (0 : Int32)
      else
      if v2 = (46 : Int32) then
        if ix (w3 + (1 : Int32)) Ln then
        (f_X11_dearest n a1 (xs ((w3 + (1 : Int32))).toNatClampNeg) M).bind fun (v366 : (Int32 × KM)) =>
        if ix (w3 + (1 : Int32)) Ln then
        (f_X12_dearest n a2 (xs ((w3 + (1 : Int32))).toNatClampNeg) v366.2).bind fun (v368 : (Int32 × KM)) =>
        if v366.1 = v368.1 then
          j2035 v368.2
        else
          some (0 : Int32)
        else none
        else none
      else
      if v2 = (47 : Int32) then
        if ix (w3 + (1 : Int32)) Ln then
        if ix (w3 + (2 : Int32)) Ln then
        (f_X11_clouds n a1 (xs ((w3 + (1 : Int32))).toNatClampNeg) (xs ((w3 + (2 : Int32))).toNatClampNeg) M).bind fun (v373 : (Int32 × KM)) =>
        if ix (w3 + (1 : Int32)) Ln then
        if ix (w3 + (2 : Int32)) Ln then
        (f_X12_clouds n a2 (xs ((w3 + (1 : Int32))).toNatClampNeg) (xs ((w3 + (2 : Int32))).toNatClampNeg) v373.2).bind fun (v376 : (Int32 × KM)) =>
        if v373.1 = v376.1 then
          j2035 v376.2
        else
          some (0 : Int32)
        else none
        else none
        else none
        else none
      else
      if v2 = (48 : Int32) then
        if ix (w3 + (1 : Int32)) Ln then
        (f_X11_lostIn n a1 (xs ((w3 + (1 : Int32))).toNatClampNeg) M).bind fun (v380 : (Int32 × KM)) =>
        if ix (w3 + (1 : Int32)) Ln then
        (f_X12_lostIn n a2 (xs ((w3 + (1 : Int32))).toNatClampNeg) v380.2).bind fun (v382 : (Int32 × KM)) =>
        if v380.1 = v382.1 then
          j2035 v382.2
        else
          some (0 : Int32)
        else none
        else none
      else
      if v2 = (49 : Int32) then
        if ix (w3 + (1 : Int32)) Ln then
        if ix (w3 + (2 : Int32)) Ln then
        if ix (w3 + (3 : Int32)) Ln then
        (f_X11_lostBy n a1 (xs ((w3 + (1 : Int32))).toNatClampNeg) (xs ((w3 + (2 : Int32))).toNatClampNeg) (xs ((w3 + (3 : Int32))).toNatClampNeg) M).bind fun (v388 : (Int32 × KM)) =>
        if ix (w3 + (1 : Int32)) Ln then
        if ix (w3 + (2 : Int32)) Ln then
        if ix (w3 + (3 : Int32)) Ln then
        (f_X12_lostBy n a2 (xs ((w3 + (1 : Int32))).toNatClampNeg) (xs ((w3 + (2 : Int32))).toNatClampNeg) (xs ((w3 + (3 : Int32))).toNatClampNeg) v388.2).bind fun (v392 : (Int32 × KM)) =>
        if v388.1 = v392.1 then
          j2035 v392.2
        else
          some (0 : Int32)
        else none
        else none
        else none
        else none
        else none
        else none
      else
      if v2 = (50 : Int32) then
        if ix (w3 + (1 : Int32)) Ln then
        (f_X11_bestFrom n a1 (xs ((w3 + (1 : Int32))).toNatClampNeg) M).bind fun (v396 : (Int32 × KM)) =>
        if ix (w3 + (1 : Int32)) Ln then
        (f_X12_bestFrom n a2 (xs ((w3 + (1 : Int32))).toNatClampNeg) v396.2).bind fun (v398 : (Int32 × KM)) =>
        if v396.1 = v398.1 then
          j2035 v398.2
        else
          some (0 : Int32)
        else none
        else none
      else
      if v2 = (51 : Int32) then
        if ix (w3 + (1 : Int32)) Ln then
        (f_X11_arrives n a1 (xs ((w3 + (1 : Int32))).toNatClampNeg) M).bind fun (v402 : (Int32 × KM)) =>
        if ix (w3 + (1 : Int32)) Ln then
        (f_X12_arrives n a2 (xs ((w3 + (1 : Int32))).toNatClampNeg) v402.2).bind fun (v404 : (Int32 × KM)) =>
        if v402.1 = v404.1 then
          j2035 v404.2
        else
          some (0 : Int32)
        else none
        else none
      else
      if v2 = (52 : Int32) then
        if ix (w3 + (1 : Int32)) Ln then
        (f_X11_live n a1 (xs ((w3 + (1 : Int32))).toNatClampNeg) M).bind fun (v408 : (Int32 × KM)) =>
        if ix (w3 + (1 : Int32)) Ln then
        (f_X12_live n a2 (xs ((w3 + (1 : Int32))).toNatClampNeg) v408.2).bind fun (v410 : (Int32 × KM)) =>
        if v408.1 = v410.1 then
          j2035 v410.2
        else
          some (0 : Int32)
        else none
        else none
      else
      if v2 = (53 : Int32) then
        if ix (w3 + (1 : Int32)) Ln then
        (f_X11_lived n a1 (xs ((w3 + (1 : Int32))).toNatClampNeg) M).bind fun (v414 : (Int32 × KM)) =>
        if ix (w3 + (1 : Int32)) Ln then
        (f_X12_lived n a2 (xs ((w3 + (1 : Int32))).toNatClampNeg) v414.2).bind fun (v416 : (Int32 × KM)) =>
        if v414.1 = v416.1 then
          j2035 v416.2
        else
          some (0 : Int32)
        else none
        else none
      else
      if v2 = (54 : Int32) then
        if ix (w3 + (1 : Int32)) Ln then
        if ix (w3 + (2 : Int32)) Ln then
        (f_X11_mean n a1 (xs ((w3 + (1 : Int32))).toNatClampNeg) (xs ((w3 + (2 : Int32))).toNatClampNeg) M).bind fun (v421 : (Int32 × KM)) =>
        if ix (w3 + (1 : Int32)) Ln then
        if ix (w3 + (2 : Int32)) Ln then
        (f_X12_mean n a2 (xs ((w3 + (1 : Int32))).toNatClampNeg) (xs ((w3 + (2 : Int32))).toNatClampNeg) v421.2).bind fun (v424 : (Int32 × KM)) =>
        if v421.1 = v424.1 then
          j2035 v424.2
        else
          some (0 : Int32)
        else none
        else none
        else none
        else none
      else
      if v2 = (55 : Int32) then
        (f_X11_mark n a1 M).bind fun (v427 : (Int32 × KM)) =>
        (f_X12_mark n a2 v427.2).bind fun (v428 : (Int32 × KM)) =>
        if v427.1 = v428.1 then
          j2035 v428.2
        else
          some (0 : Int32)
      else
      if v2 = (56 : Int32) then
        (f_X11_back n a1 M).bind fun (v431 : (Int32 × KM)) =>
        (f_X12_back n a2 v431.2).bind fun (v432 : (Int32 × KM)) =>
        if v431.1 = v432.1 then
          j2035 v432.2
        else
          some (0 : Int32)
      else
      j2035 M
      else none
