def f_J6_bitCount_0f7a4 (p0 : Int32) (M : KM) : Int32 :=
  lt ((p0 - (((p0).toUInt32 >>> (((1 : Int32)).toUInt32 &&& Int32.toUInt32 31)).toInt32 &&& (1431655765 : Int32)))) fun (v1 : Int32) =>
  lt (((v1 &&& (858993459 : Int32)) + (((v1).toUInt32 >>> (((2 : Int32)).toUInt32 &&& Int32.toUInt32 31)).toInt32 &&& (858993459 : Int32)))) fun (v2 : Int32) =>
  lt (((v2 + ((v2).toUInt32 >>> (((4 : Int32)).toUInt32 &&& Int32.toUInt32 31)).toInt32) &&& (252645135 : Int32))) fun (v3 : Int32) =>
  lt ((v3 + ((v3).toUInt32 >>> (((8 : Int32)).toUInt32 &&& Int32.toUInt32 31)).toInt32)) fun (v4 : Int32) =>
  lt ((v4 + ((v4).toUInt32 >>> (((16 : Int32)).toUInt32 &&& Int32.toUInt32 31)).toInt32)) fun (v5 : Int32) =>
  (v5 &&& (63 : Int32))
def f_X1_canBe (p0 : Int32) (p1 : Int32) (M : KM) : Int32 :=
  if p0 < 0 then
    (0 : Int32)
  else
    if (23 : Int32) < p0 then
      (0 : Int32)
    else
      if p1 ≤ p0 then
        (0 : Int32)
      else
        if (24 : Int32) < p1 then
          (0 : Int32)
        else
          (1 : Int32)
def f_X1_set (a0 : Nat) (p1 : Int32) (p2 : Int32) (M : KM) : KM :=
  lt (uI M a0 0 p1) fun (M1 : KM) =>
  lt (uI M1 a0 1 p2) fun (M2 : KM) =>
  lt (uI M2 a0 2 (((M2.1 a0 1) - (M2.1 a0 0)) * (60 : Int32))) fun (M3 : KM) =>
  M3
def f_X1_areGlaring (n : Nat) (a0 : Nat) (p1 : Int32) (M : KM) : Option Int32 :=
  lt (((p1 / (60 : Int32)) - (p1 / (60 : Int32)) / (24 : Int32) * (24 : Int32))) fun (v1 : Int32) =>
  if v1 < (M.1 a0 0) then
    some (0 : Int32)
  else
    if (M.1 a0 1) ≤ v1 then
      some (0 : Int32)
    else
      some (1 : Int32)
def f_X1_glareBefore (n : Nat) (a0 : Nat) (p1 : Int32) (M : KM) : Option Int32 :=
  lt (((p1 - p1 / (1440 : Int32) * (1440 : Int32)) - ((M.1 a0 0) * (60 : Int32)))) fun (v1 : Int32) =>
  lt (fun (x2 : Int32) => (
    if (M.1 a0 2) ≤ x2 then
      some (((p1 / (1440 : Int32)) * (M.1 a0 2)) + (M.1 a0 2))
    else
      some (((p1 / (1440 : Int32)) * (M.1 a0 2)) + x2)
  ) : Int32 → Option Int32) fun j20 =>
  if 0 ≤ v1 then
    j20 v1
  else
    j20 (0 : Int32)
def f_X1_movedIn (n : Nat) (a0 : Nat) (p1 : Int32) (p2 : Int32) (p3 : Int32) (M : KM) : Option Int32 :=
  if p1 = (2 : Int32) then
    some (0 : Int32)
  else
    if p1 = 0 then
      some p3
    else
      (f_X1_glareBefore n a0 (p2 + p3) M).bind fun (v1 : Int32) =>
      (f_X1_glareBefore n a0 p2 M).bind fun (v2 : Int32) =>
      some ((p3 - v1) + v2)
def f_X1_doneAt (n : Nat) (a0 : Nat) (p1 : Int32) (p2 : Int32) (p3 : Int32) (M : KM) : Option Int32 :=
  if p1 = (2 : Int32) then
    some (1000000000 : Int32)
  else
    if p2 < (1000000000 : Int32) then
      if p1 = 0 then
        some (p2 + p3)
      else
        lt (((1440 : Int32) - (M.1 a0 2))) fun (v1 : Int32) =>
        if 0 < v1 then
          (f_X1_glareBefore n a0 p2 M).bind fun (v2 : Int32) =>
          lt ((((p2 - v2) + p3) - (1 : Int32))) fun (v3 : Int32) =>
          if ¬ v1 = 0 then
          lt (((v3 - v3 / v1 * v1) + (1 : Int32))) fun (v5 : Int32) =>
          lt (fun (x6 : Int32) => (
            if ¬ v1 = 0 then
            some ((((v3 / v1) * (1440 : Int32)) + v5) + x6)
            else none
          ) : Int32 → Option Int32) fun j82 =>
          if ((M.1 a0 0) * (60 : Int32)) < v5 then
            j82 (M.1 a0 2)
          else
            j82 (0 : Int32)
          else none
        else
          some (1000000000 : Int32)
    else
      some (1000000000 : Int32)
def f_X7_stayAt (a0 : Nat) (p1 : Int32) (M : KM) : KM :=
  lt (uI M a0 5 p1) fun (M1 : KM) =>
  lt (uI M1 a0 6 (-1 : Int32)) fun (M2 : KM) =>
  lt (uI M2 a0 7 (-1 : Int32)) fun (M3 : KM) =>
  lt (uI M3 a0 8 (-1 : Int32)) fun (M4 : KM) =>
  lt (uI M4 a0 9 (-1 : Int32)) fun (M5 : KM) =>
  lt (uI M5 a0 10 (0 : Int32)) fun (M6 : KM) =>
  M6
def lp_X7_begin_30 (n : Nat) (a0 : Nat) (w6 : Int32) (M : KM) (k51 : KM → Option KM) : Option KM := match n with
  | 0 => none
  | n + 1 =>
    if (12 : Int32) ≤ w6 then
      k51 M
    else
      if ix w6 12 then
      lt (uI M (a0 + 1) (w6).toNatClampNeg (0 : Int32)) fun (M9 : KM) =>
      lt (w6 + (1 : Int32)) fun (v10 : Int32) =>
      lp_X7_begin_30 n a0 v10 M9 k51
      else none
def lp_X7_begin_54 (n : Nat) (a0 : Nat) (w6 : Int32) (M : KM) : Option KM := match n with
  | 0 => none
  | n + 1 =>
    if (8 : Int32) ≤ w6 then
      some M
    else
      if ix w6 8 then
      lt (uI M (a0 + 2) (w6).toNatClampNeg (0 : Int32)) fun (M14 : KM) =>
      lt (w6 + (1 : Int32)) fun (v15 : Int32) =>
      lp_X7_begin_54 n a0 v15 M14
      else none
def f_X7_begin (n : Nat) (a0 : Nat) (p1 : Int64) (p3 : Int32) (p4 : Int32) (p5 : Int32) (M : KM) : Option KM :=
  lt (uJ M a0 2 p1) fun (M1 : KM) =>
  if p3 = 0 ∨ p3 = 1 then
  lt (uI M1 a0 3 p3) fun (M3 : KM) =>
  if p4 = 0 ∨ p4 = 1 then
  lt (uI M3 a0 4 p4) fun (M5 : KM) =>
  lt (uI M5 a0 11 (0 : Int32)) fun (M6 : KM) =>
  lt (f_X7_stayAt a0 p5 M6) fun (v7 : KM) =>
  lp_X7_begin_30 n a0 (0 : Int32) v7
    (fun (M12 : KM) => (
      lp_X7_begin_54 n a0 (0 : Int32) M12
    ))
  else none
  else none
def f_X7_copyFrom (n : Nat) (a0 : Nat) (a1 : Nat) (M : KM) : Option KM :=
  if ¬ (0 : Int32) < 0 ∧ ¬ (0 : Int32) < 0 ∧ ¬ (12 : Int32) < 0 ∧ ((0 : Int32)).toNatClampNeg + ((12 : Int32)).toNatClampNeg ≤ 12 ∧ ((0 : Int32)).toNatClampNeg + ((12 : Int32)).toNatClampNeg ≤ 12 then
  lt (uIs M (a0 + 1) (va_cpy (M.1 (a1 + 1)) (M.1 (a0 + 1)) ((0 : Int32)).toNatClampNeg ((0 : Int32)).toNatClampNeg ((12 : Int32)).toNatClampNeg)) fun (M2 : KM) =>
  if ¬ (0 : Int32) < 0 ∧ ¬ (0 : Int32) < 0 ∧ ¬ (8 : Int32) < 0 ∧ ((0 : Int32)).toNatClampNeg + ((8 : Int32)).toNatClampNeg ≤ 8 ∧ ((0 : Int32)).toNatClampNeg + ((8 : Int32)).toNatClampNeg ≤ 8 then
  lt (uIs M2 (a0 + 2) (va_cpy (M2.1 (a1 + 2)) (M2.1 (a0 + 2)) ((0 : Int32)).toNatClampNeg ((0 : Int32)).toNatClampNeg ((8 : Int32)).toNatClampNeg)) fun (M4 : KM) =>
  lt (uJ M4 a0 2 (M4.2.1 a1 2)) fun (M5 : KM) =>
  if (M5.1 a1 3) = 0 ∨ (M5.1 a1 3) = 1 then
  lt (uI M5 a0 3 (M5.1 a1 3)) fun (M7 : KM) =>
  if (M7.1 a1 4) = 0 ∨ (M7.1 a1 4) = 1 then
  lt (uI M7 a0 4 (M7.1 a1 4)) fun (M9 : KM) =>
  lt (uI M9 a0 5 (M9.1 a1 5)) fun (M10 : KM) =>
  lt (uI M10 a0 6 (M10.1 a1 6)) fun (M11 : KM) =>
  lt (uI M11 a0 7 (M11.1 a1 7)) fun (M12 : KM) =>
  lt (uI M12 a0 8 (M12.1 a1 8)) fun (M13 : KM) =>
  lt (uI M13 a0 9 (M13.1 a1 9)) fun (M14 : KM) =>
  lt (uI M14 a0 10 (M14.1 a1 10)) fun (M15 : KM) =>
  lt (uI M15 a0 11 (M15.1 a1 11)) fun (M16 : KM) =>
  some M16
  else none
  else none
  else none
  else none
def f_X7_isAtPlace (a0 : Nat) (M : KM) : Int32 :=
  if (M.1 a0 5) = (-1 : Int32) then
    (0 : Int32)
  else
    (1 : Int32)
def f_X7_isWalker (a0 : Nat) (M : KM) : Int32 :=
  if (M.1 a0 5) = (-1 : Int32) then
    if (M.1 a0 9) = (-1 : Int32) then
      (1 : Int32)
    else
      (0 : Int32)
  else
    (0 : Int32)
def f_X7_leaveBy (a0 : Nat) (p1 : Int32) (p2 : Int32) (p3 : Int32) (p4 : Int32) (M : KM) : KM :=
  lt (uI M a0 7 (M.1 a0 5)) fun (M1 : KM) =>
  lt (uI M1 a0 5 (-1 : Int32)) fun (M2 : KM) =>
  lt (uI M2 a0 6 p1) fun (M3 : KM) =>
  lt (uI M3 a0 8 p2) fun (M4 : KM) =>
  lt (uI M4 a0 9 p3) fun (M5 : KM) =>
  lt (uI M5 a0 10 p4) fun (M6 : KM) =>
  M6
def f_X8_clear (a0 : Nat) (M : KM) : KM :=
  lt (uI M a0 5 (0 : Int32)) fun (M1 : KM) =>
  lt (uI M1 a0 6 (0 : Int32)) fun (M2 : KM) =>
  lt (uI M2 a0 7 (0 : Int32)) fun (M3 : KM) =>
  M3
def f_X8_copyFrom (n : Nat) (a0 : Nat) (a1 : Nat) (M : KM) : Option KM :=
  if ¬ (0 : Int32) < 0 ∧ ¬ (0 : Int32) < 0 ∧ ¬ (60 : Int32) < 0 ∧ ((0 : Int32)).toNatClampNeg + ((60 : Int32)).toNatClampNeg ≤ 60 ∧ ((0 : Int32)).toNatClampNeg + ((60 : Int32)).toNatClampNeg ≤ 60 then
  lt (uIs M (a0 + 1) (va_cpy (M.1 (a1 + 1)) (M.1 (a0 + 1)) ((0 : Int32)).toNatClampNeg ((0 : Int32)).toNatClampNeg ((60 : Int32)).toNatClampNeg)) fun (M2 : KM) =>
  if ¬ (0 : Int32) < 0 ∧ ¬ (0 : Int32) < 0 ∧ ¬ (60 : Int32) < 0 ∧ ((0 : Int32)).toNatClampNeg + ((60 : Int32)).toNatClampNeg ≤ 60 ∧ ((0 : Int32)).toNatClampNeg + ((60 : Int32)).toNatClampNeg ≤ 60 then
  lt (uIs M2 (a0 + 2) (va_cpy (M2.1 (a1 + 2)) (M2.1 (a0 + 2)) ((0 : Int32)).toNatClampNeg ((0 : Int32)).toNatClampNeg ((60 : Int32)).toNatClampNeg)) fun (M4 : KM) =>
  if ¬ (0 : Int32) < 0 ∧ ¬ (0 : Int32) < 0 ∧ ¬ (60 : Int32) < 0 ∧ ((0 : Int32)).toNatClampNeg + ((60 : Int32)).toNatClampNeg ≤ 60 ∧ ((0 : Int32)).toNatClampNeg + ((60 : Int32)).toNatClampNeg ≤ 60 then
  lt (uIs M4 (a0 + 3) (va_cpy (M4.1 (a1 + 3)) (M4.1 (a0 + 3)) ((0 : Int32)).toNatClampNeg ((0 : Int32)).toNatClampNeg ((60 : Int32)).toNatClampNeg)) fun (M6 : KM) =>
  if ¬ (0 : Int32) < 0 ∧ ¬ (0 : Int32) < 0 ∧ ¬ (60 : Int32) < 0 ∧ ((0 : Int32)).toNatClampNeg + ((60 : Int32)).toNatClampNeg ≤ 60 ∧ ((0 : Int32)).toNatClampNeg + ((60 : Int32)).toNatClampNeg ≤ 60 then
  lt (uIs M6 (a0 + 4) (va_cpy (M6.1 (a1 + 4)) (M6.1 (a0 + 4)) ((0 : Int32)).toNatClampNeg ((0 : Int32)).toNatClampNeg ((60 : Int32)).toNatClampNeg)) fun (M8 : KM) =>
  if ¬ (0 : Int32) < 0 ∧ ¬ (0 : Int32) < 0 ∧ ¬ (60 : Int32) < 0 ∧ ((0 : Int32)).toNatClampNeg + ((60 : Int32)).toNatClampNeg ≤ 60 ∧ ((0 : Int32)).toNatClampNeg + ((60 : Int32)).toNatClampNeg ≤ 60 then
  lt (uIs M8 (a0 + 5) (va_cpy (M8.1 (a1 + 5)) (M8.1 (a0 + 5)) ((0 : Int32)).toNatClampNeg ((0 : Int32)).toNatClampNeg ((60 : Int32)).toNatClampNeg)) fun (M10 : KM) =>
  lt (uI M10 a0 5 (M10.1 a1 5)) fun (M11 : KM) =>
  lt (uI M11 a0 6 (M11.1 a1 6)) fun (M12 : KM) =>
  if (M12.1 a1 7) = 0 ∨ (M12.1 a1 7) = 1 then
  lt (uI M12 a0 7 (M12.1 a1 7)) fun (M14 : KM) =>
  some M14
  else none
  else none
  else none
  else none
  else none
  else none
def f_X8_add (n : Nat) (a0 : Nat) (p1 : Int32) (p2 : Int32) (p3 : Int32) (p4 : Int32) (M : KM) : Option (Int32 × KM) :=
  if (M.1 a0 5) < (60 : Int32) then
    if ix (M.1 a0 5) 60 then
    lt (uI M (a0 + 1) ((M.1 a0 5)).toNatClampNeg p1) fun (M2 : KM) =>
    if ix (M2.1 a0 5) 60 then
    lt (uI M2 (a0 + 2) ((M2.1 a0 5)).toNatClampNeg p2) fun (M4 : KM) =>
    if ix (M4.1 a0 5) 60 then
    lt (uI M4 (a0 + 3) ((M4.1 a0 5)).toNatClampNeg p3) fun (M6 : KM) =>
    if ix (M6.1 a0 5) 60 then
    lt (uI M6 (a0 + 4) ((M6.1 a0 5)).toNatClampNeg p4) fun (M8 : KM) =>
    if ix (M8.1 a0 5) 60 then
    lt (uI M8 (a0 + 5) ((M8.1 a0 5)).toNatClampNeg (M8.1 a0 5)) fun (M10 : KM) =>
    lt (uI M10 a0 5 ((M10.1 a0 5) + (1 : Int32))) fun (M11 : KM) =>
    if p1 = (10 : Int32) then
      some ((1 : Int32), M11)
    else
      lt (uI M11 a0 6 ((M11.1 a0 6) + (1 : Int32))) fun (M12 : KM) =>
      some ((1 : Int32), M12)
    else none
    else none
    else none
    else none
    else none
  else
    some ((0 : Int32), M)
def f_X8_close (n : Nat) (a0 : Nat) (p1 : Int32) (M : KM) : Option KM :=
  lt (((M.1 a0 5) - (1 : Int32))) fun (v1 : Int32) =>
  if p1 < 0 then
    some M
  else
    if v1 ≤ p1 then
      some M
    else
      if (60 : Int32) ≤ v1 then
        some M
      else
        if ix p1 60 then
        lt (uI M (a0 + 5) (p1).toNatClampNeg v1) fun (M3 : KM) =>
        if ix v1 60 then
        lt (uI M3 (a0 + 5) (v1).toNatClampNeg p1) fun (M5 : KM) =>
        some M5
        else none
        else none
def f_X2_clear (a0 : Nat) (M : KM) : KM :=
  lt (uI M a0 8 (0 : Int32)) fun (M1 : KM) =>
  lt (uI M1 a0 9 (0 : Int32)) fun (M2 : KM) =>
  lt (uI M2 a0 10 (0 : Int32)) fun (M3 : KM) =>
  lt (f_X1_set (a0 + 7) (10 : Int32) (16 : Int32) M3) fun (v4 : KM) =>
  lt (uI v4 a0 11 (480 : Int32)) fun (M5 : KM) =>
  lt (uI M5 a0 12 (9 : Int32)) fun (M6 : KM) =>
  lt (uI M6 a0 13 (3 : Int32)) fun (M7 : KM) =>
  lt (uI M7 a0 14 (4 : Int32)) fun (M8 : KM) =>
  lt (uI M8 a0 15 (0 : Int32)) fun (M9 : KM) =>
  lt (f_X8_clear (M9.2.2 a0 7) M9) fun (v11 : KM) =>
  v11
def lp_X2_copyFrom_158 (n : Nat) (a0 : Nat) (a1 : Nat) (w2 : Int32) (M : KM) (k182 : KM → Option KM) : Option KM := match n with
  | 0 => none
  | n + 1 =>
    if (12 : Int32) ≤ w2 then
      k182 M
    else
      if ix w2 12 then
      if ix w2 12 then
      lt (uI M (a0 + 5) (w2).toNatClampNeg (vp_nar .boolean (M.1 (a1 + 5) (w2).toNatClampNeg))) fun (M24 : KM) =>
      lt (w2 + (1 : Int32)) fun (v25 : Int32) =>
      lp_X2_copyFrom_158 n a0 a1 v25 M24 k182
      else none
      else none
def lp_X2_copyFrom_184 (n : Nat) (a0 : Nat) (a1 : Nat) (w2 : Int32) (M : KM) : Option KM := match n with
  | 0 => none
  | n + 1 =>
    if (8 : Int32) ≤ w2 then
      some M
    else
      if ix w2 8 then
      if ix w2 8 then
      (f_X7_copyFrom n ((a0 + 6) + 8 + 3 * (w2).toNatClampNeg) ((a1 + 6) + 8 + 3 * (w2).toNatClampNeg) M).bind fun (v30 : KM) =>
      lt (w2 + (1 : Int32)) fun (v31 : Int32) =>
      lp_X2_copyFrom_184 n a0 a1 v31 v30
      else none
      else none
def f_X2_copyFrom (n : Nat) (a0 : Nat) (a1 : Nat) (M : KM) : Option KM :=
  lt (uI M a0 8 (M.1 a1 8)) fun (M1 : KM) =>
  lt (uI M1 a0 9 (M1.1 a1 9)) fun (M2 : KM) =>
  lt (uI M2 a0 10 (M2.1 a1 10)) fun (M3 : KM) =>
  lt (f_X1_set (a0 + 7) (M3.1 (a1 + 7) 0) (M3.1 (a1 + 7) 1) M3) fun (v4 : KM) =>
  lt (uI v4 a0 11 (v4.1 a1 11)) fun (M5 : KM) =>
  lt (uI M5 a0 12 (M5.1 a1 12)) fun (M6 : KM) =>
  lt (uI M6 a0 13 (M6.1 a1 13)) fun (M7 : KM) =>
  lt (uI M7 a0 14 (M7.1 a1 14)) fun (M8 : KM) =>
  if (M8.1 a1 15) = 0 ∨ (M8.1 a1 15) = 1 then
  lt (uI M8 a0 15 (M8.1 a1 15)) fun (M10 : KM) =>
  (f_X8_copyFrom n (M10.2.2 a0 7) (M10.2.2 a1 7) M10).bind fun (v13 : KM) =>
  if ¬ (0 : Int32) < 0 ∧ ¬ (0 : Int32) < 0 ∧ ¬ (8 : Int32) < 0 ∧ ((0 : Int32)).toNatClampNeg + ((8 : Int32)).toNatClampNeg ≤ 8 ∧ ((0 : Int32)).toNatClampNeg + ((8 : Int32)).toNatClampNeg ≤ 8 then
  lt (uJs v13 (a0 + 1) (va_cpy (v13.2.1 (a1 + 1)) (v13.2.1 (a0 + 1)) ((0 : Int32)).toNatClampNeg ((0 : Int32)).toNatClampNeg ((8 : Int32)).toNatClampNeg)) fun (M15 : KM) =>
  if ¬ (0 : Int32) < 0 ∧ ¬ (0 : Int32) < 0 ∧ ¬ (12 : Int32) < 0 ∧ ((0 : Int32)).toNatClampNeg + ((12 : Int32)).toNatClampNeg ≤ 12 ∧ ((0 : Int32)).toNatClampNeg + ((12 : Int32)).toNatClampNeg ≤ 12 then
  lt (uIs M15 (a0 + 2) (va_cpy (M15.1 (a1 + 2)) (M15.1 (a0 + 2)) ((0 : Int32)).toNatClampNeg ((0 : Int32)).toNatClampNeg ((12 : Int32)).toNatClampNeg)) fun (M17 : KM) =>
  if ¬ (0 : Int32) < 0 ∧ ¬ (0 : Int32) < 0 ∧ ¬ (12 : Int32) < 0 ∧ ((0 : Int32)).toNatClampNeg + ((12 : Int32)).toNatClampNeg ≤ 12 ∧ ((0 : Int32)).toNatClampNeg + ((12 : Int32)).toNatClampNeg ≤ 12 then
  lt (uIs M17 (a0 + 3) (va_cpy (M17.1 (a1 + 3)) (M17.1 (a0 + 3)) ((0 : Int32)).toNatClampNeg ((0 : Int32)).toNatClampNeg ((12 : Int32)).toNatClampNeg)) fun (M19 : KM) =>
  if ¬ (0 : Int32) < 0 ∧ ¬ (0 : Int32) < 0 ∧ ¬ (12 : Int32) < 0 ∧ ((0 : Int32)).toNatClampNeg + ((12 : Int32)).toNatClampNeg ≤ 12 ∧ ((0 : Int32)).toNatClampNeg + ((12 : Int32)).toNatClampNeg ≤ 12 then
  lt (uIs M19 (a0 + 4) (va_cpy (M19.1 (a1 + 4)) (M19.1 (a0 + 4)) ((0 : Int32)).toNatClampNeg ((0 : Int32)).toNatClampNeg ((12 : Int32)).toNatClampNeg)) fun (M21 : KM) =>
  lp_X2_copyFrom_158 n a0 a1 (0 : Int32) M21
    (fun (M27 : KM) => (
      lp_X2_copyFrom_184 n a0 a1 (0 : Int32) M27
    ))
  else none
  else none
  else none
  else none
  else none
def f_X2_addPlace (n : Nat) (a0 : Nat) (p1 : Int64) (M : KM) : Option KM :=
  if (8 : Int32) ≤ (M.1 a0 8) then
    some M
  else
    if ix (M.1 a0 8) 8 then
    lt (uJ M (a0 + 1) ((M.1 a0 8)).toNatClampNeg p1) fun (M2 : KM) =>
    lt (uI M2 a0 8 ((M2.1 a0 8) + (1 : Int32))) fun (M3 : KM) =>
    some M3
    else none
def f_X2_addRoad (n : Nat) (a0 : Nat) (p1 : Int32) (p2 : Int32) (p3 : Int32) (p4 : Int32) (M : KM) : Option KM :=
  if (12 : Int32) ≤ (M.1 a0 9) then
    some M
  else
    if ix (M.1 a0 9) 12 then
    lt (uI M (a0 + 2) ((M.1 a0 9)).toNatClampNeg p1) fun (M2 : KM) =>
    if ix (M2.1 a0 9) 12 then
    lt (uI M2 (a0 + 3) ((M2.1 a0 9)).toNatClampNeg p2) fun (M4 : KM) =>
    if ix (M4.1 a0 9) 12 then
    lt (uI M4 (a0 + 4) ((M4.1 a0 9)).toNatClampNeg p3) fun (M6 : KM) =>
    if ix (M6.1 a0 9) 12 then
    lt (uI M6 (a0 + 5) ((M6.1 a0 9)).toNatClampNeg (vp_nar .boolean p4)) fun (M8 : KM) =>
    lt (uI M8 a0 9 ((M8.1 a0 9) + (1 : Int32))) fun (M9 : KM) =>
    some M9
    else none
    else none
    else none
    else none
def f_X2_addPerson (n : Nat) (a0 : Nat) (p1 : Int64) (p3 : Int32) (p4 : Int32) (p5 : Int32) (M : KM) : Option KM :=
  if (8 : Int32) ≤ (M.1 a0 10) then
    some M
  else
    if ix (M.1 a0 10) 8 then
    (f_X7_begin n ((a0 + 6) + 8 + 3 * ((M.1 a0 10)).toNatClampNeg) p1 p3 p4 p5 M).bind fun (v2 : KM) =>
    lt (uI v2 a0 10 ((v2.1 a0 10) + (1 : Int32))) fun (M3 : KM) =>
    some M3
    else none
def f_X2_hasPlace (a0 : Nat) (p1 : Int32) (M : KM) : Int32 :=
  if p1 < 0 then
    (0 : Int32)
  else
    if (M.1 a0 8) ≤ p1 then
      (0 : Int32)
    else
      (1 : Int32)
def f_X2_hasRoad (a0 : Nat) (p1 : Int32) (M : KM) : Int32 :=
  if p1 < 0 then
    (0 : Int32)
  else
    if (M.1 a0 9) ≤ p1 then
      (0 : Int32)
    else
      (1 : Int32)
def f_X2_hasPerson (a0 : Nat) (p1 : Int32) (M : KM) : Int32 :=
  if p1 < 0 then
    (0 : Int32)
  else
    if (M.1 a0 10) ≤ p1 then
      (0 : Int32)
    else
      (1 : Int32)
def lp_X2_placeNamed_2 (n : Nat) (a0 : Nat) (c1 : Int64) (M : KM) (w3 : Int32) : Option Int32 := match n with
  | 0 => none
  | n + 1 =>
    if (M.1 a0 8) ≤ w3 then
      some (-1 : Int32)
    else
      if ix w3 8 then
      if (lg_cmp (M.2.1 (a0 + 1) (w3).toNatClampNeg) c1) = 0 then
        some w3
      else
        lt (w3 + (1 : Int32)) fun (v2 : Int32) =>
        lp_X2_placeNamed_2 n a0 c1 M v2
      else none
def f_X2_placeNamed (n : Nat) (a0 : Nat) (p1 : Int64) (M : KM) : Option Int32 :=
  lp_X2_placeNamed_2 n a0 p1 M (0 : Int32)
def lp_X2_personNamed_2 (n : Nat) (a0 : Nat) (c1 : Int64) (M : KM) (w3 : Int32) : Option Int32 := match n with
  | 0 => none
  | n + 1 =>
    if (M.1 a0 10) ≤ w3 then
      some (-1 : Int32)
    else
      if ix w3 8 then
      if (lg_cmp (M.2.1 ((a0 + 6) + 8 + 3 * (w3).toNatClampNeg) 2) c1) = 0 then
        some w3
      else
        lt (w3 + (1 : Int32)) fun (v2 : Int32) =>
        lp_X2_personNamed_2 n a0 c1 M v2
      else none
def f_X2_personNamed (n : Nat) (a0 : Nat) (p1 : Int64) (M : KM) : Option Int32 :=
  lp_X2_personNamed_2 n a0 p1 M (0 : Int32)
def f_X2_otherEnd (n : Nat) (a0 : Nat) (p1 : Int32) (p2 : Int32) (M : KM) : Option Int32 :=
  if ix p1 12 then
  if (M.1 (a0 + 2) (p1).toNatClampNeg) = p2 then
    if ix p1 12 then
    some (M.1 (a0 + 3) (p1).toNatClampNeg)
    else none
  else
    if ix p1 12 then
    if (M.1 (a0 + 3) (p1).toNatClampNeg) = p2 then
      if ix p1 12 then
      some (M.1 (a0 + 2) (p1).toNatClampNeg)
      else none
    else
      some (-1 : Int32)
    else none
  else none
def lp_X2_roadBetween_2 (n : Nat) (a0 : Nat) (c1 : Int32) (c2 : Int32) (M : KM) (w3 : Int32) : Option Int32 := match n with
  | 0 => none
  | n + 1 =>
    if (M.1 a0 9) ≤ w3 then
      some (-1 : Int32)
    else
      (f_X2_otherEnd n a0 w3 c1 M).bind fun (v1 : Int32) =>
      if v1 = c2 then
        some w3
      else
        lt (w3 + (1 : Int32)) fun (v2 : Int32) =>
        lp_X2_roadBetween_2 n a0 c1 c2 M v2
def f_X2_roadBetween (n : Nat) (a0 : Nat) (p1 : Int32) (p2 : Int32) (M : KM) : Option Int32 :=
  lp_X2_roadBetween_2 n a0 p1 p2 M (0 : Int32)
def f_X2_placeOf (n : Nat) (a0 : Nat) (p1 : Int32) (M : KM) : Option Int32 :=
  lt (f_X2_hasPerson a0 p1 M) fun (v1 : Int32) =>
  if v1 = 0 then
    some (-1 : Int32)
  else
    if ix p1 8 then
    some (M.1 ((a0 + 6) + 8 + 3 * (p1).toNatClampNeg) 5)
    else none
def f_X2_isGlaring (n : Nat) (a0 : Nat) (p1 : Int32) (M : KM) : Option Int32 :=
  if (M.1 a0 15) = 0 then
    (f_X1_areGlaring n (a0 + 7) p1 M).bind fun (v1 : Int32) =>
    if v1 = 0 then
      some (0 : Int32)
    else
      some (1 : Int32)
  else
    some (0 : Int32)
def f_X2_paceOf (n : Nat) (a0 : Nat) (p1 : Int32) (p2 : Int32) (M : KM) : Option Int32 :=
  if ix p1 8 then
  lt (((a0 + 6) + 8 + 3 * (p1).toNatClampNeg)) fun (v2 : Nat) =>
  if (M.1 v2 3) = 0 then
    if ix p2 12 then
    lt ((
      some (0 : Int32)
    ) : Option Int32) fun j56 =>
    if (M.1 (a0 + 5) (p2).toNatClampNeg) = 0 then
      if ix p2 12 then
      if (M.1 (v2 + 1) (p2).toNatClampNeg) < (M.1 a0 13) then
        some (2 : Int32)
      else
        j56
      else none
    else
      j56
    else none
  else
    lt ((
      some (0 : Int32)
    ) : Option Int32) fun j28 =>
    if (M.1 v2 4) = 0 then
      if (M.1 a0 15) = 0 then
        some (1 : Int32)
      else
        j28
    else
      j28
  else none
def f_X2_isAble (n : Nat) (a0 : Nat) (p1 : Int32) (p2 : Int32) (M : KM) : Option Int32 :=
  (f_X2_paceOf n a0 p1 p2 M).bind fun (v1 : Int32) =>
  lt ((
    some (1 : Int32)
  ) : Option Int32) fun j30 =>
  if v1 = 0 then
    j30
  else
    if v1 = (1 : Int32) then
      (f_X1_areGlaring n (a0 + 7) (M.1 a0 11) M).bind fun (v2 : Int32) =>
      if v2 = 0 then
        j30
      else
        some (0 : Int32)
    else
      some (0 : Int32)
def f_X2_arrivalBy (n : Nat) (a0 : Nat) (p1 : Int32) (p2 : Int32) (p3 : Int32) (M : KM) : Option Int32 :=
  (f_X2_paceOf n a0 p1 p2 M).bind fun (v1 : Int32) =>
  if ix p2 12 then
  (f_X1_doneAt n (a0 + 7) v1 p3 (M.1 (a0 + 4) (p2).toNatClampNeg) M).bind fun (v3 : Int32) =>
  some v3
  else none
def f_X2_isTeam (a0 : Nat) (p1 : Int32) (p2 : Int32) (M : KM) : Int32 :=
  if p2 ≤ 0 then
    (0 : Int32)
  else
    if ((1 : Int32) <<< ((M.1 a0 10) &&& 31)) ≤ p2 then
      (0 : Int32)
    else
      if (p2 &&& ((1 : Int32) <<< (p1 &&& 31))) = 0 then
        lt (f_J6_bitCount_0f7a4 p2 M) fun (v1 : Int32) =>
        if (M.1 a0 12) < v1 then
          (0 : Int32)
        else
          (1 : Int32)
      else
        (0 : Int32)
def lp_X2_areAllAt_2 (n : Nat) (a0 : Nat) (c1 : Int32) (c2 : Int32) (M : KM) (w3 : Int32) : Option Int32 := match n with
  | 0 => none
  | n + 1 =>
    if (M.1 a0 10) ≤ w3 then
      some (1 : Int32)
    else
      lt ((
        lt (w3 + (1 : Int32)) fun (v1 : Int32) =>
        lp_X2_areAllAt_2 n a0 c1 c2 M v1
      ) : Option Int32) fun j33 =>
      if (c1 &&& ((1 : Int32) <<< (w3 &&& 31))) = 0 then
        j33
      else
        if ix w3 8 then
        if (M.1 ((a0 + 6) + 8 + 3 * (w3).toNatClampNeg) 5) = c2 then
          j33
        else
          some (0 : Int32)
        else none
def f_X2_areAllAt (n : Nat) (a0 : Nat) (p1 : Int32) (p2 : Int32) (M : KM) : Option Int32 :=
  lp_X2_areAllAt_2 n a0 p1 p2 M (0 : Int32)
def lp_X2_setOut_63 (n : Nat) (a0 : Nat) (c1 : Int32) (c2 : Int32) (c3 : Int32) (c5 : Int32) (w6 : Int32) (M : KM) (k108 : KM → Option (Int32 × KM)) : Option (Int32 × KM) := match n with
  | 0 => none
  | n + 1 =>
    if (M.1 a0 10) ≤ w6 then
      k108 M
    else
      lt (fun (M7 : KM) => (
        lt (w6 + (1 : Int32)) fun (v8 : Int32) =>
        lp_X2_setOut_63 n a0 c1 c2 c3 c5 v8 M7 k108
      ) : KM → Option (Int32 × KM)) fun j102 =>
      if (c2 &&& ((1 : Int32) <<< (w6 &&& 31))) = 0 then
        j102 M
      else
        if ix w6 8 then
        if ix c5 12 then
        lt (f_X7_leaveBy ((a0 + 6) + 8 + 3 * (w6).toNatClampNeg) c5 c3 c1 (M.1 (a0 + 4) (c5).toNatClampNeg) M) fun (v11 : KM) =>
        j102 v11
        else none
        else none
def f_X2_setOut (n : Nat) (a0 : Nat) (p1 : Int32) (p2 : Int32) (p3 : Int32) (M : KM) : Option (Int32 × KM) :=
  (f_X2_placeOf n a0 p1 M).bind fun (v1 : Int32) =>
  lt (f_X2_hasPlace a0 v1 M) fun (v2 : Int32) =>
  lt (fun (x3 : Int32) => (
    lt (f_X2_hasRoad a0 x3 M) fun (v4 : Int32) =>
    if v4 = 0 then
      some ((-1 : Int32), M)
    else
      (f_X2_isAble n a0 p1 x3 M).bind fun (v5 : Int32) =>
      if v5 = 0 then
        some ((-1 : Int32), M)
      else
        (f_X2_areAllAt n a0 p2 v1 M).bind fun (v6 : Int32) =>
        if v6 = 0 then
          some ((-1 : Int32), M)
        else
          lp_X2_setOut_63 n a0 p1 p2 p3 x3 (0 : Int32) M
            (fun (M14 : KM) => (
              if ix p1 8 then
              if ix x3 12 then
              lt (f_X7_leaveBy ((a0 + 6) + 8 + 3 * (p1).toNatClampNeg) x3 p3 (-1 : Int32) (M14.1 (a0 + 4) (x3).toNatClampNeg) M14) fun (v17 : KM) =>
              if ix x3 12 then
              some ((v17.1 (a0 + 4) (x3).toNatClampNeg), v17)
              else none
              else none
              else none
            ))
  ) : Int32 → Option (Int32 × KM)) fun j27 =>
  if v2 = 0 then
    j27 (-1 : Int32)
  else
    (f_X2_roadBetween n a0 v1 p3 M).bind fun (v22 : Int32) =>
    j27 v22
def f_X2_isWith (n : Nat) (a0 : Nat) (p1 : Int32) (p2 : Int32) (M : KM) : Option Int32 :=
  lt ((
    some (1 : Int32)
  ) : Option Int32) fun j18 =>
  if p1 = p2 then
    j18
  else
    if ix p1 8 then
    if (M.1 ((a0 + 6) + 8 + 3 * (p1).toNatClampNeg) 9) = p2 then
      j18
    else
      some (0 : Int32)
    else none
def f_X2_leftOf (n : Nat) (a0 : Nat) (p1 : Int32) (M : KM) : Option Int32 :=
  if ix p1 8 then
  lt ((M.1 ((a0 + 6) + 8 + 3 * (p1).toNatClampNeg) 9)) fun (v2 : Int32) =>
  lt (f_X2_hasPerson a0 v2 M) fun (v3 : Int32) =>
  if v3 = 0 then
    if ix p1 8 then
    some (M.1 ((a0 + 6) + 8 + 3 * (p1).toNatClampNeg) 10)
    else none
  else
    if ix v2 8 then
    some (M.1 ((a0 + 6) + 8 + 3 * (v2).toNatClampNeg) 10)
    else none
  else none
def f_X2_minutesToGoal (n : Nat) (a0 : Nat) (p1 : Int32) (M : KM) : Option Int32 :=
  if ix p1 8 then
  lt ((M.1 ((a0 + 6) + 8 + 3 * (p1).toNatClampNeg) 9)) fun (v2 : Int32) =>
  lt (f_X2_hasPerson a0 v2 M) fun (v3 : Int32) =>
  lt (fun (x4 : Int32) => (
    if ix x4 8 then
    lt ((M.1 ((a0 + 6) + 8 + 3 * (x4).toNatClampNeg) 6)) fun (v6 : Int32) =>
    lt (f_X2_hasRoad a0 v6 M) fun (v7 : Int32) =>
    if v7 = 0 then
      some (1000000000 : Int32)
    else
      (f_X2_paceOf n a0 x4 v6 M).bind fun (v8 : Int32) =>
      if ix x4 8 then
      (f_X1_doneAt n (a0 + 7) v8 (M.1 a0 11) (M.1 ((a0 + 6) + 8 + 3 * (x4).toNatClampNeg) 10) M).bind fun (v10 : Int32) =>
      if v10 < (1000000000 : Int32) then
        some (v10 - (M.1 a0 11))
      else
        some (1000000000 : Int32)
      else none
    else none
  ) : Int32 → Option Int32) fun j23 =>
  if v3 = 0 then
    j23 p1
  else
    j23 v2
  else none
def f_X2_lostOf (n : Nat) (a0 : Nat) (p1 : Int32) (p2 : Int32) (a3 : Nat) (M : KM) : Option Int32 :=
  if ix p1 8 then
  lt ((M.1 ((a0 + 6) + 8 + 3 * (p1).toNatClampNeg) 6)) fun (v2 : Int32) =>
  lt (f_X2_hasRoad a0 v2 M) fun (v3 : Int32) =>
  if v3 = 0 then
    some (0 : Int32)
  else
    (f_X2_paceOf n a0 p1 v2 M).bind fun (v4 : Int32) =>
    if ix p1 8 then
    lt ((M.1 ((a0 + 6) + 8 + 3 * (p1).toNatClampNeg) 10)) fun (v6 : Int32) =>
    (f_X1_doneAt n a3 v4 (M.1 a0 11) v6 M).bind fun (v7 : Int32) =>
    lt ((v7 - (M.1 a0 11))) fun (v8 : Int32) =>
    if p2 < v8 then
      (f_X1_movedIn n a3 v4 (M.1 a0 11) p2 M).bind fun (v9 : Int32) =>
      some (p2 - v9)
    else
      some (v8 - v6)
    else none
  else none
def f_X2_addDebt (n : Nat) (a0 : Nat) (p1 : Int32) (p2 : Int32) (p3 : Int32) (M : KM) : Option KM :=
  if ix p1 8 then
  if ix p2 8 then
  lt ((if ((M.1 (((a0 + 6) + 8 + 3 * (p1).toNatClampNeg) + 2) (p2).toNatClampNeg) + p3) < (9999 : Int32) then ((M.1 (((a0 + 6) + 8 + 3 * (p1).toNatClampNeg) + 2) (p2).toNatClampNeg) + p3) else (9999 : Int32))) fun (v3 : Int32) =>
  if ix p1 8 then
  if ix p2 8 then
  lt (uI M (((a0 + 6) + 8 + 3 * (p1).toNatClampNeg) + 2) (p2).toNatClampNeg v3) fun (M6 : KM) =>
  if ix p2 8 then
  if ix p1 8 then
  lt (uI M6 (((a0 + 6) + 8 + 3 * (p2).toNatClampNeg) + 2) (p1).toNatClampNeg (-v3)) fun (M9 : KM) =>
  some M9
  else none
  else none
  else none
  else none
  else none
  else none
def lp_X2_arrive_15 (n : Nat) (a0 : Nat) (c1 : Int32) (c3 : Int32) (w2 : Int32) (w4 : Int32) (M : KM) : Option (Int32 × KM) := match n with
  | 0 => none
  | n + 1 =>
    if (M.1 a0 10) ≤ w4 then
      some (w2, M)
    else
      lt (f_X2_hasRoad a0 c3 M) fun (v3 : Int32) =>
      if v3 = 0 then
        some (w2, M)
      else
        (f_X2_isWith n a0 w4 c1 M).bind fun (v4 : Int32) =>
        lt (fun (x5 : Int32) (M6 : KM) => (
          lt (w4 + (1 : Int32)) fun (v7 : Int32) =>
          lp_X2_arrive_15 n a0 c1 c3 x5 v7 M6
        ) : Int32 → KM → Option (Int32 × KM)) fun j119 =>
        if v4 = 0 then
          j119 w2 M
        else
          if ix w4 8 then
          if ix w4 8 then
          if ix c3 12 then
          lt ((if ((M.1 (((a0 + 6) + 8 + 3 * (w4).toNatClampNeg) + 1) (c3).toNatClampNeg) + (1 : Int32)) < (99 : Int32) then ((M.1 (((a0 + 6) + 8 + 3 * (w4).toNatClampNeg) + 1) (c3).toNatClampNeg) + (1 : Int32)) else (99 : Int32))) fun (v11 : Int32) =>
          if ix c3 12 then
          lt (uI M (((a0 + 6) + 8 + 3 * (w4).toNatClampNeg) + 1) (c3).toNatClampNeg v11) fun (M13 : KM) =>
          lt (fun (M14 : KM) => (
            if ix w4 8 then
            if ix w4 8 then
            lt (f_X7_stayAt ((a0 + 6) + 8 + 3 * (w4).toNatClampNeg) (M14.1 ((a0 + 6) + 8 + 3 * (w4).toNatClampNeg) 8) M14) fun (v17 : KM) =>
            lt ((w2 ||| ((1 : Int32) <<< (w4 &&& 31)))) fun (v18 : Int32) =>
            j119 v18 v17
            else none
            else none
          ) : KM → Option (Int32 × KM)) fun j92 =>
          if w4 = c1 then
            j92 M13
          else
            if ix c3 12 then
            (f_X2_addDebt n a0 w4 c1 (M13.1 (a0 + 4) (c3).toNatClampNeg) M13).bind fun (v20 : KM) =>
            j92 v20
            else none
          else none
          else none
          else none
          else none
def f_X2_arrive (n : Nat) (a0 : Nat) (p1 : Int32) (M : KM) : Option (Int32 × KM) :=
  if ix p1 8 then
  lt ((M.1 ((a0 + 6) + 8 + 3 * (p1).toNatClampNeg) 6)) fun (v2 : Int32) =>
  lp_X2_arrive_15 n a0 p1 v2 (0 : Int32) (0 : Int32) M
  else none
def lp_X2_passWalker_14 (n : Nat) (a0 : Nat) (c1 : Int32) (c2 : Int32) (c3 : Int32) (w4 : Int32) (M : KM) (k55 : KM → Option (Int32 × KM)) : Option (Int32 × KM) := match n with
  | 0 => none
  | n + 1 =>
    if (M.1 a0 10) ≤ w4 then
      k55 M
    else
      (f_X2_isWith n a0 w4 c1 M).bind fun (v2 : Int32) =>
      lt (fun (M3 : KM) => (
        lt (w4 + (1 : Int32)) fun (v4 : Int32) =>
        lp_X2_passWalker_14 n a0 c1 c2 c3 v4 M3 k55
      ) : KM → Option (Int32 × KM)) fun j49 =>
      if v2 = 0 then
        j49 M
      else
        if ix w4 8 then
        lt (uI M ((a0 + 6) + 8 + 3 * (w4).toNatClampNeg) 11 ((M.1 ((a0 + 6) + 8 + 3 * (w4).toNatClampNeg) 11) + c3)) fun (M6 : KM) =>
        j49 M6
        else none
def f_X2_passWalker (n : Nat) (a0 : Nat) (p1 : Int32) (p2 : Int32) (M : KM) : Option (Int32 × KM) :=
  (f_X2_lostOf n a0 p1 p2 (a0 + 7) M).bind fun (v1 : Int32) =>
  lp_X2_passWalker_14 n a0 p1 p2 v1 (0 : Int32) M
    (fun (M9 : KM) => (
      (f_X2_minutesToGoal n a0 p1 M9).bind fun (v10 : Int32) =>
      if p2 < v10 then
        if ix p1 8 then
        lt (uI M9 ((a0 + 6) + 8 + 3 * (p1).toNatClampNeg) 10 ((M9.1 ((a0 + 6) + 8 + 3 * (p1).toNatClampNeg) 10) - (p2 - v1))) fun (M12 : KM) =>
        some ((0 : Int32), M12)
        else none
      else
        (f_X2_arrive n a0 p1 M9).bind fun (v13 : (Int32 × KM)) =>
        some (v13.1, v13.2)
    ))
def lp_X2_passMinutes_17 (n : Nat) (a0 : Nat) (c1 : Int32) (w2 : Int32) (w3 : Int32) (M : KM) (k52 : Int32 → KM → Option (Int32 × KM)) : Option (Int32 × KM) := match n with
  | 0 => none
  | n + 1 =>
    if (M.1 a0 10) ≤ w3 then
      k52 w2 M
    else
      if ix w3 8 then
      lt (f_X7_isWalker ((a0 + 6) + 8 + 3 * (w3).toNatClampNeg) M) fun (v2 : Int32) =>
      lt (fun (x3 : Int32) (M4 : KM) => (
        lt (w3 + (1 : Int32)) fun (v5 : Int32) =>
        lp_X2_passMinutes_17 n a0 c1 x3 v5 M4 k52
      ) : Int32 → KM → Option (Int32 × KM)) fun j46 =>
      if v2 = 0 then
        j46 w2 M
      else
        (f_X2_passWalker n a0 w3 c1 M).bind fun (v6 : (Int32 × KM)) =>
        lt ((w2 ||| v6.1)) fun (v7 : Int32) =>
        j46 v7 v6.2
      else none
def f_X2_passMinutes (n : Nat) (a0 : Nat) (p1 : Int32) (M : KM) : Option (Int32 × KM) :=
  if ((M.1 a0 11) + p1) ≤ (99999 : Int32) then
    lp_X2_passMinutes_17 n a0 p1 (0 : Int32) (0 : Int32) M
      (fun (u10 : Int32) (M11 : KM) => (
        lt (uI M11 a0 11 ((M11.1 a0 11) + p1)) fun (M12 : KM) =>
        some (u10, M12)
      ))
  else
    some ((-1 : Int32), M)
def lp_X2_lostWithin_5 (n : Nat) (a0 : Nat) (c1 : Int32) (a2 : Nat) (M : KM) (w3 : Int32) (w4 : Int32) : Option Int32 := match n with
  | 0 => none
  | n + 1 =>
    if (M.1 a0 10) ≤ w4 then
      some w3
    else
      if ix w4 8 then
      lt ((M.1 ((a0 + 6) + 8 + 3 * (w4).toNatClampNeg) 9)) fun (v2 : Int32) =>
      lt (f_X2_hasPerson a0 v2 M) fun (v3 : Int32) =>
      lt (fun (x4 : Int32) => (
        (f_X2_lostOf n a0 x4 c1 a2 M).bind fun (v5 : Int32) =>
        lt ((w3 + v5)) fun (v6 : Int32) =>
        lt (w4 + (1 : Int32)) fun (v7 : Int32) =>
        lp_X2_lostWithin_5 n a0 c1 a2 M v6 v7
      ) : Int32 → Option Int32) fun j44 =>
      if v3 = 0 then
        j44 w4
      else
        j44 v2
      else none
def f_X2_lostWithin (n : Nat) (a0 : Nat) (p1 : Int32) (a2 : Nat) (M : KM) : Option Int32 :=
  lp_X2_lostWithin_5 n a0 p1 a2 M (0 : Int32) (0 : Int32)
def lp_X2_lostOfAll_4 (n : Nat) (a0 : Nat) (M : KM) (w1 : Int32) (w2 : Int32) : Option Int32 := match n with
  | 0 => none
  | n + 1 =>
    if (M.1 a0 10) ≤ w2 then
      some w1
    else
      if ix w2 8 then
      lt ((w1 + (M.1 ((a0 + 6) + 8 + 3 * (w2).toNatClampNeg) 11))) fun (v2 : Int32) =>
      lt (w2 + (1 : Int32)) fun (v3 : Int32) =>
      lp_X2_lostOfAll_4 n a0 M v2 v3
      else none
def f_X2_lostOfAll (n : Nat) (a0 : Nat) (M : KM) : Option Int32 :=
  lp_X2_lostOfAll_4 n a0 M (0 : Int32) (0 : Int32)
def lp_X2_owedTo_4 (n : Nat) (a0 : Nat) (c1 : Int32) (M : KM) (w2 : Int32) (w3 : Int32) : Option Int32 := match n with
  | 0 => none
  | n + 1 =>
    if (M.1 a0 10) ≤ w3 then
      some w2
    else
      if ix w3 8 then
      if ix c1 8 then
      lt ((w2 + (M.1 (((a0 + 6) + 8 + 3 * (w3).toNatClampNeg) + 2) (c1).toNatClampNeg))) fun (v3 : Int32) =>
      lt (w3 + (1 : Int32)) fun (v4 : Int32) =>
      lp_X2_owedTo_4 n a0 c1 M v3 v4
      else none
      else none
def f_X2_owedTo (n : Nat) (a0 : Nat) (p1 : Int32) (M : KM) : Option Int32 :=
  lp_X2_owedTo_4 n a0 p1 M (0 : Int32) (0 : Int32)
def lp_X2_blindSet_4 (n : Nat) (a0 : Nat) (M : KM) (w1 : Int32) (w2 : Int32) : Option Int32 := match n with
  | 0 => none
  | n + 1 =>
    if (M.1 a0 10) ≤ w2 then
      some w1
    else
      if ix w2 8 then
      lt (fun (x2 : Int32) => (
        lt ((w1 ||| x2)) fun (v3 : Int32) =>
        lt (w2 + (1 : Int32)) fun (v4 : Int32) =>
        lp_X2_blindSet_4 n a0 M v3 v4
      ) : Int32 → Option Int32) fun j32 =>
      if (M.1 ((a0 + 6) + 8 + 3 * (w2).toNatClampNeg) 3) = 0 then
        j32 ((1 : Int32) <<< (w2 &&& 31))
      else
        j32 (0 : Int32)
      else none
def f_X2_blindSet (n : Nat) (a0 : Nat) (M : KM) : Option Int32 :=
  lp_X2_blindSet_4 n a0 M (0 : Int32) (0 : Int32)
def lp_X2_walkingSet_4 (n : Nat) (a0 : Nat) (M : KM) (w1 : Int32) (w2 : Int32) : Option Int32 := match n with
  | 0 => none
  | n + 1 =>
    if (M.1 a0 10) ≤ w2 then
      some w1
    else
      if ix w2 8 then
      lt (f_X7_isAtPlace ((a0 + 6) + 8 + 3 * (w2).toNatClampNeg) M) fun (v2 : Int32) =>
      lt (fun (x3 : Int32) => (
        lt ((w1 ||| x3)) fun (v4 : Int32) =>
        lt (w2 + (1 : Int32)) fun (v5 : Int32) =>
        lp_X2_walkingSet_4 n a0 M v4 v5
      ) : Int32 → Option Int32) fun j32 =>
      if v2 = 0 then
        j32 ((1 : Int32) <<< (w2 &&& 31))
      else
        j32 (0 : Int32)
      else none
def f_X2_walkingSet (n : Nat) (a0 : Nat) (M : KM) : Option Int32 :=
  lp_X2_walkingSet_4 n a0 M (0 : Int32) (0 : Int32)
def lp_X2_ledSet_4 (n : Nat) (a0 : Nat) (M : KM) (w1 : Int32) (w2 : Int32) : Option Int32 := match n with
  | 0 => none
  | n + 1 =>
    if (M.1 a0 10) ≤ w2 then
      some w1
    else
      if ix w2 8 then
      lt (fun (x2 : Int32) => (
        lt ((w1 ||| x2)) fun (v3 : Int32) =>
        lt (w2 + (1 : Int32)) fun (v4 : Int32) =>
        lp_X2_ledSet_4 n a0 M v3 v4
      ) : Int32 → Option Int32) fun j33 =>
      if (M.1 ((a0 + 6) + 8 + 3 * (w2).toNatClampNeg) 9) = (-1 : Int32) then
        j33 (0 : Int32)
      else
        j33 ((1 : Int32) <<< (w2 &&& 31))
      else none
def f_X2_ledSet (n : Nat) (a0 : Nat) (M : KM) : Option Int32 :=
  lp_X2_ledSet_4 n a0 M (0 : Int32) (0 : Int32)
def lp_X2_canLeave_2 (n : Nat) (a0 : Nat) (c1 : Int32) (M : KM) (w2 : Int32) : Option Int32 := match n with
  | 0 => none
  | n + 1 =>
    if (M.1 a0 9) ≤ w2 then
      some (0 : Int32)
    else
      if ix c1 8 then
      (f_X2_otherEnd n a0 w2 (M.1 ((a0 + 6) + 8 + 3 * (c1).toNatClampNeg) 5) M).bind fun (v2 : Int32) =>
      lt ((
        lt (w2 + (1 : Int32)) fun (v3 : Int32) =>
        lp_X2_canLeave_2 n a0 c1 M v3
      ) : Option Int32) fun j39 =>
      if v2 = (-1 : Int32) then
        j39
      else
        (f_X2_isAble n a0 c1 w2 M).bind fun (v4 : Int32) =>
        if v4 = 0 then
          j39
        else
          some (1 : Int32)
      else none
def f_X2_canLeave (n : Nat) (a0 : Nat) (p1 : Int32) (M : KM) : Option Int32 :=
  lp_X2_canLeave_2 n a0 p1 M (0 : Int32)
def lp_X2_stuckSet_4 (n : Nat) (a0 : Nat) (M : KM) (w1 : Int32) (w2 : Int32) : Option Int32 := match n with
  | 0 => none
  | n + 1 =>
    if (M.1 a0 10) ≤ w2 then
      some w1
    else
      if ix w2 8 then
      lt (f_X7_isAtPlace ((a0 + 6) + 8 + 3 * (w2).toNatClampNeg) M) fun (v2 : Int32) =>
      lt (fun (x3 : Int32) => (
        lt (w2 + (1 : Int32)) fun (v4 : Int32) =>
        lp_X2_stuckSet_4 n a0 M x3 v4
      ) : Int32 → Option Int32) fun j38 =>
      if v2 = 0 then
        j38 w1
      else
        (f_X2_canLeave n a0 w2 M).bind fun (v5 : Int32) =>
        if v5 = 0 then
          lt ((w1 ||| ((1 : Int32) <<< (w2 &&& 31)))) fun (v6 : Int32) =>
          j38 v6
        else
          j38 w1
      else none
def f_X2_stuckSet (n : Nat) (a0 : Nat) (M : KM) : Option Int32 :=
  lp_X2_stuckSet_4 n a0 M (0 : Int32) (0 : Int32)
def lp_X2_reachSet_39 (n : Nat) (a0 : Nat) (c1 : Int32) (c3 : Int32) (M : KM) (w2 : Int32) (w4 : Int32) (k97 : Int32 → Option Int32) : Option Int32 := match n with
  | 0 => none
  | n + 1 =>
    if (M.1 a0 9) ≤ w4 then
      k97 w2
    else
      if ix w4 12 then
      if ix w4 12 then
      lt ((((1 : Int32) <<< ((M.1 (a0 + 2) (w4).toNatClampNeg) &&& 31)) ||| ((1 : Int32) <<< ((M.1 (a0 + 3) (w4).toNatClampNeg) &&& 31)))) fun (v7 : Int32) =>
      lt (fun (x8 : Int32) => (
        lt (w4 + (1 : Int32)) fun (v9 : Int32) =>
        lp_X2_reachSet_39 n a0 c1 c3 M x8 v9 k97
      ) : Int32 → Option Int32) fun j91 =>
      if (w2 &&& v7) = 0 then
        j91 w2
      else
        (f_X2_isAble n a0 c1 w4 M).bind fun (v10 : Int32) =>
        if v10 = 0 then
          j91 w2
        else
          lt ((w2 ||| v7)) fun (v11 : Int32) =>
          j91 v11
      else none
      else none
def lp_X2_reachSet_28 (n : Nat) (a0 : Nat) (c1 : Int32) (M : KM) (w2 : Int32) (w3 : Int32) : Option Int32 := match n with
  | 0 => none
  | n + 1 =>
    if (M.1 a0 8) ≤ w3 then
      some w2
    else
      lp_X2_reachSet_39 n a0 c1 w3 M w2 (0 : Int32)
        (fun (u15 : Int32) => (
          lt (w3 + (1 : Int32)) fun (v16 : Int32) =>
          lp_X2_reachSet_28 n a0 c1 M u15 v16
        ))
def f_X2_reachSet (n : Nat) (a0 : Nat) (p1 : Int32) (M : KM) : Option Int32 :=
  if ix p1 8 then
  lt (f_X7_isAtPlace ((a0 + 6) + 8 + 3 * (p1).toNatClampNeg) M) fun (v2 : Int32) =>
  if v2 = 0 then
    some (0 : Int32)
  else
    if ix p1 8 then
    lt (((1 : Int32) <<< ((M.1 ((a0 + 6) + 8 + 3 * (p1).toNatClampNeg) 5) &&& 31))) fun (v4 : Int32) =>
    lp_X2_reachSet_28 n a0 p1 M v4 (1 : Int32)
    else none
  else none
def lp_X6_startAt_3 (n : Nat) (a0 : Nat) (a1 : Nat) (c2 : Int32) (c3 : Int32) (w4 : Int32) (M : KM) (k25 : KM → Option KM) : Option KM := match n with
  | 0 => none
  | n + 1 =>
    if (8 : Int32) ≤ w4 then
      k25 M
    else
      if ix w4 8 then
      lt (uI M (a0 + 1) (w4).toNatClampNeg (1000000000 : Int32)) fun (M2 : KM) =>
      lt (w4 + (1 : Int32)) fun (v3 : Int32) =>
      lp_X6_startAt_3 n a0 a1 c2 c3 v3 M2 k25
      else none
def f_X6_startAt (n : Nat) (a0 : Nat) (a1 : Nat) (p2 : Int32) (p3 : Int32) (M : KM) : Option KM :=
  lp_X6_startAt_3 n a0 a1 p2 p3 (0 : Int32) M
    (fun (M5 : KM) => (
      lt (f_X2_hasPlace a1 p2 M5) fun (v6 : Int32) =>
      if v6 = 0 then
        some M5
      else
        if ix p2 8 then
        lt (uI M5 (a0 + 1) (p2).toNatClampNeg p3) fun (M8 : KM) =>
        some M8
        else none
    ))
def f_X6_arrival (n : Nat) (a0 : Nat) (p1 : Int32) (p2 : Int32) (p3 : Int32) (p4 : Int32) (M : KM) : Option Int32 :=
  (f_X2_arrivalBy n a0 p1 p3 p4 M).bind fun (v1 : Int32) =>
  if p2 = (-1 : Int32) then
    some v1
  else
    (f_X2_arrivalBy n a0 p2 p3 p4 M).bind fun (v2 : Int32) =>
    lt ((if v2 < v1 then v2 else v1)) fun (v3 : Int32) =>
    some v3
def lp_X6_findTimes_24 (n : Nat) (a0 : Nat) (a1 : Nat) (c2 : Int32) (c3 : Int32) (c6 : Int32) (w7 : Int32) (M : KM) (k121 : KM → Option KM) : Option KM := match n with
  | 0 => none
  | n + 1 =>
    if (M.1 a1 9) ≤ w7 then
      k121 M
    else
      if ix w7 12 then
      lt ((M.1 (a1 + 2) (w7).toNatClampNeg)) fun (v3 : Int32) =>
      if ix w7 12 then
      lt ((M.1 (a1 + 3) (w7).toNatClampNeg)) fun (v5 : Int32) =>
      if ix v5 8 then
      if ix v3 8 then
      (f_X6_arrival n a1 c2 c3 w7 (M.1 (a0 + 1) (v3).toNatClampNeg) M).bind fun (v8 : Int32) =>
      lt ((if v8 < (M.1 (a0 + 1) (v5).toNatClampNeg) then v8 else (M.1 (a0 + 1) (v5).toNatClampNeg))) fun (v9 : Int32) =>
      if ix v5 8 then
      lt (uI M (a0 + 1) (v5).toNatClampNeg v9) fun (M11 : KM) =>
      if ix v3 8 then
      if ix v5 8 then
      (f_X6_arrival n a1 c2 c3 w7 (M11.1 (a0 + 1) (v5).toNatClampNeg) M11).bind fun (v14 : Int32) =>
      lt ((if v14 < (M11.1 (a0 + 1) (v3).toNatClampNeg) then v14 else (M11.1 (a0 + 1) (v3).toNatClampNeg))) fun (v15 : Int32) =>
      if ix v3 8 then
      lt (uI M11 (a0 + 1) (v3).toNatClampNeg v15) fun (M17 : KM) =>
      lt (w7 + (1 : Int32)) fun (v18 : Int32) =>
      lp_X6_findTimes_24 n a0 a1 c2 c3 c6 v18 M17 k121
      else none
      else none
      else none
      else none
      else none
      else none
      else none
      else none
def lp_X6_findTimes_12 (n : Nat) (a0 : Nat) (a1 : Nat) (c2 : Int32) (c3 : Int32) (w6 : Int32) (M : KM) : Option KM := match n with
  | 0 => none
  | n + 1 =>
    if (M.1 a1 8) ≤ w6 then
      some M
    else
      lp_X6_findTimes_24 n a0 a1 c2 c3 w6 (0 : Int32) M
        (fun (M20 : KM) => (
          lt (w6 + (1 : Int32)) fun (v21 : Int32) =>
          lp_X6_findTimes_12 n a0 a1 c2 c3 v21 M20
        ))
def f_X6_findTimes (n : Nat) (a0 : Nat) (a1 : Nat) (p2 : Int32) (p3 : Int32) (p4 : Int32) (p5 : Int32) (M : KM) : Option KM :=
  (f_X6_startAt n a0 a1 p4 p5 M).bind fun (v1 : KM) =>
  lp_X6_findTimes_12 n a0 a1 p2 p3 (1 : Int32) v1
def f_X6_minutesFrom (p0 : Int32) (p1 : Int32) (M : KM) : Int32 :=
  if p0 < (1000000000 : Int32) then
    (p0 - p1)
  else
    (1000000000 : Int32)
def f_X6_minutesTo (n : Nat) (a0 : Nat) (a1 : Nat) (p2 : Int32) (p3 : Int32) (p4 : Int32) (M : KM) : Option (Int32 × KM) :=
  if ix p2 8 then
  lt ((M.1 ((a1 + 6) + 8 + 3 * (p2).toNatClampNeg) 5)) fun (v2 : Int32) =>
  (f_X6_findTimes n a0 a1 p2 p3 v2 (M.1 a1 11) M).bind fun (v3 : KM) =>
  if ix p4 8 then
  lt (f_X6_minutesFrom (v3.1 (a0 + 1) (p4).toNatClampNeg) (v3.1 a1 11) v3) fun (v5 : Int32) =>
  some (v5, v3)
  else none
  else none
def lp_X6_firstPlaceTo_24 (n : Nat) (a0 : Nat) (a1 : Nat) (c2 : Int32) (c3 : Int32) (c4 : Int32) (c5 : Int32) (w6 : Int32) (M : KM) : Option (Int32 × KM) := match n with
  | 0 => none
  | n + 1 =>
    if (M.1 a1 8) ≤ w6 then
      some ((-1 : Int32), M)
    else
      if (1000000000 : Int32) ≤ c5 then
        some ((-1 : Int32), M)
      else
        (f_X2_roadBetween n a1 c4 w6 M).bind fun (v4 : Int32) =>
        lt (fun (M5 : KM) => (
          lt (w6 + (1 : Int32)) fun (v6 : Int32) =>
          lp_X6_firstPlaceTo_24 n a0 a1 c2 c3 c4 c5 v6 M5
        ) : KM → Option (Int32 × KM)) fun j97 =>
        if v4 = (-1 : Int32) then
          j97 M
        else
          (f_X2_arrivalBy n a1 c2 v4 (M.1 a1 11) M).bind fun (v7 : Int32) =>
          (f_X6_findTimes n a0 a1 c2 (-1 : Int32) w6 v7 M).bind fun (v8 : KM) =>
          if ix c3 8 then
          lt (f_X6_minutesFrom (v8.1 (a0 + 1) (c3).toNatClampNeg) (v8.1 a1 11) v8) fun (v10 : Int32) =>
          if v10 = c5 then
            some (w6, v8)
          else
            j97 v8
          else none
def f_X6_firstPlaceTo (n : Nat) (a0 : Nat) (a1 : Nat) (p2 : Int32) (p3 : Int32) (M : KM) : Option (Int32 × KM) :=
  if ix p2 8 then
  lt ((M.1 ((a1 + 6) + 8 + 3 * (p2).toNatClampNeg) 5)) fun (v2 : Int32) =>
  (f_X6_minutesTo n a0 a1 p2 (-1 : Int32) p3 M).bind fun (v3 : (Int32 × KM)) =>
  lp_X6_firstPlaceTo_24 n a0 a1 p2 p3 v2 v3.1 (0 : Int32) v3.2
  else none
def lp_X6_findMeeting_69 (n : Nat) (a0 : Nat) (a1 : Nat) (w4 : Int32) (M : KM) : Option KM := match n with
  | 0 => none
  | n + 1 =>
    if (M.1 a1 8) ≤ w4 then
      some M
    else
      if ix w4 8 then
      if ix w4 8 then
      lt ((if (M.1 (a0 + 1) (w4).toNatClampNeg) < (M.1 (a0 + 2) (w4).toNatClampNeg) then (M.1 (a0 + 2) (w4).toNatClampNeg) else (M.1 (a0 + 1) (w4).toNatClampNeg))) fun (v11 : Int32) =>
      lt (f_X6_minutesFrom v11 (M.1 a1 11) M) fun (v12 : Int32) =>
      lt (fun (M13 : KM) => (
        lt (w4 + (1 : Int32)) fun (v14 : Int32) =>
        lp_X6_findMeeting_69 n a0 a1 v14 M13
      ) : KM → Option KM) fun j125 =>
      if (M.1 a0 5) ≤ v12 then
        j125 M
      else
        lt (uI M a0 5 v12) fun (M15 : KM) =>
        lt (uI M15 a0 4 w4) fun (M16 : KM) =>
        j125 M16
      else none
      else none
def f_X6_findMeeting (n : Nat) (a0 : Nat) (a1 : Nat) (p2 : Int32) (p3 : Int32) (M : KM) : Option KM :=
  if ix p3 8 then
  (f_X6_findTimes n a0 a1 p3 (-1 : Int32) (M.1 ((a1 + 6) + 8 + 3 * (p3).toNatClampNeg) 5) (M.1 a1 11) M).bind fun (v2 : KM) =>
  if ¬ (0 : Int32) < 0 ∧ ¬ (0 : Int32) < 0 ∧ ¬ (8 : Int32) < 0 ∧ ((0 : Int32)).toNatClampNeg + ((8 : Int32)).toNatClampNeg ≤ 8 ∧ ((0 : Int32)).toNatClampNeg + ((8 : Int32)).toNatClampNeg ≤ 8 then
  lt (uIs v2 (a0 + 2) (va_cpy (v2.1 (a0 + 1)) (v2.1 (a0 + 2)) ((0 : Int32)).toNatClampNeg ((0 : Int32)).toNatClampNeg ((8 : Int32)).toNatClampNeg)) fun (M4 : KM) =>
  if ix p2 8 then
  (f_X6_findTimes n a0 a1 p2 (-1 : Int32) (M4.1 ((a1 + 6) + 8 + 3 * (p2).toNatClampNeg) 5) (M4.1 a1 11) M4).bind fun (v6 : KM) =>
  lt (uI v6 a0 4 (-1 : Int32)) fun (M7 : KM) =>
  lt (uI M7 a0 5 (1000000000 : Int32)) fun (M8 : KM) =>
  lp_X6_findMeeting_69 n a0 a1 (0 : Int32) M8
  else none
  else none
  else none
def lp_X6_plantingCost_30 (n : Nat) (a0 : Nat) (a1 : Nat) (c2 : Int32) (c3 : Int32) (c4 : Int32) (w5 : Int32) (M : KM) (k154 : KM → Option (Int32 × KM)) : Option (Int32 × KM) := match n with
  | 0 => none
  | n + 1 =>
    if (M.1 a1 9) ≤ w5 then
      k154 M
    else
      (f_X2_paceOf n a1 c2 w5 M).bind fun (v3 : Int32) =>
      lt (fun (x4 : Int32) => (
        lt (fun (x5 : Int32) => (
          if ix w5 12 then
          lt ((M.1 (a1 + 2) (w5).toNatClampNeg)) fun (v7 : Int32) =>
          if ix w5 12 then
          lt ((M.1 (a1 + 3) (w5).toNatClampNeg)) fun (v9 : Int32) =>
          if ix v9 8 then
          if ix v7 8 then
          lt ((if ((M.1 (a0 + 1) (v7).toNatClampNeg) + x5) < (M.1 (a0 + 1) (v9).toNatClampNeg) then ((M.1 (a0 + 1) (v7).toNatClampNeg) + x5) else (M.1 (a0 + 1) (v9).toNatClampNeg))) fun (v12 : Int32) =>
          if ix v9 8 then
          lt (uI M (a0 + 1) (v9).toNatClampNeg v12) fun (M14 : KM) =>
          if ix v7 8 then
          if ix v9 8 then
          lt ((if ((M14.1 (a0 + 1) (v9).toNatClampNeg) + x5) < (M14.1 (a0 + 1) (v7).toNatClampNeg) then ((M14.1 (a0 + 1) (v9).toNatClampNeg) + x5) else (M14.1 (a0 + 1) (v7).toNatClampNeg))) fun (v17 : Int32) =>
          if ix v7 8 then
          lt (uI M14 (a0 + 1) (v7).toNatClampNeg v17) fun (M19 : KM) =>
          lt (w5 + (1 : Int32)) fun (v20 : Int32) =>
          lp_X6_plantingCost_30 n a0 a1 c2 c3 c4 v20 M19 k154
          else none
          else none
          else none
          else none
          else none
          else none
          else none
          else none
        ) : Int32 → Option (Int32 × KM)) fun j74 =>
        if x4 = 0 then
          j74 ((4096 : Int32) + ((1 : Int32) <<< (w5 &&& 31)))
        else
          j74 (0 : Int32)
      ) : Int32 → Option (Int32 × KM)) fun j55 =>
      if v3 = (2 : Int32) then
        j55 (0 : Int32)
      else
        j55 (1 : Int32)
def lp_X6_plantingCost_18 (n : Nat) (a0 : Nat) (a1 : Nat) (c2 : Int32) (c3 : Int32) (w4 : Int32) (M : KM) (k160 : KM → Option (Int32 × KM)) : Option (Int32 × KM) := match n with
  | 0 => none
  | n + 1 =>
    if (M.1 a1 8) ≤ w4 then
      k160 M
    else
      lp_X6_plantingCost_30 n a0 a1 c2 c3 w4 (0 : Int32) M
        (fun (M24 : KM) => (
          lt (w4 + (1 : Int32)) fun (v25 : Int32) =>
          lp_X6_plantingCost_18 n a0 a1 c2 c3 v25 M24 k160
        ))
def f_X6_plantingCost (n : Nat) (a0 : Nat) (a1 : Nat) (p2 : Int32) (p3 : Int32) (M : KM) : Option (Int32 × KM) :=
  if ix p2 8 then
  (f_X6_startAt n a0 a1 (M.1 ((a1 + 6) + 8 + 3 * (p2).toNatClampNeg) 5) (0 : Int32) M).bind fun (v2 : KM) =>
  lp_X6_plantingCost_18 n a0 a1 p2 p3 (1 : Int32) v2
    (fun (M27 : KM) => (
      if ix p3 8 then
      lt ((if (1000000000 : Int32) < (M27.1 (a0 + 1) (p3).toNatClampNeg) then (1000000000 : Int32) else (M27.1 (a0 + 1) (p3).toNatClampNeg))) fun (v29 : Int32) =>
      some (v29, M27)
      else none
    ))
  else none
def f_X5_likes (n : Nat) (a0 : Nat) (p1 : Int32) (p2 : Int32) (p3 : Int32) (M : KM) : Option Int32 :=
  if p3 = (-1 : Int32) then
    some (1 : Int32)
  else
    if ix p2 8 then
    if ix p1 8 then
    lt ((M.1 (((a0 + 6) + 8 + 3 * (p2).toNatClampNeg) + 2) (p1).toNatClampNeg)) fun (v3 : Int32) =>
    if ix p3 8 then
    if ix p1 8 then
    lt ((M.1 (((a0 + 6) + 8 + 3 * (p3).toNatClampNeg) + 2) (p1).toNatClampNeg)) fun (v6 : Int32) =>
    lt ((
      some (1 : Int32)
    ) : Option Int32) fun j52 =>
    if v6 < v3 then
      j52
    else
      if v3 = v6 then
        if p3 ≤ p2 then
          some (0 : Int32)
        else
          j52
      else
        some (0 : Int32)
    else none
    else none
    else none
    else none
def lp_X5_askNext_5 (n : Nat) (a0 : Nat) (a1 : Nat) (c2 : Int32) (M : KM) (w3 : Int32) (w4 : Int32) (k73 : Int32 → Option KM) : Option KM := match n with
  | 0 => none
  | n + 1 =>
    if (M.1 a1 10) ≤ w4 then
      k73 w3
    else
      if ix w4 8 then
      lt (fun (x2 : Int32) => (
        lt (fun (x3 : Int32) => (
          lt (w4 + (1 : Int32)) fun (v4 : Int32) =>
          lp_X5_askNext_5 n a0 a1 c2 M x3 v4 k73
        ) : Int32 → Option KM) fun j67 =>
        if x2 = 0 then
          j67 w3
        else
          (f_X5_likes n a1 c2 w4 w3 M).bind fun (v5 : Int32) =>
          if v5 = 0 then
            j67 w3
          else
            j67 w4
      ) : Int32 → Option KM) fun j46 =>
      lt ((
        j46 (0 : Int32)
      ) : Option KM) fun j45 =>
      if (M.1 ((a1 + 6) + 8 + 3 * (w4).toNatClampNeg) 3) = 0 then
        if ix c2 8 then
        if ((M.1 (a0 + 2) (c2).toNatClampNeg) &&& ((1 : Int32) <<< (w4 &&& 31))) = 0 then
          j46 (1 : Int32)
        else
          j45
        else none
      else
        j45
      else none
def f_X5_askNext (n : Nat) (a0 : Nat) (a1 : Nat) (p2 : Int32) (M : KM) : Option KM :=
  lp_X5_askNext_5 n a0 a1 p2 M (-1 : Int32) (0 : Int32)
    (fun (u12 : Int32) => (
      if u12 = (-1 : Int32) then
        some M
      else
        if ix p2 8 then
        if ix p2 8 then
        lt (uI M (a0 + 2) (p2).toNatClampNeg ((M.1 (a0 + 2) (p2).toNatClampNeg) ||| ((1 : Int32) <<< (u12 &&& 31)))) fun (M15 : KM) =>
        if ix u12 8 then
        lt ((M15.1 (a0 + 1) (u12).toNatClampNeg)) fun (v17 : Int32) =>
        (f_X5_likes n a1 u12 p2 v17 M15).bind fun (v18 : Int32) =>
        if v18 = 0 then
          some M15
        else
          lt (fun (M19 : KM) => (
            if ix u12 8 then
            lt (uI M19 (a0 + 1) (u12).toNatClampNeg p2) fun (M21 : KM) =>
            if ix p2 8 then
            lt (uI M21 (a0 + 1) (p2).toNatClampNeg u12) fun (M23 : KM) =>
            some M23
            else none
            else none
          ) : KM → Option KM) fun j125 =>
          if v17 = (-1 : Int32) then
            j125 M15
          else
            if ix v17 8 then
            lt (uI M15 (a0 + 1) (v17).toNatClampNeg (-1 : Int32)) fun (M25 : KM) =>
            j125 M25
            else none
        else none
        else none
        else none
    ))
def lp_X5_findPairs_2 (n : Nat) (a0 : Nat) (a1 : Nat) (w2 : Int32) (M : KM) (k28 : KM → Option KM) : Option KM := match n with
  | 0 => none
  | n + 1 =>
    if (8 : Int32) ≤ w2 then
      k28 M
    else
      if ix w2 8 then
      lt (uI M (a0 + 1) (w2).toNatClampNeg (-1 : Int32)) fun (M2 : KM) =>
      if ix w2 8 then
      lt (uI M2 (a0 + 2) (w2).toNatClampNeg (0 : Int32)) fun (M4 : KM) =>
      lt (w2 + (1 : Int32)) fun (v5 : Int32) =>
      lp_X5_findPairs_2 n a0 a1 v5 M4 k28
      else none
      else none
def lp_X5_findPairs_38 (n : Nat) (a0 : Nat) (a1 : Nat) (c2 : Int32) (w3 : Int32) (M : KM) (k80 : KM → Option KM) : Option KM := match n with
  | 0 => none
  | n + 1 =>
    if (M.1 a1 10) ≤ w3 then
      k80 M
    else
      if ix w3 8 then
      lt (fun (M9 : KM) => (
        lt (w3 + (1 : Int32)) fun (v10 : Int32) =>
        lp_X5_findPairs_38 n a0 a1 c2 v10 M9 k80
      ) : KM → Option KM) fun j74 =>
      if (M.1 ((a1 + 6) + 8 + 3 * (w3).toNatClampNeg) 3) = 0 then
        j74 M
      else
        if ix w3 8 then
        if (M.1 (a0 + 1) (w3).toNatClampNeg) = (-1 : Int32) then
          (f_X5_askNext n a0 a1 w3 M).bind fun (v12 : KM) =>
          j74 v12
        else
          j74 M
        else none
      else none
def lp_X5_findPairs_30 (n : Nat) (a0 : Nat) (a1 : Nat) (w2 : Int32) (M : KM) : Option KM := match n with
  | 0 => none
  | n + 1 =>
    if (64 : Int32) ≤ w2 then
      some M
    else
      lp_X5_findPairs_38 n a0 a1 w2 (0 : Int32) M
        (fun (M16 : KM) => (
          lt (w2 + (1 : Int32)) fun (v17 : Int32) =>
          lp_X5_findPairs_30 n a0 a1 v17 M16
        ))
def f_X5_findPairs (n : Nat) (a0 : Nat) (a1 : Nat) (M : KM) : Option KM :=
  lp_X5_findPairs_2 n a0 a1 (0 : Int32) M
    (fun (M7 : KM) => (
      lp_X5_findPairs_30 n a0 a1 (0 : Int32) M7
    ))
def lp_X5_countPairs_4 (n : Nat) (a0 : Nat) (a1 : Nat) (M : KM) (w2 : Int32) (w3 : Int32) : Option Int32 := match n with
  | 0 => none
  | n + 1 =>
    if (M.1 a1 10) ≤ w3 then
      some w2
    else
      if ix w3 8 then
      lt (fun (x2 : Int32) => (
        lt ((w2 + x2)) fun (v3 : Int32) =>
        lt (w3 + (1 : Int32)) fun (v4 : Int32) =>
        lp_X5_countPairs_4 n a0 a1 M v3 v4
      ) : Int32 → Option Int32) fun j40 =>
      lt ((
        j40 (0 : Int32)
      ) : Option Int32) fun j39 =>
      if (M.1 ((a1 + 6) + 8 + 3 * (w3).toNatClampNeg) 3) = 0 then
        j39
      else
        if ix w3 8 then
        if (M.1 (a0 + 1) (w3).toNatClampNeg) = (-1 : Int32) then
          j39
        else
          j40 (1 : Int32)
        else none
      else none
def f_X5_countPairs (n : Nat) (a0 : Nat) (a1 : Nat) (M : KM) : Option Int32 :=
  lp_X5_countPairs_4 n a0 a1 M (0 : Int32) (0 : Int32)
def lp_X5_sumOwed_4 (n : Nat) (a0 : Nat) (a1 : Nat) (M : KM) (w2 : Int32) (w3 : Int32) : Option Int32 := match n with
  | 0 => none
  | n + 1 =>
    if (M.1 a1 10) ≤ w3 then
      some w2
    else
      if ix w3 8 then
      lt (fun (x2 : Int32) => (
        lt (w3 + (1 : Int32)) fun (v3 : Int32) =>
        lp_X5_sumOwed_4 n a0 a1 M x2 v3
      ) : Int32 → Option Int32) fun j56 =>
      if (M.1 ((a1 + 6) + 8 + 3 * (w3).toNatClampNeg) 3) = 0 then
        j56 w2
      else
        if ix w3 8 then
        if (M.1 (a0 + 1) (w3).toNatClampNeg) = (-1 : Int32) then
          j56 w2
        else
          if ix w3 8 then
          if ix w3 8 then
          if ix (M.1 (a0 + 1) (w3).toNatClampNeg) 8 then
          lt ((if 0 ≤ (M.1 (((a1 + 6) + 8 + 3 * (w3).toNatClampNeg) + 2) ((M.1 (a0 + 1) (w3).toNatClampNeg)).toNatClampNeg) then (M.1 (((a1 + 6) + 8 + 3 * (w3).toNatClampNeg) + 2) ((M.1 (a0 + 1) (w3).toNatClampNeg)).toNatClampNeg) else 0 - (M.1 (((a1 + 6) + 8 + 3 * (w3).toNatClampNeg) + 2) ((M.1 (a0 + 1) (w3).toNatClampNeg)).toNatClampNeg))) fun (v8 : Int32) =>
          lt ((w2 + v8)) fun (v9 : Int32) =>
          j56 v9
          else none
          else none
          else none
        else none
      else none
def f_X5_sumOwed (n : Nat) (a0 : Nat) (a1 : Nat) (M : KM) : Option Int32 :=
  lp_X5_sumOwed_4 n a0 a1 M (0 : Int32) (0 : Int32)
def lp_X9_scanWord_7 (n : Nat) (a0 : Nat) (w1 : Int64) (M : KM) (k96 : Int64 → KM → Option KM) : Option KM := match n with
  | 0 => none
  | n + 1 =>
    if (M.1 a0 2) ≤ (M.1 a0 3) then
      k96 w1 M
    else
      if ix (M.1 a0 3) (ktl (kty (M.2.2 a0 1))) then
      if (M.1 (M.2.2 a0 1) ((M.1 a0 3)).toNatClampNeg) < (97 : Int32) then
        k96 w1 M
      else
        if ix (M.1 a0 3) (ktl (kty (M.2.2 a0 1))) then
        if (122 : Int32) < (M.1 (M.2.2 a0 1) ((M.1 a0 3)).toNatClampNeg) then
          k96 w1 M
        else
          lt (fun (x6 : Int64) => (
            lt (uI M a0 3 ((M.1 a0 3) + (1 : Int32))) fun (M7 : KM) =>
            lp_X9_scanWord_7 n a0 x6 M7 k96
          ) : Int64 → Option KM) fun j83 =>
          if (8 : Int32) ≤ ((M.1 a0 3) - (M.1 a0 10)) then
            j83 w1
          else
            if ix (M.1 a0 3) (ktl (kty (M.2.2 a0 1))) then
            lt (((((w1 * (32 : Int64)) + ((M.1 (M.2.2 a0 1) ((M.1 a0 3)).toNatClampNeg)).toInt64) - (97 : Int64)) + (1 : Int64))) fun (v10 : Int64) =>
            j83 v10
            else none
        else none
      else none
def lp_X9_scanWord_113 (n : Nat) (a0 : Nat) (c1 : Int64) (M : KM) (w3 : Int32) (k130 : Int32 → Option KM) (k142 : Option KM) : Option KM := match n with
  | 0 => none
  | n + 1 =>
    if (26 : Int32) ≤ w3 then
      k142
    else
      if ix w3 26 then
      if (lg_cmp (M.2.1 (a0 + 1) (w3).toNatClampNeg) c1) = 0 then
        k130 w3
      else
        lt (w3 + (1 : Int32)) fun (v18 : Int32) =>
        lp_X9_scanWord_113 n a0 c1 M v18 k130 k142
      else none
def f_X9_scanWord (n : Nat) (a0 : Nat) (M : KM) : Option KM :=
  lt (uI M a0 6 (1 : Int32)) fun (M1 : KM) =>
  lp_X9_scanWord_7 n a0 (0 : Int64) M1
    (fun (u15 : Int64) (M16 : KM) => (
      if ((M16.1 a0 3) - (M16.1 a0 10)) ≤ (8 : Int32) then
        lp_X9_scanWord_113 n a0 u15 M16 (0 : Int32)
          (fun (u21 : Int32) => (
            lt (uI M16 a0 7 u21) fun (M22 : KM) =>
            some M22
          ))
          ((
            lt (uJ M16 a0 9 u15) fun (M23 : KM) =>
            some M23
          ))
      else
        some M16
    ))
def lp_X9_scanNumber_0 (n : Nat) (a0 : Nat) (M : KM) (k89 : KM → Option KM) : Option KM := match n with
  | 0 => none
  | n + 1 =>
    if (M.1 a0 2) ≤ (M.1 a0 3) then
      k89 M
    else
      if ix (M.1 a0 3) (ktl (kty (M.2.2 a0 1))) then
      if (M.1 (M.2.2 a0 1) ((M.1 a0 3)).toNatClampNeg) < (48 : Int32) then
        k89 M
      else
        if ix (M.1 a0 3) (ktl (kty (M.2.2 a0 1))) then
        if (57 : Int32) < (M.1 (M.2.2 a0 1) ((M.1 a0 3)).toNatClampNeg) then
          k89 M
        else
          lt (fun (M5 : KM) => (
            lt (uI M5 a0 3 ((M5.1 a0 3) + (1 : Int32))) fun (M6 : KM) =>
            lp_X9_scanNumber_0 n a0 M6 k89
          ) : KM → Option KM) fun j76 =>
          if (4 : Int32) ≤ ((M.1 a0 3) - (M.1 a0 10)) then
            j76 M
          else
            if ix (M.1 a0 3) (ktl (kty (M.2.2 a0 1))) then
            lt (uI M a0 8 ((((M.1 a0 8) * (10 : Int32)) + (M.1 (M.2.2 a0 1) ((M.1 a0 3)).toNatClampNeg)) - (48 : Int32))) fun (M9 : KM) =>
            j76 M9
            else none
        else none
      else none
def f_X9_scanNumber (n : Nat) (a0 : Nat) (M : KM) : Option KM :=
  lp_X9_scanNumber_0 n a0 M
    (fun (M14 : KM) => (
      lt (fun (x15 : Int32) => (
        lt (uI M14 a0 6 x15) fun (M16 : KM) =>
        some M16
      ) : Int32 → Option KM) fun j108 =>
      if ((M14.1 a0 3) - (M14.1 a0 10)) ≤ (4 : Int32) then
        j108 (2 : Int32)
      else
        j108 (4 : Int32)
    ))
def lp_X9_advance_8 (n : Nat) (a0 : Nat) (M : KM) (k60 : KM → Option KM) : Option KM := match n with
  | 0 => none
  | n + 1 =>
    if (M.1 a0 2) ≤ (M.1 a0 3) then
      k60 M
    else
      if ix (M.1 a0 3) (ktl (kty (M.2.2 a0 1))) then
      lt ((
        lt (uI M a0 3 ((M.1 a0 3) + (1 : Int32))) fun (M4 : KM) =>
        lp_X9_advance_8 n a0 M4 k60
      ) : Option KM) fun j47 =>
      if (M.1 (M.2.2 a0 1) ((M.1 a0 3)).toNatClampNeg) = (32 : Int32) then
        j47
      else
        if ix (M.1 a0 3) (ktl (kty (M.2.2 a0 1))) then
        if (M.1 (M.2.2 a0 1) ((M.1 a0 3)).toNatClampNeg) = (10 : Int32) then
          j47
        else
          k60 M
        else none
      else none
def f_X9_advance (n : Nat) (a0 : Nat) (M : KM) : Option KM :=
  lt (uI M a0 11 (M.1 a0 10)) fun (M1 : KM) =>
  lp_X9_advance_8 n a0 M1
    (fun (M10 : KM) => (
      lt (uI M10 a0 10 (M10.1 a0 3)) fun (M11 : KM) =>
      lt (uI M11 a0 7 (-1 : Int32)) fun (M12 : KM) =>
      lt (uJ M12 a0 9 (0 : Int64)) fun (M13 : KM) =>
      lt (uI M13 a0 8 (0 : Int32)) fun (M14 : KM) =>
      if (M14.1 a0 3) < (M14.1 a0 2) then
        if ix (M14.1 a0 3) (ktl (kty (M14.2.2 a0 1))) then
        lt ((M14.1 (M14.2.2 a0 1) ((M14.1 a0 3)).toNatClampNeg)) fun (v17 : Int32) =>
        lt ((
          lt ((
            lt (uI M14 a0 8 v17) fun (M18 : KM) =>
            lt (uI M18 a0 3 ((M18.1 a0 3) + (1 : Int32))) fun (M19 : KM) =>
            lt (fun (x20 : Int32) => (
              lt (fun (x21 : Int32) => (
                lt (uI M19 a0 6 x21) fun (M22 : KM) =>
                some M22
              ) : Int32 → Option KM) fun j203 =>
              if x20 = 0 then
                j203 (4 : Int32)
              else
                j203 (3 : Int32)
            ) : Int32 → Option KM) fun j192 =>
            lt ((
              j192 (1 : Int32)
            ) : Option KM) fun j187 =>
            if v17 = (59 : Int32) then
              j187
            else
              if v17 = (60 : Int32) then
                j187
              else
                if v17 = (62 : Int32) then
                  j187
                else
                  if v17 = (61 : Int32) then
                    j187
                  else
                    j192 (0 : Int32)
          ) : Option KM) fun j148 =>
          if v17 < (48 : Int32) then
            j148
          else
            if (57 : Int32) < v17 then
              j148
            else
              (f_X9_scanNumber n a0 M14).bind fun (v28 : KM) =>
              some v28
        ) : Option KM) fun j129 =>
        if v17 < (97 : Int32) then
          j129
        else
          if (122 : Int32) < v17 then
            j129
          else
            (f_X9_scanWord n a0 M14).bind fun (v31 : KM) =>
            some v31
        else none
      else
        lt (uI M14 a0 6 (0 : Int32)) fun (M34 : KM) =>
        some M34
    ))
def f_X9_begin (n : Nat) (a0 : Nat) (a1 : Nat) (p2 : Int32) (M : KM) : Option KM :=
  lt (uR M a0 1 a1) fun (M1 : KM) =>
  lt ((if (Int32.ofNat (ktl (kty a1))) < p2 then (Int32.ofNat (ktl (kty a1))) else p2)) fun (v2 : Int32) =>
  lt (uI M1 a0 2 v2) fun (M3 : KM) =>
  lt (uI M3 a0 3 (0 : Int32)) fun (M4 : KM) =>
  lt (uI M4 a0 11 (0 : Int32)) fun (M5 : KM) =>
  lt (uI M5 a0 4 (0 : Int32)) fun (M6 : KM) =>
  lt (uI M6 a0 5 (-1 : Int32)) fun (M7 : KM) =>
  (f_X9_advance n a0 M7).bind fun (v8 : KM) =>
  some v8
def f_X9_fail (a0 : Nat) (p1 : Int32) (M : KM) : (Int32 × KM) :=
  lt (uI M a0 4 p1) fun (M1 : KM) =>
  lt (uI M1 a0 5 (M1.1 a0 10)) fun (M2 : KM) =>
  ((0 : Int32), M2)
def f_X9_failTaken (a0 : Nat) (p1 : Int32) (M : KM) : (Int32 × KM) :=
  lt (uI M a0 4 p1) fun (M1 : KM) =>
  lt (uI M1 a0 5 (M1.1 a0 11)) fun (M2 : KM) =>
  ((0 : Int32), M2)
def f_X9_failOrder (a0 : Nat) (M : KM) : (Int32 × KM) :=
  lt (fun (x1 : Int32) => (
    lt (f_X9_fail a0 x1 M) fun (v2 : (Int32 × KM)) =>
    (v2.1, v2.2)
  ) : Int32 → (Int32 × KM)) fun j14 =>
  if (M.1 a0 6) = (4 : Int32) then
    j14 (1 : Int32)
  else
    j14 (2 : Int32)
def f_X9_isAtEnd (a0 : Nat) (M : KM) : Int32 :=
  if (M.1 a0 6) = 0 then
    (1 : Int32)
  else
    (0 : Int32)
def f_X9_skip (n : Nat) (a0 : Nat) (M : KM) : Option KM :=
  (f_X9_advance n a0 M).bind fun (v1 : KM) =>
  some v1
def f_X9_skipWord (n : Nat) (a0 : Nat) (p1 : Int32) (M : KM) : Option (Int32 × KM) :=
  if (M.1 a0 7) = p1 then
    (f_X9_advance n a0 M).bind fun (v1 : KM) =>
    some ((1 : Int32), v1)
  else
    some ((0 : Int32), M)
def f_X9_takeWord (n : Nat) (a0 : Nat) (p1 : Int32) (M : KM) : Option (Int32 × KM) :=
  (f_X9_skipWord n a0 p1 M).bind fun (v1 : (Int32 × KM)) =>
  lt (fun (M2 : KM) => (
    some ((1 : Int32), M2)
  ) : KM → Option (Int32 × KM)) fun j15 =>
  if v1.1 = 0 then
    lt (f_X9_failOrder a0 v1.2) fun (v3 : (Int32 × KM)) =>
    if v3.1 = 0 then
      some ((0 : Int32), v3.2)
    else
      j15 v3.2
  else
    j15 v1.2
def f_X9_takeSemicolon (n : Nat) (a0 : Nat) (M : KM) : Option (Int32 × KM) :=
  lt ((
    lt (f_X9_failOrder a0 M) fun (v1 : (Int32 × KM)) =>
    some (v1.1, v1.2)
  ) : Option (Int32 × KM)) fun j17 =>
  if (M.1 a0 6) = (3 : Int32) then
    if (M.1 a0 8) = (59 : Int32) then
      (f_X9_advance n a0 M).bind fun (v2 : KM) =>
      some ((1 : Int32), v2)
    else
      j17
  else
    j17
def f_X9_takeComparison (n : Nat) (a0 : Nat) (M : KM) : Option (Int32 × KM) :=
  lt ((
    lt (f_X9_failOrder a0 M) fun (v1 : (Int32 × KM)) =>
    some ((-1 : Int32), v1.2)
  ) : Option (Int32 × KM)) fun j17 =>
  if (M.1 a0 6) = (3 : Int32) then
    if (M.1 a0 8) = (59 : Int32) then
      j17
    else
      lt ((M.1 a0 8)) fun (v2 : Int32) =>
      (f_X9_advance n a0 M).bind fun (v3 : KM) =>
      some (v2, v3)
  else
    j17
def f_X9_takeNumber (n : Nat) (a0 : Nat) (p1 : Int32) (p2 : Int32) (M : KM) : Option (Int32 × KM) :=
  if (M.1 a0 6) = (2 : Int32) then
    lt ((
      lt (f_X9_fail a0 (4 : Int32) M) fun (v1 : (Int32 × KM)) =>
      some ((-1 : Int32), v1.2)
    ) : Option (Int32 × KM)) fun j31 =>
    if (M.1 a0 8) < p1 then
      j31
    else
      if (M.1 a0 8) ≤ p2 then
        lt ((M.1 a0 8)) fun (v2 : Int32) =>
        (f_X9_advance n a0 M).bind fun (v3 : KM) =>
        some (v2, v3)
      else
        j31
  else
    lt (f_X9_failOrder a0 M) fun (v6 : (Int32 × KM)) =>
    some ((-1 : Int32), v6.2)
def f_X9_takeNewName (n : Nat) (a0 : Nat) (a1 : Nat) (M : KM) : Option (Int64 × KM) :=
  if (lg_cmp (M.2.1 a0 9) (0 : Int64)) = 0 then
    lt (f_X9_failOrder a0 M) fun (v8 : (Int32 × KM)) =>
    some ((0 : Int64), v8.2)
  else
    (f_X2_placeNamed n a1 (M.2.1 a0 9) M).bind fun (v1 : Int32) =>
    lt ((
      lt (f_X9_fail a0 (3 : Int32) M) fun (v2 : (Int32 × KM)) =>
      some ((0 : Int64), v2.2)
    ) : Option (Int64 × KM)) fun j40 =>
    if v1 = (-1 : Int32) then
      (f_X2_personNamed n a1 (M.2.1 a0 9) M).bind fun (v3 : Int32) =>
      if v3 = (-1 : Int32) then
        lt ((M.2.1 a0 9)) fun (v4 : Int64) =>
        (f_X9_advance n a0 M).bind fun (v5 : KM) =>
        some (v4, v5)
      else
        j40
    else
      j40
def f_X9_takeKnown (n : Nat) (a0 : Nat) (p1 : Int32) (M : KM) : Option (Int32 × KM) :=
  if (lg_cmp (M.2.1 a0 9) (0 : Int64)) = 0 then
    lt (f_X9_failOrder a0 M) fun (v4 : (Int32 × KM)) =>
    some ((-1 : Int32), v4.2)
  else
    if p1 = (-1 : Int32) then
      lt (f_X9_fail a0 (3 : Int32) M) fun (v2 : (Int32 × KM)) =>
      some ((-1 : Int32), v2.2)
    else
      (f_X9_advance n a0 M).bind fun (v1 : KM) =>
      some (p1, v1)
def f_X9_takePlace (n : Nat) (a0 : Nat) (a1 : Nat) (M : KM) : Option (Int32 × KM) :=
  (f_X2_placeNamed n a1 (M.2.1 a0 9) M).bind fun (v1 : Int32) =>
  (f_X9_takeKnown n a0 v1 M).bind fun (v2 : (Int32 × KM)) =>
  some (v2.1, v2.2)
def f_X9_takePerson (n : Nat) (a0 : Nat) (a1 : Nat) (M : KM) : Option (Int32 × KM) :=
  (f_X2_personNamed n a1 (M.2.1 a0 9) M).bind fun (v1 : Int32) =>
  (f_X9_takeKnown n a0 v1 M).bind fun (v2 : (Int32 × KM)) =>
  some (v2.1, v2.2)
def f_X3_startOnce (n : Nat) (a0 : Nat) (M : KM) : Option (Int32 × KM) :=
  lt (((1 : Int32) <<< ((M.1 a0 7) &&& 31))) fun (v1 : Int32) =>
  lt ((
    lt (f_X9_fail a0 (5 : Int32) M) fun (v2 : (Int32 × KM)) =>
    some (v2.1, v2.2)
  ) : Option (Int32 × KM)) fun j31 =>
  if ((M.1 a0 12) &&& v1) = 0 then
    lt ((
      lt (uI M a0 12 ((M.1 a0 12) ||| v1)) fun (M3 : KM) =>
      (f_X9_skip n a0 M3).bind fun (v4 : KM) =>
      some ((1 : Int32), v4)
    ) : Option (Int32 × KM)) fun j37 =>
    if (M.1 a0 7) = (4 : Int32) then
      if (M.1 a0 13) = 0 then
        j37
      else
        j31
    else
      j37
  else
    j31
def f_X3_readGlare (n : Nat) (a0 : Nat) (a1 : Nat) (M : KM) : Option (Int32 × KM) :=
  (f_X9_takeNumber n a0 (0 : Int32) (23 : Int32) M).bind fun (v1 : (Int32 × KM)) =>
  if v1.1 = (-1 : Int32) then
    some ((0 : Int32), v1.2)
  else
    (f_X9_takeWord n a0 (1 : Int32) v1.2).bind fun (v2 : (Int32 × KM)) =>
    if v2.1 = 0 then
      some ((0 : Int32), v2.2)
    else
      (f_X9_takeNumber n a0 (v1.1 + (1 : Int32)) (24 : Int32) v2.2).bind fun (v3 : (Int32 × KM)) =>
      if v3.1 = (-1 : Int32) then
        some ((0 : Int32), v3.2)
      else
        lt (f_X1_set (a1 + 7) v1.1 v3.1 v3.2) fun (v4 : KM) =>
        (f_X9_takeSemicolon n a0 v4).bind fun (v5 : (Int32 × KM)) =>
        some (v5.1, v5.2)
def f_X3_readClock (n : Nat) (a0 : Nat) (a1 : Nat) (M : KM) : Option (Int32 × KM) :=
  (f_X9_takeNumber n a0 (0 : Int32) (1439 : Int32) M).bind fun (v1 : (Int32 × KM)) =>
  lt (uI v1.2 a1 11 v1.1) fun (M2 : KM) =>
  if (M2.1 a1 11) = (-1 : Int32) then
    some ((0 : Int32), M2)
  else
    (f_X9_takeSemicolon n a0 M2).bind fun (v3 : (Int32 × KM)) =>
    if v3.1 = 0 then
      some ((0 : Int32), v3.2)
    else
      some ((1 : Int32), v3.2)
def f_X3_readRope (n : Nat) (a0 : Nat) (a1 : Nat) (M : KM) : Option (Int32 × KM) :=
  (f_X9_takeNumber n a0 (1 : Int32) (9 : Int32) M).bind fun (v1 : (Int32 × KM)) =>
  lt (uI v1.2 a1 12 v1.1) fun (M2 : KM) =>
  if (M2.1 a1 12) = (-1 : Int32) then
    some ((0 : Int32), M2)
  else
    (f_X9_takeSemicolon n a0 M2).bind fun (v3 : (Int32 × KM)) =>
    if v3.1 = 0 then
      some ((0 : Int32), v3.2)
    else
      some ((1 : Int32), v3.2)
def f_X3_readHabit (n : Nat) (a0 : Nat) (a1 : Nat) (M : KM) : Option (Int32 × KM) :=
  (f_X9_takeNumber n a0 (1 : Int32) (9 : Int32) M).bind fun (v1 : (Int32 × KM)) =>
  lt (uI v1.2 a1 13 v1.1) fun (M2 : KM) =>
  if (M2.1 a1 13) = (-1 : Int32) then
    some ((0 : Int32), M2)
  else
    (f_X9_takeSemicolon n a0 M2).bind fun (v3 : (Int32 × KM)) =>
    if v3.1 = 0 then
      some ((0 : Int32), v3.2)
    else
      some ((1 : Int32), v3.2)
def f_X3_readOdds (n : Nat) (a0 : Nat) (a1 : Nat) (M : KM) : Option (Int32 × KM) :=
  (f_X9_takeNumber n a0 (0 : Int32) (16 : Int32) M).bind fun (v1 : (Int32 × KM)) =>
  lt (uI v1.2 a1 14 v1.1) fun (M2 : KM) =>
  if (M2.1 a1 14) = (-1 : Int32) then
    some ((0 : Int32), M2)
  else
    (f_X9_takeSemicolon n a0 M2).bind fun (v3 : (Int32 × KM)) =>
    if v3.1 = 0 then
      some ((0 : Int32), v3.2)
    else
      some ((1 : Int32), v3.2)
def f_X3_start (n : Nat) (a0 : Nat) (p1 : Int32) (p2 : Int32) (M : KM) : Option (Int32 × KM) :=
  if p1 < p2 then
    (f_X9_skip n a0 M).bind fun (v1 : KM) =>
    some ((1 : Int32), v1)
  else
    lt (f_X9_fail a0 (6 : Int32) M) fun (v2 : (Int32 × KM)) =>
    some (v2.1, v2.2)
def f_X3_readPlace (n : Nat) (a0 : Nat) (a1 : Nat) (M : KM) : Option (Int32 × KM) :=
  (f_X9_takeNewName n a0 a1 M).bind fun (v1 : (Int64 × KM)) =>
  if (lg_cmp v1.1 (0 : Int64)) = 0 then
    some ((0 : Int32), v1.2)
  else
    (f_X2_addPlace n a1 v1.1 v1.2).bind fun (v2 : KM) =>
    (f_X9_takeSemicolon n a0 v2).bind fun (v3 : (Int32 × KM)) =>
    some (v3.1, v3.2)
def f_X3_readRoad (n : Nat) (a0 : Nat) (a1 : Nat) (M : KM) : Option (Int32 × KM) :=
  (f_X9_takePlace n a0 a1 M).bind fun (v1 : (Int32 × KM)) =>
  lt (fun (x2 : Int32) (M3 : KM) => (
    if x2 = (-1 : Int32) then
      some ((0 : Int32), M3)
    else
      lt ((
        lt (f_X9_failTaken a0 (5 : Int32) M3) fun (v4 : (Int32 × KM)) =>
        some (v4.1, v4.2)
      ) : Option (Int32 × KM)) fun j43 =>
      if v1.1 = x2 then
        j43
      else
        (f_X2_roadBetween n a1 v1.1 x2 M3).bind fun (v5 : Int32) =>
        if v5 = (-1 : Int32) then
          (f_X9_takeWord n a0 (8 : Int32) M3).bind fun (v6 : (Int32 × KM)) =>
          lt (fun (x7 : Int32) (M8 : KM) => (
            if x7 = (-1 : Int32) then
              some ((0 : Int32), M8)
            else
              (f_X9_skipWord n a0 (9 : Int32) M8).bind fun (v9 : (Int32 × KM)) =>
              (f_X2_addRoad n a1 v1.1 x2 x7 v9.1 v9.2).bind fun (v10 : KM) =>
              (f_X9_takeSemicolon n a0 v10).bind fun (v11 : (Int32 × KM)) =>
              some (v11.1, v11.2)
          ) : Int32 → KM → Option (Int32 × KM)) fun j69 =>
          if v6.1 = 0 then
            j69 (-1 : Int32) v6.2
          else
            (f_X9_takeNumber n a0 (1 : Int32) (99 : Int32) v6.2).bind fun (v13 : (Int32 × KM)) =>
            j69 v13.1 v13.2
        else
          j43
  ) : Int32 → KM → Option (Int32 × KM)) fun j20 =>
  if v1.1 = (-1 : Int32) then
    j20 (-1 : Int32) v1.2
  else
    (f_X9_takePlace n a0 a1 v1.2).bind fun (v18 : (Int32 × KM)) =>
    j20 v18.1 v18.2
def f_X3_readPerson (n : Nat) (a0 : Nat) (a1 : Nat) (p2 : Int32) (M : KM) : Option (Int32 × KM) :=
  (f_X9_takeNewName n a0 a1 M).bind fun (v1 : (Int64 × KM)) =>
  if (lg_cmp v1.1 (0 : Int64)) = 0 then
    some ((0 : Int32), v1.2)
  else
    (f_X9_takeWord n a0 (11 : Int32) v1.2).bind fun (v2 : (Int32 × KM)) =>
    if v2.1 = 0 then
      some ((0 : Int32), v2.2)
    else
      (f_X9_takePlace n a0 a1 v2.2).bind fun (v3 : (Int32 × KM)) =>
      if v3.1 = (-1 : Int32) then
        some ((0 : Int32), v3.2)
      else
        lt (fun (x4 : Int32) (M5 : KM) => (
          (f_X2_addPerson n a1 v1.1 p2 x4 v3.1 M5).bind fun (v6 : KM) =>
          (f_X9_takeSemicolon n a0 v6).bind fun (v7 : (Int32 × KM)) =>
          some (v7.1, v7.2)
        ) : Int32 → KM → Option (Int32 × KM)) fun j59 =>
        lt (fun (M8 : KM) => (
          j59 (0 : Int32) M8
        ) : KM → Option (Int32 × KM)) fun j58 =>
        if p2 = 0 then
          j58 v3.2
        else
          (f_X9_skipWord n a0 (12 : Int32) v3.2).bind fun (v9 : (Int32 × KM)) =>
          if v9.1 = 0 then
            j58 v9.2
          else
            j59 (1 : Int32) v9.2
def f_X3_readKnows (n : Nat) (a0 : Nat) (a1 : Nat) (M : KM) : Option (Int32 × KM) :=
  lt (uI M a0 13 (1 : Int32)) fun (M1 : KM) =>
  (f_X9_skip n a0 M1).bind fun (v2 : KM) =>
  (f_X9_takePerson n a0 a1 v2).bind fun (v3 : (Int32 × KM)) =>
  lt (fun (x4 : Int32) (M5 : KM) => (
    lt (fun (x6 : Int32) (M7 : KM) => (
      if x6 = (-1 : Int32) then
        some ((0 : Int32), M7)
      else
        (f_X2_roadBetween n a1 x4 x6 M7).bind fun (v8 : Int32) =>
        if v8 = (-1 : Int32) then
          lt (f_X9_failTaken a0 (3 : Int32) M7) fun (v13 : (Int32 × KM)) =>
          some (v13.1, v13.2)
        else
          if ix v3.1 8 then
          if ix v8 12 then
          lt (uI M7 (((a1 + 6) + 8 + 3 * (v3.1).toNatClampNeg) + 1) (v8).toNatClampNeg (M7.1 a1 13)) fun (M11 : KM) =>
          (f_X9_takeSemicolon n a0 M11).bind fun (v12 : (Int32 × KM)) =>
          some (v12.1, v12.2)
          else none
          else none
    ) : Int32 → KM → Option (Int32 × KM)) fun j44 =>
    if x4 = (-1 : Int32) then
      j44 (-1 : Int32) M5
    else
      (f_X9_takePlace n a0 a1 M5).bind fun (v16 : (Int32 × KM)) =>
      j44 v16.1 v16.2
  ) : Int32 → KM → Option (Int32 × KM)) fun j29 =>
  if v3.1 = (-1 : Int32) then
    j29 (-1 : Int32) v3.2
  else
    (f_X9_takePlace n a0 a1 v3.2).bind fun (v18 : (Int32 × KM)) =>
    j29 v18.1 v18.2
def f_X3_readPart (n : Nat) (a0 : Nat) (a1 : Nat) (M : KM) : Option (Int32 × KM) :=
  lt ((M.1 a0 7)) fun (v1 : Int32) =>
  if v1 = (0 : Int32) then
    (f_X3_startOnce n a0 M).bind fun (v2 : (Int32 × KM)) =>
    if v2.1 = 0 then
      some ((0 : Int32), v2.2)
    else
      (f_X3_readGlare n a0 a1 v2.2).bind fun (v3 : (Int32 × KM)) =>
      if v3.1 = 0 then
        some ((0 : Int32), v3.2)
      else
        some ((1 : Int32), v3.2)
  else
  if v1 = (1 : Int32) then
    lt (f_X9_failOrder a0 M) fun (v7 : (Int32 × KM)) =>
    some (v7.1, v7.2)
  else
  if v1 = (2 : Int32) then
    (f_X3_startOnce n a0 M).bind fun (v9 : (Int32 × KM)) =>
    if v9.1 = 0 then
      some ((0 : Int32), v9.2)
    else
      (f_X3_readClock n a0 a1 v9.2).bind fun (v10 : (Int32 × KM)) =>
      if v10.1 = 0 then
        some ((0 : Int32), v10.2)
      else
        some ((1 : Int32), v10.2)
  else
  if v1 = (3 : Int32) then
    (f_X3_startOnce n a0 M).bind fun (v14 : (Int32 × KM)) =>
    if v14.1 = 0 then
      some ((0 : Int32), v14.2)
    else
      (f_X3_readRope n a0 a1 v14.2).bind fun (v15 : (Int32 × KM)) =>
      if v15.1 = 0 then
        some ((0 : Int32), v15.2)
      else
        some ((1 : Int32), v15.2)
  else
  if v1 = (4 : Int32) then
    (f_X3_startOnce n a0 M).bind fun (v19 : (Int32 × KM)) =>
    if v19.1 = 0 then
      some ((0 : Int32), v19.2)
    else
      (f_X3_readHabit n a0 a1 v19.2).bind fun (v20 : (Int32 × KM)) =>
      if v20.1 = 0 then
        some ((0 : Int32), v20.2)
      else
        some ((1 : Int32), v20.2)
  else
  if v1 = (5 : Int32) then
    (f_X3_startOnce n a0 M).bind fun (v24 : (Int32 × KM)) =>
    if v24.1 = 0 then
      some ((0 : Int32), v24.2)
    else
      (f_X3_readOdds n a0 a1 v24.2).bind fun (v25 : (Int32 × KM)) =>
      if v25.1 = 0 then
        some ((0 : Int32), v25.2)
      else
        some ((1 : Int32), v25.2)
  else
  if v1 = (6 : Int32) then
    (f_X3_start n a0 (M.1 a1 8) (8 : Int32) M).bind fun (v29 : (Int32 × KM)) =>
    if v29.1 = 0 then
      some ((0 : Int32), v29.2)
    else
      (f_X3_readPlace n a0 a1 v29.2).bind fun (v30 : (Int32 × KM)) =>
      if v30.1 = 0 then
        some ((0 : Int32), v30.2)
      else
        some ((1 : Int32), v30.2)
  else
  if v1 = (7 : Int32) then
    (f_X3_start n a0 (M.1 a1 9) (12 : Int32) M).bind fun (v34 : (Int32 × KM)) =>
    if v34.1 = 0 then
      some ((0 : Int32), v34.2)
    else
      (f_X3_readRoad n a0 a1 v34.2).bind fun (v35 : (Int32 × KM)) =>
      if v35.1 = 0 then
        some ((0 : Int32), v35.2)
      else
        some ((1 : Int32), v35.2)
  else
  if v1 = (8 : Int32) then
    lt (f_X9_failOrder a0 M) fun (v39 : (Int32 × KM)) =>
    some (v39.1, v39.2)
  else
  if v1 = (9 : Int32) then
    lt (f_X9_failOrder a0 M) fun (v41 : (Int32 × KM)) =>
    some (v41.1, v41.2)
  else
  if v1 = (10 : Int32) then
    (f_X3_start n a0 (M.1 a1 10) (8 : Int32) M).bind fun (v43 : (Int32 × KM)) =>
    if v43.1 = 0 then
      some ((0 : Int32), v43.2)
    else
      (f_X3_readPerson n a0 a1 (1 : Int32) v43.2).bind fun (v44 : (Int32 × KM)) =>
      if v44.1 = 0 then
        some ((0 : Int32), v44.2)
      else
        some ((1 : Int32), v44.2)
  else
  if v1 = (11 : Int32) then
    lt (f_X9_failOrder a0 M) fun (v48 : (Int32 × KM)) =>
    some (v48.1, v48.2)
  else
  if v1 = (12 : Int32) then
    lt (f_X9_failOrder a0 M) fun (v50 : (Int32 × KM)) =>
    some (v50.1, v50.2)
  else
  if v1 = (13 : Int32) then
    (f_X3_start n a0 (M.1 a1 10) (8 : Int32) M).bind fun (v52 : (Int32 × KM)) =>
    if v52.1 = 0 then
      some ((0 : Int32), v52.2)
    else
      (f_X3_readPerson n a0 a1 (0 : Int32) v52.2).bind fun (v53 : (Int32 × KM)) =>
      if v53.1 = 0 then
        some ((0 : Int32), v53.2)
      else
        some ((1 : Int32), v53.2)
  else
  if v1 = (14 : Int32) then
    (f_X3_readKnows n a0 a1 M).bind fun (v57 : (Int32 × KM)) =>
    some (v57.1, v57.2)
  else
  lt (f_X9_failOrder a0 M) fun (v59 : (Int32 × KM)) =>
  some (v59.1, v59.2)
def lp_X3_readInto_23 (n : Nat) (a0 : Nat) (a1 : Nat) (w4 : Int32) (M : KM) : Option (Int32 × KM) := match n with
  | 0 => none
  | n + 1 =>
    if (900 : Int32) ≤ w4 then
      some ((1 : Int32), M)
    else
      lt (f_X9_isAtEnd a0 M) fun (v5 : Int32) =>
      if v5 = 0 then
        (f_X3_readPart n a0 a1 M).bind fun (v6 : (Int32 × KM)) =>
        if v6.1 = 0 then
          some ((0 : Int32), v6.2)
        else
          lt (w4 + (1 : Int32)) fun (v7 : Int32) =>
          lp_X3_readInto_23 n a0 a1 v7 v6.2
      else
        some ((1 : Int32), M)
def f_X3_readInto (n : Nat) (a0 : Nat) (a1 : Nat) (a2 : Nat) (p3 : Int32) (M : KM) : Option (Int32 × KM) :=
  lt (f_X2_clear a1 M) fun (v1 : KM) =>
  lt (uI v1 a0 12 (0 : Int32)) fun (M2 : KM) =>
  lt (uI M2 a0 13 (0 : Int32)) fun (M3 : KM) =>
  (f_X9_begin n a0 a2 p3 M3).bind fun (v4 : KM) =>
  lp_X3_readInto_23 n a0 a1 (0 : Int32) v4
def f_X0_readEnd (n : Nat) (a0 : Nat) (a1 : Nat) (M : KM) : Option (Int32 × KM) :=
  lt ((
    lt (f_X9_failOrder a0 M) fun (v1 : (Int32 × KM)) =>
    some (v1.1, v1.2)
  ) : Option (Int32 × KM)) fun j15 =>
  if (M.1 a0 13) ≤ 0 then
    j15
  else
    if (M.1 a0 13) ≤ (3 : Int32) then
      lt (uI M a0 13 ((M.1 a0 13) - (1 : Int32))) fun (M2 : KM) =>
      (f_X9_skip n a0 M2).bind fun (v3 : KM) =>
      (f_X8_add n a1 (10 : Int32) (0 : Int32) (0 : Int32) (0 : Int32) v3).bind fun (v4 : (Int32 × KM)) =>
      if ix (v4.2.1 a0 13) 3 then
      (f_X8_close n a1 (v4.2.1 (a0 + 3) ((v4.2.1 a0 13)).toNatClampNeg) v4.2).bind fun (v6 : KM) =>
      (f_X9_takeSemicolon n a0 v6).bind fun (v7 : (Int32 × KM)) =>
      some (v7.1, v7.2)
      else none
    else
      j15
def f_X0_start (n : Nat) (a0 : Nat) (a1 : Nat) (M : KM) : Option (Int32 × KM) :=
  if (M.1 a1 6) < (30 : Int32) then
    (f_X9_skip n a0 M).bind fun (v1 : KM) =>
    some ((1 : Int32), v1)
  else
    lt (f_X9_fail a0 (6 : Int32) M) fun (v2 : (Int32 × KM)) =>
    some (v2.1, v2.2)
def f_X0_addStep (n : Nat) (a0 : Nat) (a1 : Nat) (p2 : Int32) (p3 : Int32) (p4 : Int32) (p5 : Int32) (M : KM) : Option (Int32 × KM) :=
  (f_X9_takeSemicolon n a0 M).bind fun (v1 : (Int32 × KM)) =>
  if v1.1 = 0 then
    some ((0 : Int32), v1.2)
  else
    (f_X8_add n a1 p2 p3 p4 p5 v1.2).bind fun (v2 : (Int32 × KM)) =>
    if v2.1 = 0 then
      some ((0 : Int32), v2.2)
    else
      some ((1 : Int32), v2.2)
def f_X0_readNumberStep (n : Nat) (a0 : Nat) (a1 : Nat) (p2 : Int32) (p3 : Int32) (M : KM) : Option (Int32 × KM) :=
  (f_X9_takeNumber n a0 (1 : Int32) p3 M).bind fun (v1 : (Int32 × KM)) =>
  if v1.1 = (-1 : Int32) then
    some ((0 : Int32), v1.2)
  else
    (f_X0_addStep n a0 a1 p2 v1.1 (0 : Int32) (0 : Int32) v1.2).bind fun (v2 : (Int32 × KM)) =>
    if v2.1 = 0 then
      some ((0 : Int32), v2.2)
    else
      some ((1 : Int32), v2.2)
def f_X0_readGo (n : Nat) (a0 : Nat) (a1 : Nat) (a2 : Nat) (M : KM) : Option (Int32 × KM) :=
  (f_X9_takePerson n a0 a2 M).bind fun (v1 : (Int32 × KM)) =>
  lt (fun (x2 : Int32) (M3 : KM) => (
    if x2 = (-1 : Int32) then
      some ((0 : Int32), M3)
    else
      (f_X0_addStep n a0 a1 (1 : Int32) v1.1 x2 (0 : Int32) M3).bind fun (v4 : (Int32 × KM)) =>
      if v4.1 = 0 then
        some ((0 : Int32), v4.2)
      else
        some ((1 : Int32), v4.2)
  ) : Int32 → KM → Option (Int32 × KM)) fun j20 =>
  if v1.1 = (-1 : Int32) then
    j20 (-1 : Int32) v1.2
  else
    (f_X9_takePlace n a0 a2 v1.2).bind fun (v7 : (Int32 × KM)) =>
    j20 v7.1 v7.2
def f_X0_readLead (n : Nat) (a0 : Nat) (a1 : Nat) (a2 : Nat) (M : KM) : Option (Int32 × KM) :=
  (f_X9_takePerson n a0 a2 M).bind fun (v1 : (Int32 × KM)) =>
  lt (fun (x2 : Int32) (M3 : KM) => (
    if x2 = (-1 : Int32) then
      some ((0 : Int32), M3)
    else
      if v1.1 = x2 then
        lt (f_X9_failTaken a0 (5 : Int32) M3) fun (v8 : (Int32 × KM)) =>
        some (v8.1, v8.2)
      else
        (f_X9_takePlace n a0 a2 M3).bind fun (v4 : (Int32 × KM)) =>
        if v4.1 = (-1 : Int32) then
          some ((0 : Int32), v4.2)
        else
          (f_X0_addStep n a0 a1 (2 : Int32) v1.1 x2 v4.1 v4.2).bind fun (v5 : (Int32 × KM)) =>
          if v5.1 = 0 then
            some ((0 : Int32), v5.2)
          else
            some ((1 : Int32), v5.2)
  ) : Int32 → KM → Option (Int32 × KM)) fun j20 =>
  if v1.1 = (-1 : Int32) then
    j20 (-1 : Int32) v1.2
  else
    (f_X9_takePerson n a0 a2 v1.2).bind fun (v11 : (Int32 × KM)) =>
    j20 v11.1 v11.2
def f_X0_startBlock (n : Nat) (a0 : Nat) (a1 : Nat) (M : KM) : Option (Int32 × KM) :=
  lt ((
    (f_X0_start n a0 a1 M).bind fun (v1 : (Int32 × KM)) =>
    if v1.1 = 0 then
      some ((0 : Int32), v1.2)
    else
      if ix (v1.2.1 a0 13) 3 then
      lt (uI v1.2 (a0 + 3) ((v1.2.1 a0 13)).toNatClampNeg (v1.2.1 a1 5)) fun (M3 : KM) =>
      lt (uI M3 a0 13 ((M3.1 a0 13) + (1 : Int32))) fun (M4 : KM) =>
      some ((1 : Int32), M4)
      else none
  ) : Option (Int32 × KM)) fun j24 =>
  if (30 : Int32) ≤ (M.1 a1 6) then
    j24
  else
    if (M.1 a0 13) < (3 : Int32) then
      j24
    else
      lt (f_X9_fail a0 (7 : Int32) M) fun (v6 : (Int32 × KM)) =>
      some (v6.1, v6.2)
def f_X0_readTest (n : Nat) (a0 : Nat) (a1 : Nat) (a2 : Nat) (M : KM) : Option (Int32 × KM) :=
  (f_X9_skipWord n a0 (0 : Int32) M).bind fun (v1 : (Int32 × KM)) =>
  if v1.1 = 0 then
    (f_X9_skipWord n a0 (11 : Int32) v1.2).bind fun (v2 : (Int32 × KM)) =>
    if v2.1 = 0 then
      (f_X9_takeWord n a0 (22 : Int32) v2.2).bind fun (v3 : (Int32 × KM)) =>
      if v3.1 = 0 then
        some ((0 : Int32), v3.2)
      else
        (f_X9_takePerson n a0 a2 v3.2).bind fun (v4 : (Int32 × KM)) =>
        lt (fun (x5 : Int32) (M6 : KM) => (
          lt (fun (x7 : Int32) (M8 : KM) => (
            if x7 = (-1 : Int32) then
              some ((0 : Int32), M8)
            else
              (f_X0_addStep n a0 a1 (8 : Int32) v4.1 x5 x7 M8).bind fun (v9 : (Int32 × KM)) =>
              if v9.1 = 0 then
                some ((0 : Int32), v9.2)
              else
                some ((1 : Int32), v9.2)
          ) : Int32 → KM → Option (Int32 × KM)) fun j126 =>
          if x5 = (-1 : Int32) then
            j126 (-1 : Int32) M6
          else
            (f_X9_takeNumber n a0 (0 : Int32) (9999 : Int32) M6).bind fun (v12 : (Int32 × KM)) =>
            j126 v12.1 v12.2
        ) : Int32 → KM → Option (Int32 × KM)) fun j106 =>
        if v4.1 = (-1 : Int32) then
          j106 (-1 : Int32) v4.2
        else
          (f_X9_takeComparison n a0 v4.2).bind fun (v14 : (Int32 × KM)) =>
          j106 v14.1 v14.2
    else
      (f_X9_takePerson n a0 a2 v2.2).bind fun (v17 : (Int32 × KM)) =>
      lt (fun (x18 : Int32) (M19 : KM) => (
        if x18 = (-1 : Int32) then
          some ((0 : Int32), M19)
        else
          (f_X0_addStep n a0 a1 (6 : Int32) v17.1 x18 (0 : Int32) M19).bind fun (v20 : (Int32 × KM)) =>
          if v20.1 = 0 then
            some ((0 : Int32), v20.2)
          else
            some ((1 : Int32), v20.2)
      ) : Int32 → KM → Option (Int32 × KM)) fun j48 =>
      if v17.1 = (-1 : Int32) then
        j48 (-1 : Int32) v17.2
      else
        (f_X9_takePlace n a0 a2 v17.2).bind fun (v23 : (Int32 × KM)) =>
        j48 v23.1 v23.2
  else
    (f_X0_addStep n a0 a1 (7 : Int32) (0 : Int32) (0 : Int32) (0 : Int32) v1.2).bind fun (v26 : (Int32 × KM)) =>
    some (v26.1, v26.2)
def f_X0_readStep (n : Nat) (a0 : Nat) (a1 : Nat) (a2 : Nat) (M : KM) : Option (Int32 × KM) :=
  lt ((M.1 a0 7)) fun (v1 : Int32) =>
  if v1 = (15 : Int32) then
    (f_X0_start n a0 a1 M).bind fun (v2 : (Int32 × KM)) =>
    if v2.1 = 0 then
      some ((0 : Int32), v2.2)
    else
      (f_X0_readNumberStep n a0 a1 (0 : Int32) (600 : Int32) v2.2).bind fun (v3 : (Int32 × KM)) =>
      if v3.1 = 0 then
        some ((0 : Int32), v3.2)
      else
        some ((1 : Int32), v3.2)
  else
  if v1 = (16 : Int32) then
    (f_X0_start n a0 a1 M).bind fun (v7 : (Int32 × KM)) =>
    if v7.1 = 0 then
      some ((0 : Int32), v7.2)
    else
      (f_X0_readGo n a0 a1 a2 v7.2).bind fun (v8 : (Int32 × KM)) =>
      if v8.1 = 0 then
        some ((0 : Int32), v8.2)
      else
        some ((1 : Int32), v8.2)
  else
  if v1 = (17 : Int32) then
    (f_X0_start n a0 a1 M).bind fun (v12 : (Int32 × KM)) =>
    if v12.1 = 0 then
      some ((0 : Int32), v12.2)
    else
      (f_X0_readLead n a0 a1 a2 v12.2).bind fun (v13 : (Int32 × KM)) =>
      if v13.1 = 0 then
        some ((0 : Int32), v13.2)
      else
        some ((1 : Int32), v13.2)
  else
  if v1 = (18 : Int32) then
    (f_X0_start n a0 a1 M).bind fun (v17 : (Int32 × KM)) =>
    if v17.1 = 0 then
      some ((0 : Int32), v17.2)
    else
      (f_X0_addStep n a0 a1 (3 : Int32) (0 : Int32) (0 : Int32) (0 : Int32) v17.2).bind fun (v18 : (Int32 × KM)) =>
      if v18.1 = 0 then
        some ((0 : Int32), v18.2)
      else
        some ((1 : Int32), v18.2)
  else
  if v1 = (19 : Int32) then
    (f_X0_start n a0 a1 M).bind fun (v22 : (Int32 × KM)) =>
    if v22.1 = 0 then
      some ((0 : Int32), v22.2)
    else
      (f_X0_addStep n a0 a1 (4 : Int32) (0 : Int32) (0 : Int32) (0 : Int32) v22.2).bind fun (v23 : (Int32 × KM)) =>
      if v23.1 = 0 then
        some ((0 : Int32), v23.2)
      else
        some ((1 : Int32), v23.2)
  else
  if v1 = (20 : Int32) then
    (f_X0_start n a0 a1 M).bind fun (v27 : (Int32 × KM)) =>
    if v27.1 = 0 then
      some ((0 : Int32), v27.2)
    else
      (f_X0_addStep n a0 a1 (5 : Int32) (0 : Int32) (0 : Int32) (0 : Int32) v27.2).bind fun (v28 : (Int32 × KM)) =>
      if v28.1 = 0 then
        some ((0 : Int32), v28.2)
      else
        some ((1 : Int32), v28.2)
  else
  if v1 = (21 : Int32) then
    (f_X0_startBlock n a0 a1 M).bind fun (v32 : (Int32 × KM)) =>
    if v32.1 = 0 then
      some ((0 : Int32), v32.2)
    else
      (f_X0_readTest n a0 a1 a2 v32.2).bind fun (v33 : (Int32 × KM)) =>
      if v33.1 = 0 then
        some ((0 : Int32), v33.2)
      else
        some ((1 : Int32), v33.2)
  else
  if v1 = (22 : Int32) then
    lt (f_X9_failOrder a0 M) fun (v37 : (Int32 × KM)) =>
    some (v37.1, v37.2)
  else
  if v1 = (23 : Int32) then
    (f_X0_startBlock n a0 a1 M).bind fun (v39 : (Int32 × KM)) =>
    if v39.1 = 0 then
      some ((0 : Int32), v39.2)
    else
      (f_X0_readNumberStep n a0 a1 (9 : Int32) (99 : Int32) v39.2).bind fun (v40 : (Int32 × KM)) =>
      if v40.1 = 0 then
        some ((0 : Int32), v40.2)
      else
        some ((1 : Int32), v40.2)
  else
  if v1 = (24 : Int32) then
    lt (f_X9_failOrder a0 M) fun (v44 : (Int32 × KM)) =>
    some (v44.1, v44.2)
  else
  if v1 = (25 : Int32) then
    (f_X0_start n a0 a1 M).bind fun (v46 : (Int32 × KM)) =>
    if v46.1 = 0 then
      some ((0 : Int32), v46.2)
    else
      (f_X0_addStep n a0 a1 (11 : Int32) (0 : Int32) (0 : Int32) (0 : Int32) v46.2).bind fun (v47 : (Int32 × KM)) =>
      if v47.1 = 0 then
        some ((0 : Int32), v47.2)
      else
        some ((1 : Int32), v47.2)
  else
  lt (f_X9_failOrder a0 M) fun (v51 : (Int32 × KM)) =>
  some (v51.1, v51.2)
def lp_X0_readInto_19 (n : Nat) (a0 : Nat) (a1 : Nat) (a2 : Nat) (w5 : Int32) (M : KM) (k72 : KM → Option (Int32 × KM)) : Option (Int32 × KM) := match n with
  | 0 => none
  | n + 1 =>
    if (300 : Int32) ≤ w5 then
      k72 M
    else
      lt (f_X9_isAtEnd a0 M) fun (v4 : Int32) =>
      if v4 = 0 then
        lt (fun (x5 : Int32) (M6 : KM) => (
          if x5 = 0 then
            some ((0 : Int32), M6)
          else
            lt (w5 + (1 : Int32)) fun (v7 : Int32) =>
            lp_X0_readInto_19 n a0 a1 a2 v7 M6 k72
        ) : Int32 → KM → Option (Int32 × KM)) fun j57 =>
        if (M.1 a0 7) = (24 : Int32) then
          (f_X0_readEnd n a0 a1 M).bind fun (v10 : (Int32 × KM)) =>
          j57 v10.1 v10.2
        else
          (f_X0_readStep n a0 a1 a2 M).bind fun (v9 : (Int32 × KM)) =>
          j57 v9.1 v9.2
      else
        k72 M
def f_X0_readInto (n : Nat) (a0 : Nat) (a1 : Nat) (a2 : Nat) (a3 : Nat) (p4 : Int32) (M : KM) : Option (Int32 × KM) :=
  lt (f_X8_clear a1 M) fun (v1 : KM) =>
  lt (uI v1 a0 13 (0 : Int32)) fun (M2 : KM) =>
  (f_X9_begin n a0 a3 p4 M2).bind fun (v3 : KM) =>
  lp_X0_readInto_19 n a0 a1 a2 (0 : Int32) v3
    (fun (M14 : KM) => (
      if (M14.1 a0 13) ≤ 0 then
        lt (uI M14 a1 7 (1 : Int32)) fun (M15 : KM) =>
        some ((1 : Int32), M15)
      else
        lt (f_X9_failOrder a0 M14) fun (v16 : (Int32 × KM)) =>
        some (v16.1, v16.2)
    ))
def f_X11_tell (a0 : Nat) (p1 : Int32) (M : KM) : (Int32 × KM) :=
  lt (uI M a0 15 (0 : Int32)) fun (M1 : KM) =>
  (p1, M1)
def f_X11_refuse (a0 : Nat) (p1 : Int32) (M : KM) : (Int32 × KM) :=
  lt (uI M a0 15 p1) fun (M1 : KM) =>
  ((-1 : Int32), M1)
def f_X11_tellOrNone (a0 : Nat) (p1 : Int32) (M : KM) : (Int32 × KM) :=
  if p1 = (-1 : Int32) then
    lt (f_X11_refuse a0 (8 : Int32) M) fun (v2 : (Int32 × KM)) =>
    (v2.1, v2.2)
  else
    lt (f_X11_tell a0 p1 M) fun (v1 : (Int32 × KM)) =>
    (v1.1, v1.2)
def f_X11_tellSooner (a0 : Nat) (p1 : Int32) (M : KM) : (Int32 × KM) :=
  if p1 < (1000000000 : Int32) then
    lt (f_X11_tell a0 p1 M) fun (v1 : (Int32 × KM)) =>
    (v1.1, v1.2)
  else
    lt (f_X11_refuse a0 (8 : Int32) M) fun (v2 : (Int32 × KM)) =>
    (v2.1, v2.2)
def f_X11_tellIf (a0 : Nat) (p1 : Int32) (M : KM) : (Int32 × KM) :=
  lt (fun (x1 : Int32) => (
    lt (f_X11_tell a0 x1 M) fun (v2 : (Int32 × KM)) =>
    (v2.1, v2.2)
  ) : Int32 → (Int32 × KM)) fun j10 =>
  if p1 = 0 then
    j10 (0 : Int32)
  else
    j10 (1 : Int32)
def f_X11_succeed (a0 : Nat) (M : KM) : (Int32 × KM) :=
  lt (uI M a0 15 (0 : Int32)) fun (M1 : KM) =>
  ((1 : Int32), M1)
def f_X11_deny (a0 : Nat) (p1 : Int32) (M : KM) : (Int32 × KM) :=
  lt (uI M a0 15 p1) fun (M1 : KM) =>
  ((0 : Int32), M1)
def lp_X11_feedOne_3 (n : Nat) (a0 : Nat) (c1 : Int32) (w2 : Int32) (M : KM) : Option KM := match n with
  | 0 => none
  | n + 1 =>
    if w2 < 0 then
      some M
    else
      if (900 : Int32) ≤ (M.1 a0 13) then
        some M
      else
        if ix (M.1 a0 13) 900 then
        lt (uI M (a0 + 2) ((M.1 a0 13)).toNatClampNeg (vp_nar .byte ((c1 >>> (w2 &&& 31))).toInt8.toInt32)) fun (M2 : KM) =>
        lt (uI M2 a0 13 ((M2.1 a0 13) + (1 : Int32))) fun (M3 : KM) =>
        lt (w2 + (-8 : Int32)) fun (v4 : Int32) =>
        lp_X11_feedOne_3 n a0 c1 v4 M3
        else none
def f_X11_feedOne (n : Nat) (a0 : Nat) (p1 : Int32) (M : KM) : Option KM :=
  lp_X11_feedOne_3 n a0 p1 (24 : Int32) M
def f_X11_feed (n : Nat) (a0 : Nat) (p1 : Int32) (p2 : Int32) (p3 : Int32) (p4 : Int32) (p5 : Int32) (M : KM) : Option (Int32 × KM) :=
  if ((M.1 a0 13) + (20 : Int32)) ≤ (900 : Int32) then
    (f_X11_feedOne n a0 p1 M).bind fun (v1 : KM) =>
    (f_X11_feedOne n a0 p2 v1).bind fun (v2 : KM) =>
    (f_X11_feedOne n a0 p3 v2).bind fun (v3 : KM) =>
    (f_X11_feedOne n a0 p4 v3).bind fun (v4 : KM) =>
    (f_X11_feedOne n a0 p5 v4).bind fun (v5 : KM) =>
    some ((v5.1 a0 13), v5)
  else
    some ((-1 : Int32), M)
def f_X11_keepFault (a0 : Nat) (a1 : Nat) (M : KM) : KM :=
  lt (uI M a0 13 (0 : Int32)) fun (M1 : KM) =>
  lt (uI M1 a0 16 (M1.1 a1 4)) fun (M2 : KM) =>
  lt (uI M2 a0 17 (M2.1 a1 5)) fun (M3 : KM) =>
  M3
def f_X11_land (n : Nat) (a0 : Nat) (p1 : Int32) (M : KM) : Option (Int32 × KM) :=
  lt ((
    lt (f_X11_refuse a0 (5 : Int32) M) fun (v1 : (Int32 × KM)) =>
    some (v1.1, v1.2)
  ) : Option (Int32 × KM)) fun j12 =>
  if p1 < 0 then
    j12
  else
    if p1 ≤ (M.1 a0 13) then
      (f_X3_readInto n (a0 + 5) (M.2.2 a0 11) (a0 + 2) p1 M).bind fun (v3 : (Int32 × KM)) =>
      lt (f_X11_keepFault a0 (a0 + 5) v3.2) fun (v4 : KM) =>
      if v3.1 = 0 then
        lt (f_X11_refuse a0 (10 : Int32) v4) fun (v12 : (Int32 × KM)) =>
        some (v12.1, v12.2)
      else
        lt ((v4.2.2 a0 10)) fun (v6 : Nat) =>
        lt (uR v4 a0 10 (v4.2.2 a0 11)) fun (M8 : KM) =>
        lt (uR M8 a0 11 v6) fun (M9 : KM) =>
        lt (f_X11_tell a0 (M9.1 (M9.2.2 a0 10) 10) M9) fun (v11 : (Int32 × KM)) =>
        some (v11.1, v11.2)
    else
      j12
def f_X11_days (n : Nat) (a0 : Nat) (p1 : Int32) (M : KM) : Option (Int32 × KM) :=
  lt ((
    lt (f_X11_refuse a0 (5 : Int32) M) fun (v1 : (Int32 × KM)) =>
    some (v1.1, v1.2)
  ) : Option (Int32 × KM)) fun j19 =>
  if p1 < 0 then
    j19
  else
    if (M.1 a0 13) < p1 then
      j19
    else
      if p1 ≤ (300 : Int32) then
        (f_X0_readInto n (a0 + 8) (M.2.2 a0 12) (M.2.2 a0 10) (a0 + 2) p1 M).bind fun (v4 : (Int32 × KM)) =>
        lt (f_X11_keepFault a0 (a0 + 8) v4.2) fun (v5 : KM) =>
        if v4.1 = 0 then
          lt (f_X11_refuse a0 (10 : Int32) v5) fun (v16 : (Int32 × KM)) =>
          some (v16.1, v16.2)
        else
          lt ((v5.2.2 (v5.2.2 a0 10) 7)) fun (v8 : Nat) =>
          lt (uR v5 (v5.2.2 a0 10) 7 (v5.2.2 a0 12)) fun (M11 : KM) =>
          lt (uR M11 a0 12 v8) fun (M12 : KM) =>
          lt (f_X11_tell a0 (M12.1 (M12.2.2 (M12.2.2 a0 10) 7) 6) M12) fun (v15 : (Int32 × KM)) =>
          some (v15.1, v15.2)
      else
        j19
def f_X11_many (n : Nat) (a0 : Nat) (p1 : Int32) (M : KM) : Option (Int32 × KM) :=
  if p1 = (0 : Int32) then
    lt (f_X11_tell a0 (M.1 (M.2.2 a0 10) 8) M) fun (v2 : (Int32 × KM)) =>
    some (v2.1, v2.2)
  else
  if p1 = (1 : Int32) then
    lt (f_X11_tell a0 (M.1 (M.2.2 a0 10) 9) M) fun (v5 : (Int32 × KM)) =>
    some (v5.1, v5.2)
  else
  if p1 = (2 : Int32) then
    lt (f_X11_tell a0 (M.1 (M.2.2 a0 10) 10) M) fun (v8 : (Int32 × KM)) =>
    some (v8.1, v8.2)
  else
  if p1 = (3 : Int32) then
    lt (f_X11_tell a0 (M.1 ((M.2.2 a0 10) + 7) 0) M) fun (v11 : (Int32 × KM)) =>
    some (v11.1, v11.2)
  else
  if p1 = (4 : Int32) then
    lt (f_X11_tell a0 (M.1 ((M.2.2 a0 10) + 7) 1) M) fun (v14 : (Int32 × KM)) =>
    some (v14.1, v14.2)
  else
  if p1 = (5 : Int32) then
    lt (f_X11_tell a0 (M.1 (M.2.2 a0 10) 11) M) fun (v17 : (Int32 × KM)) =>
    some (v17.1, v17.2)
  else
  if p1 = (6 : Int32) then
    lt (f_X11_tell a0 (M.1 (M.2.2 a0 10) 12) M) fun (v20 : (Int32 × KM)) =>
    some (v20.1, v20.2)
  else
  if p1 = (7 : Int32) then
    lt (f_X11_tell a0 (M.1 (M.2.2 a0 10) 13) M) fun (v23 : (Int32 × KM)) =>
    some (v23.1, v23.2)
  else
  if p1 = (8 : Int32) then
    lt (f_X11_tell a0 (M.1 (M.2.2 a0 10) 14) M) fun (v26 : (Int32 × KM)) =>
    some (v26.1, v26.2)
  else
  if p1 = (9 : Int32) then
    (f_X2_isGlaring n (M.2.2 a0 10) (M.1 (M.2.2 a0 10) 11) M).bind fun (v30 : Int32) =>
    lt (f_X11_tellIf a0 v30 M) fun (v31 : (Int32 × KM)) =>
    some (v31.1, v31.2)
  else
  if p1 = (10 : Int32) then
    lt (f_X11_tellIf a0 (M.1 (M.2.2 a0 10) 15) M) fun (v34 : (Int32 × KM)) =>
    some (v34.1, v34.2)
  else
  if p1 = (11 : Int32) then
    (f_X2_blindSet n (M.2.2 a0 10) M).bind fun (v37 : Int32) =>
    lt (f_X11_tell a0 v37 M) fun (v38 : (Int32 × KM)) =>
    some (v38.1, v38.2)
  else
  if p1 = (12 : Int32) then
    (f_X2_walkingSet n (M.2.2 a0 10) M).bind fun (v41 : Int32) =>
    lt (f_X11_tell a0 v41 M) fun (v42 : (Int32 × KM)) =>
    some (v42.1, v42.2)
  else
  if p1 = (13 : Int32) then
    (f_X2_ledSet n (M.2.2 a0 10) M).bind fun (v45 : Int32) =>
    lt (f_X11_tell a0 v45 M) fun (v46 : (Int32 × KM)) =>
    some (v46.1, v46.2)
  else
  if p1 = (14 : Int32) then
    (f_X2_lostOfAll n (M.2.2 a0 10) M).bind fun (v49 : Int32) =>
    lt (f_X11_tell a0 v49 M) fun (v50 : (Int32 × KM)) =>
    some (v50.1, v50.2)
  else
  lt (f_X11_refuse a0 (5 : Int32) M) fun (v52 : (Int32 × KM)) =>
  some (v52.1, v52.2)
def f_X11_roadOf (n : Nat) (a0 : Nat) (p1 : Int32) (p2 : Int32) (M : KM) : Option (Int32 × KM) :=
  lt (f_X2_hasPlace (M.2.2 a0 10) p1 M) fun (v2 : Int32) =>
  lt ((
    lt (f_X11_refuse a0 (2 : Int32) M) fun (v3 : (Int32 × KM)) =>
    some (v3.1, v3.2)
  ) : Option (Int32 × KM)) fun j22 =>
  if v2 = 0 then
    j22
  else
    lt (f_X2_hasPlace (M.2.2 a0 10) p2 M) fun (v5 : Int32) =>
    if v5 = 0 then
      j22
    else
      (f_X2_roadBetween n (M.2.2 a0 10) p1 p2 M).bind fun (v7 : Int32) =>
      lt (f_X11_tellOrNone a0 v7 M) fun (v8 : (Int32 × KM)) =>
      some (v8.1, v8.2)
def f_X11_person (n : Nat) (a0 : Nat) (p1 : Int32) (p2 : Int32) (M : KM) : Option (Int32 × KM) :=
  lt (f_X2_hasPerson (M.2.2 a0 10) p1 M) fun (v2 : Int32) =>
  if v2 = 0 then
    lt (f_X11_refuse a0 (2 : Int32) M) fun (v21 : (Int32 × KM)) =>
    some (v21.1, v21.2)
  else
    if ix p1 8 then
    lt ((((M.2.2 a0 10) + 6) + 8 + 3 * (p1).toNatClampNeg)) fun (v5 : Nat) =>
    if p2 = (0 : Int32) then
      lt (f_X11_tellOrNone a0 (M.1 v5 5) M) fun (v6 : (Int32 × KM)) =>
      some (v6.1, v6.2)
    else
    if p2 = (1 : Int32) then
      lt (f_X11_tellOrNone a0 (M.1 v5 8) M) fun (v8 : (Int32 × KM)) =>
      some (v8.1, v8.2)
    else
    if p2 = (2 : Int32) then
      (f_X2_leftOf n (M.2.2 a0 10) p1 M).bind fun (v11 : Int32) =>
      lt (f_X11_tell a0 v11 M) fun (v12 : (Int32 × KM)) =>
      some (v12.1, v12.2)
    else
    if p2 = (3 : Int32) then
      lt (f_X11_tellOrNone a0 (M.1 v5 9) M) fun (v14 : (Int32 × KM)) =>
      some (v14.1, v14.2)
    else
    if p2 = (4 : Int32) then
      lt (f_X11_tell a0 (M.1 v5 11) M) fun (v16 : (Int32 × KM)) =>
      some (v16.1, v16.2)
    else
    if p2 = (5 : Int32) then
      lt (f_X11_tellIf a0 (M.1 v5 4) M) fun (v18 : (Int32 × KM)) =>
      some (v18.1, v18.2)
    else
    lt (f_X11_refuse a0 (5 : Int32) M) fun (v20 : (Int32 × KM)) =>
    some (v20.1, v20.2)
    else none
def f_X11_whyNoTwo (a0 : Nat) (p1 : Int32) (p2 : Int32) (M : KM) : Int32 :=
  lt (f_X2_hasPerson (M.2.2 a0 10) p1 M) fun (v2 : Int32) =>
  if v2 = 0 then
    (2 : Int32)
  else
    lt (f_X2_hasPerson (M.2.2 a0 10) p2 M) fun (v4 : Int32) =>
    if v4 = 0 then
      (2 : Int32)
    else
      if p1 = p2 then
        (9 : Int32)
      else
        (0 : Int32)
def f_X11_owes (n : Nat) (a0 : Nat) (p1 : Int32) (p2 : Int32) (M : KM) : Option (Int32 × KM) :=
  lt (f_X11_whyNoTwo a0 p1 p2 M) fun (v1 : Int32) =>
  if v1 = 0 then
    if ix p1 8 then
    if ix p2 8 then
    lt (f_X11_tell a0 (M.1 ((((M.2.2 a0 10) + 6) + 8 + 3 * (p1).toNatClampNeg) + 2) (p2).toNatClampNeg) M) fun (v5 : (Int32 × KM)) =>
    some (v5.1, v5.2)
    else none
    else none
  else
    lt (f_X11_refuse a0 v1 M) fun (v6 : (Int32 × KM)) =>
    some (v6.1, v6.2)
def f_X11_net (n : Nat) (a0 : Nat) (p1 : Int32) (M : KM) : Option (Int32 × KM) :=
  lt (f_X2_hasPerson (M.2.2 a0 10) p1 M) fun (v2 : Int32) =>
  if v2 = 0 then
    lt (f_X11_refuse a0 (2 : Int32) M) fun (v6 : (Int32 × KM)) =>
    some (v6.1, v6.2)
  else
    (f_X2_owedTo n (M.2.2 a0 10) p1 M).bind fun (v4 : Int32) =>
    lt (f_X11_tell a0 v4 M) fun (v5 : (Int32 × KM)) =>
    some (v5.1, v5.2)
def f_X11_passes (n : Nat) (a0 : Nat) (p1 : Int32) (M : KM) : Option (Int32 × KM) :=
  lt ((
    lt (f_X11_refuse a0 (5 : Int32) M) fun (v1 : (Int32 × KM)) =>
    some (v1.1, v1.2)
  ) : Option (Int32 × KM)) fun j12 =>
  if p1 < (1 : Int32) then
    j12
  else
    if p1 ≤ (999 : Int32) then
      (f_X2_passMinutes n (M.2.2 a0 10) p1 M).bind fun (v3 : (Int32 × KM)) =>
      if v3.1 = (-1 : Int32) then
        lt (f_X11_refuse a0 (7 : Int32) v3.2) fun (v5 : (Int32 × KM)) =>
        some (v5.1, v5.2)
      else
        lt (f_X11_tell a0 v3.1 v3.2) fun (v4 : (Int32 × KM)) =>
        some (v4.1, v4.2)
    else
      j12
def f_X11_go (n : Nat) (a0 : Nat) (p1 : Int32) (p2 : Int32) (M : KM) : Option (Int32 × KM) :=
  lt (f_X2_hasPerson (M.2.2 a0 10) p1 M) fun (v2 : Int32) =>
  lt ((
    lt (f_X11_refuse a0 (2 : Int32) M) fun (v3 : (Int32 × KM)) =>
    some (v3.1, v3.2)
  ) : Option (Int32 × KM)) fun j22 =>
  if v2 = 0 then
    j22
  else
    lt (f_X2_hasPlace (M.2.2 a0 10) p2 M) fun (v5 : Int32) =>
    if v5 = 0 then
      j22
    else
      (f_X2_setOut n (M.2.2 a0 10) p1 (0 : Int32) p2 M).bind fun (v7 : (Int32 × KM)) =>
      if v7.1 = (-1 : Int32) then
        lt (f_X11_refuse a0 (9 : Int32) v7.2) fun (v9 : (Int32 × KM)) =>
        some (v9.1, v9.2)
      else
        lt (f_X11_tell a0 v7.1 v7.2) fun (v8 : (Int32 × KM)) =>
        some (v8.1, v8.2)
def f_X11_lead (n : Nat) (a0 : Nat) (p1 : Int32) (p2 : Int32) (p3 : Int32) (M : KM) : Option (Int32 × KM) :=
  lt (f_X2_hasPerson (M.2.2 a0 10) p1 M) fun (v2 : Int32) =>
  lt ((
    lt (f_X11_refuse a0 (2 : Int32) M) fun (v3 : (Int32 × KM)) =>
    some (v3.1, v3.2)
  ) : Option (Int32 × KM)) fun j22 =>
  if v2 = 0 then
    j22
  else
    lt (f_X2_hasPlace (M.2.2 a0 10) p3 M) fun (v5 : Int32) =>
    if v5 = 0 then
      j22
    else
      lt (f_X2_isTeam (M.2.2 a0 10) p1 p2 M) fun (v7 : Int32) =>
      if v7 = 0 then
        lt (f_X11_refuse a0 (5 : Int32) M) fun (v13 : (Int32 × KM)) =>
        some (v13.1, v13.2)
      else
        (f_X2_setOut n (M.2.2 a0 10) p1 p2 p3 M).bind fun (v9 : (Int32 × KM)) =>
        if v9.1 = (-1 : Int32) then
          lt (f_X11_refuse a0 (9 : Int32) v9.2) fun (v11 : (Int32 × KM)) =>
          some (v11.1, v11.2)
        else
          lt (f_X11_tell a0 v9.1 v9.2) fun (v10 : (Int32 × KM)) =>
          some (v10.1, v10.2)
def f_X11_cloud (n : Nat) (a0 : Nat) (p1 : Int32) (M : KM) : Option (Int32 × KM) :=
  if (M.1 (M.2.2 a0 10) 15) = p1 then
    lt (f_X11_deny a0 (9 : Int32) M) fun (v6 : (Int32 × KM)) =>
    some (v6.1, v6.2)
  else
    if p1 = 0 ∨ p1 = 1 then
    lt (uI M (M.2.2 a0 10) 15 p1) fun (M4 : KM) =>
    lt (f_X11_succeed a0 M4) fun (v5 : (Int32 × KM)) =>
    some (v5.1, v5.2)
    else none
def f_X11_plant (n : Nat) (a0 : Nat) (p1 : Int32) (p2 : Int32) (M : KM) : Option (Int32 × KM) :=
  lt (f_X2_hasRoad (M.2.2 a0 10) p1 M) fun (v2 : Int32) =>
  if v2 = 0 then
    lt (f_X11_deny a0 (2 : Int32) M) fun (v11 : (Int32 × KM)) =>
    some (v11.1, v11.2)
  else
    if ix p1 12 then
    if (M.1 ((M.2.2 a0 10) + 5) (p1).toNatClampNeg) = p2 then
      lt (f_X11_deny a0 (9 : Int32) M) fun (v9 : (Int32 × KM)) =>
      some (v9.1, v9.2)
    else
      if ix p1 12 then
      lt (uI M ((M.2.2 a0 10) + 5) (p1).toNatClampNeg (vp_nar .boolean p2)) fun (M7 : KM) =>
      lt (f_X11_succeed a0 M7) fun (v8 : (Int32 × KM)) =>
      some (v8.1, v8.2)
      else none
    else none
def f_X11_can (n : Nat) (a0 : Nat) (p1 : Int32) (p2 : Int32) (M : KM) : Option (Int32 × KM) :=
  lt (f_X2_hasPerson (M.2.2 a0 10) p1 M) fun (v2 : Int32) =>
  lt ((
    lt (f_X11_refuse a0 (2 : Int32) M) fun (v3 : (Int32 × KM)) =>
    some (v3.1, v3.2)
  ) : Option (Int32 × KM)) fun j22 =>
  if v2 = 0 then
    j22
  else
    lt (f_X2_hasRoad (M.2.2 a0 10) p2 M) fun (v5 : Int32) =>
    if v5 = 0 then
      j22
    else
      (f_X2_isAble n (M.2.2 a0 10) p1 p2 M).bind fun (v7 : Int32) =>
      lt (f_X11_tellIf a0 v7 M) fun (v8 : (Int32 × KM)) =>
      some (v8.1, v8.2)
def f_X11_stuck (n : Nat) (a0 : Nat) (M : KM) : Option (Int32 × KM) :=
  (f_X2_stuckSet n (M.2.2 a0 10) M).bind fun (v2 : Int32) =>
  lt (f_X11_tell a0 v2 M) fun (v3 : (Int32 × KM)) =>
  some (v3.1, v3.2)
def f_X11_whyNotAtPlace (n : Nat) (a0 : Nat) (p1 : Int32) (M : KM) : Option Int32 :=
  lt (f_X2_hasPerson (M.2.2 a0 10) p1 M) fun (v2 : Int32) =>
  if v2 = 0 then
    some (2 : Int32)
  else
    if ix p1 8 then
    lt (f_X7_isAtPlace (((M.2.2 a0 10) + 6) + 8 + 3 * (p1).toNatClampNeg) M) fun (v5 : Int32) =>
    if v5 = 0 then
      some (9 : Int32)
    else
      some (0 : Int32)
    else none
def f_X11_reach (n : Nat) (a0 : Nat) (p1 : Int32) (M : KM) : Option (Int32 × KM) :=
  (f_X11_whyNotAtPlace n a0 p1 M).bind fun (v1 : Int32) =>
  if v1 = 0 then
    (f_X2_reachSet n (M.2.2 a0 10) p1 M).bind fun (v3 : Int32) =>
    lt (f_X11_tell a0 v3 M) fun (v4 : (Int32 × KM)) =>
    some (v4.1, v4.2)
  else
    lt (f_X11_refuse a0 v1 M) fun (v5 : (Int32 × KM)) =>
    some (v5.1, v5.2)
def f_X11_whyNoWay (n : Nat) (a0 : Nat) (p1 : Int32) (p2 : Int32) (M : KM) : Option Int32 :=
  lt (f_X2_hasPlace (M.2.2 a0 10) p2 M) fun (v2 : Int32) =>
  if v2 = 0 then
    some (2 : Int32)
  else
    (f_X11_whyNotAtPlace n a0 p1 M).bind fun (v3 : Int32) =>
    some v3
def f_X11_soonest (n : Nat) (a0 : Nat) (p1 : Int32) (p2 : Int32) (M : KM) : Option (Int32 × KM) :=
  (f_X11_whyNoWay n a0 p1 p2 M).bind fun (v1 : Int32) =>
  if v1 = 0 then
    (f_X6_minutesTo n (a0 + 14) (M.2.2 a0 10) p1 (-1 : Int32) p2 M).bind fun (v3 : (Int32 × KM)) =>
    lt (f_X11_tellSooner a0 v3.1 v3.2) fun (v4 : (Int32 × KM)) =>
    some (v4.1, v4.2)
  else
    lt (f_X11_refuse a0 v1 M) fun (v5 : (Int32 × KM)) =>
    some (v5.1, v5.2)
def f_X11_soonestFirst (n : Nat) (a0 : Nat) (p1 : Int32) (p2 : Int32) (M : KM) : Option (Int32 × KM) :=
  (f_X11_whyNoWay n a0 p1 p2 M).bind fun (v1 : Int32) =>
  if v1 = 0 then
    if ix p1 8 then
    if (M.1 (((M.2.2 a0 10) + 6) + 8 + 3 * (p1).toNatClampNeg) 5) = p2 then
      lt (f_X11_refuse a0 (9 : Int32) M) fun (v7 : (Int32 × KM)) =>
      some (v7.1, v7.2)
    else
      (f_X6_firstPlaceTo n (a0 + 14) (M.2.2 a0 10) p1 p2 M).bind fun (v5 : (Int32 × KM)) =>
      lt (f_X11_tellOrNone a0 v5.1 v5.2) fun (v6 : (Int32 × KM)) =>
      some (v6.1, v6.2)
    else none
  else
    lt (f_X11_refuse a0 v1 M) fun (v9 : (Int32 × KM)) =>
    some (v9.1, v9.2)
def f_X11_whyNoTwoAtPlaces (n : Nat) (a0 : Nat) (p1 : Int32) (p2 : Int32) (M : KM) : Option Int32 :=
  lt (f_X11_whyNoTwo a0 p1 p2 M) fun (v1 : Int32) =>
  if v1 = 0 then
    (f_X11_whyNotAtPlace n a0 p1 M).bind fun (v2 : Int32) =>
    (f_X11_whyNotAtPlace n a0 p2 M).bind fun (v3 : Int32) =>
    lt ((if v2 < v3 then v3 else v2)) fun (v4 : Int32) =>
    some v4
  else
    some v1
def f_X11_soonestTwo (n : Nat) (a0 : Nat) (p1 : Int32) (p2 : Int32) (p3 : Int32) (M : KM) : Option (Int32 × KM) :=
  lt (f_X2_hasPlace (M.2.2 a0 10) p3 M) fun (v2 : Int32) =>
  if v2 = 0 then
    lt (f_X11_refuse a0 (2 : Int32) M) fun (v15 : (Int32 × KM)) =>
    some (v15.1, v15.2)
  else
    (f_X11_whyNoTwoAtPlaces n a0 p1 p2 M).bind fun (v3 : Int32) =>
    if v3 = 0 then
      if ix p1 8 then
      if ix p2 8 then
      if (M.1 (((M.2.2 a0 10) + 6) + 8 + 3 * (p1).toNatClampNeg) 5) = (M.1 (((M.2.2 a0 10) + 6) + 8 + 3 * (p2).toNatClampNeg) 5) then
        (f_X6_minutesTo n (a0 + 14) (M.2.2 a0 10) p1 p2 p3 M).bind fun (v9 : (Int32 × KM)) =>
        lt (f_X11_tellSooner a0 v9.1 v9.2) fun (v10 : (Int32 × KM)) =>
        some (v10.1, v10.2)
      else
        lt (f_X11_refuse a0 (9 : Int32) M) fun (v11 : (Int32 × KM)) =>
        some (v11.1, v11.2)
      else none
      else none
    else
      lt (f_X11_refuse a0 v3 M) fun (v13 : (Int32 × KM)) =>
      some (v13.1, v13.2)
def f_X11_meet (n : Nat) (a0 : Nat) (p1 : Int32) (p2 : Int32) (M : KM) : Option (Int32 × KM) :=
  (f_X11_whyNoTwoAtPlaces n a0 p1 p2 M).bind fun (v1 : Int32) =>
  if v1 = 0 then
    (f_X6_findMeeting n (a0 + 14) (M.2.2 a0 10) p1 p2 M).bind fun (v3 : KM) =>
    lt (f_X11_tellOrNone a0 (v3.1 (a0 + 14) 4) v3) fun (v4 : (Int32 × KM)) =>
    some (v4.1, v4.2)
  else
    lt (f_X11_refuse a0 v1 M) fun (v5 : (Int32 × KM)) =>
    some (v5.1, v5.2)
def f_X11_meetIn (n : Nat) (a0 : Nat) (p1 : Int32) (p2 : Int32) (M : KM) : Option (Int32 × KM) :=
  (f_X11_whyNoTwoAtPlaces n a0 p1 p2 M).bind fun (v1 : Int32) =>
  if v1 = 0 then
    (f_X6_findMeeting n (a0 + 14) (M.2.2 a0 10) p1 p2 M).bind fun (v3 : KM) =>
    lt (f_X11_tellSooner a0 (v3.1 (a0 + 14) 5) v3) fun (v4 : (Int32 × KM)) =>
    some (v4.1, v4.2)
  else
    lt (f_X11_refuse a0 v1 M) fun (v5 : (Int32 × KM)) =>
    some (v5.1, v5.2)
def f_X11_whyNoPlanting (n : Nat) (a0 : Nat) (p1 : Int32) (p2 : Int32) (M : KM) : Option Int32 :=
  (f_X11_whyNoWay n a0 p1 p2 M).bind fun (v1 : Int32) =>
  if v1 = 0 then
    if ix p1 8 then
    if (M.1 (((M.2.2 a0 10) + 6) + 8 + 3 * (p1).toNatClampNeg) 3) = 0 then
      some (0 : Int32)
    else
      some (9 : Int32)
    else none
  else
    some v1
def f_X11_plantSet (n : Nat) (a0 : Nat) (p1 : Int32) (p2 : Int32) (M : KM) : Option (Int32 × KM) :=
  (f_X11_whyNoPlanting n a0 p1 p2 M).bind fun (v1 : Int32) =>
  if v1 = 0 then
    (f_X6_plantingCost n (a0 + 14) (M.2.2 a0 10) p1 p2 M).bind fun (v3 : (Int32 × KM)) =>
    if v3.1 < (1000000000 : Int32) then
      lt (f_X11_tell a0 (v3.1 - v3.1 / (4096 : Int32) * (4096 : Int32)) v3.2) fun (v4 : (Int32 × KM)) =>
      some (v4.1, v4.2)
    else
      lt (f_X11_refuse a0 (8 : Int32) v3.2) fun (v5 : (Int32 × KM)) =>
      some (v5.1, v5.2)
  else
    lt (f_X11_refuse a0 v1 M) fun (v7 : (Int32 × KM)) =>
    some (v7.1, v7.2)
def f_X11_pair (n : Nat) (a0 : Nat) (p1 : Int32) (M : KM) : Option (Int32 × KM) :=
  lt (f_X2_hasPerson (M.2.2 a0 10) p1 M) fun (v2 : Int32) =>
  if v2 = 0 then
    lt (f_X11_refuse a0 (2 : Int32) M) fun (v7 : (Int32 × KM)) =>
    some (v7.1, v7.2)
  else
    (f_X5_findPairs n (a0 + 19) (M.2.2 a0 10) M).bind fun (v4 : KM) =>
    if ix p1 8 then
    lt (f_X11_tellOrNone a0 (v4.1 ((a0 + 19) + 1) (p1).toNatClampNeg) v4) fun (v6 : (Int32 × KM)) =>
    some (v6.1, v6.2)
    else none
def f_X11_pairs (n : Nat) (a0 : Nat) (M : KM) : Option (Int32 × KM) :=
  (f_X5_findPairs n (a0 + 19) (M.2.2 a0 10) M).bind fun (v2 : KM) =>
  (f_X5_countPairs n (a0 + 19) (v2.2.2 a0 10) v2).bind fun (v4 : Int32) =>
  lt (f_X11_tell a0 v4 v2) fun (v5 : (Int32 × KM)) =>
  some (v5.1, v5.2)
def f_X11_pairsOwe (n : Nat) (a0 : Nat) (M : KM) : Option (Int32 × KM) :=
  (f_X5_findPairs n (a0 + 19) (M.2.2 a0 10) M).bind fun (v2 : KM) =>
  (f_X5_sumOwed n (a0 + 19) (v2.2.2 a0 10) v2).bind fun (v4 : Int32) =>
  lt (f_X11_tell a0 v4 v2) fun (v5 : (Int32 × KM)) =>
  some (v5.1, v5.2)
def f_X11_lostIn (n : Nat) (a0 : Nat) (p1 : Int32) (M : KM) : Option (Int32 × KM) :=
  lt ((
    lt (f_X11_refuse a0 (5 : Int32) M) fun (v1 : (Int32 × KM)) =>
    some (v1.1, v1.2)
  ) : Option (Int32 × KM)) fun j11 =>
  if p1 < 0 then
    j11
  else
    if p1 ≤ (999 : Int32) then
      (f_X2_lostWithin n (M.2.2 a0 10) p1 ((M.2.2 a0 10) + 7) M).bind fun (v4 : Int32) =>
      lt (f_X11_tell a0 v4 M) fun (v5 : (Int32 × KM)) =>
      some (v5.1, v5.2)
    else
      j11
def f_X11_lostBy (n : Nat) (a0 : Nat) (p1 : Int32) (p2 : Int32) (p3 : Int32) (M : KM) : Option (Int32 × KM) :=
  lt ((
    lt (f_X11_refuse a0 (5 : Int32) M) fun (v1 : (Int32 × KM)) =>
    some (v1.1, v1.2)
  ) : Option (Int32 × KM)) fun j19 =>
  if p1 < 0 then
    j19
  else
    if (999 : Int32) < p1 then
      j19
    else
      lt (f_X1_canBe p2 p3 M) fun (v2 : Int32) =>
      if v2 = 0 then
        j19
      else
        lt (f_X1_set (a0 + 22) p2 p3 M) fun (v3 : KM) =>
        (f_X2_lostWithin n (v3.2.2 a0 10) p1 (a0 + 22) v3).bind fun (v5 : Int32) =>
        lt (f_X11_tell a0 v5 v3) fun (v6 : (Int32 × KM)) =>
        some (v6.1, v6.2)
def lp_X11_bestFrom_48 (n : Nat) (a0 : Nat) (c1 : Int32) (c2 : Int32) (w3 : Int32) (w4 : Int32) (w5 : Int32) (M : KM) (k107 : Int32 → KM → Option (Int32 × KM)) : Option (Int32 × KM) := match n with
  | 0 => none
  | n + 1 =>
    if (23 : Int32) < w5 then
      k107 w3 M
    else
      lt ((if (w5 + c2) < (24 : Int32) then (w5 + c2) else (24 : Int32))) fun (v5 : Int32) =>
      lt (f_X1_set (a0 + 22) w5 v5 M) fun (v6 : KM) =>
      (f_X2_lostWithin n (v6.2.2 a0 10) c1 (a0 + 22) v6).bind fun (v8 : Int32) =>
      lt (fun (x9 : Int32) (x10 : Int32) => (
        lt (w5 + (1 : Int32)) fun (v11 : Int32) =>
        lp_X11_bestFrom_48 n a0 c1 c2 x9 x10 v11 v6 k107
      ) : Int32 → Int32 → Option (Int32 × KM)) fun j101 =>
      if w4 ≤ v8 then
        j101 w3 w4
      else
        j101 w5 v8
def f_X11_bestFrom (n : Nat) (a0 : Nat) (p1 : Int32) (M : KM) : Option (Int32 × KM) :=
  lt ((
    lt (f_X11_refuse a0 (5 : Int32) M) fun (v1 : (Int32 × KM)) =>
    some (v1.1, v1.2)
  ) : Option (Int32 × KM)) fun j11 =>
  if p1 < 0 then
    j11
  else
    if p1 ≤ (999 : Int32) then
      lt (((M.1 ((M.2.2 a0 10) + 7) 1) - (M.1 ((M.2.2 a0 10) + 7) 0))) fun (v4 : Int32) =>
      lp_X11_bestFrom_48 n a0 p1 v4 (0 : Int32) (1000000000 : Int32) (0 : Int32) M
        (fun (u14 : Int32) (M15 : KM) => (
          lt (f_X11_tell a0 u14 M15) fun (v16 : (Int32 × KM)) =>
          some (v16.1, v16.2)
        ))
    else
      j11
def f_X11_mark (n : Nat) (a0 : Nat) (M : KM) : Option (Int32 × KM) :=
  if (M.1 a0 14) < (3 : Int32) then
    if ix (M.1 a0 14) 3 then
    (f_X2_copyFrom n ((a0 + 3) + 110 + 38 * ((M.1 a0 14)).toNatClampNeg) (M.2.2 a0 10) M).bind fun (v3 : KM) =>
    lt (uI v3 a0 14 ((v3.1 a0 14) + (1 : Int32))) fun (M4 : KM) =>
    lt (f_X11_tell a0 (M4.1 a0 14) M4) fun (v5 : (Int32 × KM)) =>
    some (v5.1, v5.2)
    else none
  else
    lt (f_X11_refuse a0 (7 : Int32) M) fun (v6 : (Int32 × KM)) =>
    some (v6.1, v6.2)
def f_X11_back (n : Nat) (a0 : Nat) (M : KM) : Option (Int32 × KM) :=
  if (1 : Int32) ≤ (M.1 a0 14) then
    lt (uI M a0 14 ((M.1 a0 14) - (1 : Int32))) fun (M1 : KM) =>
    if ix (M1.1 a0 14) 3 then
    (f_X2_copyFrom n (M1.2.2 a0 10) ((a0 + 3) + 110 + 38 * ((M1.1 a0 14)).toNatClampNeg) M1).bind fun (v4 : KM) =>
    lt (f_X11_tell a0 (v4.1 a0 14) v4) fun (v5 : (Int32 × KM)) =>
    some (v5.1, v5.2)
    else none
  else
    lt (f_X11_refuse a0 (8 : Int32) M) fun (v6 : (Int32 × KM)) =>
    some (v6.1, v6.2)
