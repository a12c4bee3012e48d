def f_L_four (n : Nat) (a0 : Nat) (p1 : Int32) (M : KM) : Option Int32 :=
  if ix p1 24 then
  if ix (p1 + (1 : Int32)) 24 then
  if ix (p1 + (2 : Int32)) 24 then
  if ix (p1 + (3 : Int32)) 24 then
  some (((((M.1 a0 (p1).toNatClampNeg) <<< ((24 : Int32) &&& 31)) ||| ((M.1 a0 ((p1 + (1 : Int32))).toNatClampNeg) <<< ((16 : Int32) &&& 31))) ||| ((M.1 a0 ((p1 + (2 : Int32))).toNatClampNeg) <<< ((8 : Int32) &&& 31))) ||| (M.1 a0 ((p1 + (3 : Int32))).toNatClampNeg))
  else none
  else none
  else none
  else none
def lp_L_feed_5 (n : Nat) (a0 : Nat) (a1 : Nat) (w2 : Int32) (M : KM) (k22 : KM → Option KM) : Option KM := match n with
  | 0 => none
  | n + 1 =>
    if (20 : Int32) ≤ w2 then
      k22 M
    else
      if ix w2 24 then
      lt (uI M a1 (w2).toNatClampNeg (32 : Int32)) fun (M4 : KM) =>
      lt (w2 + (1 : Int32)) fun (v5 : Int32) =>
      lp_L_feed_5 n a0 a1 v5 M4 k22
      else none
def f_L_feed (n : Nat) (a0 : Nat) (a1 : Nat) (M : KM) : Option KM :=
  if ix (20 : Int32) 24 then
  lt ((M.1 a1 ((20 : Int32)).toNatClampNeg)) fun (v2 : Int32) =>
  lp_L_feed_5 n a0 a1 v2 M
    (fun (M7 : KM) => (
      (f_L_four n a1 (0 : Int32) M7).bind fun (v8 : Int32) =>
      (f_L_four n a1 (4 : Int32) M7).bind fun (v9 : Int32) =>
      (f_L_four n a1 (8 : Int32) M7).bind fun (v10 : Int32) =>
      (f_L_four n a1 (12 : Int32) M7).bind fun (v11 : Int32) =>
      (f_L_four n a1 (16 : Int32) M7).bind fun (v12 : Int32) =>
      (f_X11_feed n a0 v8 v9 v10 v11 v12 M7).bind fun (v13 : (Int32 × KM)) =>
      if ix (20 : Int32) 24 then
      lt (uI v13.2 a1 ((20 : Int32)).toNatClampNeg (0 : Int32)) fun (M15 : KM) =>
      some M15
      else none
    ))
  else none
def f_L_put (n : Nat) (a0 : Nat) (a1 : Nat) (p2 : Int32) (M : KM) : Option KM :=
  if ix (20 : Int32) 24 then
  if ix (M.1 a1 ((20 : Int32)).toNatClampNeg) 24 then
  lt (uI M a1 ((M.1 a1 ((20 : Int32)).toNatClampNeg)).toNatClampNeg p2) fun (M3 : KM) =>
  if ix (20 : Int32) 24 then
  if ix (20 : Int32) 24 then
  lt (uI M3 a1 ((20 : Int32)).toNatClampNeg ((M3.1 a1 ((20 : Int32)).toNatClampNeg) + (1 : Int32))) fun (M6 : KM) =>
  if ix (21 : Int32) 24 then
  if ix (21 : Int32) 24 then
  lt (uI M6 a1 ((21 : Int32)).toNatClampNeg ((M6.1 a1 ((21 : Int32)).toNatClampNeg) + (1 : Int32))) fun (M9 : KM) =>
  if ix (20 : Int32) 24 then
  if (M9.1 a1 ((20 : Int32)).toNatClampNeg) = (20 : Int32) then
    (f_L_feed n a0 a1 M9).bind fun (v11 : KM) =>
    some v11
  else
    some M9
  else none
  else none
  else none
  else none
  else none
  else none
  else none
def lp_L_say_2 (n : Nat) (a0 : Nat) (a1 : Nat) (q2 : Nat) (w3 : Int32) (M : KM) : Option KM := match n with
  | 0 => none
  | n + 1 =>
    if (Int32.ofNat (sLen q2)) ≤ w3 then
      some M
    else
      if ix w3 (sLen q2) then
      (f_L_put n a0 a1 (sCh q2 (w3).toNatClampNeg) M).bind fun (v2 : KM) =>
      lt (w3 + (1 : Int32)) fun (v3 : Int32) =>
      lp_L_say_2 n a0 a1 q2 v3 v2
      else none
def f_L_say (n : Nat) (a0 : Nat) (a1 : Nat) (q2 : Nat) (M : KM) : Option KM :=
  lp_L_say_2 n a0 a1 q2 (0 : Int32) M
def f_L_load (n : Nat) (a0 : Nat) (a1 : Nat) (M : KM) : Option (Int32 × KM) :=
  if ix (21 : Int32) 24 then
  lt ((M.1 a1 ((21 : Int32)).toNatClampNeg)) fun (v2 : Int32) =>
  if ix (20 : Int32) 24 then
  lt (fun (M4 : KM) => (
    if ix (21 : Int32) 24 then
    lt (uI M4 a1 ((21 : Int32)).toNatClampNeg (0 : Int32)) fun (M6 : KM) =>
    if ix (22 : Int32) 24 then
    if (M6.1 a1 ((22 : Int32)).toNatClampNeg) = 0 then
      (f_X11_land n a0 v2 M6).bind fun (v9 : (Int32 × KM)) =>
      some (v9.1, v9.2)
    else
      (f_X11_days n a0 v2 M6).bind fun (v8 : (Int32 × KM)) =>
      some (v8.1, v8.2)
    else none
    else none
  ) : KM → Option (Int32 × KM)) fun j17 =>
  if (M.1 a1 ((20 : Int32)).toNatClampNeg) ≤ 0 then
    j17 M
  else
    (f_L_feed n a0 a1 M).bind fun (v11 : KM) =>
    j17 v11
  else none
  else none
def f_L_number (n : Nat) (a0 : Nat) (a1 : Nat) (p2 : Int32) (M : KM) : Option KM :=
  (f_L_put n a0 a1 (32 : Int32) M).bind fun (v1 : KM) =>
  lt (fun (M2 : KM) => (
    lt (fun (M3 : KM) => (
      lt (fun (M4 : KM) => (
        (f_L_put n a0 a1 ((48 : Int32) + (p2 - p2 / (10 : Int32) * (10 : Int32))) M4).bind fun (v5 : KM) =>
        some v5
      ) : KM → Option KM) fun j69 =>
      if p2 ≤ (9 : Int32) then
        j69 M3
      else
        (f_L_put n a0 a1 ((48 : Int32) + ((p2 / (10 : Int32)) - (p2 / (10 : Int32)) / (10 : Int32) * (10 : Int32))) M3).bind fun (v6 : KM) =>
        j69 v6
    ) : KM → Option KM) fun j48 =>
    if p2 ≤ (99 : Int32) then
      j48 M2
    else
      (f_L_put n a0 a1 ((48 : Int32) + ((p2 / (100 : Int32)) - (p2 / (100 : Int32)) / (10 : Int32) * (10 : Int32))) M2).bind fun (v8 : KM) =>
      j48 v8
  ) : KM → Option KM) fun j27 =>
  if p2 ≤ (999 : Int32) then
    j27 v1
  else
    (f_L_put n a0 a1 ((48 : Int32) + (p2 / (1000 : Int32))) v1).bind fun (v10 : KM) =>
    j27 v10
def f_L_name (n : Nat) (a0 : Nat) (a1 : Nat) (p2 : Int32) (p3 : Int32) (M : KM) : Option KM :=
  (f_L_put n a0 a1 (32 : Int32) M).bind fun (v1 : KM) =>
  (f_L_put n a0 a1 p2 v1).bind fun (v2 : KM) =>
  (f_L_put n a0 a1 ((97 : Int32) + p3) v2).bind fun (v3 : KM) =>
  some v3
def lp_L_lay_107 (n : Nat) (a0 : Nat) (a1 : Nat) (a2 : Nat) (w3 : Int32) (M : KM) (k142 : KM → Option (Int32 × KM)) : Option (Int32 × KM) := match n with
  | 0 => none
  | n + 1 =>
    if ix (0 : Int32) 53 then
    if (M.1 a2 ((0 : Int32)).toNatClampNeg) ≤ w3 then
      k142 M
    else
      (f_L_say n a0 a1 7 M).bind fun (v23 : KM) =>
      (f_L_name n a0 a1 (108 : Int32) w3 v23).bind fun (v24 : KM) =>
      (f_L_say n a0 a1 6 v24).bind fun (v25 : KM) =>
      lt (w3 + (1 : Int32)) fun (v26 : Int32) =>
      lp_L_lay_107 n a0 a1 a2 v26 v25 k142
    else none
def lp_L_lay_144 (n : Nat) (a0 : Nat) (a1 : Nat) (a2 : Nat) (w3 : Int32) (M : KM) (k230 : KM → Option (Int32 × KM)) : Option (Int32 × KM) := match n with
  | 0 => none
  | n + 1 =>
    if ix (1 : Int32) 53 then
    if (M.1 a2 ((1 : Int32)).toNatClampNeg) ≤ w3 then
      k230 M
    else
      (f_L_say n a0 a1 8 M).bind fun (v30 : KM) =>
      if ix ((9 : Int32) + w3) 53 then
      (f_L_name n a0 a1 (108 : Int32) (v30.1 a2 (((9 : Int32) + w3)).toNatClampNeg) v30).bind fun (v32 : KM) =>
      if ix ((13 : Int32) + w3) 53 then
      (f_L_name n a0 a1 (108 : Int32) (v32.1 a2 (((13 : Int32) + w3)).toNatClampNeg) v32).bind fun (v34 : KM) =>
      (f_L_say n a0 a1 9 v34).bind fun (v35 : KM) =>
      if ix ((17 : Int32) + w3) 53 then
      (f_L_number n a0 a1 (v35.1 a2 (((17 : Int32) + w3)).toNatClampNeg) v35).bind fun (v37 : KM) =>
      if ix ((21 : Int32) + w3) 53 then
      if (v37.1 a2 (((21 : Int32) + w3)).toNatClampNeg) = (1 : Int32) then
        (f_L_say n a0 a1 10 v37).bind fun (v41 : KM) =>
        lt (w3 + (1 : Int32)) fun (v42 : Int32) =>
        lp_L_lay_144 n a0 a1 a2 v42 v41 k230
      else
        (f_L_say n a0 a1 6 v37).bind fun (v39 : KM) =>
        lt (w3 + (1 : Int32)) fun (v40 : Int32) =>
        lp_L_lay_144 n a0 a1 a2 v40 v39 k230
      else none
      else none
      else none
      else none
    else none
def lp_L_lay_314 (n : Nat) (a0 : Nat) (a1 : Nat) (a2 : Nat) (c3 : Int32) (w4 : Int32) (M : KM) (k395 : KM → Option (Int32 × KM)) : Option (Int32 × KM) := match n with
  | 0 => none
  | n + 1 =>
    if ix (1 : Int32) 53 then
    if (M.1 a2 ((1 : Int32)).toNatClampNeg) ≤ w4 then
      k395 M
    else
      if ix (((37 : Int32) + ((4 : Int32) * c3)) + w4) 53 then
      lt (fun (M57 : KM) => (
        lt (w4 + (1 : Int32)) fun (v58 : Int32) =>
        lp_L_lay_314 n a0 a1 a2 c3 v58 M57 k395
      ) : KM → Option (Int32 × KM)) fun j389 =>
      if (M.1 a2 ((((37 : Int32) + ((4 : Int32) * c3)) + w4)).toNatClampNeg) = 0 then
        j389 M
      else
        (f_L_say n a0 a1 15 M).bind fun (v59 : KM) =>
        (f_L_name n a0 a1 (112 : Int32) c3 v59).bind fun (v60 : KM) =>
        if ix ((13 : Int32) + w4) 53 then
        (f_L_name n a0 a1 (108 : Int32) (v60.1 a2 (((13 : Int32) + w4)).toNatClampNeg) v60).bind fun (v62 : KM) =>
        if ix ((9 : Int32) + w4) 53 then
        (f_L_name n a0 a1 (108 : Int32) (v62.1 a2 (((9 : Int32) + w4)).toNatClampNeg) v62).bind fun (v64 : KM) =>
        (f_L_say n a0 a1 6 v64).bind fun (v65 : KM) =>
        j389 v65
        else none
        else none
      else none
    else none
def lp_L_lay_232 (n : Nat) (a0 : Nat) (a1 : Nat) (a2 : Nat) (w3 : Int32) (M : KM) (k401 : KM → Option (Int32 × KM)) : Option (Int32 × KM) := match n with
  | 0 => none
  | n + 1 =>
    if ix (2 : Int32) 53 then
    if (M.1 a2 ((2 : Int32)).toNatClampNeg) ≤ w3 then
      k401 M
    else
      if ix ((33 : Int32) + w3) 53 then
      if (M.1 a2 (((33 : Int32) + w3)).toNatClampNeg) = (1 : Int32) then
        (f_L_say n a0 a1 11 M).bind fun (v74 : KM) =>
        (f_L_name n a0 a1 (112 : Int32) w3 v74).bind fun (v75 : KM) =>
        (f_L_say n a0 a1 13 v75).bind fun (v76 : KM) =>
        if ix ((25 : Int32) + w3) 53 then
        (f_L_name n a0 a1 (108 : Int32) (v76.1 a2 (((25 : Int32) + w3)).toNatClampNeg) v76).bind fun (v78 : KM) =>
        if ix ((29 : Int32) + w3) 53 then
        if (v78.1 a2 (((29 : Int32) + w3)).toNatClampNeg) = (1 : Int32) then
          (f_L_say n a0 a1 14 v78).bind fun (v83 : KM) =>
          lp_L_lay_314 n a0 a1 a2 w3 (0 : Int32) v83
            (fun (M84 : KM) => (
              lt (w3 + (1 : Int32)) fun (v85 : Int32) =>
              lp_L_lay_232 n a0 a1 a2 v85 M84 k401
            ))
        else
          (f_L_say n a0 a1 6 v78).bind fun (v80 : KM) =>
          lp_L_lay_314 n a0 a1 a2 w3 (0 : Int32) v80
            (fun (M81 : KM) => (
              lt (w3 + (1 : Int32)) fun (v82 : Int32) =>
              lp_L_lay_232 n a0 a1 a2 v82 M81 k401
            ))
        else none
        else none
      else
        (f_L_say n a0 a1 12 M).bind fun (v48 : KM) =>
        (f_L_name n a0 a1 (112 : Int32) w3 v48).bind fun (v49 : KM) =>
        (f_L_say n a0 a1 13 v49).bind fun (v50 : KM) =>
        if ix ((25 : Int32) + w3) 53 then
        (f_L_name n a0 a1 (108 : Int32) (v50.1 a2 (((25 : Int32) + w3)).toNatClampNeg) v50).bind fun (v52 : KM) =>
        if ix ((29 : Int32) + w3) 53 then
        if (v52.1 a2 (((29 : Int32) + w3)).toNatClampNeg) = (1 : Int32) then
          (f_L_say n a0 a1 14 v52).bind fun (v70 : KM) =>
          lp_L_lay_314 n a0 a1 a2 w3 (0 : Int32) v70
            (fun (M71 : KM) => (
              lt (w3 + (1 : Int32)) fun (v72 : Int32) =>
              lp_L_lay_232 n a0 a1 a2 v72 M71 k401
            ))
        else
          (f_L_say n a0 a1 6 v52).bind fun (v54 : KM) =>
          lp_L_lay_314 n a0 a1 a2 w3 (0 : Int32) v54
            (fun (M68 : KM) => (
              lt (w3 + (1 : Int32)) fun (v69 : Int32) =>
              lp_L_lay_232 n a0 a1 a2 v69 M68 k401
            ))
        else none
        else none
      else none
    else none
def f_L_lay (n : Nat) (a0 : Nat) (a1 : Nat) (a2 : Nat) (M : KM) : Option (Int32 × KM) :=
  if ix (22 : Int32) 24 then
  lt (uI M a1 ((22 : Int32)).toNatClampNeg (0 : Int32)) fun (M2 : KM) =>
  (f_L_say n a0 a1 0 M2).bind fun (v3 : KM) =>
  if ix (3 : Int32) 53 then
  (f_L_number n a0 a1 (v3.1 a2 ((3 : Int32)).toNatClampNeg) v3).bind fun (v5 : KM) =>
  (f_L_say n a0 a1 1 v5).bind fun (v6 : KM) =>
  if ix (4 : Int32) 53 then
  (f_L_number n a0 a1 (v6.1 a2 ((4 : Int32)).toNatClampNeg) v6).bind fun (v8 : KM) =>
  (f_L_say n a0 a1 2 v8).bind fun (v9 : KM) =>
  if ix (5 : Int32) 53 then
  (f_L_number n a0 a1 (v9.1 a2 ((5 : Int32)).toNatClampNeg) v9).bind fun (v11 : KM) =>
  (f_L_say n a0 a1 3 v11).bind fun (v12 : KM) =>
  if ix (6 : Int32) 53 then
  (f_L_number n a0 a1 (v12.1 a2 ((6 : Int32)).toNatClampNeg) v12).bind fun (v14 : KM) =>
  (f_L_say n a0 a1 4 v14).bind fun (v15 : KM) =>
  if ix (7 : Int32) 53 then
  (f_L_number n a0 a1 (v15.1 a2 ((7 : Int32)).toNatClampNeg) v15).bind fun (v17 : KM) =>
  (f_L_say n a0 a1 5 v17).bind fun (v18 : KM) =>
  if ix (8 : Int32) 53 then
  (f_L_number n a0 a1 (v18.1 a2 ((8 : Int32)).toNatClampNeg) v18).bind fun (v20 : KM) =>
  (f_L_say n a0 a1 6 v20).bind fun (v21 : KM) =>
  lp_L_lay_107 n a0 a1 a2 (0 : Int32) v21
    (fun (M28 : KM) => (
      lp_L_lay_144 n a0 a1 a2 (0 : Int32) M28
        (fun (M45 : KM) => (
          lp_L_lay_232 n a0 a1 a2 (0 : Int32) M45
            (fun (M89 : KM) => (
              (f_L_load n a0 a1 M89).bind fun (v90 : (Int32 × KM)) =>
              if ix (2 : Int32) 53 then
              if v90.1 = (v90.2.1 a2 ((2 : Int32)).toNatClampNeg) then
                some ((1 : Int32), v90.2)
              else
                some ((0 : Int32), v90.2)
              else none
            ))
        ))
    ))
  else none
  else none
  else none
  else none
  else none
  else none
  else none
def lp_L_draw_161 (n : Nat) (Ln : Nat) (xs : Nat → Int32) (a1 : Nat) (c2 : Int32) (c3 : Int32) (w4 : Int32) (M : KM) (k316 : KM → Option KM) : Option KM := match n with
  | 0 => none
  | n + 1 =>
    if ix (0 : Int32) 53 then
    if (M.1 a1 ((0 : Int32)).toNatClampNeg) ≤ w4 then
      k316 M
    else
      lt (fun (x26 : Int32) => (
        if ix (1 : Int32) 53 then
        lt (fun (M28 : KM) => (
          lt (w4 + (1 : Int32)) fun (v29 : Int32) =>
          lp_L_draw_161 n Ln xs a1 c2 c3 v29 M28 k316
        ) : KM → Option KM) fun j310 =>
        if (M.1 a1 ((1 : Int32)).toNatClampNeg) = (4 : Int32) then
          j310 M
        else
          if (x26 &&& (3 : Int32)) = 0 then
            j310 M
          else
            if ix (1 : Int32) 53 then
            lt (fun (x31 : Int32) => (
              if ix ((9 : Int32) + (M.1 a1 ((1 : Int32)).toNatClampNeg)) 53 then
              lt (uI M a1 (((9 : Int32) + (M.1 a1 ((1 : Int32)).toNatClampNeg))).toNatClampNeg x31) fun (M33 : KM) =>
              if ix (1 : Int32) 53 then
              lt (fun (x35 : Int32) => (
                if ix ((13 : Int32) + (M33.1 a1 ((1 : Int32)).toNatClampNeg)) 53 then
                lt (uI M33 a1 (((13 : Int32) + (M33.1 a1 ((1 : Int32)).toNatClampNeg))).toNatClampNeg x35) fun (M37 : KM) =>
                if ix (1 : Int32) 53 then
                if ix ((17 : Int32) + (M37.1 a1 ((1 : Int32)).toNatClampNeg)) 53 then
                lt (uI M37 a1 (((17 : Int32) + (M37.1 a1 ((1 : Int32)).toNatClampNeg))).toNatClampNeg ((1 : Int32) + ((x26 >>> ((2 : Int32) &&& 31)) &&& (31 : Int32)))) fun (M40 : KM) =>
                if ix (1 : Int32) 53 then
                lt (fun (x42 : Int32) => (
                  if ix ((21 : Int32) + (M40.1 a1 ((1 : Int32)).toNatClampNeg)) 53 then
                  lt (uI M40 a1 (((21 : Int32) + (M40.1 a1 ((1 : Int32)).toNatClampNeg))).toNatClampNeg x42) fun (M44 : KM) =>
                  if ix (1 : Int32) 53 then
                  if ix (1 : Int32) 53 then
                  lt (uI M44 a1 ((1 : Int32)).toNatClampNeg ((M44.1 a1 ((1 : Int32)).toNatClampNeg) + (1 : Int32))) fun (M47 : KM) =>
                  j310 M47
                  else none
                  else none
                  else none
                ) : Int32 → Option KM) fun j302 =>
                if ((x26 >>> ((4 : Int32) &&& 31)) &&& (3 : Int32)) = (1 : Int32) then
                  j302 (1 : Int32)
                else
                  j302 (0 : Int32)
                else none
                else none
                else none
                else none
              ) : Int32 → Option KM) fun j262 =>
              if (x26 &&& (1 : Int32)) = 0 then
                j262 w4
              else
                j262 c3
              else none
              else none
            ) : Int32 → Option KM) fun j241 =>
            if (x26 &&& (1 : Int32)) = 0 then
              j241 c3
            else
              j241 w4
            else none
        else none
      ) : Int32 → Option KM) fun j202 =>
      if (Int32.ofNat Ln) ≤ (c3 + w4) then
        j202 ((((2083 : Int32) * c3) + ((59 : Int32) * w4)) + c2)
      else
        if ix (c3 + w4) Ln then
        j202 ((xs ((c3 + w4)).toNatClampNeg) >>> (c3 &&& 31))
        else none
    else none
def lp_L_draw_149 (n : Nat) (Ln : Nat) (xs : Nat → Int32) (a1 : Nat) (c2 : Int32) (w3 : Int32) (M : KM) (k322 : KM → Option KM) : Option KM := match n with
  | 0 => none
  | n + 1 =>
    if ix (0 : Int32) 53 then
    if (M.1 a1 ((0 : Int32)).toNatClampNeg) ≤ w3 then
      k322 M
    else
      lt ((w3 + (1 : Int32))) fun (v24 : Int32) =>
      lp_L_draw_161 n Ln xs a1 c2 w3 v24 M
        (fun (M56 : KM) => (
          lt (w3 + (1 : Int32)) fun (v57 : Int32) =>
          lp_L_draw_149 n Ln xs a1 c2 v57 M56 k322
        ))
    else none
def lp_L_draw_415 (n : Nat) (Ln : Nat) (xs : Nat → Int32) (a1 : Nat) (c2 : Int32) (c3 : Int32) (c4 : Int32) (w5 : Int32) (M : KM) (k467 : KM → Option KM) : Option KM := match n with
  | 0 => none
  | n + 1 =>
    if (4 : Int32) ≤ w5 then
      k467 M
    else
      if ix (1 : Int32) 53 then
      lt (fun (x72 : Int32) => (
        if ix (((37 : Int32) + ((4 : Int32) * c3)) + w5) 53 then
        lt (uI M a1 ((((37 : Int32) + ((4 : Int32) * c3)) + w5)).toNatClampNeg x72) fun (M74 : KM) =>
        lt (w5 + (1 : Int32)) fun (v75 : Int32) =>
        lp_L_draw_415 n Ln xs a1 c2 c3 c4 v75 M74 k467
        else none
      ) : Int32 → Option KM) fun j460 =>
      lt ((
        j460 (0 : Int32)
      ) : Option KM) fun j459 =>
      if (M.1 a1 ((1 : Int32)).toNatClampNeg) ≤ w5 then
        j459
      else
        if ((c4 >>> ((w5 + (4 : Int32)) &&& 31)) &&& (3 : Int32)) = (2 : Int32) then
          if ix (7 : Int32) 53 then
          j460 (M.1 a1 ((7 : Int32)).toNatClampNeg)
          else none
        else
          j459
      else none
def lp_L_draw_324 (n : Nat) (Ln : Nat) (xs : Nat → Int32) (a1 : Nat) (c2 : Int32) (w3 : Int32) (M : KM) : Option KM := match n with
  | 0 => none
  | n + 1 =>
    if (4 : Int32) ≤ w3 then
      some M
    else
      lt (fun (x60 : Int32) => (
        if ix (0 : Int32) 53 then
        if ¬ (M.1 a1 ((0 : Int32)).toNatClampNeg) = 0 then
        if ix ((25 : Int32) + w3) 53 then
        lt (uI M a1 (((25 : Int32) + w3)).toNatClampNeg ((x60 &&& (3 : Int32)) - (x60 &&& (3 : Int32)) / (M.1 a1 ((0 : Int32)).toNatClampNeg) * (M.1 a1 ((0 : Int32)).toNatClampNeg))) fun (M64 : KM) =>
        if ix ((33 : Int32) + w3) 53 then
        lt (uI M64 a1 (((33 : Int32) + w3)).toNatClampNeg ((x60 >>> ((2 : Int32) &&& 31)) &&& (1 : Int32))) fun (M66 : KM) =>
        if ix ((33 : Int32) + w3) 53 then
        lt (fun (x68 : Int32) => (
          if ix ((29 : Int32) + w3) 53 then
          lt (uI M66 a1 (((29 : Int32) + w3)).toNatClampNeg x68) fun (M70 : KM) =>
          lp_L_draw_415 n Ln xs a1 c2 w3 x60 (0 : Int32) M70
            (fun (M80 : KM) => (
              lt (w3 + (1 : Int32)) fun (v81 : Int32) =>
              lp_L_draw_324 n Ln xs a1 c2 v81 M80
            ))
          else none
        ) : Int32 → Option KM) fun j411 =>
        lt ((
          j411 (0 : Int32)
        ) : Option KM) fun j410 =>
        if (M66.1 a1 (((33 : Int32) + w3)).toNatClampNeg) = 0 then
          if ((x60 >>> ((3 : Int32) &&& 31)) &&& (3 : Int32)) = (1 : Int32) then
            j411 (1 : Int32)
          else
            j410
        else
          j410
        else none
        else none
        else none
        else none
        else none
      ) : Int32 → Option KM) fun j354 =>
      if (Int32.ofNat Ln) ≤ (w3 + (2 : Int32)) then
        j354 (((953 : Int32) * w3) + c2)
      else
        if ix (w3 + (2 : Int32)) Ln then
        j354 ((xs ((w3 + (2 : Int32))).toNatClampNeg) >>> ((1 : Int32) &&& 31))
        else none
def f_L_draw (Ln : Nat) (xs : Nat → Int32) (n : Nat) (a1 : Nat) (M : KM) : Option KM :=
  lt (fun (x1 : Int32) => (
    if ix (0 : Int32) 53 then
    lt (uI M a1 ((0 : Int32)).toNatClampNeg ((1 : Int32) + (x1 &&& (3 : Int32)))) fun (M3 : KM) =>
    if ix (2 : Int32) 53 then
    lt (uI M3 a1 ((2 : Int32)).toNatClampNeg (((x1 >>> ((2 : Int32) &&& 31)) &&& (7 : Int32)) - ((x1 >>> ((2 : Int32) &&& 31)) &&& (7 : Int32)) / (5 : Int32) * (5 : Int32))) fun (M5 : KM) =>
    if ix (3 : Int32) 53 then
    lt (uI M5 a1 ((3 : Int32)).toNatClampNeg (((x1 >>> ((1 : Int32) &&& 31)) &&& (31 : Int32)) - ((x1 >>> ((1 : Int32) &&& 31)) &&& (31 : Int32)) / (24 : Int32) * (24 : Int32))) fun (M7 : KM) =>
    if ix (3 : Int32) 53 then
    lt (fun (x9 : Int32) => (
      if ix (4 : Int32) 53 then
      lt (uI M7 a1 ((4 : Int32)).toNatClampNeg x9) fun (M11 : KM) =>
      if ix (3 : Int32) 53 then
      if ix (5 : Int32) 53 then
      lt (uI M11 a1 ((5 : Int32)).toNatClampNeg (((((60 : Int32) * (M11.1 a1 ((3 : Int32)).toNatClampNeg)) + (1440 : Int32)) - ((x1 >>> ((3 : Int32) &&& 31)) &&& (127 : Int32))) - ((((60 : Int32) * (M11.1 a1 ((3 : Int32)).toNatClampNeg)) + (1440 : Int32)) - ((x1 >>> ((3 : Int32) &&& 31)) &&& (127 : Int32))) / (1440 : Int32) * (1440 : Int32))) fun (M14 : KM) =>
      if ix (6 : Int32) 53 then
      lt (uI M14 a1 ((6 : Int32)).toNatClampNeg ((1 : Int32) + ((x1 >>> ((4 : Int32) &&& 31)) &&& (3 : Int32)))) fun (M16 : KM) =>
      if ix (7 : Int32) 53 then
      lt (uI M16 a1 ((7 : Int32)).toNatClampNeg ((1 : Int32) + ((x1 >>> ((6 : Int32) &&& 31)) &&& (3 : Int32)))) fun (M18 : KM) =>
      if ix (8 : Int32) 53 then
      lt (uI M18 a1 ((8 : Int32)).toNatClampNeg (((x1 >>> ((2 : Int32) &&& 31)) &&& (31 : Int32)) - ((x1 >>> ((2 : Int32) &&& 31)) &&& (31 : Int32)) / (17 : Int32) * (17 : Int32))) fun (M20 : KM) =>
      if ix (1 : Int32) 53 then
      lt (uI M20 a1 ((1 : Int32)).toNatClampNeg (0 : Int32)) fun (M22 : KM) =>
      lp_L_draw_149 n Ln xs a1 x1 (0 : Int32) M22
        (fun (M59 : KM) => (
          lp_L_draw_324 n Ln xs a1 x1 (0 : Int32) M59
        ))
      else none
      else none
      else none
      else none
      else none
      else none
      else none
    ) : Int32 → Option KM) fun j82 =>
    if (((M7.1 a1 ((3 : Int32)).toNatClampNeg) + (1 : Int32)) + ((x1 >>> ((5 : Int32) &&& 31)) &&& (7 : Int32))) ≤ (24 : Int32) then
      if ix (3 : Int32) 53 then
      j82 (((M7.1 a1 ((3 : Int32)).toNatClampNeg) + (1 : Int32)) + ((x1 >>> ((5 : Int32) &&& 31)) &&& (7 : Int32)))
      else none
    else
      j82 (24 : Int32)
    else none
    else none
    else none
    else none
  ) : Int32 → Option KM) fun j14 =>
  if (Int32.ofNat Ln) = 0 then
    j14 (7919 : Int32)
  else
    if ix (0 : Int32) Ln then
    j14 (xs ((0 : Int32)).toNatClampNeg)
    else none
def lp_L_size_4 (n : Nat) (c0 : Int32) (M : KM) (w1 : Int32) (w2 : Int32) : Option Int32 := match n with
  | 0 => none
  | n + 1 =>
    if (16 : Int32) ≤ w2 then
      some w1
    else
      lt ((w1 + ((c0 >>> (w2 &&& 31)) &&& (1 : Int32)))) fun (v1 : Int32) =>
      lt (w2 + (1 : Int32)) fun (v2 : Int32) =>
      lp_L_size_4 n c0 M v1 v2
def f_L_size (n : Nat) (p0 : Int32) (M : KM) : Option Int32 :=
  lp_L_size_4 n p0 M (0 : Int32) (0 : Int32)
def lp_L_law_336 (n : Nat) (Ln : Nat) (xs : Nat → Int32) (a1 : Nat) (a3 : Nat) (c4 : Int32) (c5 : Int32) (c6 : Int32) (c7 : Int32) (c8 : Int32) (c9 : Int32) (c10 : Int32) (c11 : Int32) (c12 : Int32) (w15 : Int32) (M : KM) (k371 : KM → Option Int32) : Option Int32 := match n with
  | 0 => none
  | n + 1 =>
    if c11 ≤ w15 then
      k371 M
    else
      (f_X11_owes n a1 c11 w15 M).bind fun (v22 : (Int32 × KM)) =>
      (f_X11_owes n a1 w15 c11 v22.2).bind fun (v23 : (Int32 × KM)) =>
      if (v22.1 + v23.1) = 0 then
        lt (w15 + (1 : Int32)) fun (v24 : Int32) =>
        lp_L_law_336 n Ln xs a1 a3 c4 c5 c6 c7 c8 c9 c10 c11 c12 v24 v23.2 k371
      else
        some (0 : Int32)
def lp_L_law_661 (n : Nat) (Ln : Nat) (xs : Nat → Int32) (a1 : Nat) (a3 : Nat) (c4 : Int32) (c5 : Int32) (c6 : Int32) (c7 : Int32) (c8 : Int32) (c9 : Int32) (c10 : Int32) (c11 : Int32) (c15 : Int32) (c16 : Int32) (c17 : Int32) (w19 : Int32) (M : KM) (k759 : Int32 → KM → Option Int32) : Option Int32 := match n with
  | 0 => none
  | n + 1 =>
    if c17 < w19 then
      k759 w19 M
    else
      (f_X11_person n a1 c11 (0 : Int32) M).bind fun (v43 : (Int32 × KM)) =>
      if v43.1 = c16 then
        k759 w19 v43.2
      else
        (f_X11_person n a1 c11 (0 : Int32) v43.2).bind fun (v44 : (Int32 × KM)) =>
        lt (fun (M45 : KM) => (
          (f_X11_passes n a1 (1 : Int32) M45).bind fun (v46 : (Int32 × KM)) =>
          if 0 ≤ v46.1 then
            lt (w19 + (1 : Int32)) fun (v47 : Int32) =>
            lp_L_law_661 n Ln xs a1 a3 c4 c5 c6 c7 c8 c9 c10 c11 c15 c16 c17 v47 v46.2 k759
          else
            some (0 : Int32)
        ) : KM → Option Int32) fun j743 =>
        if v44.1 < 0 then
          j743 v44.2
        else
          (f_X11_soonestFirst n a1 c11 c16 v44.2).bind fun (v49 : (Int32 × KM)) =>
          if 0 ≤ v49.1 then
            (f_X11_person n a1 c11 (0 : Int32) v49.2).bind fun (v50 : (Int32 × KM)) =>
            (f_X11_roadOf n a1 v50.1 v49.1 v50.2).bind fun (v51 : (Int32 × KM)) =>
            (f_X11_can n a1 c11 v51.1 v51.2).bind fun (v52 : (Int32 × KM)) =>
            if v52.1 = (1 : Int32) then
              (f_X11_go n a1 c11 v49.1 v52.2).bind fun (v53 : (Int32 × KM)) =>
              if 0 ≤ v53.1 then
                j743 v53.2
              else
                some (0 : Int32)
            else
              j743 v52.2
          else
            some (0 : Int32)
def lp_L_law_557 (n : Nat) (Ln : Nat) (xs : Nat → Int32) (a1 : Nat) (a3 : Nat) (c4 : Int32) (c5 : Int32) (c6 : Int32) (c7 : Int32) (c8 : Int32) (c9 : Int32) (c10 : Int32) (c11 : Int32) (c15 : Int32) (c16 : Int32) (c17 : Int32) (c18 : Int32) (c19 : Int32) (w20 : Int32) (M : KM) (k601 : KM → Option Int32) : Option Int32 := match n with
  | 0 => none
  | n + 1 =>
    if ix (1 : Int32) 53 then
    if (M.1 a3 ((1 : Int32)).toNatClampNeg) ≤ w20 then
      k601 M
    else
      lt (fun (M72 : KM) => (
        lt (w20 + (1 : Int32)) fun (v73 : Int32) =>
        lp_L_law_557 n Ln xs a1 a3 c4 c5 c6 c7 c8 c9 c10 c11 c15 c16 c17 c18 c19 v73 M72 k601
      ) : KM → Option Int32) fun j595 =>
      if ((c18 >>> (w20 &&& 31)) &&& (1 : Int32)) = (1 : Int32) then
        if w20 = c19 then
          j595 M
        else
          (f_X11_plant n a1 w20 (1 : Int32) M).bind fun (v74 : (Int32 × KM)) =>
          if v74.1 = 0 then
            some (0 : Int32)
          else
            j595 v74.2
      else
        j595 M
    else none
def lp_L_law_518 (n : Nat) (Ln : Nat) (xs : Nat → Int32) (a1 : Nat) (a3 : Nat) (c4 : Int32) (c5 : Int32) (c6 : Int32) (c7 : Int32) (c8 : Int32) (c9 : Int32) (c10 : Int32) (c11 : Int32) (c15 : Int32) (c16 : Int32) (c17 : Int32) (c18 : Int32) (w19 : Int32) (M : KM) (k640 : KM → Option Int32) : Option Int32 := match n with
  | 0 => none
  | n + 1 =>
    if ix (1 : Int32) 53 then
    if (M.1 a3 ((1 : Int32)).toNatClampNeg) ≤ w19 then
      k640 M
    else
      lt (fun (M68 : KM) => (
        lt (w19 + (1 : Int32)) fun (v69 : Int32) =>
        lp_L_law_518 n Ln xs a1 a3 c4 c5 c6 c7 c8 c9 c10 c11 c15 c16 c17 c18 v69 M68 k640
      ) : KM → Option Int32) fun j634 =>
      lt ((
        (f_X11_mark n a1 M).bind fun (v70 : (Int32 × KM)) =>
        if v70.1 = (1 : Int32) then
          lp_L_law_557 n Ln xs a1 a3 c4 c5 c6 c7 c8 c9 c10 c11 c15 c16 c17 c18 w19 (0 : Int32) v70.2
            (fun (M79 : KM) => (
              (f_X11_reach n a1 c11 M79).bind fun (v80 : (Int32 × KM)) =>
              lt (fun (x81 : Int32) => (
                if ((v80.1 >>> (c16 &&& 31)) &&& (1 : Int32)) = x81 then
                  (f_X11_back n a1 v80.2).bind fun (v82 : (Int32 × KM)) =>
                  if v82.1 = 0 then
                    j634 v82.2
                  else
                    some (0 : Int32)
                else
                  some (0 : Int32)
              ) : Int32 → Option Int32) fun j622 =>
              if 0 ≤ w19 then
                j622 (0 : Int32)
              else
                j622 (1 : Int32)
            ))
        else
          some (0 : Int32)
      ) : Option Int32) fun j544 =>
      if w19 < 0 then
        j544
      else
        if ((c18 >>> (w19 &&& 31)) &&& (1 : Int32)) = 0 then
          j634 M
        else
          j544
    else none
def lp_L_law_414 (n : Nat) (Ln : Nat) (xs : Nat → Int32) (a1 : Nat) (a3 : Nat) (c4 : Int32) (c5 : Int32) (c6 : Int32) (c7 : Int32) (c8 : Int32) (c9 : Int32) (c10 : Int32) (c11 : Int32) (c15 : Int32) (w16 : Int32) (M : KM) (k781 : KM → Option Int32) : Option Int32 := match n with
  | 0 => none
  | n + 1 =>
    if ix (0 : Int32) 53 then
    if (M.1 a3 ((0 : Int32)).toNatClampNeg) ≤ w16 then
      k781 M
    else
      (f_X11_soonest n a1 c11 w16 M).bind fun (v33 : (Int32 × KM)) =>
      lt (fun (M34 : KM) => (
        lt (fun (x35 : Int32) => (
          (f_X11_person n a1 c11 (0 : Int32) M34).bind fun (v36 : (Int32 × KM)) =>
          lt (fun (x37 : Int32) => (
            if x35 = x37 then
              (f_X11_plantSet n a1 c11 w16 v36.2).bind fun (v38 : (Int32 × KM)) =>
              lt (fun (M39 : KM) => (
                lt (fun (M40 : KM) => (
                  lt (w16 + (1 : Int32)) fun (v41 : Int32) =>
                  lp_L_law_414 n Ln xs a1 a3 c4 c5 c6 c7 c8 c9 c10 c11 c15 v41 M40 k781
                ) : KM → Option Int32) fun j775 =>
                if 0 < v33.1 then
                  (f_X11_mark n a1 M39).bind fun (v42 : (Int32 × KM)) =>
                  if v42.1 = (1 : Int32) then
                    lp_L_law_661 n Ln xs a1 a3 c4 c5 c6 c7 c8 c9 c10 c11 c15 w16 v33.1 (0 : Int32) v42.2
                      (fun (u60 : Int32) (M61 : KM) => (
                        if u60 = v33.1 then
                          (f_X11_back n a1 M61).bind fun (v62 : (Int32 × KM)) =>
                          if v62.1 = 0 then
                            j775 v62.2
                          else
                            some (0 : Int32)
                        else
                          some (0 : Int32)
                      ))
                  else
                    some (0 : Int32)
                else
                  j775 M39
              ) : KM → Option Int32) fun j640 =>
              if v38.1 < 0 then
                j640 v38.2
              else
                lp_L_law_518 n Ln xs a1 a3 c4 c5 c6 c7 c8 c9 c10 c11 c15 w16 v33.1 v38.1 (-1 : Int32) v38.2
                  (fun (M90 : KM) => (
                    j640 M90
                  ))
            else
              some (0 : Int32)
          ) : Int32 → Option Int32) fun j495 =>
          if v36.1 = w16 then
            j495 (1 : Int32)
          else
            j495 (0 : Int32)
        ) : Int32 → Option Int32) fun j478 =>
        if v33.1 = 0 then
          j478 (1 : Int32)
        else
          j478 (0 : Int32)
      ) : KM → Option Int32) fun j468 =>
      if ((c15 >>> (w16 &&& 31)) &&& (1 : Int32)) = (1 : Int32) then
        if 0 ≤ v33.1 then
          j468 v33.2
        else
          (f_X11_many n a1 (9 : Int32) v33.2).bind fun (v95 : (Int32 × KM)) =>
          if v95.1 = 0 then
            if ((c8 >>> (c11 &&& 31)) &&& (1 : Int32)) = (1 : Int32) then
              some (0 : Int32)
            else
              j468 v95.2
          else
            j468 v95.2
      else
        j468 v33.2
    else none
def lp_L_law_784 (n : Nat) (Ln : Nat) (xs : Nat → Int32) (a1 : Nat) (a3 : Nat) (c4 : Int32) (c5 : Int32) (c6 : Int32) (c7 : Int32) (c8 : Int32) (c9 : Int32) (c10 : Int32) (c11 : Int32) (w16 : Int32) (M : KM) (k919 : KM → Option Int32) : Option Int32 := match n with
  | 0 => none
  | n + 1 =>
    if ix (2 : Int32) 53 then
    if (M.1 a3 ((2 : Int32)).toNatClampNeg) ≤ w16 then
      k919 M
    else
      (f_X11_meet n a1 c11 w16 M).bind fun (v103 : (Int32 × KM)) =>
      lt (fun (M104 : KM) => (
        lt (w16 + (1 : Int32)) fun (v105 : Int32) =>
        lp_L_law_784 n Ln xs a1 a3 c4 c5 c6 c7 c8 c9 c10 c11 v105 M104 k919
      ) : KM → Option Int32) fun j913 =>
      if 0 ≤ v103.1 then
        (f_X11_soonest n a1 c11 v103.1 v103.2).bind fun (v106 : (Int32 × KM)) =>
        (f_X11_soonest n a1 w16 v103.1 v106.2).bind fun (v107 : (Int32 × KM)) =>
        if v106.1 < 0 then
          some (0 : Int32)
        else
          if v107.1 < 0 then
            some (0 : Int32)
          else
            (f_X11_meetIn n a1 c11 w16 v107.2).bind fun (v108 : (Int32 × KM)) =>
            lt (fun (x109 : Int32) => (
              if v108.1 = x109 then
                (f_X11_meet n a1 w16 c11 v108.2).bind fun (v110 : (Int32 × KM)) =>
                if v110.1 = v103.1 then
                  (f_X11_soonestTwo n a1 c11 w16 v103.1 v110.2).bind fun (v111 : (Int32 × KM)) =>
                  if v111.1 < 0 then
                    j913 v111.2
                  else
                    if v106.1 < v111.1 then
                      some (0 : Int32)
                    else
                      if v111.1 ≤ v107.1 then
                        j913 v111.2
                      else
                        some (0 : Int32)
                else
                  some (0 : Int32)
              else
                some (0 : Int32)
            ) : Int32 → Option Int32) fun j862 =>
            if v106.1 ≤ v107.1 then
              j862 v107.1
            else
              j862 v106.1
      else
        j913 v103.2
    else none
def lp_L_law_145 (n : Nat) (Ln : Nat) (xs : Nat → Int32) (a1 : Nat) (a3 : Nat) (c4 : Int32) (c5 : Int32) (c6 : Int32) (c7 : Int32) (c8 : Int32) (w9 : Int32) (w10 : Int32) (w11 : Int32) (M : KM) (k925 : Int32 → Int32 → KM → Option Int32) : Option Int32 := match n with
  | 0 => none
  | n + 1 =>
    if ix (2 : Int32) 53 then
    if (M.1 a3 ((2 : Int32)).toNatClampNeg) ≤ w11 then
      k925 w9 w10 M
    else
      lt (fun (x10 : Int32) => (
        (f_X11_net n a1 w11 M).bind fun (v11 : (Int32 × KM)) =>
        lt ((w9 + v11.1)) fun (v12 : Int32) =>
        (f_X11_person n a1 w11 (3 : Int32) v11.2).bind fun (v13 : (Int32 × KM)) =>
        (f_X11_person n a1 w11 (1 : Int32) v13.2).bind fun (v14 : (Int32 × KM)) =>
        lt (fun (x15 : Int32) => (
          if x10 = x15 then
            (f_X11_person n a1 w11 (2 : Int32) v14.2).bind fun (v16 : (Int32 × KM)) =>
            lt (fun (x17 : Int32) => (
              if x10 = x17 then
                lt (fun (M18 : KM) => (
                  (f_X11_pair n a1 w11 M18).bind fun (v19 : (Int32 × KM)) =>
                  lt (fun (x20 : Int32) (M21 : KM) => (
                    lp_L_law_336 n Ln xs a1 a3 c4 c5 c6 c7 c8 v12 x20 w11 x10 (0 : Int32) M21
                      (fun (M27 : KM) => (
                        lt (fun (M28 : KM) => (
                          lt (w11 + (1 : Int32)) fun (v29 : Int32) =>
                          lp_L_law_145 n Ln xs a1 a3 c4 c5 c6 c7 c8 v12 x20 v29 M28 k925
                        ) : KM → Option Int32) fun j919 =>
                        if x10 = 0 then
                          (f_X11_reach n a1 w11 M27).bind fun (v30 : (Int32 × KM)) =>
                          (f_X11_stuck n a1 v30.2).bind fun (v31 : (Int32 × KM)) =>
                          lt ((
                            lp_L_law_414 n Ln xs a1 a3 c4 c5 c6 c7 c8 v12 x20 w11 v30.1 (0 : Int32) v31.2
                              (fun (M101 : KM) => (
                                lp_L_law_784 n Ln xs a1 a3 c4 c5 c6 c7 c8 v12 x20 w11 (0 : Int32) M101
                                  (fun (M122 : KM) => (
                                    j919 M122
                                  ))
                              ))
                          ) : Option Int32) fun j411 =>
                          if ((v31.1 >>> (w11 &&& 31)) &&& (1 : Int32)) = (1 : Int32) then
                            (f_L_size n v30.1 v31.2).bind fun (v123 : Int32) =>
                            if v123 = (1 : Int32) then
                              j411
                            else
                              some (0 : Int32)
                          else
                            j411
                        else
                          j919 M27
                      ))
                  ) : Int32 → KM → Option Int32) fun j333 =>
                  if v19.1 < 0 then
                    j333 w10 v19.2
                  else
                    lt (w10 + (1 : Int32)) fun (v127 : Int32) =>
                    (f_X11_pair n a1 v19.1 v19.2).bind fun (v128 : (Int32 × KM)) =>
                    if v128.1 = w11 then
                      if ((c8 >>> (w11 &&& 31)) &&& (1 : Int32)) = ((c8 >>> (v19.1 &&& 31)) &&& (1 : Int32)) then
                        some (0 : Int32)
                      else
                        j333 v127 v128.2
                    else
                      some (0 : Int32)
                ) : KM → Option Int32) fun j287 =>
                if v13.1 < 0 then
                  j287 v16.2
                else
                  if x10 = 0 then
                    some (0 : Int32)
                  else
                    (f_X11_person n a1 v13.1 (2 : Int32) v16.2).bind fun (v132 : (Int32 × KM)) =>
                    (f_X11_person n a1 w11 (2 : Int32) v132.2).bind fun (v133 : (Int32 × KM)) =>
                    if v132.1 = v133.1 then
                      (f_X11_person n a1 v13.1 (1 : Int32) v133.2).bind fun (v134 : (Int32 × KM)) =>
                      (f_X11_person n a1 w11 (1 : Int32) v134.2).bind fun (v135 : (Int32 × KM)) =>
                      if v134.1 = v135.1 then
                        (f_X11_person n a1 v13.1 (3 : Int32) v135.2).bind fun (v136 : (Int32 × KM)) =>
                        if v136.1 < 0 then
                          j287 v136.2
                        else
                          some (0 : Int32)
                      else
                        some (0 : Int32)
                    else
                      some (0 : Int32)
              else
                some (0 : Int32)
            ) : Int32 → Option Int32) fun j228 =>
            if v16.1 ≤ 0 then
              j228 (0 : Int32)
            else
              j228 (1 : Int32)
          else
            some (0 : Int32)
        ) : Int32 → Option Int32) fun j208 =>
        if v14.1 < 0 then
          j208 (0 : Int32)
        else
          j208 (1 : Int32)
      ) : Int32 → Option Int32) fun j169 =>
      if ((c7 >>> (w11 &&& 31)) &&& (1 : Int32)) = (1 : Int32) then
        j169 (1 : Int32)
      else
        j169 (0 : Int32)
    else none
def lp_L_law_1095 (n : Nat) (Ln : Nat) (xs : Nat → Int32) (a1 : Nat) (a3 : Nat) (c4 : Int32) (c5 : Int32) (c6 : Int32) (w16 : Int32) (M : KM) (k1186 : KM → Option Int32) : Option Int32 := match n with
  | 0 => none
  | n + 1 =>
    if ix (2 : Int32) 53 then
    if (M.1 a3 ((2 : Int32)).toNatClampNeg) ≤ w16 then
      k1186 M
    else
      if ix (0 : Int32) 53 then
      if ¬ (M.1 a3 ((0 : Int32)).toNatClampNeg) = 0 then
      lt ((((c6 >>> ((w16 + (2 : Int32)) &&& 31)) &&& (3 : Int32)) - ((c6 >>> ((w16 + (2 : Int32)) &&& 31)) &&& (3 : Int32)) / (M.1 a3 ((0 : Int32)).toNatClampNeg) * (M.1 a3 ((0 : Int32)).toNatClampNeg))) fun (v171 : Int32) =>
      if ix (2 : Int32) 53 then
      lt (((((c6 >>> ((4 : Int32) &&& 31)) &&& (15 : Int32)) &&& (((1 : Int32) <<< ((M.1 a3 ((2 : Int32)).toNatClampNeg) &&& 31)) - (1 : Int32))) &&& (((1 : Int32) <<< (w16 &&& 31)) ^^^ (-1 : Int32)))) fun (v173 : Int32) =>
      lt (fun (M174 : KM) => (
        lt (w16 + (1 : Int32)) fun (v175 : Int32) =>
        lp_L_law_1095 n Ln xs a1 a3 c4 c5 c6 v175 M174 k1186
      ) : KM → Option Int32) fun j1180 =>
      lt ((
        (f_X11_go n a1 w16 v171 M).bind fun (v176 : (Int32 × KM)) =>
        j1180 v176.2
      ) : Option Int32) fun j1171 =>
      if ((c6 >>> (w16 &&& 31)) &&& (1 : Int32)) = 0 then
        if v173 ≤ 0 then
          j1171
        else
          (f_X11_lead n a1 w16 v173 v171 M).bind fun (v177 : (Int32 × KM)) =>
          j1180 v177.2
      else
        j1171
      else none
      else none
      else none
    else none
def lp_L_law_54 (n : Nat) (Ln : Nat) (xs : Nat → Int32) (a1 : Nat) (a3 : Nat) (c4 : Int32) (w5 : Int32) (M : KM) : Option Int32 := match n with
  | 0 => none
  | n + 1 =>
    if (7 : Int32) ≤ w5 then
      some (1 : Int32)
    else
      lt (fun (x4 : Int32) => (
        (f_X11_many n a1 (12 : Int32) M).bind fun (v5 : (Int32 × KM)) =>
        (f_X11_many n a1 (11 : Int32) v5.2).bind fun (v6 : (Int32 × KM)) =>
        (f_X11_many n a1 (13 : Int32) v6.2).bind fun (v7 : (Int32 × KM)) =>
        if (v7.1 &&& (v5.1 ^^^ (-1 : Int32))) = 0 then
          (f_X11_stuck n a1 v7.2).bind fun (v8 : (Int32 × KM)) =>
          if (v8.1 &&& v5.1) = 0 then
            lp_L_law_145 n Ln xs a1 a3 c4 w5 x4 v5.1 v6.1 (0 : Int32) (0 : Int32) (0 : Int32) v8.2
              (fun (u148 : Int32) (u149 : Int32) (M150 : KM) => (
                if u148 = 0 then
                  (f_X11_pairs n a1 M150).bind fun (v151 : (Int32 × KM)) =>
                  if u149 = ((2 : Int32) * v151.1) then
                    (f_X11_pairsOwe n a1 v151.2).bind fun (v152 : (Int32 × KM)) =>
                    if 0 ≤ v152.1 then
                      lt (((1 : Int32) + (x4 &&& (127 : Int32)))) fun (v153 : Int32) =>
                      (f_X11_lostIn n a1 v153 v152.2).bind fun (v154 : (Int32 × KM)) =>
                      (f_X11_many n a1 (14 : Int32) v154.2).bind fun (v155 : (Int32 × KM)) =>
                      (f_X11_many n a1 (3 : Int32) v155.2).bind fun (v156 : (Int32 × KM)) =>
                      (f_X11_many n a1 (4 : Int32) v156.2).bind fun (v157 : (Int32 × KM)) =>
                      (f_X11_lostBy n a1 v153 v156.1 v157.1 v157.2).bind fun (v158 : (Int32 × KM)) =>
                      if v158.1 = v154.1 then
                        (f_L_size n v5.1 v158.2).bind fun (v159 : Int32) =>
                        if v154.1 ≤ (v153 * v159) then
                          (f_X11_bestFrom n a1 v153 v158.2).bind fun (v160 : (Int32 × KM)) =>
                          (f_X11_many n a1 (4 : Int32) v160.2).bind fun (v161 : (Int32 × KM)) =>
                          (f_X11_many n a1 (3 : Int32) v161.2).bind fun (v162 : (Int32 × KM)) =>
                          lt ((v161.1 - v162.1)) fun (v163 : Int32) =>
                          lt (fun (x164 : Int32) => (
                            (f_X11_lostBy n a1 v153 v160.1 x164 v162.2).bind fun (v165 : (Int32 × KM)) =>
                            if v165.1 ≤ v154.1 then
                              (f_X11_passes n a1 v153 v165.2).bind fun (v166 : (Int32 × KM)) =>
                              if v166.1 < 0 then
                                some (0 : Int32)
                              else
                                (f_X11_many n a1 (14 : Int32) v166.2).bind fun (v167 : (Int32 × KM)) =>
                                if v167.1 = (v155.1 + v154.1) then
                                  lp_L_law_1095 n Ln xs a1 a3 c4 w5 x4 (0 : Int32) v167.2
                                    (fun (M181 : KM) => (
                                      lt (fun (M182 : KM) => (
                                        lt (w5 + (1 : Int32)) fun (v183 : Int32) =>
                                        lp_L_law_54 n Ln xs a1 a3 c4 v183 M182
                                      ) : KM → Option Int32) fun j1216 =>
                                      if ((x4 >>> ((6 : Int32) &&& 31)) &&& (3 : Int32)) = (1 : Int32) then
                                        lt (fun (x184 : Int32) => (
                                          (f_X11_cloud n a1 x184 M181).bind fun (v185 : (Int32 × KM)) =>
                                          j1216 v185.2
                                        ) : Int32 → Option Int32) fun j1212 =>
                                        if ((x4 >>> ((5 : Int32) &&& 31)) &&& (1 : Int32)) = 0 then
                                          j1212 (1 : Int32)
                                        else
                                          j1212 (0 : Int32)
                                      else
                                        j1216 M181
                                    ))
                                else
                                  some (0 : Int32)
                            else
                              some (0 : Int32)
                          ) : Int32 → Option Int32) fun j1057 =>
                          if (v160.1 + v163) ≤ (24 : Int32) then
                            j1057 (v160.1 + v163)
                          else
                            j1057 (24 : Int32)
                        else
                          some (0 : Int32)
                      else
                        some (0 : Int32)
                    else
                      some (0 : Int32)
                  else
                    some (0 : Int32)
                else
                  some (0 : Int32)
              ))
          else
            some (0 : Int32)
        else
          some (0 : Int32)
      ) : Int32 → Option Int32) fun j92 =>
      if (Int32.ofNat Ln) ≤ w5 then
        j92 (((397 : Int32) * w5) + c4)
      else
        if ix w5 Ln then
        j92 (((xs (w5).toNatClampNeg) >>> ((1 : Int32) &&& 31)) ^^^ ((71 : Int32) * w5))
        else none
def f_L_law (Ln : Nat) (xs : Nat → Int32) (n : Nat) (a1 a2 a3 : Nat) (M : KM) : Option Int32 :=
  lt (fun (x1 : Int32) => (
    (f_L_draw Ln xs n a3 M).bind fun (v2 : KM) =>
    (f_L_lay n a1 a2 a3 v2).bind fun (v3 : (Int32 × KM)) =>
    if v3.1 = 0 then
      some (0 : Int32)
    else
      lp_L_law_54 n Ln xs a1 a3 x1 (0 : Int32) v3.2
  ) : Int32 → Option Int32) fun j33 =>
  if (Int32.ofNat Ln) = 0 then
    j33 (5 : Int32)
  else
    if ix ((Int32.ofNat Ln) - (1 : Int32)) Ln then
    j33 (xs (((Int32.ofNat Ln) - (1 : Int32))).toNatClampNeg)
    else none
