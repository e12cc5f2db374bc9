-- EQUATIONS of the runs (by program: wip/whole/gen/sym.py)
set_option maxRecDepth 100000 in
set_option maxHeartbeats 200000 in
theorem eX5_copyFrom (F : Nat → MF) (R : Nat → Nat → ML → List MV → MM → MR) (v : MM) (i j i1 j1 : Nat) : stp F cdX5_copyFrom (runH F cdX5_copyFrom [] R 12) 0 [(0, .inr (.inr (8, i, j))), (1, .inr (.inr (8, i1, j1)))] [] v =
  let w1 : MM := mUp v (i, 3 * j + 0) (v.1 i1 (3 * j1 + 0))
  let w2 : MM := mUp w1 (i, 3 * j + 1) (w1.1 i1 (3 * j1 + 1))
  let w3 : MM := mUp w2 (i, 3 * j + 2) (w2.1 i1 (3 * j1 + 2))
  some (w3, none) := rfl
set_option maxRecDepth 100000 in
set_option maxHeartbeats 200000 in
theorem eX1_copyFrom (F : Nat → MF) (R : Nat → Nat → ML → List MV → MM → MR) (v : MM) (i j i1 : Nat) (hj : j < 4) : stp F cdX1_copyFrom (runH F cdX1_copyFrom [] R 30) 0 [(0, .inr (.inr (9, i, j))), (1, .inr (.inr (9, i1, j)))] [] v =
  let w1 : MM := mUp v (i, 22 + 5 * j + 0) (v.1 i1 (22 + 5 * j + 0))
  let w2 : MM := mUp w1 (i, 22 + 5 * j + 1) (w1.1 i1 (22 + 5 * j + 1))
  let w3 : MM := mUp w2 (i, 22 + 5 * j + 2) (w2.1 i1 (22 + 5 * j + 2))
  let w4 : MM := mUp w3 (i, 22 + 5 * j + 3) (w3.1 i1 (22 + 5 * j + 3))
  let w5 : MM := mUp w4 (i, 22 + 5 * j + 4) (w4.1 i1 (22 + 5 * j + 4))
  let w6 : MM := mCpy w5 i1 (10, i, j)
  some (w6, none) := match j, hj with
  | 0, _ => rfl
  | 1, _ => rfl
  | 2, _ => rfl
  | 3, _ => rfl
set_option maxRecDepth 100000 in
set_option maxHeartbeats 200000 in
theorem eX2_copyFrom (F : Nat → MF) (R : Nat → Nat → ML → List MV → MM → MR) (v : MM) (i j i1 j1 : Nat) : stp F cdX2_copyFrom (runH F cdX2_copyFrom [] R 8) 0 [(0, .inr (.inr (11, i, j))), (1, .inr (.inr (11, i1, j1)))] [] v =
  let w1 : MM := mUp v (i, 43 + 2 * j + 0) (v.1 i1 (43 + 2 * j1 + 0))
  let w2 : MM := mUp w1 (i, 43 + 2 * j + 1) (w1.1 i1 (43 + 2 * j1 + 1))
  some (w2, none) := rfl
set_option maxRecDepth 100000 in
set_option maxHeartbeats 200000 in
theorem eX4_copyFrom (F : Nat → MF) (R : Nat → Nat → ML → List MV → MM → MR) (v : MM) (i j i1 j1 : Nat) : stp F cdX4_copyFrom (runH F cdX4_copyFrom [] R 28) 0 [(0, .inr (.inr (12, i, j))), (1, .inr (.inr (12, i1, j1)))] [] v =
  let w1 : MM := mUp v (i, 60 + 7 * j + 0) (v.1 i1 (60 + 7 * j1 + 0))
  let w2 : MM := mUp w1 (i, 60 + 7 * j + 1) (w1.1 i1 (60 + 7 * j1 + 1))
  let w3 : MM := mUp w2 (i, 60 + 7 * j + 2) (w2.1 i1 (60 + 7 * j1 + 2))
  let w4 : MM := mUp w3 (i, 60 + 7 * j + 3) (w3.1 i1 (60 + 7 * j1 + 3))
  let w5 : MM := mUp w4 (i, 60 + 7 * j + 4) (w4.1 i1 (60 + 7 * j1 + 4))
  let w6 : MM := mUp w5 (i, 60 + 7 * j + 5) (w5.1 i1 (60 + 7 * j1 + 5))
  let w7 : MM := mUp w6 (i, 60 + 7 * j + 6) (w6.1 i1 (60 + 7 * j1 + 6))
  some (w7, none) := rfl
set_option maxRecDepth 100000 in
set_option maxHeartbeats 200000 in
theorem eX6_within (F : Nat → MF) (R : Nat → Nat → ML → List MV → MM → MR) (v : MM) (x1 x2 x3 : Int32) : stp F cdX6_within (runH F cdX6_within [] R 8) 0 [(0, .inl x1), (1, .inl x2), (2, .inl x3)] [] v =
  if x1 < x2 then
    some (v, some (.inl (0 : Int32)))
  else
    if x3 < x1 then
      some (v, some (.inl (0 : Int32)))
    else
      some (v, some (.inl (1 : Int32))) := rfl
set_option maxRecDepth 100000 in
set_option maxHeartbeats 200000 in
theorem eX1_change (F : Nat → MF) (R : Nat → Nat → ML → List MV → MM → MR) (v : MM) (i j : Nat) (x1 x2 x3 x4 x5 : Int32) : stp F cdX1_change (runH F cdX1_change [] R 42) 0 [(0, .inr (.inr (9, i, j))), (1, .inl x1), (2, .inl x2), (3, .inl x3), (4, .inl x4), (5, .inl x5)] [] v =
  if (v.1 i (22 + 5 * j + 0)) = x1 then
    if (v.1 i (22 + 5 * j + 1)) = x2 then
      if (v.1 i (22 + 5 * j + 2)) = x3 then
        if (v.1 i (22 + 5 * j + 3)) = x4 then
          if (v.1 i (22 + 5 * j + 4)) = x5 then
            let w1 : MM := mUp v (i, 22 + 5 * j + 0) x1
            let w2 : MM := mUp w1 (i, 22 + 5 * j + 1) x2
            let w3 : MM := mUp w2 (i, 22 + 5 * j + 2) x3
            let w4 : MM := mUp w3 (i, 22 + 5 * j + 3) x4
            let w5 : MM := mUp w4 (i, 22 + 5 * j + 4) x5
            if (1 : Int32) = 0 then
              some (w5, some (.inl (1 : Int32)))
            else
              some (w5, some (.inl (0 : Int32)))
          else
            let w6 : MM := mUp v (i, 22 + 5 * j + 0) x1
            let w7 : MM := mUp w6 (i, 22 + 5 * j + 1) x2
            let w8 : MM := mUp w7 (i, 22 + 5 * j + 2) x3
            let w9 : MM := mUp w8 (i, 22 + 5 * j + 3) x4
            let w10 : MM := mUp w9 (i, 22 + 5 * j + 4) x5
            if (0 : Int32) = 0 then
              some (w10, some (.inl (1 : Int32)))
            else
              some (w10, some (.inl (0 : Int32)))
        else
          let w11 : MM := mUp v (i, 22 + 5 * j + 0) x1
          let w12 : MM := mUp w11 (i, 22 + 5 * j + 1) x2
          let w13 : MM := mUp w12 (i, 22 + 5 * j + 2) x3
          let w14 : MM := mUp w13 (i, 22 + 5 * j + 3) x4
          let w15 : MM := mUp w14 (i, 22 + 5 * j + 4) x5
          if (0 : Int32) = 0 then
            some (w15, some (.inl (1 : Int32)))
          else
            some (w15, some (.inl (0 : Int32)))
      else
        let w16 : MM := mUp v (i, 22 + 5 * j + 0) x1
        let w17 : MM := mUp w16 (i, 22 + 5 * j + 1) x2
        let w18 : MM := mUp w17 (i, 22 + 5 * j + 2) x3
        let w19 : MM := mUp w18 (i, 22 + 5 * j + 3) x4
        let w20 : MM := mUp w19 (i, 22 + 5 * j + 4) x5
        if (0 : Int32) = 0 then
          some (w20, some (.inl (1 : Int32)))
        else
          some (w20, some (.inl (0 : Int32)))
    else
      let w21 : MM := mUp v (i, 22 + 5 * j + 0) x1
      let w22 : MM := mUp w21 (i, 22 + 5 * j + 1) x2
      let w23 : MM := mUp w22 (i, 22 + 5 * j + 2) x3
      let w24 : MM := mUp w23 (i, 22 + 5 * j + 3) x4
      let w25 : MM := mUp w24 (i, 22 + 5 * j + 4) x5
      if (0 : Int32) = 0 then
        some (w25, some (.inl (1 : Int32)))
      else
        some (w25, some (.inl (0 : Int32)))
  else
    let w26 : MM := mUp v (i, 22 + 5 * j + 0) x1
    let w27 : MM := mUp w26 (i, 22 + 5 * j + 1) x2
    let w28 : MM := mUp w27 (i, 22 + 5 * j + 2) x3
    let w29 : MM := mUp w28 (i, 22 + 5 * j + 3) x4
    let w30 : MM := mUp w29 (i, 22 + 5 * j + 4) x5
    if (0 : Int32) = 0 then
      some (w30, some (.inl (1 : Int32)))
    else
      some (w30, some (.inl (0 : Int32))) := rfl
set_option maxRecDepth 100000 in
set_option maxHeartbeats 200000 in
theorem eX6_thousandths (F : Nat → MF) (R : Nat → Nat → ML → List MV → MM → MR) (v : MM) (x1 x2 : Int32) : stp F cdX6_thousandths (runH F cdX6_thousandths [] R 8) 0 [(0, .inl x1), (1, .inl x2)] [] v =
  some (v, some (.inl (((x1.toInt64 * x2.toInt64) / (1000 : Int64)).toInt32))) := rfl
set_option maxRecDepth 100000 in
set_option maxHeartbeats 200000 in
theorem eX4_left (F : Nat → MF) (R : Nat → Nat → ML → List MV → MM → MR) (v : MM) (i j : Nat) : stp F cdX4_left (runH F cdX4_left [] R 8) 0 [(0, .inr (.inr (12, i, j)))] [] v =
  some (v, some (.inl (((v.1 i (60 + 7 * j + 0)) - (v.1 i (60 + 7 * j + 1))) - (v.1 i (60 + 7 * j + 5))))) := rfl
set_option maxRecDepth 100000 in
set_option maxHeartbeats 200000 in
theorem eX4_fill (F : Nat → MF) (R : Nat → Nat → ML → List MV → MM → MR) (v : MM) (i j : Nat) (x1 x2 x3 x4 : Int32) : stp F cdX4_fill (runH F cdX4_fill [] R 24) 0 [(0, .inr (.inr (12, i, j))), (1, .inl x1), (2, .inl x2), (3, .inl x3), (4, .inl x4)] [] v =
  let w1 : MM := mUp v (i, 60 + 7 * j + 1) ((v.1 i (60 + 7 * j + 1)) + x1)
  let w2 : MM := mUp w1 (i, 60 + 7 * j + 2) ((w1.1 i (60 + 7 * j + 2)) + x2)
  let w3 : MM := mUp w2 (i, 60 + 7 * j + 3) ((w2.1 i (60 + 7 * j + 3)) + x3)
  let w4 : MM := mUp w3 (i, 60 + 7 * j + 4) ((w3.1 i (60 + 7 * j + 4)) + x4)
  some (w4, none) := rfl
set_option maxRecDepth 100000 in
set_option maxHeartbeats 200000 in
theorem eX4_part (F : Nat → MF) (R : Nat → Nat → ML → List MV → MM → MR) (v : MM) (i j : Nat) (x1 x2 : Int32) : stp F cdX4_part (runH F cdX4_part [] R 13) 0 [(0, .inr (.inr (12, i, j))), (1, .inl x1), (2, .inl x2)] [] v =
  if 0 < (v.1 i (60 + 7 * j + 1)) then
    if ((v.1 i (60 + 7 * j + 1)).toInt64) = 0 then none else
    some (v, some (.inl (((x1.toInt64 * x2.toInt64) / ((v.1 i (60 + 7 * j + 1)).toInt64)).toInt32)))
  else
    some (v, some (.inl (0 : Int32))) := rfl
set_option maxRecDepth 100000 in
set_option maxHeartbeats 200000 in
theorem eX4_drop (F : Nat → MF) (R : Nat → Nat → ML → List MV → MM → MR) (v : MM) (i j : Nat) (x1 : Int32) : stp F cdX4_drop (runH F cdX4_drop [] R 46) 0 [(0, .inr (.inr (12, i, j))), (1, .inl x1)] [] v =
  bI (F 0 v [.inr (.inr (12, i, j)), .inl (v.1 i (60 + 7 * j + 2)), .inl x1]) (fun w1 r2 =>
    let w3 : MM := mUp w1 (i, 60 + 7 * j + 2) ((v.1 i (60 + 7 * j + 2)) - r2)
    bI (F 0 w3 [.inr (.inr (12, i, j)), .inl (w3.1 i (60 + 7 * j + 3)), .inl x1]) (fun w4 r5 =>
      let w6 : MM := mUp w4 (i, 60 + 7 * j + 3) ((w3.1 i (60 + 7 * j + 3)) - r5)
      bI (F 0 w6 [.inr (.inr (12, i, j)), .inl (w6.1 i (60 + 7 * j + 4)), .inl x1]) (fun w7 r8 =>
        let w9 : MM := mUp w7 (i, 60 + 7 * j + 4) ((w6.1 i (60 + 7 * j + 4)) - r8)
        bI (F 0 w9 [.inr (.inr (12, i, j)), .inl (w9.1 i (60 + 7 * j + 6)), .inl x1]) (fun w10 r11 =>
          let w12 : MM := mUp w10 (i, 60 + 7 * j + 6) ((w9.1 i (60 + 7 * j + 6)) - r11)
          let w13 : MM := mUp w12 (i, 60 + 7 * j + 1) ((w12.1 i (60 + 7 * j + 1)) - x1)
          some (w13, none)
        )
      )
    )
  ) := rfl
set_option maxRecDepth 100000 in
set_option maxHeartbeats 200000 in
theorem eX4_give (F : Nat → MF) (R : Nat → Nat → ML → List MV → MM → MR) (v : MM) (i j i2 j2 : Nat) (x1 : Int32) : stp F cdX4_give (runH F cdX4_give [] R 31) 0 [(0, .inr (.inr (12, i, j))), (1, .inl x1), (2, .inr (.inr (12, i2, j2)))] [] v =
  bI (F 0 v [.inr (.inr (12, i, j)), .inl (v.1 i (60 + 7 * j + 2)), .inl x1]) (fun w1 r2 =>
    bI (F 0 w1 [.inr (.inr (12, i, j)), .inl (w1.1 i (60 + 7 * j + 3)), .inl x1]) (fun w3 r4 =>
      bI (F 0 w3 [.inr (.inr (12, i, j)), .inl (w3.1 i (60 + 7 * j + 4)), .inl x1]) (fun w5 r6 =>
        bV (F 1 w5 [.inr (.inr (12, i2, j2)), .inl x1, .inl r2, .inl r4, .inl r6]) (fun w7 =>
          bI (F 0 w7 [.inr (.inr (12, i, j)), .inl (w7.1 i (60 + 7 * j + 6)), .inl x1]) (fun w8 r9 =>
            let w10 : MM := mUp w8 (i2, 60 + 7 * j2 + 6) ((w7.1 i2 (60 + 7 * j2 + 6)) + r9)
            bV (F 2 w10 [.inr (.inr (12, i, j)), .inl x1]) (fun w11 =>
              some (w11, none)
            )
          )
        )
      )
    )
  ) := rfl
set_option maxRecDepth 100000 in
set_option maxHeartbeats 200000 in
theorem eJ9_min_7cf53 (F : Nat → MF) (R : Nat → Nat → ML → List MV → MM → MR) (v : MM) (x1 x2 : Int32) : stp F cdJ9_min_7cf53 (runH F cdJ9_min_7cf53 [] R 5) 0 [(0, .inl x1), (1, .inl x2)] [] v =
  if x2 < x1 then
    some (v, some (.inl x2))
  else
    some (v, some (.inl x1)) := rfl
set_option maxRecDepth 100000 in
set_option maxHeartbeats 200000 in
theorem eX6_perThousand (F : Nat → MF) (R : Nat → Nat → ML → List MV → MM → MR) (v : MM) (x1 x2 : Int32) : stp F cdX6_perThousand (runH F cdX6_perThousand [] R 10) 0 [(0, .inl x1), (1, .inl x2)] [] v =
  if 0 < x2 then
    if x2.toInt64 = 0 then none else
    some (v, some (.inl (((x1.toInt64 * (1000 : Int64)) / x2.toInt64).toInt32)))
  else
    some (v, some (.inl (-9 : Int32))) := rfl
set_option maxRecDepth 100000 in
set_option maxHeartbeats 200000 in
theorem eX1_reasonAgainstJuice (F : Nat → MF) (R : Nat → Nat → ML → List MV → MM → MR) (v : MM) (i j : Nat) (x1 x2 x3 x4 : Int32) : stp F cdX1_reasonAgainstJuice (runH F cdX1_reasonAgainstJuice [] R 34) 0 [(0, .inr (.inr (9, i, j))), (1, .inl x1), (2, .inl x2), (3, .inl x3), (4, .inl x4)] [] v =
  if 0 < x1 then
    bI (F 0 v [.inl x2, .inl x1]) (fun w1 r2 =>
      if r2 < (w1.1 i (22 + 5 * j + 0)) then
        some (w1, some (.inl (2 : Int32)))
      else
        if (w1.1 i (22 + 5 * j + 1)) < r2 then
          some (w1, some (.inl (3 : Int32)))
        else
          bI (F 0 w1 [.inl x3, .inl x1]) (fun w3 r4 =>
            if r4 < (w3.1 i (22 + 5 * j + 2)) then
              some (w3, some (.inl (4 : Int32)))
            else
              if (w3.1 i (22 + 5 * j + 3)) < r4 then
                some (w3, some (.inl (5 : Int32)))
              else
                bI (F 0 w3 [.inl x4, .inl x1]) (fun w5 r6 =>
                  if (w5.1 i (22 + 5 * j + 4)) < r6 then
                    some (w5, some (.inl (6 : Int32)))
                  else
                    some (w5, some (.inl (0 : Int32)))
                )
          )
    )
  else
    some (v, some (.inl (1 : Int32))) := rfl
set_option maxRecDepth 100000 in
set_option maxHeartbeats 200000 in
theorem eX1_reasonAgainst (F : Nat → MF) (R : Nat → Nat → ML → List MV → MM → MR) (v : MM) (i j i1 j1 : Nat) : stp F cdX1_reasonAgainst (runH F cdX1_reasonAgainst [] R 10) 0 [(0, .inr (.inr (9, i, j))), (1, .inr (.inr (12, i1, j1)))] [] v =
  bI (F 0 v [.inr (.inr (9, i, j)), .inl (v.1 i1 (60 + 7 * j1 + 1)), .inl (v.1 i1 (60 + 7 * j1 + 2)), .inl (v.1 i1 (60 + 7 * j1 + 3)), .inl (v.1 i1 (60 + 7 * j1 + 4))]) (fun w1 r2 =>
    some (w1, some (.inl r2))
  ) := rfl
set_option maxRecDepth 100000 in
set_option maxHeartbeats 200000 in
theorem eX1_addBottles (F : Nat → MF) (R : Nat → Nat → ML → List MV → MM → MR) (v : MM) (i j : Nat) (x1 x2 : Int32) : stp F cdX1_addBottles (runH F cdX1_addBottles [] R 21) 0 [(0, .inr (.inr (9, i, j))), (1, .inl x1), (2, .inl x2)] [] v =
  bI (F 0 v [.inl x1, .inl (1 : Int32), .inl (10 : Int32)]) (fun w1 r2 =>
    if r2 = 0 then
      some (w1, none)
    else
      if mIn x1 11 then
      if mIn x1 11 then
      let w3 : MM := mUp w1 (i, if x1.toNatClampNeg = 0 then 151 + j else 110 + 10 * j + x1.toNatClampNeg) ((w1.1 i (if x1.toNatClampNeg = 0 then 151 + j else 110 + 10 * j + x1.toNatClampNeg)) + x2)
      if mIn (0 : Int32) 11 then
      if mIn (0 : Int32) 11 then
      let w4 : MM := mUp w3 (i, if (0 : Int32).toNatClampNeg = 0 then 151 + j else 110 + 10 * j + (0 : Int32).toNatClampNeg) ((w3.1 i (if (0 : Int32).toNatClampNeg = 0 then 151 + j else 110 + 10 * j + (0 : Int32).toNatClampNeg)) + x2)
      some (w4, none)
      else none
      else none
      else none
      else none
  ) := rfl
set_option maxRecDepth 100000 in
set_option maxHeartbeats 200000 in
theorem eX4_passDay (F : Nat → MF) (R : Nat → Nat → ML → List MV → MM → MR) (v : MM) (i j : Nat) (x1 x2 : Int32) : stp F cdX4_passDay (runH F cdX4_passDay [] R 40) 0 [(0, .inr (.inr (12, i, j))), (1, .inl x1), (2, .inl x2)] [] v =
  bI (F 0 v [.inl (v.1 i (60 + 7 * j + 4)), .inl x1]) (fun w1 r2 =>
    let w3 : MM := mUp w1 (i, 60 + 7 * j + 4) ((w1.1 i (60 + 7 * j + 4)) - r2)
    let w4 : MM := mUp w3 (i, 60 + 7 * j + 1) ((w3.1 i (60 + 7 * j + 1)) - r2)
    let w5 : MM := mUp w4 (i, 60 + 7 * j + 5) ((w4.1 i (60 + 7 * j + 5)) + r2)
    bI (F 0 w5 [.inl (w5.1 i (60 + 7 * j + 2)), .inl x2]) (fun w6 r7 =>
      let w8 : MM := mUp w6 (i, 60 + 7 * j + 2) ((w6.1 i (60 + 7 * j + 2)) - r7)
      let w9 : MM := mUp w8 (i, 60 + 7 * j + 6) ((w8.1 i (60 + 7 * j + 6)) + r7)
      some (w9, none)
    )
  ) := rfl
set_option maxRecDepth 100000 in
set_option maxHeartbeats 200000 in
theorem eX4_property (F : Nat → MF) (R : Nat → Nat → ML → List MV → MM → MR) (v : MM) (i j : Nat) (x1 : Int32) : stp F cdX4_property (runH F cdX4_property [] R 4) 0 [(0, .inr (.inr (12, i, j))), (1, .inl x1)] [] v =
  if x1 = (0 : Int32) then
    some (v, some (.inl (v.1 i (60 + 7 * j + 0))))
  else if x1 = (1 : Int32) then
    some (v, some (.inl (v.1 i (60 + 7 * j + 1))))
  else if x1 = (2 : Int32) then
    some (v, some (.inl (v.1 i (60 + 7 * j + 2))))
  else if x1 = (3 : Int32) then
    some (v, some (.inl (v.1 i (60 + 7 * j + 3))))
  else if x1 = (4 : Int32) then
    some (v, some (.inl (v.1 i (60 + 7 * j + 4))))
  else if x1 = (5 : Int32) then
    some (v, some (.inl (v.1 i (60 + 7 * j + 5))))
  else if x1 = (6 : Int32) then
    some (v, some (.inl (v.1 i (60 + 7 * j + 6))))
  else
    bI (F 0 v [.inr (.inr (12, i, j))]) (fun w1 r2 =>
      some (w1, some (.inl r2))
    ) := rfl
