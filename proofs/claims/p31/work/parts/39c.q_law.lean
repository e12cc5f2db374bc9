-- EQUATIONS of the law's own methods (by program: wip/p31/gen/lawgen2.py)
set_option maxRecDepth 100000 in
set_option maxHeartbeats 200000 in
theorem eL_low (F : Nat → MF) (R : Nat → Nat → ML → List MV → MM → MR) (v : MM) (x1 x2 : Int32) : stp F cdL_low (runH F cdL_low [] R 5) 0 [(0, .inl x1), (1, .inl x2)] [] v =
  if x2 = 0 then none else
  some (v, some (.inl ((x1 &&& (2147483647 : Int32)) - (x1 &&& (2147483647 : Int32)) / x2 * x2))) := rfl
set_option maxRecDepth 100000 in
theorem qL_low (v : MM) (x1 x2 : Int32) : fL_low v [.inl x1, .inl x2] =
  if x2 = 0 then none else
  some (v, some (.inl ((x1 &&& (2147483647 : Int32)) - (x1 &&& (2147483647 : Int32)) / x2 * x2))) := fn_eq rfl (eL_low FL_low _ v x1 x2)
set_option maxRecDepth 100000 in
set_option maxHeartbeats 200000 in
theorem eL_does (F : Nat → MF) (R : Nat → Nat → ML → List MV → MM → MR) (v : MM) (x2 : Int32) : stp F cdL_does (runH F cdL_does [] R 40) 0 [(0, .inr (.inr (0, 0, 0))), (1, .inl x2)] [] v =
  bI (F 0 v [.inl (x2 >>> ((4 : Int32) &&& 31)), .inl (4 : Int32)]) (fun w1 r2 =>
    bI (F 0 w1 [.inl (x2 >>> ((6 : Int32) &&& 31)), .inl (4 : Int32)]) (fun w3 r4 =>
      if (x2 &&& (15 : Int32)) = (0 : Int32) then
        bI (F 0 w3 [.inl (x2 >>> ((4 : Int32) &&& 31)), .inl (6 : Int32)]) (fun w5 r6 =>
          bI (F 0 w5 [.inl (x2 >>> ((7 : Int32) &&& 31)), .inl (501 : Int32)]) (fun w7 r8 =>
            bI (F 0 w7 [.inl (x2 >>> ((16 : Int32) &&& 31)), .inl (201 : Int32)]) (fun w9 r10 =>
              bI (F 0 w9 [.inl (x2 >>> ((24 : Int32) &&& 31)), .inl (101 : Int32)]) (fun w11 r12 =>
                bI (F 1 w11 [.inr (.inr (0, 0, 0)), .inl r6, .inl ((300 : Int32) + r8), .inl r10, .inl r12]) (fun w13 r14 =>
                  some (w13, some (.inl r14))
                )
              )
            )
          )
        )
      else if (x2 &&& (15 : Int32)) = (1 : Int32) then
        bI (F 0 w3 [.inl (x2 >>> ((4 : Int32) &&& 31)), .inl (21 : Int32)]) (fun w15 r16 =>
          bI (F 0 w15 [.inl (x2 >>> ((9 : Int32) &&& 31)), .inl (101 : Int32)]) (fun w17 r18 =>
            bI (F 0 w17 [.inl (x2 >>> ((16 : Int32) &&& 31)), .inl (501 : Int32)]) (fun w19 r20 =>
              bI (F 0 w19 [.inl (x2 >>> ((25 : Int32) &&& 31)), .inl (100 : Int32)]) (fun w21 r22 =>
                bI (F 2 w21 [.inr (.inr (0, 0, 0)), .inl r16, .inl r18, .inl r20, .inl r22]) (fun w23 r24 =>
                  some (w23, some (.inl r24))
                )
              )
            )
          )
        )
      else if (x2 &&& (15 : Int32)) = (2 : Int32) then
        bI (F 0 w3 [.inl (x2 >>> ((4 : Int32) &&& 31)), .inl (7 : Int32)]) (fun w25 r26 =>
          bI (F 0 w25 [.inl (x2 >>> ((7 : Int32) &&& 31)), .inl (3000 : Int32)]) (fun w27 r28 =>
            bI (F 3 w27 [.inr (.inr (0, 0, 0)), .inl r26, .inl r28]) (fun w29 r30 =>
              some (w29, some (.inl r30))
            )
          )
        )
      else if (x2 &&& (15 : Int32)) = (3 : Int32) then
        bI (F 0 w3 [.inl (x2 >>> ((4 : Int32) &&& 31)), .inl (2000 : Int32)]) (fun w31 r32 =>
          bI (F 4 w31 [.inr (.inr (0, 0, 0)), .inl r32]) (fun w33 r34 =>
            some (w33, some (.inl r34))
          )
        )
      else if (x2 &&& (15 : Int32)) = (4 : Int32) then
        bI (F 0 w3 [.inl (x2 >>> ((8 : Int32) &&& 31)), .inl (3 : Int32)]) (fun w35 r36 =>
          bI (F 0 w35 [.inl (x2 >>> ((10 : Int32) &&& 31)), .inl (900 : Int32)]) (fun w37 r38 =>
            bI (F 5 w37 [.inr (.inr (0, 0, 0)), .inl r36, .inl ((1 : Int32) + r38), .inl r2]) (fun w39 r40 =>
              some (w39, some (.inl r40))
            )
          )
        )
      else if (x2 &&& (15 : Int32)) = (5 : Int32) then
        bI (F 0 w3 [.inl (x2 >>> ((8 : Int32) &&& 31)), .inl (3 : Int32)]) (fun w41 r42 =>
          bI (F 0 w41 [.inl (x2 >>> ((10 : Int32) &&& 31)), .inl (900 : Int32)]) (fun w43 r44 =>
            bI (F 5 w43 [.inr (.inr (0, 0, 0)), .inl r42, .inl ((1 : Int32) + r44), .inl r2]) (fun w45 r46 =>
              some (w45, some (.inl r46))
            )
          )
        )
      else if (x2 &&& (15 : Int32)) = (6 : Int32) then
        bI (F 0 w3 [.inl (x2 >>> ((8 : Int32) &&& 31)), .inl (3 : Int32)]) (fun w47 r48 =>
          bI (F 0 w47 [.inl (x2 >>> ((10 : Int32) &&& 31)), .inl (900 : Int32)]) (fun w49 r50 =>
            bI (F 5 w49 [.inr (.inr (0, 0, 0)), .inl r48, .inl ((1 : Int32) + r50), .inl r2]) (fun w51 r52 =>
              some (w51, some (.inl r52))
            )
          )
        )
      else if (x2 &&& (15 : Int32)) = (7 : Int32) then
        bI (F 0 w3 [.inl (x2 >>> ((8 : Int32) &&& 31)), .inl (500 : Int32)]) (fun w53 r54 =>
          bI (F 6 w53 [.inr (.inr (0, 0, 0)), .inl r54, .inl r2]) (fun w55 r56 =>
            some (w55, some (.inl r56))
          )
        )
      else if (x2 &&& (15 : Int32)) = (8 : Int32) then
        if ((x2 >>> ((20 : Int32) &&& 31)) &&& (3 : Int32)) = 0 then
          bI (F 7 w3 [.inr (.inr (0, 0, 0))]) (fun w57 r58 =>
            some (w57, some (.inl r58))
          )
        else
          bI (F 0 w3 [.inl (x2 >>> ((8 : Int32) &&& 31)), .inl (300 : Int32)]) (fun w59 r60 =>
            bI (F 8 w59 [.inr (.inr (0, 0, 0)), .inl r2, .inl ((1 : Int32) + r60), .inl r4]) (fun w61 r62 =>
              some (w61, some (.inl r62))
            )
          )
      else if (x2 &&& (15 : Int32)) = (9 : Int32) then
        bI (F 9 w3 [.inr (.inr (0, 0, 0)), .inl r2, .inl r4]) (fun w63 r64 =>
          some (w63, some (.inl r64))
        )
      else if (x2 &&& (15 : Int32)) = (10 : Int32) then
        bI (F 10 w3 [.inr (.inr (0, 0, 0)), .inl r2]) (fun w65 r66 =>
          some (w65, some (.inl r66))
        )
      else if (x2 &&& (15 : Int32)) = (11 : Int32) then
        if ((x2 >>> ((20 : Int32) &&& 31)) &&& (1 : Int32)) = 0 then
          bI (F 11 w3 [.inr (.inr (0, 0, 0)), .inl r2]) (fun w67 r68 =>
            some (w67, some (.inl r68))
          )
        else
          bI (F 0 w3 [.inl (x2 >>> ((4 : Int32) &&& 31)), .inl (4 : Int32)]) (fun w69 r70 =>
            bI (F 0 w69 [.inl (x2 >>> ((8 : Int32) &&& 31)), .inl (200 : Int32)]) (fun w71 r72 =>
              bI (F 12 w71 [.inr (.inr (0, 0, 0)), .inl r70, .inl (0 : Int32), .inl (1000 : Int32), .inl (0 : Int32), .inl (1000 : Int32), .inl r72]) (fun w73 r74 =>
                some (w73, some (.inl r74))
              )
            )
          )
      else if (x2 &&& (15 : Int32)) = (12 : Int32) then
        bI (F 0 w3 [.inl (x2 >>> ((6 : Int32) &&& 31)), .inl (4 : Int32)]) (fun w75 r76 =>
          bI (F 0 w75 [.inl (x2 >>> ((8 : Int32) &&& 31)), .inl (10 : Int32)]) (fun w77 r78 =>
            bI (F 0 w77 [.inl (x2 >>> ((12 : Int32) &&& 31)), .inl (30 : Int32)]) (fun w79 r80 =>
              bI (F 13 w79 [.inr (.inr (0, 0, 0)), .inl r2, .inl r76, .inl ((1 : Int32) + r78), .inl ((1 : Int32) + r80)]) (fun w81 r82 =>
                some (w81, some (.inl r82))
              )
            )
          )
        )
      else
        bI (F 14 w3 [.inr (.inr (0, 0, 0))]) (fun w83 r84 =>
          some (w83, some (.inl r84))
        )
    )
  ) := rfl
set_option maxRecDepth 100000 in
theorem qL_does (v : MM) (x2 : Int32) : fL_does v [.inr (.inr (0, 0, 0)), .inl x2] =
  bI (fL_low v [.inl (x2 >>> ((4 : Int32) &&& 31)), .inl (4 : Int32)]) (fun w1 r2 =>
    bI (fL_low w1 [.inl (x2 >>> ((6 : Int32) &&& 31)), .inl (4 : Int32)]) (fun w3 r4 =>
      if (x2 &&& (15 : Int32)) = (0 : Int32) then
        bI (fL_low w3 [.inl (x2 >>> ((4 : Int32) &&& 31)), .inl (6 : Int32)]) (fun w5 r6 =>
          bI (fL_low w5 [.inl (x2 >>> ((7 : Int32) &&& 31)), .inl (501 : Int32)]) (fun w7 r8 =>
            bI (fL_low w7 [.inl (x2 >>> ((16 : Int32) &&& 31)), .inl (201 : Int32)]) (fun w9 r10 =>
              bI (fL_low w9 [.inl (x2 >>> ((24 : Int32) &&& 31)), .inl (101 : Int32)]) (fun w11 r12 =>
                bI (fX6_setVariety w11 [.inr (.inr (0, 0, 0)), .inl r6, .inl ((300 : Int32) + r8), .inl r10, .inl r12]) (fun w13 r14 =>
                  some (w13, some (.inl r14))
                )
              )
            )
          )
        )
      else if (x2 &&& (15 : Int32)) = (1 : Int32) then
        bI (fL_low w3 [.inl (x2 >>> ((4 : Int32) &&& 31)), .inl (21 : Int32)]) (fun w15 r16 =>
          bI (fL_low w15 [.inl (x2 >>> ((9 : Int32) &&& 31)), .inl (101 : Int32)]) (fun w17 r18 =>
            bI (fL_low w17 [.inl (x2 >>> ((16 : Int32) &&& 31)), .inl (501 : Int32)]) (fun w19 r20 =>
              bI (fL_low w19 [.inl (x2 >>> ((25 : Int32) &&& 31)), .inl (100 : Int32)]) (fun w21 r22 =>
                bI (fX6_setRates w21 [.inr (.inr (0, 0, 0)), .inl r16, .inl r18, .inl r20, .inl r22]) (fun w23 r24 =>
                  some (w23, some (.inl r24))
                )
              )
            )
          )
        )
      else if (x2 &&& (15 : Int32)) = (2 : Int32) then
        bI (fL_low w3 [.inl (x2 >>> ((4 : Int32) &&& 31)), .inl (7 : Int32)]) (fun w25 r26 =>
          bI (fL_low w25 [.inl (x2 >>> ((7 : Int32) &&& 31)), .inl (3000 : Int32)]) (fun w27 r28 =>
            bI (fX6_buy w27 [.inr (.inr (0, 0, 0)), .inl r26, .inl r28]) (fun w29 r30 =>
              some (w29, some (.inl r30))
            )
          )
        )
      else if (x2 &&& (15 : Int32)) = (3 : Int32) then
        bI (fL_low w3 [.inl (x2 >>> ((4 : Int32) &&& 31)), .inl (2000 : Int32)]) (fun w31 r32 =>
          bI (fX6_addTank w31 [.inr (.inr (0, 0, 0)), .inl r32]) (fun w33 r34 =>
            some (w33, some (.inl r34))
          )
        )
      else if (x2 &&& (15 : Int32)) = (4 : Int32) then
        bI (fL_low w3 [.inl (x2 >>> ((8 : Int32) &&& 31)), .inl (3 : Int32)]) (fun w35 r36 =>
          bI (fL_low w35 [.inl (x2 >>> ((10 : Int32) &&& 31)), .inl (900 : Int32)]) (fun w37 r38 =>
            bI (fX6_press w37 [.inr (.inr (0, 0, 0)), .inl r36, .inl ((1 : Int32) + r38), .inl r2]) (fun w39 r40 =>
              some (w39, some (.inl r40))
            )
          )
        )
      else if (x2 &&& (15 : Int32)) = (5 : Int32) then
        bI (fL_low w3 [.inl (x2 >>> ((8 : Int32) &&& 31)), .inl (3 : Int32)]) (fun w41 r42 =>
          bI (fL_low w41 [.inl (x2 >>> ((10 : Int32) &&& 31)), .inl (900 : Int32)]) (fun w43 r44 =>
            bI (fX6_press w43 [.inr (.inr (0, 0, 0)), .inl r42, .inl ((1 : Int32) + r44), .inl r2]) (fun w45 r46 =>
              some (w45, some (.inl r46))
            )
          )
        )
      else if (x2 &&& (15 : Int32)) = (6 : Int32) then
        bI (fL_low w3 [.inl (x2 >>> ((8 : Int32) &&& 31)), .inl (3 : Int32)]) (fun w47 r48 =>
          bI (fL_low w47 [.inl (x2 >>> ((10 : Int32) &&& 31)), .inl (900 : Int32)]) (fun w49 r50 =>
            bI (fX6_press w49 [.inr (.inr (0, 0, 0)), .inl r48, .inl ((1 : Int32) + r50), .inl r2]) (fun w51 r52 =>
              some (w51, some (.inl r52))
            )
          )
        )
      else if (x2 &&& (15 : Int32)) = (7 : Int32) then
        bI (fL_low w3 [.inl (x2 >>> ((8 : Int32) &&& 31)), .inl (500 : Int32)]) (fun w53 r54 =>
          bI (fX6_wet w53 [.inr (.inr (0, 0, 0)), .inl r54, .inl r2]) (fun w55 r56 =>
            some (w55, some (.inl r56))
          )
        )
      else if (x2 &&& (15 : Int32)) = (8 : Int32) then
        if ((x2 >>> ((20 : Int32) &&& 31)) &&& (3 : Int32)) = 0 then
          bI (fX6_sellPomace w3 [.inr (.inr (0, 0, 0))]) (fun w57 r58 =>
            some (w57, some (.inl r58))
          )
        else
          bI (fL_low w3 [.inl (x2 >>> ((8 : Int32) &&& 31)), .inl (300 : Int32)]) (fun w59 r60 =>
            bI (fX6_move w59 [.inr (.inr (0, 0, 0)), .inl r2, .inl ((1 : Int32) + r60), .inl r4]) (fun w61 r62 =>
              some (w61, some (.inl r62))
            )
          )
      else if (x2 &&& (15 : Int32)) = (9 : Int32) then
        bI (fX6_rack w3 [.inr (.inr (0, 0, 0)), .inl r2, .inl r4]) (fun w63 r64 =>
          some (w63, some (.inl r64))
        )
      else if (x2 &&& (15 : Int32)) = (10 : Int32) then
        bI (fX6_clean w3 [.inr (.inr (0, 0, 0)), .inl r2]) (fun w65 r66 =>
          some (w65, some (.inl r66))
        )
      else if (x2 &&& (15 : Int32)) = (11 : Int32) then
        if ((x2 >>> ((20 : Int32) &&& 31)) &&& (1 : Int32)) = 0 then
          bI (fX6_pour w3 [.inr (.inr (0, 0, 0)), .inl r2]) (fun w67 r68 =>
            some (w67, some (.inl r68))
          )
        else
          bI (fL_low w3 [.inl (x2 >>> ((4 : Int32) &&& 31)), .inl (4 : Int32)]) (fun w69 r70 =>
            bI (fL_low w69 [.inl (x2 >>> ((8 : Int32) &&& 31)), .inl (200 : Int32)]) (fun w71 r72 =>
              bI (fX6_setLabel w71 [.inr (.inr (0, 0, 0)), .inl r70, .inl (0 : Int32), .inl (1000 : Int32), .inl (0 : Int32), .inl (1000 : Int32), .inl r72]) (fun w73 r74 =>
                some (w73, some (.inl r74))
              )
            )
          )
      else if (x2 &&& (15 : Int32)) = (12 : Int32) then
        bI (fL_low w3 [.inl (x2 >>> ((6 : Int32) &&& 31)), .inl (4 : Int32)]) (fun w75 r76 =>
          bI (fL_low w75 [.inl (x2 >>> ((8 : Int32) &&& 31)), .inl (10 : Int32)]) (fun w77 r78 =>
            bI (fL_low w77 [.inl (x2 >>> ((12 : Int32) &&& 31)), .inl (30 : Int32)]) (fun w79 r80 =>
              bI (fX6_bottle w79 [.inr (.inr (0, 0, 0)), .inl r2, .inl r76, .inl ((1 : Int32) + r78), .inl ((1 : Int32) + r80)]) (fun w81 r82 =>
                some (w81, some (.inl r82))
              )
            )
          )
        )
      else
        bI (fX6_day w3 [.inr (.inr (0, 0, 0))]) (fun w83 r84 =>
          some (w83, some (.inl r84))
        )
    )
  ) := fn_eq rfl (eL_does FL_does _ v x2)
set_option maxRecDepth 100000 in
set_option maxHeartbeats 400000 in
theorem eL_tale (F : Nat → MF) (R : Nat → Nat → ML → List MV → MM → MR) (v : MM) : stp F cdL_tale (runH F cdL_tale [4, 35, 40, 59, 84] R 3) 0 [(0, .inr (.inr (0, 0, 0)))] [] v =
  R 0 4 [(3, .inl (0 : Int32)), (1, .inr (.inl (3 : Int64))), (0, .inr (.inr (0, 0, 0)))] [] v := rfl
set_option maxRecDepth 100000 in
set_option maxHeartbeats 400000 in
theorem eL_tale_4 (F : Nat → MF) (R : Nat → Nat → ML → List MV → MM → MR) (v : MM) (y : Int32) (z : Int64) : stp F cdL_tale (runH F cdL_tale [4, 35, 40, 59, 84] R 26) 4 [(3, .inl y), (1, .inr (.inl z)), (0, .inr (.inr (0, 0, 0)))] [] v =
  if y < (11 : Int32) then
    bI (F 0 v [.inr (.inr (0, 0, 0)), .inl y]) (fun w1 r2 =>
      if y = (4 : Int32) then
        R 7 4 [(3, .inl (y + (1 : Int32))), (1, .inr (.inl (((z * (31 : Int64)) + r2.toInt64) + (0 : Int64)))), (0, .inr (.inr (0, 0, 0)))] [] w1
      else
        if y = (6 : Int32) then
          R 4 4 [(3, .inl (y + (1 : Int32))), (1, .inr (.inl (((z * (31 : Int64)) + r2.toInt64) + (0 : Int64)))), (0, .inr (.inr (0, 0, 0)))] [] w1
        else
          bI (F 1 w1 [.inr (.inr (0, 0, 0)), .inl y]) (fun w3 r4 =>
            R 0 4 [(3, .inl (y + (1 : Int32))), (1, .inr (.inl (((z * (31 : Int64)) + r2.toInt64) + ((7 : Int64) * r4.toInt64)))), (0, .inr (.inr (0, 0, 0)))] [] w3
          )
    )
  else
    R 22 35 [(3, .inl (0 : Int32)), (1, .inr (.inl z)), (0, .inr (.inr (0, 0, 0)))] [] v := rfl
set_option maxRecDepth 100000 in
set_option maxHeartbeats 400000 in
theorem eL_tale_35 (F : Nat → MF) (R : Nat → Nat → ML → List MV → MM → MR) (v : MM) (y : Int32) (z : Int64) : stp F cdL_tale (runH F cdL_tale [4, 35, 40, 59, 84] R 4) 35 [(3, .inl y), (1, .inr (.inl z)), (0, .inr (.inr (0, 0, 0)))] [] v =
  if y < (6 : Int32) then
    R 0 40 [(4, .inl (0 : Int32)), (3, .inl y), (1, .inr (.inl z)), (0, .inr (.inr (0, 0, 0)))] [] v
  else
    R 0 59 [(3, .inl (0 : Int32)), (1, .inr (.inl z)), (0, .inr (.inr (0, 0, 0)))] [] v := rfl
set_option maxRecDepth 100000 in
set_option maxHeartbeats 400000 in
theorem eL_tale_40 (F : Nat → MF) (R : Nat → Nat → ML → List MV → MM → MR) (v : MM) (x y : Int32) (z : Int64) : stp F cdL_tale (runH F cdL_tale [4, 35, 40, 59, 84] R 14) 40 [(4, .inl x), (3, .inl y), (1, .inr (.inl z)), (0, .inr (.inr (0, 0, 0)))] [] v =
  if x < (8 : Int32) then
    bI (F 2 v [.inr (.inr (0, 0, 0)), .inl y, .inl x]) (fun w1 r2 =>
      R 0 40 [(4, .inl (x + (1 : Int32))), (1, .inr (.inl ((z * (37 : Int64)) + r2.toInt64))), (3, .inl y), (0, .inr (.inr (0, 0, 0)))] [] w1
    )
  else
    R 10 35 [(3, .inl (y + (1 : Int32))), (4, .inl x), (1, .inr (.inl z)), (0, .inr (.inr (0, 0, 0)))] [] v := rfl
set_option maxRecDepth 100000 in
set_option maxHeartbeats 400000 in
theorem eL_tale_59 (F : Nat → MF) (R : Nat → Nat → ML → List MV → MM → MR) (v : MM) (y : Int32) (z : Int64) : stp F cdL_tale (runH F cdL_tale [4, 35, 40, 59, 84] R 22) 59 [(3, .inl y), (1, .inr (.inl z)), (0, .inr (.inr (0, 0, 0)))] [] v =
  if y < (8 : Int32) then
    bI (F 3 v [.inr (.inr (0, 0, 0)), .inl y, .inl (0 : Int32)]) (fun w1 r2 =>
      bI (F 3 w1 [.inr (.inr (0, 0, 0)), .inl y, .inl (1 : Int32)]) (fun w3 r4 =>
        R 0 59 [(3, .inl (y + (1 : Int32))), (1, .inr (.inl (((z * (41 : Int64)) + r2.toInt64) + ((11 : Int64) * r4.toInt64)))), (0, .inr (.inr (0, 0, 0)))] [] w3
      )
    )
  else
    R 18 84 [(3, .inl (0 : Int32)), (1, .inr (.inl z)), (0, .inr (.inr (0, 0, 0)))] [] v := rfl
set_option maxRecDepth 100000 in
set_option maxHeartbeats 400000 in
theorem eL_tale_84 (F : Nat → MF) (R : Nat → Nat → ML → List MV → MM → MR) (v : MM) (y : Int32) (z : Int64) : stp F cdL_tale (runH F cdL_tale [4, 35, 40, 59, 84] R 24) 84 [(3, .inl y), (1, .inr (.inl z)), (0, .inr (.inr (0, 0, 0)))] [] v =
  if y < (4 : Int32) then
    bI (F 4 v [.inr (.inr (0, 0, 0)), .inl y, .inl (0 : Int32)]) (fun w1 r2 =>
      bI (F 4 w1 [.inr (.inr (0, 0, 0)), .inl y, .inl ((1 : Int32) + y)]) (fun w3 r4 =>
        R 0 84 [(3, .inl (y + (1 : Int32))), (1, .inr (.inl (((z * (43 : Int64)) + r2.toInt64) + ((3 : Int64) * r4.toInt64)))), (0, .inr (.inr (0, 0, 0)))] [] w3
      )
    )
  else
    some (v, some (.inr (.inl z))) := rfl
set_option maxRecDepth 100000 in
theorem qL_tale (v : MM) : fL_tale v [.inr (.inr (0, 0, 0))] =
  rLim FL_tale cdL_tale 4 [(3, .inl (0 : Int32)), (1, .inr (.inl (3 : Int64))), (0, .inr (.inr (0, 0, 0)))] [] v := fn_eq rfl (eL_tale FL_tale _ v )
set_option maxRecDepth 100000 in
theorem qL_tale_4 (v : MM) (y : Int32) (z : Int64) : rLim FL_tale cdL_tale 4 [(3, .inl y), (1, .inr (.inl z)), (0, .inr (.inr (0, 0, 0)))] [] v =
  if y < (11 : Int32) then
    bI (fX6_account v [.inr (.inr (0, 0, 0)), .inl y]) (fun w1 r2 =>
      if y = (4 : Int32) then
        rLim FL_tale cdL_tale 4 [(3, .inl (y + (1 : Int32))), (1, .inr (.inl (((z * (31 : Int64)) + r2.toInt64) + (0 : Int64)))), (0, .inr (.inr (0, 0, 0)))] [] w1
      else
        if y = (6 : Int32) then
          rLim FL_tale cdL_tale 4 [(3, .inl (y + (1 : Int32))), (1, .inr (.inl (((z * (31 : Int64)) + r2.toInt64) + (0 : Int64)))), (0, .inr (.inr (0, 0, 0)))] [] w1
        else
          bI (fX6_count w1 [.inr (.inr (0, 0, 0)), .inl y]) (fun w3 r4 =>
            rLim FL_tale cdL_tale 4 [(3, .inl (y + (1 : Int32))), (1, .inr (.inl (((z * (31 : Int64)) + r2.toInt64) + ((7 : Int64) * r4.toInt64)))), (0, .inr (.inr (0, 0, 0)))] [] w3
          )
    )
  else
    rLim FL_tale cdL_tale 35 [(3, .inl (0 : Int32)), (1, .inr (.inl z)), (0, .inr (.inr (0, 0, 0)))] [] v := rl_eq (eL_tale_4 FL_tale _ v y z)
set_option maxRecDepth 100000 in
theorem qL_tale_35 (v : MM) (y : Int32) (z : Int64) : rLim FL_tale cdL_tale 35 [(3, .inl y), (1, .inr (.inl z)), (0, .inr (.inr (0, 0, 0)))] [] v =
  if y < (6 : Int32) then
    rLim FL_tale cdL_tale 40 [(4, .inl (0 : Int32)), (3, .inl y), (1, .inr (.inl z)), (0, .inr (.inr (0, 0, 0)))] [] v
  else
    rLim FL_tale cdL_tale 59 [(3, .inl (0 : Int32)), (1, .inr (.inl z)), (0, .inr (.inr (0, 0, 0)))] [] v := rl_eq (eL_tale_35 FL_tale _ v y z)
set_option maxRecDepth 100000 in
theorem qL_tale_40 (v : MM) (x y : Int32) (z : Int64) : rLim FL_tale cdL_tale 40 [(4, .inl x), (3, .inl y), (1, .inr (.inl z)), (0, .inr (.inr (0, 0, 0)))] [] v =
  if x < (8 : Int32) then
    bI (fX6_tank v [.inr (.inr (0, 0, 0)), .inl y, .inl x]) (fun w1 r2 =>
      rLim FL_tale cdL_tale 40 [(4, .inl (x + (1 : Int32))), (1, .inr (.inl ((z * (37 : Int64)) + r2.toInt64))), (3, .inl y), (0, .inr (.inr (0, 0, 0)))] [] w1
    )
  else
    rLim FL_tale cdL_tale 35 [(3, .inl (y + (1 : Int32))), (4, .inl x), (1, .inr (.inl z)), (0, .inr (.inr (0, 0, 0)))] [] v := rl_eq (eL_tale_40 FL_tale _ v x y z)
set_option maxRecDepth 100000 in
theorem qL_tale_59 (v : MM) (y : Int32) (z : Int64) : rLim FL_tale cdL_tale 59 [(3, .inl y), (1, .inr (.inl z)), (0, .inr (.inr (0, 0, 0)))] [] v =
  if y < (8 : Int32) then
    bI (fX6_lot v [.inr (.inr (0, 0, 0)), .inl y, .inl (0 : Int32)]) (fun w1 r2 =>
      bI (fX6_lot w1 [.inr (.inr (0, 0, 0)), .inl y, .inl (1 : Int32)]) (fun w3 r4 =>
        rLim FL_tale cdL_tale 59 [(3, .inl (y + (1 : Int32))), (1, .inr (.inl (((z * (41 : Int64)) + r2.toInt64) + ((11 : Int64) * r4.toInt64)))), (0, .inr (.inr (0, 0, 0)))] [] w3
      )
    )
  else
    rLim FL_tale cdL_tale 84 [(3, .inl (0 : Int32)), (1, .inr (.inl z)), (0, .inr (.inr (0, 0, 0)))] [] v := rl_eq (eL_tale_59 FL_tale _ v y z)
set_option maxRecDepth 100000 in
theorem qL_tale_84 (v : MM) (y : Int32) (z : Int64) : rLim FL_tale cdL_tale 84 [(3, .inl y), (1, .inr (.inl z)), (0, .inr (.inr (0, 0, 0)))] [] v =
  if y < (4 : Int32) then
    bI (fX6_bottles v [.inr (.inr (0, 0, 0)), .inl y, .inl (0 : Int32)]) (fun w1 r2 =>
      bI (fX6_bottles w1 [.inr (.inr (0, 0, 0)), .inl y, .inl ((1 : Int32) + y)]) (fun w3 r4 =>
        rLim FL_tale cdL_tale 84 [(3, .inl (y + (1 : Int32))), (1, .inr (.inl (((z * (43 : Int64)) + r2.toInt64) + ((3 : Int64) * r4.toInt64)))), (0, .inr (.inr (0, 0, 0)))] [] w3
      )
    )
  else
    some (v, some (.inr (.inl z))) := rl_eq (eL_tale_84 FL_tale _ v y z)
theorem f99_eq {S : MSc} {v : MM} {k : Int32} (h : mIn k S.1) : FL_cell S 99 v [.inl k] = some (v, some (.inl (S.2 k.toNatClampNeg))) := if_pos h
set_option maxRecDepth 100000 in
theorem eL_cell (F : Nat → MF) (R : Nat → Nat → ML → List MV → MM → MR) (v : MM) (k : Int32) : stp F cdL_cell (runH F cdL_cell [] R 20) 0 [(0, .inr (.inr (22, 0, 0))), (1, .inl k)] [] v =
  bI (F 98 v []) (fun _ r => if k < r then bI (F 99 v [.inl k]) (fun _ x => some (v, some (.inl x))) else some (v, some (.inl ((7919 : Int32) * (k + (3 : Int32)) * (k + (11 : Int32)))))) := rfl
theorem qL_cell (S : MSc) (v : MM) (k : Int32) : fL_cell S v [.inr (.inr (22, 0, 0)), .inl k] =
  bI (FL_cell S 98 v []) (fun _ r => if k < r then bI (FL_cell S 99 v [.inl k]) (fun _ x => some (v, some (.inl x))) else some (v, some (.inl ((7919 : Int32) * (k + (3 : Int32)) * (k + (11 : Int32)))))) := fn_eq rfl (eL_cell (FL_cell S) _ v k)
