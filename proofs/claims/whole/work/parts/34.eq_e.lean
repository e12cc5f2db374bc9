-- EQUATIONS of the runs (by program: wip/whole/gen/sym.py)
set_option maxRecDepth 100000 in
set_option maxHeartbeats 200000 in
theorem eX7_in (F : Nat → MF) (R : Nat → Nat → ML → List MV → MM → MR) (v : MM) (x1 x2 x3 : Int32) : stp F cdX7_in (runH F cdX7_in [] R 8) 0 [(0, .inl x1), (1, .inl x2), (2, .inl x3)] [] v =
  if x1 < x2 then
    some (v, some (.inl (0 : Int32)))
  else
    if x3 < x1 then
      some (v, some (.inl (0 : Int32)))
    else
      some (v, some (.inl (1 : Int32))) := rfl
set_option maxRecDepth 100000 in
set_option maxHeartbeats 200000 in
theorem eX7_edits (F : Nat → MF) (R : Nat → Nat → ML → List MV → MM → MR) (v : MM) : stp F cdX7_edits (runH F cdX7_edits [6, 29] R 5) 0 [(0, .inr (.inr (16, 0, 0)))] [] v =
  if (v.1 13 2) = (6 : Int32) then
    R 0 6 [(1, .inl (0 : Int32)), (0, .inr (.inr (16, 0, 0)))] [] v
  else
    R 0 29 [(1, .inl (0 : Int32)), (0, .inr (.inr (16, 0, 0)))] [] v := rfl
set_option maxRecDepth 100000 in
set_option maxHeartbeats 200000 in
theorem eX7_edits_6 (F : Nat → MF) (R : Nat → Nat → ML → List MV → MM → MR) (v : MM) (y1 : Int32) : stp F cdX7_edits (runH F cdX7_edits [6, 29] R 14) 6 [(1, .inl y1), (0, .inr (.inr (16, 0, 0)))] [] v =
  if y1 < (755 : Int32) then
    if mIn (y1 + (151 : Int32)) 906 then
    if mIn y1 906 then
    let w1 : MM := mUp v (15, y1.toNatClampNeg) (v.1 15 ((y1 + (151 : Int32)).toNatClampNeg))
    R 0 6 [(1, .inl (y1 + (1 : Int32))), (0, .inr (.inr (16, 0, 0)))] [] w1
    else none
    else none
  else
    let w2 : MM := mUp v (13, 2) ((v.1 13 2) - (1 : Int32))
    R 4 29 [(1, .inl (0 : Int32)), (0, .inr (.inr (16, 0, 0)))] [] w2 := rfl
set_option maxRecDepth 100000 in
set_option maxHeartbeats 200000 in
theorem eX7_edits_29 (F : Nat → MF) (R : Nat → Nat → ML → List MV → MM → MR) (v : MM) (y1 : Int32) : stp F cdX7_edits (runH F cdX7_edits [6, 29] R 17) 29 [(1, .inl y1), (0, .inr (.inr (16, 0, 0)))] [] v =
  if y1 < (151 : Int32) then
    if mIn y1 151 then
    if mIn (((151 : Int32) * (v.1 13 2)) + y1) 906 then
    let w1 : MM := mUp v (15, (((151 : Int32) * (v.1 13 2)) + y1).toNatClampNeg) (v.1 14 y1.toNatClampNeg)
    R 0 29 [(1, .inl (y1 + (1 : Int32))), (0, .inr (.inr (16, 0, 0)))] [] w1
    else none
    else none
  else
    let w2 : MM := mUp v (13, 2) ((v.1 13 2) + (1 : Int32))
    let w3 : MM := mUp w2 (13, 4) (0 : Int32)
    some (w3, none) := rfl
set_option maxRecDepth 100000 in
set_option maxHeartbeats 200000 in
theorem eX7_undo (F : Nat → MF) (R : Nat → Nat → ML → List MV → MM → MR) (v : MM) : stp F cdX7_undo (runH F cdX7_undo [13] R 10) 0 [(0, .inr (.inr (16, 0, 0)))] [] v =
  if (v.1 13 2) = 0 then
    some (v, some (.inl (-2 : Int32)))
  else
    let w1 : MM := mUp v (13, 2) ((v.1 13 2) - (1 : Int32))
    R 0 13 [(1, .inl (0 : Int32)), (0, .inr (.inr (16, 0, 0)))] [] w1 := rfl
set_option maxRecDepth 100000 in
set_option maxHeartbeats 200000 in
theorem eX7_undo_13 (F : Nat → MF) (R : Nat → Nat → ML → List MV → MM → MR) (v : MM) (y1 : Int32) : stp F cdX7_undo (runH F cdX7_undo [13] R 17) 13 [(1, .inl y1), (0, .inr (.inr (16, 0, 0)))] [] v =
  if y1 < (151 : Int32) then
    if mIn (((151 : Int32) * (v.1 13 2)) + y1) 906 then
    if mIn y1 151 then
    let w1 : MM := mUp v (14, y1.toNatClampNeg) (v.1 15 ((((151 : Int32) * (v.1 13 2)) + y1).toNatClampNeg))
    R 0 13 [(1, .inl (y1 + (1 : Int32))), (0, .inr (.inr (16, 0, 0)))] [] w1
    else none
    else none
  else
    some (v, some (.inl (v.1 13 2))) := rfl
set_option maxRecDepth 100000 in
set_option maxHeartbeats 200000 in
theorem eX7_refuses (F : Nat → MF) (R : Nat → Nat → ML → List MV → MM → MR) (v : MM) (x1 : Int32) : stp F cdX7_refuses (runH F cdX7_refuses [] R 4) 0 [(0, .inr (.inr (16, 0, 0))), (1, .inl x1)] [] v =
  let w1 : MM := mUp v (13, 4) x1
  some (w1, some (.inl (-2 : Int32))) := rfl
set_option maxRecDepth 100000 in
set_option maxHeartbeats 200000 in
theorem eX7_keeps (F : Nat → MF) (R : Nat → Nat → ML → List MV → MM → MR) (v : MM) : stp F cdX7_keeps (runH F cdX7_keeps [2] R 1) 0 [(0, .inr (.inr (16, 0, 0)))] [] v =
  R 0 2 [(1, .inl (0 : Int32)), (0, .inr (.inr (16, 0, 0)))] [] v := rfl
set_option maxRecDepth 100000 in
set_option maxHeartbeats 200000 in
theorem eX7_keeps_2 (F : Nat → MF) (R : Nat → Nat → ML → List MV → MM → MR) (v : MM) (y1 : Int32) : stp F cdX7_keeps (runH F cdX7_keeps [2] R 12) 2 [(1, .inl y1), (0, .inr (.inr (16, 0, 0)))] [] v =
  if y1 < (151 : Int32) then
    if mIn y1 151 then
    if mIn y1 151 then
    let w1 : MM := mUp v (16, y1.toNatClampNeg) (v.1 14 y1.toNatClampNeg)
    R 0 2 [(1, .inl (y1 + (1 : Int32))), (0, .inr (.inr (16, 0, 0)))] [] w1
    else none
    else none
  else
    some (v, none) := rfl
set_option maxRecDepth 100000 in
set_option maxHeartbeats 200000 in
theorem eX7_restores (F : Nat → MF) (R : Nat → Nat → ML → List MV → MM → MR) (v : MM) : stp F cdX7_restores (runH F cdX7_restores [2] R 1) 0 [(0, .inr (.inr (16, 0, 0)))] [] v =
  R 0 2 [(1, .inl (0 : Int32)), (0, .inr (.inr (16, 0, 0)))] [] v := rfl
set_option maxRecDepth 100000 in
set_option maxHeartbeats 200000 in
theorem eX7_restores_2 (F : Nat → MF) (R : Nat → Nat → ML → List MV → MM → MR) (v : MM) (y1 : Int32) : stp F cdX7_restores (runH F cdX7_restores [2] R 12) 2 [(1, .inl y1), (0, .inr (.inr (16, 0, 0)))] [] v =
  if y1 < (151 : Int32) then
    if mIn y1 151 then
    if mIn y1 151 then
    let w1 : MM := mUp v (14, y1.toNatClampNeg) (v.1 16 y1.toNatClampNeg)
    R 0 2 [(1, .inl (y1 + (1 : Int32))), (0, .inr (.inr (16, 0, 0)))] [] w1
    else none
    else none
  else
    some (v, none) := rfl
set_option maxRecDepth 100000 in
set_option maxHeartbeats 200000 in
theorem eX7_changes (F : Nat → MF) (R : Nat → Nat → ML → List MV → MM → MR) (v : MM) (x1 x2 : Int32) : stp F cdX7_changes (runH F cdX7_changes [] R 15) 0 [(0, .inr (.inr (16, 0, 0))), (1, .inl x1), (2, .inl x2)] [] v =
  if mIn x1 151 then
  if (v.1 14 x1.toNatClampNeg) = x2 then
    if mIn x1 151 then
    let w1 : MM := mUp v (14, x1.toNatClampNeg) x2
    some (w1, some (.inl (0 : Int32)))
    else none
  else
    if mIn x1 151 then
    let w2 : MM := mUp v (14, x1.toNatClampNeg) x2
    some (w2, some (.inl (1 : Int32)))
    else none
  else none := rfl
set_option maxRecDepth 100000 in
set_option maxHeartbeats 200000 in
theorem eX7_setVariety (F : Nat → MF) (R : Nat → Nat → ML → List MV → MM → MR) (v : MM) (x1 x2 x3 x4 : Int32) : stp F cdX7_setVariety (runH F cdX7_setVariety [] R 55) 0 [(0, .inr (.inr (16, 0, 0))), (1, .inl x1), (2, .inl x2), (3, .inl x3), (4, .inl x4)] [] v =
  bI (F 0 v [.inl x1, .inl (0 : Int32), .inl (5 : Int32)]) (fun w1 r2 =>
    if r2 = 0 then
      some (w1, some (.inl (-1 : Int32)))
    else
      bI (F 0 w1 [.inl x2, .inl (300 : Int32), .inl (800 : Int32)]) (fun w3 r4 =>
        if r4 = 0 then
          some (w3, some (.inl (-1 : Int32)))
        else
          bI (F 0 w3 [.inl x3, .inl (0 : Int32), .inl (200 : Int32)]) (fun w5 r6 =>
            if r6 = 0 then
              some (w5, some (.inl (-1 : Int32)))
            else
              bI (F 0 w5 [.inl x4, .inl (0 : Int32), .inl (100 : Int32)]) (fun w7 r8 =>
                if r8 = 0 then
                  some (w7, some (.inl (-1 : Int32)))
                else
                  bV (F 1 w7 [.inr (.inr (16, 0, 0))]) (fun w9 =>
                    if mIn ((3 : Int32) * x1) 151 then
                    if mIn ((3 : Int32) * x1) 151 then
                    let w10 : MM := mUp w9 (14, ((3 : Int32) * x1).toNatClampNeg) x2
                    if mIn (((3 : Int32) * x1) + (1 : Int32)) 151 then
                    let w11 : MM := mUp w10 (14, (((3 : Int32) * x1) + (1 : Int32)).toNatClampNeg) x3
                    if mIn (((3 : Int32) * x1) + (2 : Int32)) 151 then
                    let w12 : MM := mUp w11 (14, (((3 : Int32) * x1) + (2 : Int32)).toNatClampNeg) x4
                    some (w12, some (.inl (w9.1 14 (((3 : Int32) * x1).toNatClampNeg))))
                    else none
                    else none
                    else none
                    else none
                  )
              )
          )
      )
  ) := rfl
set_option maxRecDepth 100000 in
set_option maxHeartbeats 200000 in
theorem eX7_setRates (F : Nat → MF) (R : Nat → Nat → ML → List MV → MM → MR) (v : MM) (x1 x2 x3 x4 : Int32) : stp F cdX7_setRates (runH F cdX7_setRates [] R 46) 0 [(0, .inr (.inr (16, 0, 0))), (1, .inl x1), (2, .inl x2), (3, .inl x3), (4, .inl x4)] [] v =
  bI (F 0 v [.inl x1, .inl (0 : Int32), .inl (20 : Int32)]) (fun w1 r2 =>
    if r2 = 0 then
      some (w1, some (.inl (-1 : Int32)))
    else
      bI (F 0 w1 [.inl x2, .inl (0 : Int32), .inl (100 : Int32)]) (fun w3 r4 =>
        if r4 = 0 then
          some (w3, some (.inl (-1 : Int32)))
        else
          bI (F 0 w3 [.inl x3, .inl (0 : Int32), .inl (500 : Int32)]) (fun w5 r6 =>
            if r6 = 0 then
              some (w5, some (.inl (-1 : Int32)))
            else
              bI (F 0 w5 [.inl x4, .inl (0 : Int32), .inl (300 : Int32)]) (fun w7 r8 =>
                if r8 = 0 then
                  some (w7, some (.inl (-1 : Int32)))
                else
                  bV (F 1 w7 [.inr (.inr (16, 0, 0))]) (fun w9 =>
                    bI (F 2 w9 [.inr (.inr (16, 0, 0)), .inl (18 : Int32), .inl x1]) (fun w10 r11 =>
                      bI (F 2 w10 [.inr (.inr (16, 0, 0)), .inl (19 : Int32), .inl x2]) (fun w12 r13 =>
                        bI (F 2 w12 [.inr (.inr (16, 0, 0)), .inl (20 : Int32), .inl x3]) (fun w14 r15 =>
                          bI (F 2 w14 [.inr (.inr (16, 0, 0)), .inl (21 : Int32), .inl x4]) (fun w16 r17 =>
                            if 0 < (((r11 + r13) + r15) + r17) then
                              some (w16, some (.inl (1 : Int32)))
                            else
                              some (w16, some (.inl (0 : Int32)))
                          )
                        )
                      )
                    )
                  )
              )
          )
      )
  ) := rfl
set_option maxRecDepth 100000 in
set_option maxHeartbeats 200000 in
theorem eX7_setLabel (F : Nat → MF) (R : Nat → Nat → ML → List MV → MM → MR) (v : MM) (x1 x2 x3 x4 x5 x6 : Int32) : stp F cdX7_setLabel (runH F cdX7_setLabel [] R 80) 0 [(0, .inr (.inr (16, 0, 0))), (1, .inl x1), (2, .inl x2), (3, .inl x3), (4, .inl x4), (5, .inl x5), (6, .inl x6)] [] v =
  bI (F 0 v [.inl x1, .inl (0 : Int32), .inl (3 : Int32)]) (fun w1 r2 =>
    if r2 = 0 then
      if (0 : Int32) = 0 then
        some (w1, some (.inl (-1 : Int32)))
      else
        bV (F 1 w1 [.inr (.inr (16, 0, 0))]) (fun w3 =>
          bI (F 2 w3 [.inr (.inr (16, 0, 0)), .inl ((22 : Int32) + ((5 : Int32) * x1)), .inl x2]) (fun w4 r5 =>
            bI (F 2 w4 [.inr (.inr (16, 0, 0)), .inl (((22 : Int32) + ((5 : Int32) * x1)) + (1 : Int32)), .inl x3]) (fun w6 r7 =>
              bI (F 2 w6 [.inr (.inr (16, 0, 0)), .inl (((22 : Int32) + ((5 : Int32) * x1)) + (2 : Int32)), .inl x4]) (fun w8 r9 =>
                bI (F 2 w8 [.inr (.inr (16, 0, 0)), .inl (((22 : Int32) + ((5 : Int32) * x1)) + (3 : Int32)), .inl x5]) (fun w10 r11 =>
                  bI (F 2 w10 [.inr (.inr (16, 0, 0)), .inl (((22 : Int32) + ((5 : Int32) * x1)) + (4 : Int32)), .inl x6]) (fun w12 r13 =>
                    if 0 < ((((r5 + r7) + r9) + r11) + r13) then
                      some (w12, some (.inl (1 : Int32)))
                    else
                      some (w12, some (.inl (0 : Int32)))
                  )
                )
              )
            )
          )
        )
    else
      bI (F 0 w1 [.inl x2, .inl (0 : Int32), .inl (1000 : Int32)]) (fun w14 r15 =>
        if r15 = 0 then
          if (0 : Int32) = 0 then
            some (w14, some (.inl (-1 : Int32)))
          else
            bV (F 1 w14 [.inr (.inr (16, 0, 0))]) (fun w16 =>
              bI (F 2 w16 [.inr (.inr (16, 0, 0)), .inl ((22 : Int32) + ((5 : Int32) * x1)), .inl x2]) (fun w17 r18 =>
                bI (F 2 w17 [.inr (.inr (16, 0, 0)), .inl (((22 : Int32) + ((5 : Int32) * x1)) + (1 : Int32)), .inl x3]) (fun w19 r20 =>
                  bI (F 2 w19 [.inr (.inr (16, 0, 0)), .inl (((22 : Int32) + ((5 : Int32) * x1)) + (2 : Int32)), .inl x4]) (fun w21 r22 =>
                    bI (F 2 w21 [.inr (.inr (16, 0, 0)), .inl (((22 : Int32) + ((5 : Int32) * x1)) + (3 : Int32)), .inl x5]) (fun w23 r24 =>
                      bI (F 2 w23 [.inr (.inr (16, 0, 0)), .inl (((22 : Int32) + ((5 : Int32) * x1)) + (4 : Int32)), .inl x6]) (fun w25 r26 =>
                        if 0 < ((((r18 + r20) + r22) + r24) + r26) then
                          some (w25, some (.inl (1 : Int32)))
                        else
                          some (w25, some (.inl (0 : Int32)))
                      )
                    )
                  )
                )
              )
            )
        else
          bI (F 0 w14 [.inl x3, .inl x2, .inl (1000 : Int32)]) (fun w27 r28 =>
            if r28 = 0 then
              if (0 : Int32) = 0 then
                some (w27, some (.inl (-1 : Int32)))
              else
                bV (F 1 w27 [.inr (.inr (16, 0, 0))]) (fun w29 =>
                  bI (F 2 w29 [.inr (.inr (16, 0, 0)), .inl ((22 : Int32) + ((5 : Int32) * x1)), .inl x2]) (fun w30 r31 =>
                    bI (F 2 w30 [.inr (.inr (16, 0, 0)), .inl (((22 : Int32) + ((5 : Int32) * x1)) + (1 : Int32)), .inl x3]) (fun w32 r33 =>
                      bI (F 2 w32 [.inr (.inr (16, 0, 0)), .inl (((22 : Int32) + ((5 : Int32) * x1)) + (2 : Int32)), .inl x4]) (fun w34 r35 =>
                        bI (F 2 w34 [.inr (.inr (16, 0, 0)), .inl (((22 : Int32) + ((5 : Int32) * x1)) + (3 : Int32)), .inl x5]) (fun w36 r37 =>
                          bI (F 2 w36 [.inr (.inr (16, 0, 0)), .inl (((22 : Int32) + ((5 : Int32) * x1)) + (4 : Int32)), .inl x6]) (fun w38 r39 =>
                            if 0 < ((((r31 + r33) + r35) + r37) + r39) then
                              some (w38, some (.inl (1 : Int32)))
                            else
                              some (w38, some (.inl (0 : Int32)))
                          )
                        )
                      )
                    )
                  )
                )
            else
              bI (F 0 w27 [.inl x4, .inl (0 : Int32), .inl (1000 : Int32)]) (fun w40 r41 =>
                if r41 = 0 then
                  if (0 : Int32) = 0 then
                    some (w40, some (.inl (-1 : Int32)))
                  else
                    bV (F 1 w40 [.inr (.inr (16, 0, 0))]) (fun w42 =>
                      bI (F 2 w42 [.inr (.inr (16, 0, 0)), .inl ((22 : Int32) + ((5 : Int32) * x1)), .inl x2]) (fun w43 r44 =>
                        bI (F 2 w43 [.inr (.inr (16, 0, 0)), .inl (((22 : Int32) + ((5 : Int32) * x1)) + (1 : Int32)), .inl x3]) (fun w45 r46 =>
                          bI (F 2 w45 [.inr (.inr (16, 0, 0)), .inl (((22 : Int32) + ((5 : Int32) * x1)) + (2 : Int32)), .inl x4]) (fun w47 r48 =>
                            bI (F 2 w47 [.inr (.inr (16, 0, 0)), .inl (((22 : Int32) + ((5 : Int32) * x1)) + (3 : Int32)), .inl x5]) (fun w49 r50 =>
                              bI (F 2 w49 [.inr (.inr (16, 0, 0)), .inl (((22 : Int32) + ((5 : Int32) * x1)) + (4 : Int32)), .inl x6]) (fun w51 r52 =>
                                if 0 < ((((r44 + r46) + r48) + r50) + r52) then
                                  some (w51, some (.inl (1 : Int32)))
                                else
                                  some (w51, some (.inl (0 : Int32)))
                              )
                            )
                          )
                        )
                      )
                    )
                else
                  bI (F 0 w40 [.inl x5, .inl x4, .inl (1000 : Int32)]) (fun w53 r54 =>
                    if r54 = 0 then
                      if (0 : Int32) = 0 then
                        some (w53, some (.inl (-1 : Int32)))
                      else
                        bV (F 1 w53 [.inr (.inr (16, 0, 0))]) (fun w55 =>
                          bI (F 2 w55 [.inr (.inr (16, 0, 0)), .inl ((22 : Int32) + ((5 : Int32) * x1)), .inl x2]) (fun w56 r57 =>
                            bI (F 2 w56 [.inr (.inr (16, 0, 0)), .inl (((22 : Int32) + ((5 : Int32) * x1)) + (1 : Int32)), .inl x3]) (fun w58 r59 =>
                              bI (F 2 w58 [.inr (.inr (16, 0, 0)), .inl (((22 : Int32) + ((5 : Int32) * x1)) + (2 : Int32)), .inl x4]) (fun w60 r61 =>
                                bI (F 2 w60 [.inr (.inr (16, 0, 0)), .inl (((22 : Int32) + ((5 : Int32) * x1)) + (3 : Int32)), .inl x5]) (fun w62 r63 =>
                                  bI (F 2 w62 [.inr (.inr (16, 0, 0)), .inl (((22 : Int32) + ((5 : Int32) * x1)) + (4 : Int32)), .inl x6]) (fun w64 r65 =>
                                    if 0 < ((((r57 + r59) + r61) + r63) + r65) then
                                      some (w64, some (.inl (1 : Int32)))
                                    else
                                      some (w64, some (.inl (0 : Int32)))
                                  )
                                )
                              )
                            )
                          )
                        )
                    else
                      bI (F 0 w53 [.inl x6, .inl (0 : Int32), .inl (1000 : Int32)]) (fun w66 r67 =>
                        if r67 = 0 then
                          if (0 : Int32) = 0 then
                            some (w66, some (.inl (-1 : Int32)))
                          else
                            bV (F 1 w66 [.inr (.inr (16, 0, 0))]) (fun w68 =>
                              bI (F 2 w68 [.inr (.inr (16, 0, 0)), .inl ((22 : Int32) + ((5 : Int32) * x1)), .inl x2]) (fun w69 r70 =>
                                bI (F 2 w69 [.inr (.inr (16, 0, 0)), .inl (((22 : Int32) + ((5 : Int32) * x1)) + (1 : Int32)), .inl x3]) (fun w71 r72 =>
                                  bI (F 2 w71 [.inr (.inr (16, 0, 0)), .inl (((22 : Int32) + ((5 : Int32) * x1)) + (2 : Int32)), .inl x4]) (fun w73 r74 =>
                                    bI (F 2 w73 [.inr (.inr (16, 0, 0)), .inl (((22 : Int32) + ((5 : Int32) * x1)) + (3 : Int32)), .inl x5]) (fun w75 r76 =>
                                      bI (F 2 w75 [.inr (.inr (16, 0, 0)), .inl (((22 : Int32) + ((5 : Int32) * x1)) + (4 : Int32)), .inl x6]) (fun w77 r78 =>
                                        if 0 < ((((r70 + r72) + r74) + r76) + r78) then
                                          some (w77, some (.inl (1 : Int32)))
                                        else
                                          some (w77, some (.inl (0 : Int32)))
                                      )
                                    )
                                  )
                                )
                              )
                            )
                        else
                          if (1 : Int32) = 0 then
                            some (w66, some (.inl (-1 : Int32)))
                          else
                            bV (F 1 w66 [.inr (.inr (16, 0, 0))]) (fun w79 =>
                              bI (F 2 w79 [.inr (.inr (16, 0, 0)), .inl ((22 : Int32) + ((5 : Int32) * x1)), .inl x2]) (fun w80 r81 =>
                                bI (F 2 w80 [.inr (.inr (16, 0, 0)), .inl (((22 : Int32) + ((5 : Int32) * x1)) + (1 : Int32)), .inl x3]) (fun w82 r83 =>
                                  bI (F 2 w82 [.inr (.inr (16, 0, 0)), .inl (((22 : Int32) + ((5 : Int32) * x1)) + (2 : Int32)), .inl x4]) (fun w84 r85 =>
                                    bI (F 2 w84 [.inr (.inr (16, 0, 0)), .inl (((22 : Int32) + ((5 : Int32) * x1)) + (3 : Int32)), .inl x5]) (fun w86 r87 =>
                                      bI (F 2 w86 [.inr (.inr (16, 0, 0)), .inl (((22 : Int32) + ((5 : Int32) * x1)) + (4 : Int32)), .inl x6]) (fun w88 r89 =>
                                        if 0 < ((((r81 + r83) + r85) + r87) + r89) then
                                          some (w88, some (.inl (1 : Int32)))
                                        else
                                          some (w88, some (.inl (0 : Int32)))
                                      )
                                    )
                                  )
                                )
                              )
                            )
                      )
                  )
              )
          )
      )
  ) := rfl
set_option maxRecDepth 100000 in
set_option maxHeartbeats 200000 in
theorem eX7_isLot (F : Nat → MF) (R : Nat → Nat → ML → List MV → MM → MR) (v : MM) (x1 : Int32) : stp F cdX7_isLot (runH F cdX7_isLot [] R 9) 0 [(0, .inr (.inr (16, 0, 0))), (1, .inl x1)] [] v =
  if mIn (42 : Int32) 151 then
  bI (F 0 v [.inl x1, .inl (0 : Int32), .inl ((v.1 14 ((42 : Int32).toNatClampNeg)) - (1 : Int32))]) (fun w1 r2 =>
    if r2 = 0 ∨ r2 = 1 then some (w1, some (.inl r2)) else none
  )
  else none := rfl
set_option maxRecDepth 100000 in
set_option maxHeartbeats 200000 in
theorem eX7_isTank (F : Nat → MF) (R : Nat → Nat → ML → List MV → MM → MR) (v : MM) (x1 : Int32) : stp F cdX7_isTank (runH F cdX7_isTank [] R 9) 0 [(0, .inr (.inr (16, 0, 0))), (1, .inl x1)] [] v =
  if mIn (59 : Int32) 151 then
  bI (F 0 v [.inl x1, .inl (0 : Int32), .inl ((v.1 14 ((59 : Int32).toNatClampNeg)) - (1 : Int32))]) (fun w1 r2 =>
    if r2 = 0 ∨ r2 = 1 then some (w1, some (.inl r2)) else none
  )
  else none := rfl
set_option maxRecDepth 100000 in
set_option maxHeartbeats 200000 in
theorem eX7_of (F : Nat → MF) (R : Nat → Nat → ML → List MV → MM → MR) (v : MM) (x1 x2 : Int32) : stp F cdX7_of (runH F cdX7_of [] R 10) 0 [(0, .inr (.inr (16, 0, 0))), (1, .inl x1), (2, .inl x2)] [] v =
  if mIn (((60 : Int32) + ((7 : Int32) * x1)) + x2) 151 then
  some (v, some (.inl (v.1 14 ((((60 : Int32) + ((7 : Int32) * x1)) + x2).toNatClampNeg))))
  else none := rfl
set_option maxRecDepth 100000 in
set_option maxHeartbeats 200000 in
theorem eX7_adds (F : Nat → MF) (R : Nat → Nat → ML → List MV → MM → MR) (v : MM) (x1 x2 x3 : Int32) : stp F cdX7_adds (runH F cdX7_adds [] R 14) 0 [(0, .inr (.inr (16, 0, 0))), (1, .inl x1), (2, .inl x2), (3, .inl x3)] [] v =
  if mIn (((60 : Int32) + ((7 : Int32) * x1)) + x2) 151 then
  if mIn (((60 : Int32) + ((7 : Int32) * x1)) + x2) 151 then
  let w1 : MM := mUp v (14, (((60 : Int32) + ((7 : Int32) * x1)) + x2).toNatClampNeg) ((v.1 14 ((((60 : Int32) + ((7 : Int32) * x1)) + x2).toNatClampNeg)) + x3)
  some (w1, none)
  else none
  else none := rfl
set_option maxRecDepth 100000 in
set_option maxHeartbeats 200000 in
theorem eX7_left (F : Nat → MF) (R : Nat → Nat → ML → List MV → MM → MR) (v : MM) (x1 : Int32) : stp F cdX7_left (runH F cdX7_left [] R 14) 0 [(0, .inr (.inr (16, 0, 0))), (1, .inl x1)] [] v =
  bI (F 0 v [.inr (.inr (16, 0, 0)), .inl x1, .inl (0 : Int32)]) (fun w1 r2 =>
    bI (F 0 w1 [.inr (.inr (16, 0, 0)), .inl x1, .inl (1 : Int32)]) (fun w3 r4 =>
      bI (F 0 w3 [.inr (.inr (16, 0, 0)), .inl x1, .inl (5 : Int32)]) (fun w5 r6 =>
        some (w5, some (.inl ((r2 - r4) - r6)))
      )
    )
  ) := rfl
set_option maxRecDepth 100000 in
set_option maxHeartbeats 200000 in
theorem eX7_buy (F : Nat → MF) (R : Nat → Nat → ML → List MV → MM → MR) (v : MM) (x1 x2 : Int32) : stp F cdX7_buy (runH F cdX7_buy [] R 66) 0 [(0, .inr (.inr (16, 0, 0))), (1, .inl x1), (2, .inl x2)] [] v =
  bI (F 0 v [.inl x1, .inl (0 : Int32), .inl (5 : Int32)]) (fun w1 r2 =>
    if r2 = 0 then
      some (w1, some (.inl (-1 : Int32)))
    else
      bI (F 0 w1 [.inl x2, .inl (1 : Int32), .inl (20000 : Int32)]) (fun w3 r4 =>
        if r4 = 0 then
          some (w3, some (.inl (-1 : Int32)))
        else
          if mIn (42 : Int32) 151 then
          if (w3.1 14 ((42 : Int32).toNatClampNeg)) = (8 : Int32) then
            some (w3, some (.inl (-3 : Int32)))
          else
            bV (F 1 w3 [.inr (.inr (16, 0, 0))]) (fun w5 =>
              if mIn (42 : Int32) 151 then
              if mIn ((43 : Int32) + ((2 : Int32) * (w5.1 14 ((42 : Int32).toNatClampNeg)))) 151 then
              let w6 : MM := mUp w5 (14, ((43 : Int32) + ((2 : Int32) * (w5.1 14 ((42 : Int32).toNatClampNeg)))).toNatClampNeg) x1
              if mIn (42 : Int32) 151 then
              if mIn (((43 : Int32) + ((2 : Int32) * (w6.1 14 ((42 : Int32).toNatClampNeg)))) + (1 : Int32)) 151 then
              let w7 : MM := mUp w6 (14, (((43 : Int32) + ((2 : Int32) * (w6.1 14 ((42 : Int32).toNatClampNeg)))) + (1 : Int32)).toNatClampNeg) x2
              if mIn (42 : Int32) 151 then
              if mIn (42 : Int32) 151 then
              let w8 : MM := mUp w7 (14, (42 : Int32).toNatClampNeg) ((w7.1 14 ((42 : Int32).toNatClampNeg)) + (1 : Int32))
              if mIn (104 : Int32) 151 then
              if mIn (104 : Int32) 151 then
              let w9 : MM := mUp w8 (14, (104 : Int32).toNatClampNeg) ((w8.1 14 ((104 : Int32).toNatClampNeg)) + x2)
              if mIn (42 : Int32) 151 then
              some (w9, some (.inl ((w9.1 14 ((42 : Int32).toNatClampNeg)) - (1 : Int32))))
              else none
              else none
              else none
              else none
              else none
              else none
              else none
              else none
              else none
            )
          else none
      )
  ) := rfl
set_option maxRecDepth 100000 in
set_option maxHeartbeats 200000 in
theorem eX7_addTank (F : Nat → MF) (R : Nat → Nat → ML → List MV → MM → MR) (v : MM) (x1 : Int32) : stp F cdX7_addTank (runH F cdX7_addTank [19] R 14) 0 [(0, .inr (.inr (16, 0, 0))), (1, .inl x1)] [] v =
  bI (F 0 v [.inl x1, .inl (1 : Int32), .inl (5000 : Int32)]) (fun w1 r2 =>
    if r2 = 0 then
      some (w1, some (.inl (-1 : Int32)))
    else
      if mIn (59 : Int32) 151 then
      if (w1.1 14 ((59 : Int32).toNatClampNeg)) = (6 : Int32) then
        some (w1, some (.inl (-3 : Int32)))
      else
        bV (F 1 w1 [.inr (.inr (16, 0, 0))]) (fun w3 =>
          R 0 19 [(2, .inl (0 : Int32)), (0, .inr (.inr (16, 0, 0))), (1, .inl x1)] [] w3
        )
      else none
  ) := rfl
set_option maxRecDepth 100000 in
set_option maxHeartbeats 200000 in
theorem eX7_addTank_19 (F : Nat → MF) (R : Nat → Nat → ML → List MV → MM → MR) (v : MM) (y1 y2 : Int32) : stp F cdX7_addTank (runH F cdX7_addTank [19] R 21) 19 [(2, .inl y1), (0, .inr (.inr (16, 0, 0))), (1, .inl y2)] [] v =
  if y1 < (7 : Int32) then
    if mIn (59 : Int32) 151 then
    if y1 = 0 then
      if mIn (((60 : Int32) + ((7 : Int32) * (v.1 14 ((59 : Int32).toNatClampNeg)))) + y1) 151 then
      let w1 : MM := mUp v (14, (((60 : Int32) + ((7 : Int32) * (v.1 14 ((59 : Int32).toNatClampNeg)))) + y1).toNatClampNeg) y2
      R 0 19 [(2, .inl (y1 + (1 : Int32))), (0, .inr (.inr (16, 0, 0))), (1, .inl y2)] [] w1
      else none
    else
      if mIn (((60 : Int32) + ((7 : Int32) * (v.1 14 ((59 : Int32).toNatClampNeg)))) + y1) 151 then
      let w2 : MM := mUp v (14, (((60 : Int32) + ((7 : Int32) * (v.1 14 ((59 : Int32).toNatClampNeg)))) + y1).toNatClampNeg) (0 : Int32)
      R 1 19 [(2, .inl (y1 + (1 : Int32))), (0, .inr (.inr (16, 0, 0))), (1, .inl y2)] [] w2
      else none
    else none
  else
    if mIn (59 : Int32) 151 then
    if mIn (59 : Int32) 151 then
    let w3 : MM := mUp v (14, (59 : Int32).toNatClampNeg) ((v.1 14 ((59 : Int32).toNatClampNeg)) + (1 : Int32))
    if mIn (59 : Int32) 151 then
    some (w3, some (.inl ((w3.1 14 ((59 : Int32).toNatClampNeg)) - (1 : Int32))))
    else none
    else none
    else none := rfl
set_option maxRecDepth 100000 in
set_option maxHeartbeats 200000 in
theorem eX7_presses (F : Nat → MF) (R : Nat → Nat → ML → List MV → MM → MR) (v : MM) (x1 x2 x3 : Int32) : stp F cdX7_presses (runH F cdX7_presses [] R 120) 0 [(0, .inr (.inr (16, 0, 0))), (1, .inl x1), (2, .inl x2), (3, .inl x3)] [] v =
  bI (F 0 v [.inr (.inr (16, 0, 0)), .inl x1]) (fun w1 r2 =>
    if r2 = 0 then
      some (w1, some (.inl (-1 : Int32)))
    else
      bI (F 1 w1 [.inr (.inr (16, 0, 0)), .inl x3]) (fun w3 r4 =>
        if r4 = 0 then
          some (w3, some (.inl (-1 : Int32)))
        else
          bI (F 2 w3 [.inl x2, .inl (1 : Int32), .inl (20000 : Int32)]) (fun w5 r6 =>
            if r6 = 0 then
              some (w5, some (.inl (-1 : Int32)))
            else
              if mIn (((43 : Int32) + ((2 : Int32) * x1)) + (1 : Int32)) 151 then
              if (w5.1 14 ((((43 : Int32) + ((2 : Int32) * x1)) + (1 : Int32)).toNatClampNeg)) < x2 then
                bI (F 3 w5 [.inr (.inr (16, 0, 0)), .inl (11 : Int32)]) (fun w7 r8 =>
                  some (w7, some (.inl r8))
                )
              else
                if mIn ((43 : Int32) + ((2 : Int32) * x1)) 151 then
                if mIn ((3 : Int32) * (w5.1 14 (((43 : Int32) + ((2 : Int32) * x1)).toNatClampNeg))) 151 then
                bI (F 4 w5 [.inr (.inr (16, 0, 0)), .inl x3]) (fun w9 r10 =>
                  if r10 < ((x2 * (w5.1 14 (((3 : Int32) * (w5.1 14 (((43 : Int32) + ((2 : Int32) * x1)).toNatClampNeg))).toNatClampNeg))) / (1000 : Int32)) then
                    some (w9, some (.inl (-3 : Int32)))
                  else
                    if mIn (((43 : Int32) + ((2 : Int32) * x1)) + (1 : Int32)) 151 then
                    if mIn (((43 : Int32) + ((2 : Int32) * x1)) + (1 : Int32)) 151 then
                    let w11 : MM := mUp w9 (14, (((43 : Int32) + ((2 : Int32) * x1)) + (1 : Int32)).toNatClampNeg) ((w9.1 14 ((((43 : Int32) + ((2 : Int32) * x1)) + (1 : Int32)).toNatClampNeg)) - x2)
                    bV (F 5 w11 [.inr (.inr (16, 0, 0)), .inl x3, .inl (1 : Int32), .inl ((x2 * (w5.1 14 (((3 : Int32) * (w5.1 14 (((43 : Int32) + ((2 : Int32) * x1)).toNatClampNeg))).toNatClampNeg))) / (1000 : Int32))]) (fun w12 =>
                      if mIn (((3 : Int32) * (w5.1 14 (((43 : Int32) + ((2 : Int32) * x1)).toNatClampNeg))) + (1 : Int32)) 151 then
                      bV (F 5 w12 [.inr (.inr (16, 0, 0)), .inl x3, .inl (2 : Int32), .inl ((((x2 * (w5.1 14 (((3 : Int32) * (w5.1 14 (((43 : Int32) + ((2 : Int32) * x1)).toNatClampNeg))).toNatClampNeg))) / (1000 : Int32)) * (w12.1 14 ((((3 : Int32) * (w5.1 14 (((43 : Int32) + ((2 : Int32) * x1)).toNatClampNeg))) + (1 : Int32)).toNatClampNeg))) / (1000 : Int32))]) (fun w13 =>
                        if mIn (((3 : Int32) * (w5.1 14 (((43 : Int32) + ((2 : Int32) * x1)).toNatClampNeg))) + (2 : Int32)) 151 then
                        bV (F 5 w13 [.inr (.inr (16, 0, 0)), .inl x3, .inl (3 : Int32), .inl ((((x2 * (w5.1 14 (((3 : Int32) * (w5.1 14 (((43 : Int32) + ((2 : Int32) * x1)).toNatClampNeg))).toNatClampNeg))) / (1000 : Int32)) * (w13.1 14 ((((3 : Int32) * (w5.1 14 (((43 : Int32) + ((2 : Int32) * x1)).toNatClampNeg))) + (2 : Int32)).toNatClampNeg))) / (1000 : Int32))]) (fun w14 =>
                          if mIn (19 : Int32) 151 then
                          bV (F 5 w14 [.inr (.inr (16, 0, 0)), .inl x3, .inl (4 : Int32), .inl ((((x2 * (w5.1 14 (((3 : Int32) * (w5.1 14 (((43 : Int32) + ((2 : Int32) * x1)).toNatClampNeg))).toNatClampNeg))) / (1000 : Int32)) * (w14.1 14 ((19 : Int32).toNatClampNeg))) / (1000 : Int32))]) (fun w15 =>
                            if mIn (102 : Int32) 151 then
                            if mIn (102 : Int32) 151 then
                            let w16 : MM := mUp w15 (14, (102 : Int32).toNatClampNeg) ((w15.1 14 ((102 : Int32).toNatClampNeg)) + (x2 - ((x2 * (w5.1 14 (((3 : Int32) * (w5.1 14 (((43 : Int32) + ((2 : Int32) * x1)).toNatClampNeg))).toNatClampNeg))) / (1000 : Int32))))
                            some (w16, some (.inl ((x2 * (w5.1 14 (((3 : Int32) * (w5.1 14 (((43 : Int32) + ((2 : Int32) * x1)).toNatClampNeg))).toNatClampNeg))) / (1000 : Int32))))
                            else none
                            else none
                          )
                          else none
                        )
                        else none
                      )
                      else none
                    )
                    else none
                    else none
                )
                else none
                else none
              else none
          )
      )
  ) := rfl
set_option maxRecDepth 100000 in
set_option maxHeartbeats 200000 in
theorem eX7_wets (F : Nat → MF) (R : Nat → Nat → ML → List MV → MM → MR) (v : MM) (x1 x2 : Int32) : stp F cdX7_wets (runH F cdX7_wets [] R 73) 0 [(0, .inr (.inr (16, 0, 0))), (1, .inl x1), (2, .inl x2)] [] v =
  bI (F 0 v [.inl x1, .inl (0 : Int32), .inl (20000 : Int32)]) (fun w1 r2 =>
    if r2 = 0 then
      some (w1, some (.inl (-1 : Int32)))
    else
      bI (F 1 w1 [.inr (.inr (16, 0, 0)), .inl x2]) (fun w3 r4 =>
        if r4 = 0 then
          some (w3, some (.inl (-1 : Int32)))
        else
          if mIn (102 : Int32) 151 then
          if (w3.1 14 ((102 : Int32).toNatClampNeg)) = 0 then
            bI (F 2 w3 [.inr (.inr (16, 0, 0)), .inl (12 : Int32)]) (fun w5 r6 =>
              some (w5, some (.inl r6))
            )
          else
            if mIn (102 : Int32) 151 then
            bI (F 3 w3 [.inr (.inr (16, 0, 0)), .inl x2]) (fun w7 r8 =>
              if r8 < (((w3.1 14 ((102 : Int32).toNatClampNeg)) + x1) / (4 : Int32)) then
                some (w7, some (.inl (-3 : Int32)))
              else
                bV (F 4 w7 [.inr (.inr (16, 0, 0)), .inl x2, .inl (1 : Int32), .inl (((w3.1 14 ((102 : Int32).toNatClampNeg)) + x1) / (4 : Int32))]) (fun w9 =>
                  bV (F 4 w9 [.inr (.inr (16, 0, 0)), .inl x2, .inl (2 : Int32), .inl ((((w3.1 14 ((102 : Int32).toNatClampNeg)) + x1) / (4 : Int32)) / (50 : Int32))]) (fun w10 =>
                    bV (F 4 w10 [.inr (.inr (16, 0, 0)), .inl x2, .inl (3 : Int32), .inl ((((w3.1 14 ((102 : Int32).toNatClampNeg)) + x1) / (4 : Int32)) / (100 : Int32))]) (fun w11 =>
                      bV (F 4 w11 [.inr (.inr (16, 0, 0)), .inl x2, .inl (4 : Int32), .inl ((((w3.1 14 ((102 : Int32).toNatClampNeg)) + x1) / (4 : Int32)) / (10 : Int32))]) (fun w12 =>
                        if mIn (102 : Int32) 151 then
                        if mIn (102 : Int32) 151 then
                        let w13 : MM := mUp w12 (14, (102 : Int32).toNatClampNeg) ((w12.1 14 ((102 : Int32).toNatClampNeg)) + (x1 - (((w3.1 14 ((102 : Int32).toNatClampNeg)) + x1) / (4 : Int32))))
                        if mIn (105 : Int32) 151 then
                        if mIn (105 : Int32) 151 then
                        let w14 : MM := mUp w13 (14, (105 : Int32).toNatClampNeg) ((w13.1 14 ((105 : Int32).toNatClampNeg)) + x1)
                        some (w14, some (.inl (((w3.1 14 ((102 : Int32).toNatClampNeg)) + x1) / (4 : Int32))))
                        else none
                        else none
                        else none
                        else none
                      )
                    )
                  )
                )
            )
            else none
          else none
      )
  ) := rfl
set_option maxRecDepth 100000 in
set_option maxHeartbeats 200000 in
theorem eX7_carries (F : Nat → MF) (R : Nat → Nat → ML → List MV → MM → MR) (v : MM) (x1 x2 x3 : Int32) : stp F cdX7_carries (runH F cdX7_carries [9] R 8) 0 [(0, .inr (.inr (16, 0, 0))), (1, .inl x1), (2, .inl x2), (3, .inl x3)] [] v =
  bI (F 0 v [.inr (.inr (16, 0, 0)), .inl x1, .inl (1 : Int32)]) (fun w1 r2 =>
    R 0 9 [(6, .inl (2 : Int32)), (5, .inl (0 : Int32)), (4, .inl r2), (0, .inr (.inr (16, 0, 0))), (1, .inl x1), (2, .inl x2), (3, .inl x3)] [] w1
  ) := rfl
set_option maxRecDepth 100000 in
set_option maxHeartbeats 200000 in
theorem eX7_carries_9 (F : Nat → MF) (R : Nat → Nat → ML → List MV → MM → MR) (v : MM) (y1 y2 y3 y4 y5 y6 : Int32) : stp F cdX7_carries (runH F cdX7_carries [9] R 35) 9 [(6, .inl y1), (5, .inl y2), (4, .inl y3), (0, .inr (.inr (16, 0, 0))), (1, .inl y4), (2, .inl y5), (3, .inl y6)] [] v =
  if (6 : Int32) < y1 then
    bV (F 1 v [.inr (.inr (16, 0, 0)), .inl y4, .inl (1 : Int32), .inl (-y5)]) (fun w1 =>
      if y6 < 0 then
        some (w1, some (.inl y2))
      else
        bV (F 1 w1 [.inr (.inr (16, 0, 0)), .inl y6, .inl (1 : Int32), .inl y5]) (fun w2 =>
          some (w2, some (.inl y2))
        )
    )
  else
    if y1 = (5 : Int32) then
      if y1 = (4 : Int32) then
        bV (F 1 v [.inr (.inr (16, 0, 0)), .inl y4, .inl y1, .inl (-(0 : Int32))]) (fun w3 =>
          if y6 < 0 then
            R 11 9 [(6, .inl (y1 + (1 : Int32))), (5, .inl (0 : Int32)), (7, .inl (0 : Int32)), (4, .inl y3), (0, .inr (.inr (16, 0, 0))), (1, .inl y4), (2, .inl y5), (3, .inl y6)] [] w3
          else
            bV (F 1 w3 [.inr (.inr (16, 0, 0)), .inl y6, .inl y1, .inl (0 : Int32)]) (fun w4 =>
              R 6 9 [(6, .inl (y1 + (1 : Int32))), (5, .inl (0 : Int32)), (7, .inl (0 : Int32)), (4, .inl y3), (0, .inr (.inr (16, 0, 0))), (1, .inl y4), (2, .inl y5), (3, .inl y6)] [] w4
            )
        )
      else
        bV (F 1 v [.inr (.inr (16, 0, 0)), .inl y4, .inl y1, .inl (-(0 : Int32))]) (fun w5 =>
          if y6 < 0 then
            R 12 9 [(6, .inl (y1 + (1 : Int32))), (5, .inl y2), (7, .inl (0 : Int32)), (4, .inl y3), (0, .inr (.inr (16, 0, 0))), (1, .inl y4), (2, .inl y5), (3, .inl y6)] [] w5
          else
            bV (F 1 w5 [.inr (.inr (16, 0, 0)), .inl y6, .inl y1, .inl (0 : Int32)]) (fun w6 =>
              R 7 9 [(6, .inl (y1 + (1 : Int32))), (5, .inl y2), (7, .inl (0 : Int32)), (4, .inl y3), (0, .inr (.inr (16, 0, 0))), (1, .inl y4), (2, .inl y5), (3, .inl y6)] [] w6
            )
        )
    else
      bI (F 0 v [.inr (.inr (16, 0, 0)), .inl y4, .inl y1]) (fun w7 r8 =>
        if y3 = 0 then none else
        if y1 = (4 : Int32) then
          bV (F 1 w7 [.inr (.inr (16, 0, 0)), .inl y4, .inl y1, .inl (-((r8 * y5) / y3))]) (fun w9 =>
            if y6 < 0 then
              R 5 9 [(6, .inl (y1 + (1 : Int32))), (5, .inl ((r8 * y5) / y3)), (7, .inl ((r8 * y5) / y3)), (4, .inl y3), (0, .inr (.inr (16, 0, 0))), (1, .inl y4), (2, .inl y5), (3, .inl y6)] [] w9
            else
              bV (F 1 w9 [.inr (.inr (16, 0, 0)), .inl y6, .inl y1, .inl ((r8 * y5) / y3)]) (fun w10 =>
                R 0 9 [(6, .inl (y1 + (1 : Int32))), (5, .inl ((r8 * y5) / y3)), (7, .inl ((r8 * y5) / y3)), (4, .inl y3), (0, .inr (.inr (16, 0, 0))), (1, .inl y4), (2, .inl y5), (3, .inl y6)] [] w10
              )
          )
        else
          bV (F 1 w7 [.inr (.inr (16, 0, 0)), .inl y4, .inl y1, .inl (-((r8 * y5) / y3))]) (fun w11 =>
            if y6 < 0 then
              R 6 9 [(6, .inl (y1 + (1 : Int32))), (5, .inl y2), (7, .inl ((r8 * y5) / y3)), (4, .inl y3), (0, .inr (.inr (16, 0, 0))), (1, .inl y4), (2, .inl y5), (3, .inl y6)] [] w11
            else
              bV (F 1 w11 [.inr (.inr (16, 0, 0)), .inl y6, .inl y1, .inl ((r8 * y5) / y3)]) (fun w12 =>
                R 1 9 [(6, .inl (y1 + (1 : Int32))), (5, .inl y2), (7, .inl ((r8 * y5) / y3)), (4, .inl y3), (0, .inr (.inr (16, 0, 0))), (1, .inl y4), (2, .inl y5), (3, .inl y6)] [] w12
              )
          )
      ) := rfl
set_option maxRecDepth 100000 in
set_option maxHeartbeats 200000 in
theorem eX7_carries_9_2 (F : Nat → MF) (R : Nat → Nat → ML → List MV → MM → MR) (v : MM) (y1 y2 y3 y4 y5 y6 y7 : Int32) : stp F cdX7_carries (runH F cdX7_carries [9] R 35) 9 [(6, .inl y1), (5, .inl y2), (7, .inl y3), (4, .inl y4), (0, .inr (.inr (16, 0, 0))), (1, .inl y5), (2, .inl y6), (3, .inl y7)] [] v =
  if (6 : Int32) < y1 then
    bV (F 1 v [.inr (.inr (16, 0, 0)), .inl y5, .inl (1 : Int32), .inl (-y6)]) (fun w1 =>
      if y7 < 0 then
        some (w1, some (.inl y2))
      else
        bV (F 1 w1 [.inr (.inr (16, 0, 0)), .inl y7, .inl (1 : Int32), .inl y6]) (fun w2 =>
          some (w2, some (.inl y2))
        )
    )
  else
    if y1 = (5 : Int32) then
      if y1 = (4 : Int32) then
        bV (F 1 v [.inr (.inr (16, 0, 0)), .inl y5, .inl y1, .inl (-(0 : Int32))]) (fun w3 =>
          if y7 < 0 then
            R 11 9 [(6, .inl (y1 + (1 : Int32))), (5, .inl (0 : Int32)), (7, .inl (0 : Int32)), (4, .inl y4), (0, .inr (.inr (16, 0, 0))), (1, .inl y5), (2, .inl y6), (3, .inl y7)] [] w3
          else
            bV (F 1 w3 [.inr (.inr (16, 0, 0)), .inl y7, .inl y1, .inl (0 : Int32)]) (fun w4 =>
              R 6 9 [(6, .inl (y1 + (1 : Int32))), (5, .inl (0 : Int32)), (7, .inl (0 : Int32)), (4, .inl y4), (0, .inr (.inr (16, 0, 0))), (1, .inl y5), (2, .inl y6), (3, .inl y7)] [] w4
            )
        )
      else
        bV (F 1 v [.inr (.inr (16, 0, 0)), .inl y5, .inl y1, .inl (-(0 : Int32))]) (fun w5 =>
          if y7 < 0 then
            R 12 9 [(6, .inl (y1 + (1 : Int32))), (5, .inl y2), (7, .inl (0 : Int32)), (4, .inl y4), (0, .inr (.inr (16, 0, 0))), (1, .inl y5), (2, .inl y6), (3, .inl y7)] [] w5
          else
            bV (F 1 w5 [.inr (.inr (16, 0, 0)), .inl y7, .inl y1, .inl (0 : Int32)]) (fun w6 =>
              R 7 9 [(6, .inl (y1 + (1 : Int32))), (5, .inl y2), (7, .inl (0 : Int32)), (4, .inl y4), (0, .inr (.inr (16, 0, 0))), (1, .inl y5), (2, .inl y6), (3, .inl y7)] [] w6
            )
        )
    else
      bI (F 0 v [.inr (.inr (16, 0, 0)), .inl y5, .inl y1]) (fun w7 r8 =>
        if y4 = 0 then none else
        if y1 = (4 : Int32) then
          bV (F 1 w7 [.inr (.inr (16, 0, 0)), .inl y5, .inl y1, .inl (-((r8 * y6) / y4))]) (fun w9 =>
            if y7 < 0 then
              R 5 9 [(6, .inl (y1 + (1 : Int32))), (5, .inl ((r8 * y6) / y4)), (7, .inl ((r8 * y6) / y4)), (4, .inl y4), (0, .inr (.inr (16, 0, 0))), (1, .inl y5), (2, .inl y6), (3, .inl y7)] [] w9
            else
              bV (F 1 w9 [.inr (.inr (16, 0, 0)), .inl y7, .inl y1, .inl ((r8 * y6) / y4)]) (fun w10 =>
                R 0 9 [(6, .inl (y1 + (1 : Int32))), (5, .inl ((r8 * y6) / y4)), (7, .inl ((r8 * y6) / y4)), (4, .inl y4), (0, .inr (.inr (16, 0, 0))), (1, .inl y5), (2, .inl y6), (3, .inl y7)] [] w10
              )
          )
        else
          bV (F 1 w7 [.inr (.inr (16, 0, 0)), .inl y5, .inl y1, .inl (-((r8 * y6) / y4))]) (fun w11 =>
            if y7 < 0 then
              R 6 9 [(6, .inl (y1 + (1 : Int32))), (5, .inl y2), (7, .inl ((r8 * y6) / y4)), (4, .inl y4), (0, .inr (.inr (16, 0, 0))), (1, .inl y5), (2, .inl y6), (3, .inl y7)] [] w11
            else
              bV (F 1 w11 [.inr (.inr (16, 0, 0)), .inl y7, .inl y1, .inl ((r8 * y6) / y4)]) (fun w12 =>
                R 1 9 [(6, .inl (y1 + (1 : Int32))), (5, .inl y2), (7, .inl ((r8 * y6) / y4)), (4, .inl y4), (0, .inr (.inr (16, 0, 0))), (1, .inl y5), (2, .inl y6), (3, .inl y7)] [] w12
              )
          )
      ) := rfl
set_option maxRecDepth 100000 in
set_option maxHeartbeats 200000 in
theorem eX7_areTwo (F : Nat → MF) (R : Nat → Nat → ML → List MV → MM → MR) (v : MM) (x1 x2 : Int32) : stp F cdX7_areTwo (runH F cdX7_areTwo [] R 13) 0 [(0, .inr (.inr (16, 0, 0))), (1, .inl x1), (2, .inl x2)] [] v =
  bI (F 0 v [.inr (.inr (16, 0, 0)), .inl x1]) (fun w1 r2 =>
    if r2 = 0 then
      some (w1, some (.inl (0 : Int32)))
    else
      bI (F 0 w1 [.inr (.inr (16, 0, 0)), .inl x2]) (fun w3 r4 =>
        if r4 = 0 then
          some (w3, some (.inl (0 : Int32)))
        else
          if x1 = x2 then
            some (w3, some (.inl (0 : Int32)))
          else
            some (w3, some (.inl (1 : Int32)))
      )
  ) := rfl
set_option maxRecDepth 100000 in
set_option maxHeartbeats 200000 in
theorem eX7_moves (F : Nat → MF) (R : Nat → Nat → ML → List MV → MM → MR) (v : MM) (x1 x2 x3 : Int32) : stp F cdX7_moves (runH F cdX7_moves [] R 26) 0 [(0, .inr (.inr (16, 0, 0))), (1, .inl x1), (2, .inl x2), (3, .inl x3)] [] v =
  bI (F 0 v [.inr (.inr (16, 0, 0)), .inl x1, .inl x3]) (fun w1 r2 =>
    if r2 = 0 then
      some (w1, some (.inl (-1 : Int32)))
    else
      bI (F 1 w1 [.inl x2, .inl (1 : Int32), .inl (5000 : Int32)]) (fun w3 r4 =>
        if r4 = 0 then
          some (w3, some (.inl (-1 : Int32)))
        else
          bI (F 2 w3 [.inr (.inr (16, 0, 0)), .inl x1, .inl (1 : Int32)]) (fun w5 r6 =>
            if r6 < x2 then
              bI (F 3 w5 [.inr (.inr (16, 0, 0)), .inl (7 : Int32)]) (fun w7 r8 =>
                some (w7, some (.inl r8))
              )
            else
              bI (F 4 w5 [.inr (.inr (16, 0, 0)), .inl x3]) (fun w9 r10 =>
                if r10 < x2 then
                  some (w9, some (.inl (-3 : Int32)))
                else
                  bI (F 5 w9 [.inr (.inr (16, 0, 0)), .inl x1, .inl x2, .inl x3]) (fun w11 r12 =>
                    some (w11, some (.inl r12))
                  )
              )
          )
      )
  ) := rfl
set_option maxRecDepth 100000 in
set_option maxHeartbeats 200000 in
theorem eX7_racks (F : Nat → MF) (R : Nat → Nat → ML → List MV → MM → MR) (v : MM) (x1 x2 : Int32) : stp F cdX7_racks (runH F cdX7_racks [] R 38) 0 [(0, .inr (.inr (16, 0, 0))), (1, .inl x1), (2, .inl x2)] [] v =
  bI (F 0 v [.inr (.inr (16, 0, 0)), .inl x1, .inl x2]) (fun w1 r2 =>
    if r2 = 0 then
      some (w1, some (.inl (-1 : Int32)))
    else
      bI (F 1 w1 [.inr (.inr (16, 0, 0)), .inl x1, .inl (1 : Int32)]) (fun w3 r4 =>
        if r4 = 0 then
          bI (F 2 w3 [.inr (.inr (16, 0, 0)), .inl (1 : Int32)]) (fun w5 r6 =>
            some (w5, some (.inl r6))
          )
        else
          bI (F 3 w3 [.inr (.inr (16, 0, 0)), .inl x2]) (fun w7 r8 =>
            if r8 = 0 then
              some (w7, some (.inl (-3 : Int32)))
            else
              bI (F 1 w7 [.inr (.inr (16, 0, 0)), .inl x1, .inl (1 : Int32)]) (fun w9 r10 =>
                bI (F 3 w9 [.inr (.inr (16, 0, 0)), .inl x2]) (fun w11 r12 =>
                  if r10 < r12 then
                    bI (F 1 w11 [.inr (.inr (16, 0, 0)), .inl x1, .inl (1 : Int32)]) (fun w13 r14 =>
                      bI (F 4 w13 [.inr (.inr (16, 0, 0)), .inl x1, .inl r14, .inl x2]) (fun w15 r16 =>
                        if r16 < 0 then
                          some (w15, some (.inl r16))
                        else
                          some (w15, some (.inl r14))
                      )
                    )
                  else
                    bI (F 3 w11 [.inr (.inr (16, 0, 0)), .inl x2]) (fun w17 r18 =>
                      bI (F 4 w17 [.inr (.inr (16, 0, 0)), .inl x1, .inl r18, .inl x2]) (fun w19 r20 =>
                        if r20 < 0 then
                          some (w19, some (.inl r20))
                        else
                          some (w19, some (.inl r18))
                      )
                    )
                )
              )
          )
      )
  ) := rfl
set_option maxRecDepth 100000 in
set_option maxHeartbeats 200000 in
theorem eX7_cleans (F : Nat → MF) (R : Nat → Nat → ML → List MV → MM → MR) (v : MM) (x1 : Int32) : stp F cdX7_cleans (runH F cdX7_cleans [] R 29) 0 [(0, .inr (.inr (16, 0, 0))), (1, .inl x1)] [] v =
  bI (F 0 v [.inr (.inr (16, 0, 0)), .inl x1]) (fun w1 r2 =>
    if r2 = 0 then
      some (w1, some (.inl (-1 : Int32)))
    else
      bI (F 1 w1 [.inr (.inr (16, 0, 0)), .inl x1, .inl (1 : Int32)]) (fun w3 r4 =>
        if 0 < r4 then
          bI (F 2 w3 [.inr (.inr (16, 0, 0)), .inl (13 : Int32)]) (fun w5 r6 =>
            some (w5, some (.inl r6))
          )
        else
          bI (F 1 w3 [.inr (.inr (16, 0, 0)), .inl x1, .inl (5 : Int32)]) (fun w7 r8 =>
            bV (F 3 w7 [.inr (.inr (16, 0, 0)), .inl x1, .inl (5 : Int32), .inl (-r8)]) (fun w9 =>
              if mIn (107 : Int32) 151 then
              if mIn (107 : Int32) 151 then
              let w10 : MM := mUp w9 (14, (107 : Int32).toNatClampNeg) ((w9.1 14 ((107 : Int32).toNatClampNeg)) + r8)
              some (w10, some (.inl r8))
              else none
              else none
            )
          )
      )
  ) := rfl
set_option maxRecDepth 100000 in
set_option maxHeartbeats 200000 in
theorem eX7_bottled (F : Nat → MF) (R : Nat → Nat → ML → List MV → MM → MR) (v : MM) (x1 : Int32) : stp F cdX7_bottled (runH F cdX7_bottled [4] R 3) 0 [(0, .inr (.inr (16, 0, 0))), (1, .inl x1)] [] v =
  R 0 4 [(3, .inl (0 : Int32)), (2, .inl (0 : Int32)), (0, .inr (.inr (16, 0, 0))), (1, .inl x1)] [] v := rfl
set_option maxRecDepth 100000 in
set_option maxHeartbeats 200000 in
theorem eX7_bottled_4 (F : Nat → MF) (R : Nat → Nat → ML → List MV → MM → MR) (v : MM) (y1 y2 y3 : Int32) : stp F cdX7_bottled (runH F cdX7_bottled [4] R 17) 4 [(3, .inl y1), (2, .inl y2), (0, .inr (.inr (16, 0, 0))), (1, .inl y3)] [] v =
  if y1 < (10 : Int32) then
    if mIn (((111 : Int32) + ((10 : Int32) * y3)) + y1) 151 then
    R 0 4 [(3, .inl (y1 + (1 : Int32))), (2, .inl (y2 + (v.1 14 ((((111 : Int32) + ((10 : Int32) * y3)) + y1).toNatClampNeg)))), (0, .inr (.inr (16, 0, 0))), (1, .inl y3)] [] v
    else none
  else
    some (v, some (.inl y2)) := rfl
set_option maxRecDepth 100000 in
set_option maxHeartbeats 200000 in
theorem eX7_portion (F : Nat → MF) (R : Nat → Nat → ML → List MV → MM → MR) (v : MM) (x1 x2 : Int32) : stp F cdX7_portion (runH F cdX7_portion [] R 11) 0 [(0, .inr (.inr (16, 0, 0))), (1, .inl x1), (2, .inl x2)] [] v =
  bI (F 0 v [.inr (.inr (16, 0, 0)), .inl x1, .inl x2]) (fun w1 r2 =>
    bI (F 0 w1 [.inr (.inr (16, 0, 0)), .inl x1, .inl (1 : Int32)]) (fun w3 r4 =>
      if r4 = 0 then none else
      some (w3, some (.inl ((r2 * (1000 : Int32)) / r4)))
    )
  ) := rfl
set_option maxRecDepth 100000 in
set_option maxHeartbeats 200000 in
theorem eX7_forbids (F : Nat → MF) (R : Nat → Nat → ML → List MV → MM → MR) (v : MM) (x1 x2 : Int32) : stp F cdX7_forbids (runH F cdX7_forbids [] R 64) 0 [(0, .inr (.inr (16, 0, 0))), (1, .inl x1), (2, .inl x2)] [] v =
  bI (F 0 v [.inr (.inr (16, 0, 0)), .inl x1, .inl (1 : Int32)]) (fun w1 r2 =>
    if r2 = 0 then
      some (w1, some (.inl (1 : Int32)))
    else
      bI (F 1 w1 [.inr (.inr (16, 0, 0)), .inl x1, .inl (2 : Int32)]) (fun w3 r4 =>
        bI (F 1 w3 [.inr (.inr (16, 0, 0)), .inl x1, .inl (3 : Int32)]) (fun w5 r6 =>
          if mIn ((22 : Int32) + ((5 : Int32) * x2)) 151 then
          if r4 < (w5.1 14 (((22 : Int32) + ((5 : Int32) * x2)).toNatClampNeg)) then
            if mIn ((22 : Int32) + ((5 : Int32) * x2)) 151 then
            if r4 < (w5.1 14 (((22 : Int32) + ((5 : Int32) * x2)).toNatClampNeg)) then
              some (w5, some (.inl (2 : Int32)))
            else
              some (w5, some (.inl (3 : Int32)))
            else none
          else
            if mIn (((22 : Int32) + ((5 : Int32) * x2)) + (1 : Int32)) 151 then
            if (w5.1 14 ((((22 : Int32) + ((5 : Int32) * x2)) + (1 : Int32)).toNatClampNeg)) < r4 then
              if mIn ((22 : Int32) + ((5 : Int32) * x2)) 151 then
              if r4 < (w5.1 14 (((22 : Int32) + ((5 : Int32) * x2)).toNatClampNeg)) then
                some (w5, some (.inl (2 : Int32)))
              else
                some (w5, some (.inl (3 : Int32)))
              else none
            else
              if mIn (((22 : Int32) + ((5 : Int32) * x2)) + (2 : Int32)) 151 then
              if r6 < (w5.1 14 ((((22 : Int32) + ((5 : Int32) * x2)) + (2 : Int32)).toNatClampNeg)) then
                if mIn (((22 : Int32) + ((5 : Int32) * x2)) + (2 : Int32)) 151 then
                if r6 < (w5.1 14 ((((22 : Int32) + ((5 : Int32) * x2)) + (2 : Int32)).toNatClampNeg)) then
                  some (w5, some (.inl (4 : Int32)))
                else
                  some (w5, some (.inl (5 : Int32)))
                else none
              else
                if mIn (((22 : Int32) + ((5 : Int32) * x2)) + (3 : Int32)) 151 then
                if (w5.1 14 ((((22 : Int32) + ((5 : Int32) * x2)) + (3 : Int32)).toNatClampNeg)) < r6 then
                  if mIn (((22 : Int32) + ((5 : Int32) * x2)) + (2 : Int32)) 151 then
                  if r6 < (w5.1 14 ((((22 : Int32) + ((5 : Int32) * x2)) + (2 : Int32)).toNatClampNeg)) then
                    some (w5, some (.inl (4 : Int32)))
                  else
                    some (w5, some (.inl (5 : Int32)))
                  else none
                else
                  bI (F 1 w5 [.inr (.inr (16, 0, 0)), .inl x1, .inl (4 : Int32)]) (fun w7 r8 =>
                    if mIn (((22 : Int32) + ((5 : Int32) * x2)) + (4 : Int32)) 151 then
                    if (w7.1 14 ((((22 : Int32) + ((5 : Int32) * x2)) + (4 : Int32)).toNatClampNeg)) < r8 then
                      some (w7, some (.inl (6 : Int32)))
                    else
                      some (w7, some (.inl (0 : Int32)))
                    else none
                  )
                else none
              else none
            else none
          else none
        )
      )
  ) := rfl
set_option maxRecDepth 100000 in
set_option maxHeartbeats 200000 in
theorem eX7_fillsBottles (F : Nat → MF) (R : Nat → Nat → ML → List MV → MM → MR) (v : MM) (x1 x2 x3 x4 x5 : Int32) : stp F cdX7_fillsBottles (runH F cdX7_fillsBottles [] R 82) 0 [(0, .inr (.inr (16, 0, 0))), (1, .inl x1), (2, .inl x2), (3, .inl x3), (4, .inl x4), (5, .inl x5)] [] v =
  bI (F 0 v [.inr (.inr (16, 0, 0)), .inl x1]) (fun w1 r2 =>
    if r2 = 0 then
      some (w1, some (.inl (-1 : Int32)))
    else
      bI (F 1 w1 [.inl x2, .inl (0 : Int32), .inl (3 : Int32)]) (fun w3 r4 =>
        if r4 = 0 then
          some (w3, some (.inl (-1 : Int32)))
        else
          bI (F 1 w3 [.inl x3, .inl (1 : Int32), .inl (10 : Int32)]) (fun w5 r6 =>
            if r6 = 0 then
              some (w5, some (.inl (-1 : Int32)))
            else
              bI (F 1 w5 [.inl x4, .inl (1 : Int32), .inl (5000 : Int32)]) (fun w7 r8 =>
                if r8 = 0 then
                  some (w7, some (.inl (-1 : Int32)))
                else
                  bI (F 2 w7 [.inr (.inr (16, 0, 0)), .inl x1, .inl x2]) (fun w9 r10 =>
                    if r10 = 0 then
                      bI (F 3 w9 [.inr (.inr (16, 0, 0)), .inl x1, .inl (1 : Int32)]) (fun w11 r12 =>
                        if r12 < (x3 * x4) then
                          if 0 < (7 : Int32) then
                            bI (F 4 w11 [.inr (.inr (16, 0, 0)), .inl (7 : Int32)]) (fun w13 r14 =>
                              some (w13, some (.inl r14))
                            )
                          else
                            if x5 = 0 then
                              bI (F 6 w11 [.inr (.inr (16, 0, 0)), .inl x1, .inl (x3 * x4), .inl (-1 : Int32)]) (fun w15 r16 =>
                                if mIn (109 : Int32) 151 then
                                if mIn (109 : Int32) 151 then
                                let w17 : MM := mUp w15 (14, (109 : Int32).toNatClampNeg) ((w15.1 14 ((109 : Int32).toNatClampNeg)) + (x3 * x4))
                                if mIn ((((111 : Int32) + ((10 : Int32) * x2)) + x3) - (1 : Int32)) 151 then
                                if mIn ((((111 : Int32) + ((10 : Int32) * x2)) + x3) - (1 : Int32)) 151 then
                                let w18 : MM := mUp w17 (14, ((((111 : Int32) + ((10 : Int32) * x2)) + x3) - (1 : Int32)).toNatClampNeg) ((w17.1 14 (((((111 : Int32) + ((10 : Int32) * x2)) + x3) - (1 : Int32)).toNatClampNeg)) + x4)
                                if r16 < 0 then
                                  some (w18, some (.inl r16))
                                else
                                  bI (F 7 w18 [.inr (.inr (16, 0, 0)), .inl x2]) (fun w19 r20 =>
                                    some (w19, some (.inl r20))
                                  )
                                else none
                                else none
                                else none
                                else none
                              )
                            else
                              bV (F 5 w11 [.inr (.inr (16, 0, 0))]) (fun w21 =>
                                bI (F 6 w21 [.inr (.inr (16, 0, 0)), .inl x1, .inl (x3 * x4), .inl (-1 : Int32)]) (fun w22 r23 =>
                                  if mIn (109 : Int32) 151 then
                                  if mIn (109 : Int32) 151 then
                                  let w24 : MM := mUp w22 (14, (109 : Int32).toNatClampNeg) ((w22.1 14 ((109 : Int32).toNatClampNeg)) + (x3 * x4))
                                  if mIn ((((111 : Int32) + ((10 : Int32) * x2)) + x3) - (1 : Int32)) 151 then
                                  if mIn ((((111 : Int32) + ((10 : Int32) * x2)) + x3) - (1 : Int32)) 151 then
                                  let w25 : MM := mUp w24 (14, ((((111 : Int32) + ((10 : Int32) * x2)) + x3) - (1 : Int32)).toNatClampNeg) ((w24.1 14 (((((111 : Int32) + ((10 : Int32) * x2)) + x3) - (1 : Int32)).toNatClampNeg)) + x4)
                                  if r23 < 0 then
                                    some (w25, some (.inl r23))
                                  else
                                    bI (F 7 w25 [.inr (.inr (16, 0, 0)), .inl x2]) (fun w26 r27 =>
                                      some (w26, some (.inl r27))
                                    )
                                  else none
                                  else none
                                  else none
                                  else none
                                )
                              )
                        else
                          if 0 < r10 then
                            bI (F 4 w11 [.inr (.inr (16, 0, 0)), .inl r10]) (fun w28 r29 =>
                              some (w28, some (.inl r29))
                            )
                          else
                            if x5 = 0 then
                              bI (F 6 w11 [.inr (.inr (16, 0, 0)), .inl x1, .inl (x3 * x4), .inl (-1 : Int32)]) (fun w30 r31 =>
                                if mIn (109 : Int32) 151 then
                                if mIn (109 : Int32) 151 then
                                let w32 : MM := mUp w30 (14, (109 : Int32).toNatClampNeg) ((w30.1 14 ((109 : Int32).toNatClampNeg)) + (x3 * x4))
                                if mIn ((((111 : Int32) + ((10 : Int32) * x2)) + x3) - (1 : Int32)) 151 then
                                if mIn ((((111 : Int32) + ((10 : Int32) * x2)) + x3) - (1 : Int32)) 151 then
                                let w33 : MM := mUp w32 (14, ((((111 : Int32) + ((10 : Int32) * x2)) + x3) - (1 : Int32)).toNatClampNeg) ((w32.1 14 (((((111 : Int32) + ((10 : Int32) * x2)) + x3) - (1 : Int32)).toNatClampNeg)) + x4)
                                if r31 < 0 then
                                  some (w33, some (.inl r31))
                                else
                                  bI (F 7 w33 [.inr (.inr (16, 0, 0)), .inl x2]) (fun w34 r35 =>
                                    some (w34, some (.inl r35))
                                  )
                                else none
                                else none
                                else none
                                else none
                              )
                            else
                              bV (F 5 w11 [.inr (.inr (16, 0, 0))]) (fun w36 =>
                                bI (F 6 w36 [.inr (.inr (16, 0, 0)), .inl x1, .inl (x3 * x4), .inl (-1 : Int32)]) (fun w37 r38 =>
                                  if mIn (109 : Int32) 151 then
                                  if mIn (109 : Int32) 151 then
                                  let w39 : MM := mUp w37 (14, (109 : Int32).toNatClampNeg) ((w37.1 14 ((109 : Int32).toNatClampNeg)) + (x3 * x4))
                                  if mIn ((((111 : Int32) + ((10 : Int32) * x2)) + x3) - (1 : Int32)) 151 then
                                  if mIn ((((111 : Int32) + ((10 : Int32) * x2)) + x3) - (1 : Int32)) 151 then
                                  let w40 : MM := mUp w39 (14, ((((111 : Int32) + ((10 : Int32) * x2)) + x3) - (1 : Int32)).toNatClampNeg) ((w39.1 14 (((((111 : Int32) + ((10 : Int32) * x2)) + x3) - (1 : Int32)).toNatClampNeg)) + x4)
                                  if r38 < 0 then
                                    some (w40, some (.inl r38))
                                  else
                                    bI (F 7 w40 [.inr (.inr (16, 0, 0)), .inl x2]) (fun w41 r42 =>
                                      some (w41, some (.inl r42))
                                    )
                                  else none
                                  else none
                                  else none
                                  else none
                                )
                              )
                      )
                    else
                      if 0 < r10 then
                        bI (F 4 w9 [.inr (.inr (16, 0, 0)), .inl r10]) (fun w43 r44 =>
                          some (w43, some (.inl r44))
                        )
                      else
                        if x5 = 0 then
                          bI (F 6 w9 [.inr (.inr (16, 0, 0)), .inl x1, .inl (x3 * x4), .inl (-1 : Int32)]) (fun w45 r46 =>
                            if mIn (109 : Int32) 151 then
                            if mIn (109 : Int32) 151 then
                            let w47 : MM := mUp w45 (14, (109 : Int32).toNatClampNeg) ((w45.1 14 ((109 : Int32).toNatClampNeg)) + (x3 * x4))
                            if mIn ((((111 : Int32) + ((10 : Int32) * x2)) + x3) - (1 : Int32)) 151 then
                            if mIn ((((111 : Int32) + ((10 : Int32) * x2)) + x3) - (1 : Int32)) 151 then
                            let w48 : MM := mUp w47 (14, ((((111 : Int32) + ((10 : Int32) * x2)) + x3) - (1 : Int32)).toNatClampNeg) ((w47.1 14 (((((111 : Int32) + ((10 : Int32) * x2)) + x3) - (1 : Int32)).toNatClampNeg)) + x4)
                            if r46 < 0 then
                              some (w48, some (.inl r46))
                            else
                              bI (F 7 w48 [.inr (.inr (16, 0, 0)), .inl x2]) (fun w49 r50 =>
                                some (w49, some (.inl r50))
                              )
                            else none
                            else none
                            else none
                            else none
                          )
                        else
                          bV (F 5 w9 [.inr (.inr (16, 0, 0))]) (fun w51 =>
                            bI (F 6 w51 [.inr (.inr (16, 0, 0)), .inl x1, .inl (x3 * x4), .inl (-1 : Int32)]) (fun w52 r53 =>
                              if mIn (109 : Int32) 151 then
                              if mIn (109 : Int32) 151 then
                              let w54 : MM := mUp w52 (14, (109 : Int32).toNatClampNeg) ((w52.1 14 ((109 : Int32).toNatClampNeg)) + (x3 * x4))
                              if mIn ((((111 : Int32) + ((10 : Int32) * x2)) + x3) - (1 : Int32)) 151 then
                              if mIn ((((111 : Int32) + ((10 : Int32) * x2)) + x3) - (1 : Int32)) 151 then
                              let w55 : MM := mUp w54 (14, ((((111 : Int32) + ((10 : Int32) * x2)) + x3) - (1 : Int32)).toNatClampNeg) ((w54.1 14 (((((111 : Int32) + ((10 : Int32) * x2)) + x3) - (1 : Int32)).toNatClampNeg)) + x4)
                              if r53 < 0 then
                                some (w55, some (.inl r53))
                              else
                                bI (F 7 w55 [.inr (.inr (16, 0, 0)), .inl x2]) (fun w56 r57 =>
                                  some (w56, some (.inl r57))
                                )
                              else none
                              else none
                              else none
                              else none
                            )
                          )
                  )
              )
          )
      )
  ) := rfl
set_option maxRecDepth 100000 in
set_option maxHeartbeats 200000 in
theorem eX7_works (F : Nat → MF) (R : Nat → Nat → ML → List MV → MM → MR) (v : MM) (x1 : Int32) : stp F cdX7_works (runH F cdX7_works [] R 52) 0 [(0, .inr (.inr (16, 0, 0))), (1, .inl x1)] [] v =
  bI (F 0 v [.inr (.inr (16, 0, 0)), .inl x1, .inl (4 : Int32)]) (fun w1 r2 =>
    if mIn (20 : Int32) 151 then
    bV (F 1 w1 [.inr (.inr (16, 0, 0)), .inl x1, .inl (4 : Int32), .inl (-((r2 * (w1.1 14 ((20 : Int32).toNatClampNeg))) / (1000 : Int32)))]) (fun w3 =>
      bV (F 1 w3 [.inr (.inr (16, 0, 0)), .inl x1, .inl (1 : Int32), .inl (-((r2 * (w1.1 14 ((20 : Int32).toNatClampNeg))) / (1000 : Int32)))]) (fun w4 =>
        bV (F 1 w4 [.inr (.inr (16, 0, 0)), .inl x1, .inl (5 : Int32), .inl ((r2 * (w1.1 14 ((20 : Int32).toNatClampNeg))) / (1000 : Int32))]) (fun w5 =>
          bI (F 0 w5 [.inr (.inr (16, 0, 0)), .inl x1, .inl (2 : Int32)]) (fun w6 r7 =>
            if mIn (21 : Int32) 151 then
            bV (F 1 w6 [.inr (.inr (16, 0, 0)), .inl x1, .inl (2 : Int32), .inl (-((r7 * (w6.1 14 ((21 : Int32).toNatClampNeg))) / (1000 : Int32)))]) (fun w8 =>
              bV (F 1 w8 [.inr (.inr (16, 0, 0)), .inl x1, .inl (6 : Int32), .inl ((r7 * (w6.1 14 ((21 : Int32).toNatClampNeg))) / (1000 : Int32))]) (fun w9 =>
                some (w9, none)
              )
            )
            else none
          )
        )
      )
    )
    else none
  ) := rfl
set_option maxRecDepth 100000 in
set_option maxHeartbeats 200000 in
theorem eX7_days (F : Nat → MF) (R : Nat → Nat → ML → List MV → MM → MR) (v : MM) : stp F cdX7_days (runH F cdX7_days [2, 52] R 1) 0 [(0, .inr (.inr (16, 0, 0)))] [] v =
  R 0 2 [(1, .inl (0 : Int32)), (0, .inr (.inr (16, 0, 0)))] [] v := rfl
set_option maxRecDepth 100000 in
set_option maxHeartbeats 200000 in
theorem eX7_days_2 (F : Nat → MF) (R : Nat → Nat → ML → List MV → MM → MR) (v : MM) (y1 : Int32) : stp F cdX7_days (runH F cdX7_days [2, 52] R 47) 2 [(1, .inl y1), (0, .inr (.inr (16, 0, 0)))] [] v =
  if mIn (42 : Int32) 151 then
  if y1 < (v.1 14 ((42 : Int32).toNatClampNeg)) then
    if mIn (((43 : Int32) + ((2 : Int32) * y1)) + (1 : Int32)) 151 then
    if mIn (18 : Int32) 151 then
    if mIn (((43 : Int32) + ((2 : Int32) * y1)) + (1 : Int32)) 151 then
    if mIn (((43 : Int32) + ((2 : Int32) * y1)) + (1 : Int32)) 151 then
    let w1 : MM := mUp v (14, (((43 : Int32) + ((2 : Int32) * y1)) + (1 : Int32)).toNatClampNeg) ((v.1 14 ((((43 : Int32) + ((2 : Int32) * y1)) + (1 : Int32)).toNatClampNeg)) - (((v.1 14 ((((43 : Int32) + ((2 : Int32) * y1)) + (1 : Int32)).toNatClampNeg)) * (v.1 14 ((18 : Int32).toNatClampNeg))) / (1000 : Int32)))
    if mIn (106 : Int32) 151 then
    if mIn (106 : Int32) 151 then
    let w2 : MM := mUp w1 (14, (106 : Int32).toNatClampNeg) ((w1.1 14 ((106 : Int32).toNatClampNeg)) + (((v.1 14 ((((43 : Int32) + ((2 : Int32) * y1)) + (1 : Int32)).toNatClampNeg)) * (v.1 14 ((18 : Int32).toNatClampNeg))) / (1000 : Int32)))
    R 0 2 [(1, .inl (y1 + (1 : Int32))), (2, .inl (((v.1 14 ((((43 : Int32) + ((2 : Int32) * y1)) + (1 : Int32)).toNatClampNeg)) * (v.1 14 ((18 : Int32).toNatClampNeg))) / (1000 : Int32))), (0, .inr (.inr (16, 0, 0)))] [] w2
    else none
    else none
    else none
    else none
    else none
    else none
  else
    R 40 52 [(1, .inl (0 : Int32)), (0, .inr (.inr (16, 0, 0)))] [] v
  else none := rfl
set_option maxRecDepth 100000 in
set_option maxHeartbeats 200000 in
theorem eX7_days_2_2 (F : Nat → MF) (R : Nat → Nat → ML → List MV → MM → MR) (v : MM) (y1 y2 : Int32) : stp F cdX7_days (runH F cdX7_days [2, 52] R 47) 2 [(1, .inl y1), (2, .inl y2), (0, .inr (.inr (16, 0, 0)))] [] v =
  if mIn (42 : Int32) 151 then
  if y1 < (v.1 14 ((42 : Int32).toNatClampNeg)) then
    if mIn (((43 : Int32) + ((2 : Int32) * y1)) + (1 : Int32)) 151 then
    if mIn (18 : Int32) 151 then
    if mIn (((43 : Int32) + ((2 : Int32) * y1)) + (1 : Int32)) 151 then
    if mIn (((43 : Int32) + ((2 : Int32) * y1)) + (1 : Int32)) 151 then
    let w1 : MM := mUp v (14, (((43 : Int32) + ((2 : Int32) * y1)) + (1 : Int32)).toNatClampNeg) ((v.1 14 ((((43 : Int32) + ((2 : Int32) * y1)) + (1 : Int32)).toNatClampNeg)) - (((v.1 14 ((((43 : Int32) + ((2 : Int32) * y1)) + (1 : Int32)).toNatClampNeg)) * (v.1 14 ((18 : Int32).toNatClampNeg))) / (1000 : Int32)))
    if mIn (106 : Int32) 151 then
    if mIn (106 : Int32) 151 then
    let w2 : MM := mUp w1 (14, (106 : Int32).toNatClampNeg) ((w1.1 14 ((106 : Int32).toNatClampNeg)) + (((v.1 14 ((((43 : Int32) + ((2 : Int32) * y1)) + (1 : Int32)).toNatClampNeg)) * (v.1 14 ((18 : Int32).toNatClampNeg))) / (1000 : Int32)))
    R 0 2 [(1, .inl (y1 + (1 : Int32))), (2, .inl (((v.1 14 ((((43 : Int32) + ((2 : Int32) * y1)) + (1 : Int32)).toNatClampNeg)) * (v.1 14 ((18 : Int32).toNatClampNeg))) / (1000 : Int32))), (0, .inr (.inr (16, 0, 0)))] [] w2
    else none
    else none
    else none
    else none
    else none
    else none
  else
    R 40 52 [(1, .inl (0 : Int32)), (2, .inl y2), (0, .inr (.inr (16, 0, 0)))] [] v
  else none := rfl
set_option maxRecDepth 100000 in
set_option maxHeartbeats 200000 in
theorem eX7_days_52 (F : Nat → MF) (R : Nat → Nat → ML → List MV → MM → MR) (v : MM) (y1 : Int32) : stp F cdX7_days (runH F cdX7_days [2, 52] R 18) 52 [(1, .inl y1), (0, .inr (.inr (16, 0, 0)))] [] v =
  if mIn (59 : Int32) 151 then
  if y1 < (v.1 14 ((59 : Int32).toNatClampNeg)) then
    bV (F 0 v [.inr (.inr (16, 0, 0)), .inl y1]) (fun w1 =>
      R 8 52 [(1, .inl (y1 + (1 : Int32))), (0, .inr (.inr (16, 0, 0)))] [] w1
    )
  else
    if mIn (103 : Int32) 151 then
    if mIn (103 : Int32) 151 then
    let w2 : MM := mUp v (14, (103 : Int32).toNatClampNeg) ((v.1 14 ((103 : Int32).toNatClampNeg)) + (1 : Int32))
    if mIn (103 : Int32) 151 then
    some (w2, some (.inl (w2.1 14 ((103 : Int32).toNatClampNeg))))
    else none
    else none
    else none
  else none := rfl
set_option maxRecDepth 100000 in
set_option maxHeartbeats 200000 in
theorem eX7_days_52_2 (F : Nat → MF) (R : Nat → Nat → ML → List MV → MM → MR) (v : MM) (y1 y2 : Int32) : stp F cdX7_days (runH F cdX7_days [2, 52] R 18) 52 [(1, .inl y1), (2, .inl y2), (0, .inr (.inr (16, 0, 0)))] [] v =
  if mIn (59 : Int32) 151 then
  if y1 < (v.1 14 ((59 : Int32).toNatClampNeg)) then
    bV (F 0 v [.inr (.inr (16, 0, 0)), .inl y1]) (fun w1 =>
      R 8 52 [(1, .inl (y1 + (1 : Int32))), (2, .inl y2), (0, .inr (.inr (16, 0, 0)))] [] w1
    )
  else
    if mIn (103 : Int32) 151 then
    if mIn (103 : Int32) 151 then
    let w2 : MM := mUp v (14, (103 : Int32).toNatClampNeg) ((v.1 14 ((103 : Int32).toNatClampNeg)) + (1 : Int32))
    if mIn (103 : Int32) 151 then
    some (w2, some (.inl (w2.1 14 ((103 : Int32).toNatClampNeg))))
    else none
    else none
    else none
  else none := rfl
set_option maxRecDepth 100000 in
set_option maxHeartbeats 200000 in
theorem eX7_exchanges (F : Nat → MF) (R : Nat → Nat → ML → List MV → MM → MR) (v : MM) : stp F cdX7_exchanges (runH F cdX7_exchanges [2] R 1) 0 [(0, .inr (.inr (16, 0, 0)))] [] v =
  R 0 2 [(1, .inl (0 : Int32)), (0, .inr (.inr (16, 0, 0)))] [] v := rfl
set_option maxRecDepth 100000 in
set_option maxHeartbeats 200000 in
theorem eX7_exchanges_2 (F : Nat → MF) (R : Nat → Nat → ML → List MV → MM → MR) (v : MM) (y1 : Int32) : stp F cdX7_exchanges (runH F cdX7_exchanges [2] R 22) 2 [(1, .inl y1), (0, .inr (.inr (16, 0, 0)))] [] v =
  if y1 < (151 : Int32) then
    if mIn y1 151 then
    if mIn y1 151 then
    if mIn y1 151 then
    let w1 : MM := mUp v (14, y1.toNatClampNeg) (v.1 16 y1.toNatClampNeg)
    if mIn y1 151 then
    let w2 : MM := mUp w1 (16, y1.toNatClampNeg) (v.1 14 y1.toNatClampNeg)
    R 0 2 [(1, .inl (y1 + (1 : Int32))), (2, .inl (v.1 14 y1.toNatClampNeg)), (0, .inr (.inr (16, 0, 0)))] [] w2
    else none
    else none
    else none
    else none
  else
    some (v, none) := rfl
set_option maxRecDepth 100000 in
set_option maxHeartbeats 200000 in
theorem eX7_exchanges_2_2 (F : Nat → MF) (R : Nat → Nat → ML → List MV → MM → MR) (v : MM) (y1 y2 : Int32) : stp F cdX7_exchanges (runH F cdX7_exchanges [2] R 22) 2 [(1, .inl y1), (2, .inl y2), (0, .inr (.inr (16, 0, 0)))] [] v =
  if y1 < (151 : Int32) then
    if mIn y1 151 then
    if mIn y1 151 then
    if mIn y1 151 then
    let w1 : MM := mUp v (14, y1.toNatClampNeg) (v.1 16 y1.toNatClampNeg)
    if mIn y1 151 then
    let w2 : MM := mUp w1 (16, y1.toNatClampNeg) (v.1 14 y1.toNatClampNeg)
    R 0 2 [(1, .inl (y1 + (1 : Int32))), (2, .inl (v.1 14 y1.toNatClampNeg)), (0, .inr (.inr (16, 0, 0)))] [] w2
    else none
    else none
    else none
    else none
  else
    some (v, none) := rfl
set_option maxRecDepth 100000 in
set_option maxHeartbeats 200000 in
theorem eX7_done (F : Nat → MF) (R : Nat → Nat → ML → List MV → MM → MR) (v : MM) (x1 : Int32) : stp F cdX7_done (runH F cdX7_done [] R 9) 0 [(0, .inr (.inr (16, 0, 0))), (1, .inl x1)] [] v =
  if x1 < 0 then
    some (v, some (.inl x1))
  else
    bV (F 0 v [.inr (.inr (16, 0, 0))]) (fun w1 =>
      bV (F 1 w1 [.inr (.inr (16, 0, 0))]) (fun w2 =>
        bV (F 0 w2 [.inr (.inr (16, 0, 0))]) (fun w3 =>
          some (w3, some (.inl x1))
        )
      )
    ) := rfl
set_option maxRecDepth 100000 in
set_option maxHeartbeats 200000 in
theorem eX7_press (F : Nat → MF) (R : Nat → Nat → ML → List MV → MM → MR) (v : MM) (x1 x2 x3 : Int32) : stp F cdX7_press (runH F cdX7_press [] R 9) 0 [(0, .inr (.inr (16, 0, 0))), (1, .inl x1), (2, .inl x2), (3, .inl x3)] [] v =
  bV (F 0 v [.inr (.inr (16, 0, 0))]) (fun w1 =>
    bI (F 1 w1 [.inr (.inr (16, 0, 0)), .inl x1, .inl x2, .inl x3]) (fun w2 r3 =>
      bI (F 2 w2 [.inr (.inr (16, 0, 0)), .inl r3]) (fun w4 r5 =>
        some (w4, some (.inl r5))
      )
    )
  ) := rfl
set_option maxRecDepth 100000 in
set_option maxHeartbeats 200000 in
theorem eX7_wet (F : Nat → MF) (R : Nat → Nat → ML → List MV → MM → MR) (v : MM) (x1 x2 : Int32) : stp F cdX7_wet (runH F cdX7_wet [] R 8) 0 [(0, .inr (.inr (16, 0, 0))), (1, .inl x1), (2, .inl x2)] [] v =
  bV (F 0 v [.inr (.inr (16, 0, 0))]) (fun w1 =>
    bI (F 1 w1 [.inr (.inr (16, 0, 0)), .inl x1, .inl x2]) (fun w2 r3 =>
      bI (F 2 w2 [.inr (.inr (16, 0, 0)), .inl r3]) (fun w4 r5 =>
        some (w4, some (.inl r5))
      )
    )
  ) := rfl
set_option maxRecDepth 100000 in
set_option maxHeartbeats 200000 in
theorem eX7_sellPomace (F : Nat → MF) (R : Nat → Nat → ML → List MV → MM → MR) (v : MM) : stp F cdX7_sellPomace (runH F cdX7_sellPomace [] R 26) 0 [(0, .inr (.inr (16, 0, 0)))] [] v =
  if mIn (102 : Int32) 151 then
  if (v.1 14 ((102 : Int32).toNatClampNeg)) = 0 then
    bI (F 0 v [.inr (.inr (16, 0, 0)), .inl (12 : Int32)]) (fun w1 r2 =>
      some (w1, some (.inl r2))
    )
  else
    bV (F 1 v [.inr (.inr (16, 0, 0))]) (fun w3 =>
      if mIn (102 : Int32) 151 then
      if mIn (108 : Int32) 151 then
      if mIn (108 : Int32) 151 then
      let w4 : MM := mUp w3 (14, (108 : Int32).toNatClampNeg) ((w3.1 14 ((108 : Int32).toNatClampNeg)) + (w3.1 14 ((102 : Int32).toNatClampNeg)))
      if mIn (102 : Int32) 151 then
      let w5 : MM := mUp w4 (14, (102 : Int32).toNatClampNeg) (0 : Int32)
      some (w5, some (.inl (w3.1 14 ((102 : Int32).toNatClampNeg))))
      else none
      else none
      else none
      else none
    )
  else none := rfl
set_option maxRecDepth 100000 in
set_option maxHeartbeats 200000 in
theorem eX7_move (F : Nat → MF) (R : Nat → Nat → ML → List MV → MM → MR) (v : MM) (x1 x2 x3 : Int32) : stp F cdX7_move (runH F cdX7_move [] R 9) 0 [(0, .inr (.inr (16, 0, 0))), (1, .inl x1), (2, .inl x2), (3, .inl x3)] [] v =
  bV (F 0 v [.inr (.inr (16, 0, 0))]) (fun w1 =>
    bI (F 1 w1 [.inr (.inr (16, 0, 0)), .inl x1, .inl x2, .inl x3]) (fun w2 r3 =>
      bI (F 2 w2 [.inr (.inr (16, 0, 0)), .inl r3]) (fun w4 r5 =>
        some (w4, some (.inl r5))
      )
    )
  ) := rfl
set_option maxRecDepth 100000 in
set_option maxHeartbeats 200000 in
theorem eX7_rack (F : Nat → MF) (R : Nat → Nat → ML → List MV → MM → MR) (v : MM) (x1 x2 : Int32) : stp F cdX7_rack (runH F cdX7_rack [] R 8) 0 [(0, .inr (.inr (16, 0, 0))), (1, .inl x1), (2, .inl x2)] [] v =
  bV (F 0 v [.inr (.inr (16, 0, 0))]) (fun w1 =>
    bI (F 1 w1 [.inr (.inr (16, 0, 0)), .inl x1, .inl x2]) (fun w2 r3 =>
      bI (F 2 w2 [.inr (.inr (16, 0, 0)), .inl r3]) (fun w4 r5 =>
        some (w4, some (.inl r5))
      )
    )
  ) := rfl
set_option maxRecDepth 100000 in
set_option maxHeartbeats 200000 in
theorem eX7_clean (F : Nat → MF) (R : Nat → Nat → ML → List MV → MM → MR) (v : MM) (x1 : Int32) : stp F cdX7_clean (runH F cdX7_clean [] R 7) 0 [(0, .inr (.inr (16, 0, 0))), (1, .inl x1)] [] v =
  bV (F 0 v [.inr (.inr (16, 0, 0))]) (fun w1 =>
    bI (F 1 w1 [.inr (.inr (16, 0, 0)), .inl x1]) (fun w2 r3 =>
      bI (F 2 w2 [.inr (.inr (16, 0, 0)), .inl r3]) (fun w4 r5 =>
        some (w4, some (.inl r5))
      )
    )
  ) := rfl
set_option maxRecDepth 100000 in
set_option maxHeartbeats 200000 in
theorem eX7_pour (F : Nat → MF) (R : Nat → Nat → ML → List MV → MM → MR) (v : MM) (x1 : Int32) : stp F cdX7_pour (runH F cdX7_pour [21] R 14) 0 [(0, .inr (.inr (16, 0, 0))), (1, .inl x1)] [] v =
  bI (F 0 v [.inr (.inr (16, 0, 0)), .inl x1]) (fun w1 r2 =>
    if r2 = 0 then
      some (w1, some (.inl (-1 : Int32)))
    else
      bI (F 1 w1 [.inr (.inr (16, 0, 0)), .inl x1, .inl (1 : Int32)]) (fun w3 r4 =>
        if r4 = 0 then
          bI (F 2 w3 [.inr (.inr (16, 0, 0)), .inl (1 : Int32)]) (fun w5 r6 =>
            some (w5, some (.inl r6))
          )
        else
          bV (F 3 w3 [.inr (.inr (16, 0, 0))]) (fun w7 =>
            R 0 21 [(3, .inl (1 : Int32)), (2, .inl r4), (0, .inr (.inr (16, 0, 0))), (1, .inl x1)] [] w7
          )
      )
  ) := rfl
set_option maxRecDepth 100000 in
set_option maxHeartbeats 200000 in
theorem eX7_pour_21 (F : Nat → MF) (R : Nat → Nat → ML → List MV → MM → MR) (v : MM) (y1 y2 y3 : Int32) : stp F cdX7_pour (runH F cdX7_pour [21] R 16) 21 [(3, .inl y1), (2, .inl y2), (0, .inr (.inr (16, 0, 0))), (1, .inl y3)] [] v =
  if (6 : Int32) < y1 then
    if mIn (110 : Int32) 151 then
    if mIn (110 : Int32) 151 then
    let w1 : MM := mUp v (14, (110 : Int32).toNatClampNeg) ((v.1 14 ((110 : Int32).toNatClampNeg)) + y2)
    some (w1, some (.inl y2))
    else none
    else none
  else
    if y1 = (5 : Int32) then
      bV (F 4 v [.inr (.inr (16, 0, 0)), .inl y3, .inl y1, .inl (0 : Int32)]) (fun w2 =>
        R 3 21 [(3, .inl (y1 + (1 : Int32))), (2, .inl y2), (0, .inr (.inr (16, 0, 0))), (1, .inl y3)] [] w2
      )
    else
      bI (F 1 v [.inr (.inr (16, 0, 0)), .inl y3, .inl y1]) (fun w3 r4 =>
        bV (F 4 w3 [.inr (.inr (16, 0, 0)), .inl y3, .inl y1, .inl (-r4)]) (fun w5 =>
          R 0 21 [(3, .inl (y1 + (1 : Int32))), (2, .inl y2), (0, .inr (.inr (16, 0, 0))), (1, .inl y3)] [] w5
        )
      ) := rfl
set_option maxRecDepth 100000 in
set_option maxHeartbeats 200000 in
theorem eX7_bottle (F : Nat → MF) (R : Nat → Nat → ML → List MV → MM → MR) (v : MM) (x1 x2 x3 x4 : Int32) : stp F cdX7_bottle (runH F cdX7_bottle [] R 7) 0 [(0, .inr (.inr (16, 0, 0))), (1, .inl x1), (2, .inl x2), (3, .inl x3), (4, .inl x4)] [] v =
  bI (F 0 v [.inr (.inr (16, 0, 0)), .inl x1, .inl x2, .inl x3, .inl x4, .inl (1 : Int32)]) (fun w1 r2 =>
    some (w1, some (.inl r2))
  ) := rfl
set_option maxRecDepth 100000 in
set_option maxHeartbeats 200000 in
theorem eX7_day (F : Nat → MF) (R : Nat → Nat → ML → List MV → MM → MR) (v : MM) : stp F cdX7_day (runH F cdX7_day [] R 4) 0 [(0, .inr (.inr (16, 0, 0)))] [] v =
  bV (F 0 v [.inr (.inr (16, 0, 0))]) (fun w1 =>
    bI (F 1 w1 [.inr (.inr (16, 0, 0))]) (fun w2 r3 =>
      some (w2, some (.inl r3))
    )
  ) := rfl
set_option maxRecDepth 100000 in
set_option maxHeartbeats 200000 in
theorem eX7_appendCharacter (F : Nat → MF) (R : Nat → Nat → ML → List MV → MM → MR) (v : MM) (x1 : Int32) : stp F cdX7_appendCharacter (runH F cdX7_appendCharacter [] R 24) 0 [(0, .inr (.inr (16, 0, 0))), (1, .inl x1)] [] v =
  bI (F 0 v [.inl x1, .inl (0 : Int32), .inl (255 : Int32)]) (fun w1 r2 =>
    if r2 = 0 then
      some (w1, some (.inl (-1 : Int32)))
    else
      if (w1.1 13 6) = (100 : Int32) then
        some (w1, some (.inl (-3 : Int32)))
      else
        if mIn (w1.1 13 6) 100 then
        let w3 : MM := mUp w1 (17, (w1.1 13 6).toNatClampNeg) (vp_nar .byte x1.toInt8.toInt32)
        let w4 : MM := mUp w3 (13, 6) ((w3.1 13 6) + (1 : Int32))
        some (w4, some (.inl (w4.1 13 6)))
        else none
  ) := rfl
set_option maxRecDepth 100000 in
set_option maxHeartbeats 200000 in
theorem eX7_clearText (F : Nat → MF) (R : Nat → Nat → ML → List MV → MM → MR) (v : MM) : stp F cdX7_clearText (runH F cdX7_clearText [] R 7) 0 [(0, .inr (.inr (16, 0, 0)))] [] v =
  let w1 : MM := mUp v (13, 6) (0 : Int32)
  some (w1, some (.inl (v.1 13 6))) := rfl
set_option maxRecDepth 100000 in
set_option maxHeartbeats 200000 in
theorem eX7_goes (F : Nat → MF) (R : Nat → Nat → ML → List MV → MM → MR) (v : MM) : stp F cdX7_goes (runH F cdX7_goes [0, 63, 100] R 53) 0 [(0, .inr (.inr (16, 0, 0)))] [] v =
  if (v.1 13 9) < (v.1 13 6) then
    if mIn (v.1 13 9) 100 then
    if (v.1 17 ((v.1 13 9).toNatClampNeg)) = (32 : Int32) then
      let w1 : MM := mUp v (13, 9) ((v.1 13 9) + (1 : Int32))
      R 35 0 [(0, .inr (.inr (16, 0, 0)))] [] w1
    else
      let w2 : MM := mUp v (13, 10) (v.1 13 9)
      let w3 : MM := (w2.1, (0 : Int64))
      let w4 : MM := mUp w3 (13, 12) (0 : Int32)
      let w5 : MM := mUp w4 (13, 13) (0 : Int32)
      if (w5.1 13 9) = (w5.1 13 6) then
        some (w5, some (.inl (0 : Int32)))
      else
        if mIn (w5.1 13 9) 100 then
        bI (F 0 w5 [.inl (w5.1 17 ((w5.1 13 9).toNatClampNeg)), .inl (97 : Int32), .inl (122 : Int32)]) (fun w6 r7 =>
          if mIn (w6.1 13 9) 100 then
          bI (F 0 w6 [.inl (w6.1 17 ((w6.1 13 9).toNatClampNeg)), .inl (48 : Int32), .inl (57 : Int32)]) (fun w8 r9 =>
            let w10 : MM := mUp w8 (13, 9) ((w8.1 13 9) + (1 : Int32))
            R 0 63 [(2, .inl r9), (1, .inl r7), (0, .inr (.inr (16, 0, 0)))] [] w10
          )
          else none
        )
        else none
    else none
  else
    let w11 : MM := mUp v (13, 10) (v.1 13 9)
    let w12 : MM := (w11.1, (0 : Int64))
    let w13 : MM := mUp w12 (13, 12) (0 : Int32)
    let w14 : MM := mUp w13 (13, 13) (0 : Int32)
    if (w14.1 13 9) = (w14.1 13 6) then
      some (w14, some (.inl (0 : Int32)))
    else
      if mIn (w14.1 13 9) 100 then
      bI (F 0 w14 [.inl (w14.1 17 ((w14.1 13 9).toNatClampNeg)), .inl (97 : Int32), .inl (122 : Int32)]) (fun w15 r16 =>
        if mIn (w15.1 13 9) 100 then
        bI (F 0 w15 [.inl (w15.1 17 ((w15.1 13 9).toNatClampNeg)), .inl (48 : Int32), .inl (57 : Int32)]) (fun w17 r18 =>
          let w19 : MM := mUp w17 (13, 9) ((w17.1 13 9) + (1 : Int32))
          R 7 63 [(2, .inl r18), (1, .inl r16), (0, .inr (.inr (16, 0, 0)))] [] w19
        )
        else none
      )
      else none := rfl
set_option maxRecDepth 100000 in
set_option maxHeartbeats 200000 in
theorem eX7_goes_63 (F : Nat → MF) (R : Nat → Nat → ML → List MV → MM → MR) (v : MM) (y1 y2 : Int32) : stp F cdX7_goes (runH F cdX7_goes [0, 63, 100] R 33) 63 [(2, .inl y1), (1, .inl y2), (0, .inr (.inr (16, 0, 0)))] [] v =
  if (v.1 13 9) < (v.1 13 6) then
    if y2 = 0 then
      if y1 = 0 then
        R 22 100 [(3, .inl (v.1 13 10)), (2, .inl y1), (1, .inl y2), (0, .inr (.inr (16, 0, 0)))] [] v
      else
        if mIn (v.1 13 9) 100 then
        bI (F 0 v [.inl (v.1 17 ((v.1 13 9).toNatClampNeg)), .inl (48 : Int32), .inl (57 : Int32)]) (fun w1 r2 =>
          if r2 = 0 then
            R 13 100 [(3, .inl (w1.1 13 10)), (2, .inl y1), (1, .inl y2), (0, .inr (.inr (16, 0, 0)))] [] w1
          else
            let w3 : MM := mUp w1 (13, 9) ((w1.1 13 9) + (1 : Int32))
            R 9 63 [(2, .inl y1), (1, .inl y2), (0, .inr (.inr (16, 0, 0)))] [] w3
        )
        else none
    else
      if mIn (v.1 13 9) 100 then
      bI (F 0 v [.inl (v.1 17 ((v.1 13 9).toNatClampNeg)), .inl (97 : Int32), .inl (122 : Int32)]) (fun w4 r5 =>
        if r5 = 0 then
          if y1 = 0 then
            R 13 100 [(3, .inl (w4.1 13 10)), (2, .inl y1), (1, .inl y2), (0, .inr (.inr (16, 0, 0)))] [] w4
          else
            if mIn (w4.1 13 9) 100 then
            bI (F 0 w4 [.inl (w4.1 17 ((w4.1 13 9).toNatClampNeg)), .inl (48 : Int32), .inl (57 : Int32)]) (fun w6 r7 =>
              if r7 = 0 then
                R 4 100 [(3, .inl (w6.1 13 10)), (2, .inl y1), (1, .inl y2), (0, .inr (.inr (16, 0, 0)))] [] w6
              else
                let w8 : MM := mUp w6 (13, 9) ((w6.1 13 9) + (1 : Int32))
                R 0 63 [(2, .inl y1), (1, .inl y2), (0, .inr (.inr (16, 0, 0)))] [] w8
            )
            else none
        else
          let w9 : MM := mUp w4 (13, 9) ((w4.1 13 9) + (1 : Int32))
          R 11 63 [(2, .inl y1), (1, .inl y2), (0, .inr (.inr (16, 0, 0)))] [] w9
      )
      else none
  else
    R 26 100 [(3, .inl (v.1 13 10)), (2, .inl y1), (1, .inl y2), (0, .inr (.inr (16, 0, 0)))] [] v := rfl
set_option maxRecDepth 100000 in
set_option maxHeartbeats 200000 in
theorem eX7_goes_100 (F : Nat → MF) (R : Nat → Nat → ML → List MV → MM → MR) (v : MM) (y1 y2 y3 : Int32) : stp F cdX7_goes (runH F cdX7_goes [0, 63, 100] R 45) 100 [(3, .inl y1), (2, .inl y2), (1, .inl y3), (0, .inr (.inr (16, 0, 0)))] [] v =
  if y1 < (v.1 13 9) then
    if ((v.1 13 9) - (v.1 13 10)) < (8 : Int32) then
      if y3 = 0 then
        let w1 : MM := (v.1, (0 : Int64))
        if y2 = 0 then
          let w2 : MM := mUp w1 (13, 12) (0 : Int32)
          R 23 100 [(3, .inl (y1 + (1 : Int32))), (2, .inl y2), (1, .inl y3), (0, .inr (.inr (16, 0, 0)))] [] w2
        else
          if mIn y1 100 then
          let w3 : MM := mUp w1 (13, 12) ((((10 : Int32) * (w1.1 13 12)) + (w1.1 17 y1.toNatClampNeg)) - (48 : Int32))
          R 12 100 [(3, .inl (y1 + (1 : Int32))), (2, .inl y2), (1, .inl y3), (0, .inr (.inr (16, 0, 0)))] [] w3
          else none
      else
        if mIn y1 100 then
        let w4 : MM := (v.1, (((27 : Int64) * v.2) + ((v.1 17 y1.toNatClampNeg).toInt64)) - (96 : Int64))
        if y2 = 0 then
          let w5 : MM := mUp w4 (13, 12) (0 : Int32)
          R 11 100 [(3, .inl (y1 + (1 : Int32))), (2, .inl y2), (1, .inl y3), (0, .inr (.inr (16, 0, 0)))] [] w5
        else
          if mIn y1 100 then
          let w6 : MM := mUp w4 (13, 12) ((((10 : Int32) * (w4.1 13 12)) + (w4.1 17 y1.toNatClampNeg)) - (48 : Int32))
          R 0 100 [(3, .inl (y1 + (1 : Int32))), (2, .inl y2), (1, .inl y3), (0, .inr (.inr (16, 0, 0)))] [] w6
          else none
        else none
    else
      if y2 = 0 then
        let w7 : MM := mUp v (13, 13) (0 : Int32)
        some (w7, some (.inl (1 : Int32)))
      else
        if ((v.1 13 9) - (v.1 13 10)) < (6 : Int32) then
          if mIn (v.1 13 10) 100 then
          if (v.1 17 ((v.1 13 10).toNatClampNeg)) = (48 : Int32) then
            if (v.1 13 9) = ((v.1 13 10) + (1 : Int32)) then
              let w8 : MM := mUp v (13, 13) (1 : Int32)
              some (w8, some (.inl (1 : Int32)))
            else
              let w9 : MM := mUp v (13, 13) (0 : Int32)
              some (w9, some (.inl (1 : Int32)))
          else
            let w10 : MM := mUp v (13, 13) (1 : Int32)
            some (w10, some (.inl (1 : Int32)))
          else none
        else
          let w11 : MM := mUp v (13, 13) (0 : Int32)
          some (w11, some (.inl (1 : Int32)))
  else
    if y2 = 0 then
      let w12 : MM := mUp v (13, 13) (0 : Int32)
      some (w12, some (.inl (1 : Int32)))
    else
      if ((v.1 13 9) - (v.1 13 10)) < (6 : Int32) then
        if mIn (v.1 13 10) 100 then
        if (v.1 17 ((v.1 13 10).toNatClampNeg)) = (48 : Int32) then
          if (v.1 13 9) = ((v.1 13 10) + (1 : Int32)) then
            let w13 : MM := mUp v (13, 13) (1 : Int32)
            some (w13, some (.inl (1 : Int32)))
          else
            let w14 : MM := mUp v (13, 13) (0 : Int32)
            some (w14, some (.inl (1 : Int32)))
        else
          let w15 : MM := mUp v (13, 13) (1 : Int32)
          some (w15, some (.inl (1 : Int32)))
        else none
      else
        let w16 : MM := mUp v (13, 13) (0 : Int32)
        some (w16, some (.inl (1 : Int32))) := rfl
set_option maxRecDepth 100000 in
set_option maxHeartbeats 200000 in
theorem eX7_wants (F : Nat → MF) (R : Nat → Nat → ML → List MV → MM → MR) (v : MM) (x1 : Int64) : stp F cdX7_wants (runH F cdX7_wants [] R 30) 0 [(0, .inr (.inl x1))] [] v =
  if (lg_cmp x1 (8861527 : Int64)) = 0 then
    some (v, some (.inl (3 : Int32)))
  else
    if (lg_cmp x1 (267413 : Int64)) = 0 then
      some (v, some (.inl (3 : Int32)))
    else
      if (lg_cmp x1 (16922 : Int64)) = 0 then
        some (v, some (.inl (2 : Int32)))
      else
        if (lg_cmp x1 (355115 : Int64)) = 0 then
          some (v, some (.inl (2 : Int32)))
        else
          if (lg_cmp x1 (1834205 : Int64)) = 0 then
            some (v, some (.inl (1 : Int32)))
          else
            if (lg_cmp x1 (37077998 : Int64)) = 0 then
              some (v, some (.inl (4 : Int32)))
            else
              if (lg_cmp x1 (2968 : Int64)) = 0 then
                some (v, some (.inl (0 : Int32)))
              else
                some (v, some (.inl (-9 : Int32))) := rfl
set_option maxRecDepth 100000 in
set_option maxHeartbeats 200000 in
theorem eX7_kind (F : Nat → MF) (R : Nat → Nat → ML → List MV → MM → MR) (v : MM) (x1 : Int64) : stp F cdX7_kind (runH F cdX7_kind [] R 26) 0 [(0, .inr (.inl x1))] [] v =
  if (lg_cmp x1 (8861527 : Int64)) = 0 then
    some (v, some (.inl (0 : Int32)))
  else
    if (lg_cmp x1 (16922 : Int64)) = 0 then
      some (v, some (.inl (1 : Int32)))
    else
      if (lg_cmp x1 (267413 : Int64)) = 0 then
        some (v, some (.inl (2 : Int32)))
      else
        if (lg_cmp x1 (355115 : Int64)) = 0 then
          some (v, some (.inl (3 : Int32)))
        else
          if (lg_cmp x1 (1834205 : Int64)) = 0 then
            some (v, some (.inl (4 : Int32)))
          else
            if (lg_cmp x1 (37077998 : Int64)) = 0 then
              some (v, some (.inl (5 : Int32)))
            else
              some (v, some (.inl (6 : Int32))) := rfl
set_option maxRecDepth 100000 in
set_option maxHeartbeats 200000 in
theorem eX7_readsCommand (F : Nat → MF) (R : Nat → Nat → ML → List MV → MM → MR) (v : MM) : stp F cdX7_readsCommand (runH F cdX7_readsCommand [21] R 18) 0 [(0, .inr (.inr (16, 0, 0)))] [] v =
  bI (F 0 v [.inr (.inl v.2)]) (fun w1 r2 =>
    if r2 = (-9 : Int32) then
      some (w1, some (.inl (0 : Int32)))
    else
      bI (F 1 w1 [.inr (.inl w1.2)]) (fun w3 r4 =>
        if mIn ((5 : Int32) * (w1.1 13 8)) 165 then
        let w5 : MM := mUp w3 (18, ((5 : Int32) * (w1.1 13 8)).toNatClampNeg) r4
        R 0 21 [(2, .inl (1 : Int32)), (1, .inl r2), (0, .inr (.inr (16, 0, 0)))] [] w5
        else none
      )
  ) := rfl
set_option maxRecDepth 100000 in
set_option maxHeartbeats 200000 in
theorem eX7_readsCommand_21 (F : Nat → MF) (R : Nat → Nat → ML → List MV → MM → MR) (v : MM) (y1 y2 : Int32) : stp F cdX7_readsCommand (runH F cdX7_readsCommand [21] R 28) 21 [(2, .inl y1), (1, .inl y2), (0, .inr (.inr (16, 0, 0)))] [] v =
  if y2 < y1 then
    let w1 : MM := mUp v (13, 8) ((v.1 13 8) + (1 : Int32))
    bI (F 2 w1 [.inr (.inr (16, 0, 0))]) (fun w2 r3 =>
      if r3 = 0 then
        some (w2, some (.inl (0 : Int32)))
      else
        if (w2.1 13 9) = ((w2.1 13 10) + (1 : Int32)) then
          if mIn (w2.1 13 10) 100 then
          if (w2.1 17 ((w2.1 13 10).toNatClampNeg)) = (59 : Int32) then
            some (w2, some (.inl (1 : Int32)))
          else
            some (w2, some (.inl (0 : Int32)))
          else none
        else
          some (w2, some (.inl (0 : Int32)))
    )
  else
    bI (F 2 v [.inr (.inr (16, 0, 0))]) (fun w4 r5 =>
      if r5 = 0 then
        some (w4, some (.inl (0 : Int32)))
      else
        if (w4.1 13 13) = 0 then
          some (w4, some (.inl (0 : Int32)))
        else
          if mIn (((5 : Int32) * (w4.1 13 8)) + y1) 165 then
          let w6 : MM := mUp w4 (18, (((5 : Int32) * (w4.1 13 8)) + y1).toNatClampNeg) (w4.1 13 12)
          R 7 21 [(2, .inl (y1 + (1 : Int32))), (1, .inl y2), (0, .inr (.inr (16, 0, 0)))] [] w6
          else none
    ) := rfl
set_option maxRecDepth 100000 in
set_option maxHeartbeats 200000 in
theorem eX7_reads (F : Nat → MF) (R : Nat → Nat → ML → List MV → MM → MR) (v : MM) : stp F cdX7_reads (runH F cdX7_reads [6] R 5) 0 [(0, .inr (.inr (16, 0, 0)))] [] v =
  let w1 : MM := mUp v (13, 9) (0 : Int32)
  let w2 : MM := mUp w1 (13, 8) (0 : Int32)
  R 0 6 [(0, .inr (.inr (16, 0, 0)))] [] w2 := rfl
set_option maxRecDepth 100000 in
set_option maxHeartbeats 200000 in
theorem eX7_reads_6 (F : Nat → MF) (R : Nat → Nat → ML → List MV → MM → MR) (v : MM) : stp F cdX7_reads (runH F cdX7_reads [6] R 7) 6 [(0, .inr (.inr (16, 0, 0)))] [] v =
  bI (F 0 v [.inr (.inr (16, 0, 0))]) (fun w1 r2 =>
    if r2 = 0 then
      some (w1, some (.inl (1 : Int32)))
    else
      bI (F 1 w1 [.inr (.inr (16, 0, 0))]) (fun w3 r4 =>
        if r4 = 0 then
          some (w3, some (.inl (0 : Int32)))
        else
          R 2 6 [(0, .inr (.inr (16, 0, 0)))] [] w3
      )
  ) := rfl
set_option maxRecDepth 100000 in
set_option maxHeartbeats 200000 in
theorem eX7_does (F : Nat → MF) (R : Nat → Nat → ML → List MV → MM → MR) (v : MM) (x1 : Int32) : stp F cdX7_does (runH F cdX7_does [] R 36) 0 [(0, .inr (.inr (16, 0, 0))), (1, .inl x1)] [] v =
  if mIn ((5 : Int32) * x1) 165 then
  if (v.1 18 (((5 : Int32) * x1).toNatClampNeg)) = (0 : Int32) then
    if mIn (((5 : Int32) * x1) + (1 : Int32)) 165 then
    if mIn (((5 : Int32) * x1) + (2 : Int32)) 165 then
    if mIn (((5 : Int32) * x1) + (3 : Int32)) 165 then
    bI (F 0 v [.inr (.inr (16, 0, 0)), .inl (v.1 18 ((((5 : Int32) * x1) + (1 : Int32)).toNatClampNeg)), .inl (v.1 18 ((((5 : Int32) * x1) + (2 : Int32)).toNatClampNeg)), .inl (v.1 18 ((((5 : Int32) * x1) + (3 : Int32)).toNatClampNeg))]) (fun w1 r2 =>
      some (w1, some (.inl r2))
    )
    else none
    else none
    else none
  else if (v.1 18 (((5 : Int32) * x1).toNatClampNeg)) = (1 : Int32) then
    if mIn (((5 : Int32) * x1) + (1 : Int32)) 165 then
    if mIn (((5 : Int32) * x1) + (2 : Int32)) 165 then
    bI (F 1 v [.inr (.inr (16, 0, 0)), .inl (v.1 18 ((((5 : Int32) * x1) + (1 : Int32)).toNatClampNeg)), .inl (v.1 18 ((((5 : Int32) * x1) + (2 : Int32)).toNatClampNeg))]) (fun w3 r4 =>
      some (w3, some (.inl r4))
    )
    else none
    else none
  else if (v.1 18 (((5 : Int32) * x1).toNatClampNeg)) = (2 : Int32) then
    if mIn (((5 : Int32) * x1) + (1 : Int32)) 165 then
    if mIn (((5 : Int32) * x1) + (2 : Int32)) 165 then
    if mIn (((5 : Int32) * x1) + (3 : Int32)) 165 then
    bI (F 2 v [.inr (.inr (16, 0, 0)), .inl (v.1 18 ((((5 : Int32) * x1) + (1 : Int32)).toNatClampNeg)), .inl (v.1 18 ((((5 : Int32) * x1) + (2 : Int32)).toNatClampNeg)), .inl (v.1 18 ((((5 : Int32) * x1) + (3 : Int32)).toNatClampNeg))]) (fun w5 r6 =>
      some (w5, some (.inl r6))
    )
    else none
    else none
    else none
  else if (v.1 18 (((5 : Int32) * x1).toNatClampNeg)) = (3 : Int32) then
    if mIn (((5 : Int32) * x1) + (1 : Int32)) 165 then
    if mIn (((5 : Int32) * x1) + (2 : Int32)) 165 then
    bI (F 3 v [.inr (.inr (16, 0, 0)), .inl (v.1 18 ((((5 : Int32) * x1) + (1 : Int32)).toNatClampNeg)), .inl (v.1 18 ((((5 : Int32) * x1) + (2 : Int32)).toNatClampNeg))]) (fun w7 r8 =>
      some (w7, some (.inl r8))
    )
    else none
    else none
  else if (v.1 18 (((5 : Int32) * x1).toNatClampNeg)) = (4 : Int32) then
    if mIn (((5 : Int32) * x1) + (1 : Int32)) 165 then
    bI (F 4 v [.inr (.inr (16, 0, 0)), .inl (v.1 18 ((((5 : Int32) * x1) + (1 : Int32)).toNatClampNeg))]) (fun w9 r10 =>
      some (w9, some (.inl r10))
    )
    else none
  else if (v.1 18 (((5 : Int32) * x1).toNatClampNeg)) = (5 : Int32) then
    if mIn (((5 : Int32) * x1) + (1 : Int32)) 165 then
    if mIn (((5 : Int32) * x1) + (2 : Int32)) 165 then
    if mIn (((5 : Int32) * x1) + (3 : Int32)) 165 then
    if mIn (((5 : Int32) * x1) + (4 : Int32)) 165 then
    bI (F 5 v [.inr (.inr (16, 0, 0)), .inl (v.1 18 ((((5 : Int32) * x1) + (1 : Int32)).toNatClampNeg)), .inl (v.1 18 ((((5 : Int32) * x1) + (2 : Int32)).toNatClampNeg)), .inl (v.1 18 ((((5 : Int32) * x1) + (3 : Int32)).toNatClampNeg)), .inl (v.1 18 ((((5 : Int32) * x1) + (4 : Int32)).toNatClampNeg)), .inl (0 : Int32)]) (fun w11 r12 =>
      some (w11, some (.inl r12))
    )
    else none
    else none
    else none
    else none
  else
    bI (F 6 v [.inr (.inr (16, 0, 0))]) (fun w13 r14 =>
      some (w13, some (.inl r14))
    )
  else none := rfl
set_option maxRecDepth 100000 in
set_option maxHeartbeats 200000 in
theorem eX7_runScript (F : Nat → MF) (R : Nat → Nat → ML → List MV → MM → MR) (v : MM) : stp F cdX7_runScript (runH F cdX7_runScript [12] R 7) 0 [(0, .inr (.inr (16, 0, 0)))] [] v =
  bI (F 0 v [.inr (.inr (16, 0, 0))]) (fun w1 r2 =>
    if r2 = 0 then
      some (w1, some (.inl ((-10 : Int32) - (w1.1 13 10))))
    else
      bV (F 1 w1 [.inr (.inr (16, 0, 0))]) (fun w3 =>
        R 1 12 [(1, .inl (0 : Int32)), (0, .inr (.inr (16, 0, 0)))] [] w3
      )
  ) := rfl
set_option maxRecDepth 100000 in
set_option maxHeartbeats 200000 in
theorem eX7_runScript_12 (F : Nat → MF) (R : Nat → Nat → ML → List MV → MM → MR) (v : MM) (y1 : Int32) : stp F cdX7_runScript (runH F cdX7_runScript [12] R 13) 12 [(1, .inl y1), (0, .inr (.inr (16, 0, 0)))] [] v =
  if y1 < (v.1 13 8) then
    bI (F 2 v [.inr (.inr (16, 0, 0)), .inl y1]) (fun w1 r2 =>
      if r2 < 0 then
        bV (F 3 w1 [.inr (.inr (16, 0, 0))]) (fun w3 =>
          some (w3, some (.inl ((-1000 : Int32) - y1)))
        )
      else
        R 4 12 [(1, .inl (y1 + (1 : Int32))), (0, .inr (.inr (16, 0, 0)))] [] w1
    )
  else
    let w4 : MM := mUp v (13, 6) (0 : Int32)
    bI (F 4 w4 [.inr (.inr (16, 0, 0)), .inl (w4.1 13 8)]) (fun w5 r6 =>
      some (w5, some (.inl r6))
    ) := rfl
set_option maxRecDepth 100000 in
set_option maxHeartbeats 200000 in
theorem eX7_count (F : Nat → MF) (R : Nat → Nat → ML → List MV → MM → MR) (v : MM) (x1 : Int32) : stp F cdX7_count (runH F cdX7_count [] R 16) 0 [(0, .inr (.inr (16, 0, 0))), (1, .inl x1)] [] v =
  if x1 = (0 : Int32) then
    if mIn (42 : Int32) 151 then
    some (v, some (.inl (v.1 14 ((42 : Int32).toNatClampNeg))))
    else none
  else if x1 = (1 : Int32) then
    if mIn (59 : Int32) 151 then
    some (v, some (.inl (v.1 14 ((59 : Int32).toNatClampNeg))))
    else none
  else if x1 = (2 : Int32) then
    if mIn (102 : Int32) 151 then
    some (v, some (.inl (v.1 14 ((102 : Int32).toNatClampNeg))))
    else none
  else if x1 = (3 : Int32) then
    if mIn (103 : Int32) 151 then
    some (v, some (.inl (v.1 14 ((103 : Int32).toNatClampNeg))))
    else none
  else if x1 = (4 : Int32) then
    some (v, some (.inl (v.1 13 4)))
  else if x1 = (5 : Int32) then
    some (v, some (.inl (v.1 13 6)))
  else if x1 = (6 : Int32) then
    some (v, some (.inl (v.1 13 2)))
  else
    bI (F 0 v [.inl x1, .inl (7 : Int32), .inl (10 : Int32)]) (fun w1 r2 =>
      if r2 = 0 then
        some (w1, some (.inl (-1 : Int32)))
      else
        if mIn (((18 : Int32) + x1) - (7 : Int32)) 151 then
        some (w1, some (.inl (w1.1 14 ((((18 : Int32) + x1) - (7 : Int32)).toNatClampNeg))))
        else none
    ) := rfl
set_option maxRecDepth 100000 in
set_option maxHeartbeats 200000 in
theorem eX7_lot (F : Nat → MF) (R : Nat → Nat → ML → List MV → MM → MR) (v : MM) (x1 x2 : Int32) : stp F cdX7_lot (runH F cdX7_lot [] R 20) 0 [(0, .inr (.inr (16, 0, 0))), (1, .inl x1), (2, .inl x2)] [] v =
  bI (F 0 v [.inr (.inr (16, 0, 0)), .inl x1]) (fun w1 r2 =>
    if r2 = 0 then
      some (w1, some (.inl (-1 : Int32)))
    else
      bI (F 1 w1 [.inl x2, .inl (0 : Int32), .inl (1 : Int32)]) (fun w3 r4 =>
        if r4 = 0 then
          some (w3, some (.inl (-1 : Int32)))
        else
          if mIn (((43 : Int32) + ((2 : Int32) * x1)) + x2) 151 then
          some (w3, some (.inl (w3.1 14 ((((43 : Int32) + ((2 : Int32) * x1)) + x2).toNatClampNeg))))
          else none
      )
  ) := rfl
set_option maxRecDepth 100000 in
set_option maxHeartbeats 200000 in
theorem eX7_variety (F : Nat → MF) (R : Nat → Nat → ML → List MV → MM → MR) (v : MM) (x1 x2 : Int32) : stp F cdX7_variety (runH F cdX7_variety [] R 19) 0 [(0, .inr (.inr (16, 0, 0))), (1, .inl x1), (2, .inl x2)] [] v =
  bI (F 0 v [.inl x1, .inl (0 : Int32), .inl (5 : Int32)]) (fun w1 r2 =>
    if r2 = 0 then
      some (w1, some (.inl (-1 : Int32)))
    else
      bI (F 0 w1 [.inl x2, .inl (0 : Int32), .inl (2 : Int32)]) (fun w3 r4 =>
        if r4 = 0 then
          some (w3, some (.inl (-1 : Int32)))
        else
          if mIn (((3 : Int32) * x1) + x2) 151 then
          some (w3, some (.inl (w3.1 14 ((((3 : Int32) * x1) + x2).toNatClampNeg))))
          else none
      )
  ) := rfl
set_option maxRecDepth 100000 in
set_option maxHeartbeats 200000 in
theorem eX7_tank (F : Nat → MF) (R : Nat → Nat → ML → List MV → MM → MR) (v : MM) (x1 x2 : Int32) : stp F cdX7_tank (runH F cdX7_tank [] R 16) 0 [(0, .inr (.inr (16, 0, 0))), (1, .inl x1), (2, .inl x2)] [] v =
  bI (F 0 v [.inr (.inr (16, 0, 0)), .inl x1]) (fun w1 r2 =>
    if r2 = 0 then
      some (w1, some (.inl (-1 : Int32)))
    else
      bI (F 1 w1 [.inl x2, .inl (0 : Int32), .inl (7 : Int32)]) (fun w3 r4 =>
        if r4 = 0 then
          some (w3, some (.inl (-1 : Int32)))
        else
          if x2 = (7 : Int32) then
            bI (F 2 w3 [.inr (.inr (16, 0, 0)), .inl x1]) (fun w5 r6 =>
              some (w5, some (.inl r6))
            )
          else
            bI (F 3 w3 [.inr (.inr (16, 0, 0)), .inl x1, .inl x2]) (fun w7 r8 =>
              some (w7, some (.inl r8))
            )
      )
  ) := rfl
set_option maxRecDepth 100000 in
set_option maxHeartbeats 200000 in
theorem eX7_share (F : Nat → MF) (R : Nat → Nat → ML → List MV → MM → MR) (v : MM) (x1 x2 : Int32) : stp F cdX7_share (runH F cdX7_share [] R 23) 0 [(0, .inr (.inr (16, 0, 0))), (1, .inl x1), (2, .inl x2)] [] v =
  bI (F 0 v [.inr (.inr (16, 0, 0)), .inl x1]) (fun w1 r2 =>
    if r2 = 0 then
      some (w1, some (.inl (-1 : Int32)))
    else
      bI (F 1 w1 [.inl x2, .inl (0 : Int32), .inl (3 : Int32)]) (fun w3 r4 =>
        if r4 = 0 then
          some (w3, some (.inl (-1 : Int32)))
        else
          bI (F 2 w3 [.inr (.inr (16, 0, 0)), .inl x1, .inl (1 : Int32)]) (fun w5 r6 =>
            if r6 = 0 then
              some (w5, some (.inl (-9 : Int32)))
            else
              if x2 = (3 : Int32) then
                bI (F 3 w5 [.inr (.inr (16, 0, 0)), .inl x1, .inl (6 : Int32)]) (fun w7 r8 =>
                  some (w7, some (.inl r8))
                )
              else
                bI (F 3 w5 [.inr (.inr (16, 0, 0)), .inl x1, .inl ((2 : Int32) + x2)]) (fun w9 r10 =>
                  some (w9, some (.inl r10))
                )
          )
      )
  ) := rfl
set_option maxRecDepth 100000 in
set_option maxHeartbeats 200000 in
theorem eX7_why (F : Nat → MF) (R : Nat → Nat → ML → List MV → MM → MR) (v : MM) (x1 x2 : Int32) : stp F cdX7_why (runH F cdX7_why [] R 14) 0 [(0, .inr (.inr (16, 0, 0))), (1, .inl x1), (2, .inl x2)] [] v =
  bI (F 0 v [.inr (.inr (16, 0, 0)), .inl x1]) (fun w1 r2 =>
    if r2 = 0 then
      some (w1, some (.inl (-1 : Int32)))
    else
      bI (F 1 w1 [.inl x2, .inl (0 : Int32), .inl (3 : Int32)]) (fun w3 r4 =>
        if r4 = 0 then
          some (w3, some (.inl (-1 : Int32)))
        else
          bI (F 2 w3 [.inr (.inr (16, 0, 0)), .inl x1, .inl x2]) (fun w5 r6 =>
            some (w5, some (.inl r6))
          )
      )
  ) := rfl
set_option maxRecDepth 100000 in
set_option maxHeartbeats 200000 in
theorem eX7_account (F : Nat → MF) (R : Nat → Nat → ML → List MV → MM → MR) (v : MM) (x1 : Int32) : stp F cdX7_account (runH F cdX7_account [32] R 20) 0 [(0, .inr (.inr (16, 0, 0))), (1, .inl x1)] [] v =
  bI (F 0 v [.inl x1, .inl (0 : Int32), .inl (10 : Int32)]) (fun w1 r2 =>
    if r2 = 0 then
      some (w1, some (.inl (-1 : Int32)))
    else
      if x1 < (7 : Int32) then
        if x1 = (8 : Int32) then
          if mIn (102 : Int32) 151 then
          some (w1, some (.inl (w1.1 14 ((102 : Int32).toNatClampNeg))))
          else none
        else
          if mIn ((104 : Int32) + x1) 151 then
          some (w1, some (.inl (w1.1 14 (((104 : Int32) + x1).toNatClampNeg))))
          else none
      else
        if x1 = (8 : Int32) then
          if x1 = (8 : Int32) then
            if mIn (102 : Int32) 151 then
            some (w1, some (.inl (w1.1 14 ((102 : Int32).toNatClampNeg))))
            else none
          else
            if mIn ((104 : Int32) + x1) 151 then
            some (w1, some (.inl (w1.1 14 (((104 : Int32) + x1).toNatClampNeg))))
            else none
        else
          R 6 32 [(3, .inl (0 : Int32)), (2, .inl (0 : Int32)), (0, .inr (.inr (16, 0, 0))), (1, .inl x1)] [] w1
  ) := rfl
set_option maxRecDepth 100000 in
set_option maxHeartbeats 200000 in
theorem eX7_account_32 (F : Nat → MF) (R : Nat → Nat → ML → List MV → MM → MR) (v : MM) (y1 y2 y3 : Int32) : stp F cdX7_account (runH F cdX7_account [32] R 34) 32 [(3, .inl y1), (2, .inl y2), (0, .inr (.inr (16, 0, 0))), (1, .inl y3)] [] v =
  if y1 < (8 : Int32) then
    if y3 = (7 : Int32) then
      if mIn (42 : Int32) 151 then
      if y1 < (v.1 14 ((42 : Int32).toNatClampNeg)) then
        if mIn (((43 : Int32) + ((2 : Int32) * y1)) + (1 : Int32)) 151 then
        R 7 32 [(3, .inl (y1 + (1 : Int32))), (2, .inl (y2 + (v.1 14 ((((43 : Int32) + ((2 : Int32) * y1)) + (1 : Int32)).toNatClampNeg)))), (0, .inr (.inr (16, 0, 0))), (1, .inl y3)] [] v
        else none
      else
        if (8 : Int32) < y3 then
          if mIn (59 : Int32) 151 then
          if y1 < (v.1 14 ((59 : Int32).toNatClampNeg)) then
            if y3 = (9 : Int32) then
              bI (F 1 v [.inr (.inr (16, 0, 0)), .inl y1, .inl (1 : Int32)]) (fun w1 r2 =>
                R 0 32 [(3, .inl (y1 + (1 : Int32))), (2, .inl (y2 + r2)), (0, .inr (.inr (16, 0, 0))), (1, .inl y3)] [] w1
              )
            else
              bI (F 1 v [.inr (.inr (16, 0, 0)), .inl y1, .inl (5 : Int32)]) (fun w3 r4 =>
                R 1 32 [(3, .inl (y1 + (1 : Int32))), (2, .inl (y2 + r4)), (0, .inr (.inr (16, 0, 0))), (1, .inl y3)] [] w3
              )
          else
            R 8 32 [(3, .inl (y1 + (1 : Int32))), (2, .inl (y2 + (0 : Int32))), (0, .inr (.inr (16, 0, 0))), (1, .inl y3)] [] v
          else none
        else
          R 14 32 [(3, .inl (y1 + (1 : Int32))), (2, .inl (y2 + (0 : Int32))), (0, .inr (.inr (16, 0, 0))), (1, .inl y3)] [] v
      else none
    else
      if (8 : Int32) < y3 then
        if mIn (59 : Int32) 151 then
        if y1 < (v.1 14 ((59 : Int32).toNatClampNeg)) then
          if y3 = (9 : Int32) then
            bI (F 1 v [.inr (.inr (16, 0, 0)), .inl y1, .inl (1 : Int32)]) (fun w5 r6 =>
              R 6 32 [(3, .inl (y1 + (1 : Int32))), (2, .inl (y2 + r6)), (0, .inr (.inr (16, 0, 0))), (1, .inl y3)] [] w5
            )
          else
            bI (F 1 v [.inr (.inr (16, 0, 0)), .inl y1, .inl (5 : Int32)]) (fun w7 r8 =>
              R 7 32 [(3, .inl (y1 + (1 : Int32))), (2, .inl (y2 + r8)), (0, .inr (.inr (16, 0, 0))), (1, .inl y3)] [] w7
            )
        else
          R 14 32 [(3, .inl (y1 + (1 : Int32))), (2, .inl (y2 + (0 : Int32))), (0, .inr (.inr (16, 0, 0))), (1, .inl y3)] [] v
        else none
      else
        R 20 32 [(3, .inl (y1 + (1 : Int32))), (2, .inl (y2 + (0 : Int32))), (0, .inr (.inr (16, 0, 0))), (1, .inl y3)] [] v
  else
    some (v, some (.inl y2)) := rfl
set_option maxRecDepth 100000 in
set_option maxHeartbeats 200000 in
theorem eX7_bottles (F : Nat → MF) (R : Nat → Nat → ML → List MV → MM → MR) (v : MM) (x1 x2 : Int32) : stp F cdX7_bottles (runH F cdX7_bottles [] R 24) 0 [(0, .inr (.inr (16, 0, 0))), (1, .inl x1), (2, .inl x2)] [] v =
  bI (F 0 v [.inl x1, .inl (0 : Int32), .inl (3 : Int32)]) (fun w1 r2 =>
    if r2 = 0 then
      some (w1, some (.inl (-1 : Int32)))
    else
      bI (F 0 w1 [.inl x2, .inl (0 : Int32), .inl (10 : Int32)]) (fun w3 r4 =>
        if r4 = 0 then
          some (w3, some (.inl (-1 : Int32)))
        else
          if x2 = 0 then
            bI (F 1 w3 [.inr (.inr (16, 0, 0)), .inl x1]) (fun w5 r6 =>
              some (w5, some (.inl r6))
            )
          else
            if mIn ((((111 : Int32) + ((10 : Int32) * x1)) + x2) - (1 : Int32)) 151 then
            some (w3, some (.inl (w3.1 14 (((((111 : Int32) + ((10 : Int32) * x1)) + x2) - (1 : Int32)).toNatClampNeg))))
            else none
      )
  ) := rfl
set_option maxRecDepth 100000 in
set_option maxHeartbeats 200000 in
theorem eX7_daysTo (F : Nat → MF) (R : Nat → Nat → ML → List MV → MM → MR) (v : MM) (x1 x2 : Int32) : stp F cdX7_daysTo (runH F cdX7_daysTo [15] R 12) 0 [(0, .inr (.inr (16, 0, 0))), (1, .inl x1), (2, .inl x2)] [] v =
  bI (F 0 v [.inr (.inr (16, 0, 0)), .inl x1]) (fun w1 r2 =>
    if r2 = 0 then
      some (w1, some (.inl (-1 : Int32)))
    else
      bI (F 1 w1 [.inl x2, .inl (0 : Int32), .inl (3 : Int32)]) (fun w3 r4 =>
        if r4 = 0 then
          some (w3, some (.inl (-1 : Int32)))
        else
          bV (F 2 w3 [.inr (.inr (16, 0, 0))]) (fun w5 =>
            R 0 15 [(3, .inl (0 : Int32)), (0, .inr (.inr (16, 0, 0))), (1, .inl x1), (2, .inl x2)] [] w5
          )
      )
  ) := rfl
set_option maxRecDepth 100000 in
set_option maxHeartbeats 200000 in
theorem eX7_daysTo_15 (F : Nat → MF) (R : Nat → Nat → ML → List MV → MM → MR) (v : MM) (y1 y2 y3 : Int32) : stp F cdX7_daysTo (runH F cdX7_daysTo [15] R 22) 15 [(3, .inl y1), (0, .inr (.inr (16, 0, 0))), (1, .inl y2), (2, .inl y3)] [] v =
  if y1 < (60 : Int32) then
    bI (F 3 v [.inr (.inr (16, 0, 0)), .inl y2, .inl y3]) (fun w1 r2 =>
      if 0 < r2 then
        bV (F 4 w1 [.inr (.inr (16, 0, 0)), .inl y2]) (fun w3 =>
          R 10 15 [(3, .inl (y1 + (1 : Int32))), (0, .inr (.inr (16, 0, 0))), (1, .inl y2), (2, .inl y3)] [] w3
        )
      else
        bI (F 3 w1 [.inr (.inr (16, 0, 0)), .inl y2, .inl y3]) (fun w4 r5 =>
          if r5 = 0 then
            bV (F 5 w4 [.inr (.inr (16, 0, 0))]) (fun w6 =>
              if (1 : Int32) = 0 then
                some (w6, some (.inl (-9 : Int32)))
              else
                some (w6, some (.inl y1))
            )
          else
            bV (F 5 w4 [.inr (.inr (16, 0, 0))]) (fun w7 =>
              if (0 : Int32) = 0 then
                some (w7, some (.inl (-9 : Int32)))
              else
                some (w7, some (.inl y1))
            )
        )
    )
  else
    bI (F 3 v [.inr (.inr (16, 0, 0)), .inl y2, .inl y3]) (fun w8 r9 =>
      if r9 = 0 then
        bV (F 5 w8 [.inr (.inr (16, 0, 0))]) (fun w10 =>
          if (1 : Int32) = 0 then
            some (w10, some (.inl (-9 : Int32)))
          else
            some (w10, some (.inl y1))
        )
      else
        bV (F 5 w8 [.inr (.inr (16, 0, 0))]) (fun w11 =>
          if (0 : Int32) = 0 then
            some (w11, some (.inl (-9 : Int32)))
          else
            some (w11, some (.inl y1))
        )
    ) := rfl
set_option maxRecDepth 100000 in
set_option maxHeartbeats 200000 in
theorem eX7_blendFor (F : Nat → MF) (R : Nat → Nat → ML → List MV → MM → MR) (v : MM) (x1 x2 x3 : Int32) : stp F cdX7_blendFor (runH F cdX7_blendFor [42] R 35) 0 [(0, .inr (.inr (16, 0, 0))), (1, .inl x1), (2, .inl x2), (3, .inl x3)] [] v =
  bI (F 0 v [.inr (.inr (16, 0, 0)), .inl x1, .inl x2]) (fun w1 r2 =>
    if r2 = 0 then
      some (w1, some (.inl (-1 : Int32)))
    else
      bI (F 1 w1 [.inl x3, .inl (0 : Int32), .inl (3 : Int32)]) (fun w3 r4 =>
        if r4 = 0 then
          some (w3, some (.inl (-1 : Int32)))
        else
          bI (F 2 w3 [.inr (.inr (16, 0, 0)), .inl x1, .inl (1 : Int32)]) (fun w5 r6 =>
            bI (F 3 w5 [.inr (.inr (16, 0, 0)), .inl x2]) (fun w7 r8 =>
              if r6 < r8 then
                bI (F 2 w7 [.inr (.inr (16, 0, 0)), .inl x1, .inl (1 : Int32)]) (fun w9 r10 =>
                  bV (F 4 w9 [.inr (.inr (16, 0, 0))]) (fun w11 =>
                    bI (F 5 w11 [.inr (.inr (16, 0, 0)), .inl x2, .inl x3]) (fun w12 r13 =>
                      if r13 = 0 then
                        R 0 42 [(6, .inl (1 : Int32)), (5, .inl (0 : Int32)), (4, .inl r10), (0, .inr (.inr (16, 0, 0))), (1, .inl x1), (2, .inl x2), (3, .inl x3)] [] w12
                      else
                        R 1 42 [(6, .inl (1 : Int32)), (5, .inl (-9 : Int32)), (4, .inl r10), (0, .inr (.inr (16, 0, 0))), (1, .inl x1), (2, .inl x2), (3, .inl x3)] [] w12
                    )
                  )
                )
              else
                bI (F 3 w7 [.inr (.inr (16, 0, 0)), .inl x2]) (fun w14 r15 =>
                  bV (F 4 w14 [.inr (.inr (16, 0, 0))]) (fun w16 =>
                    bI (F 5 w16 [.inr (.inr (16, 0, 0)), .inl x2, .inl x3]) (fun w17 r18 =>
                      if r18 = 0 then
                        R 2 42 [(6, .inl (1 : Int32)), (5, .inl (0 : Int32)), (4, .inl r15), (0, .inr (.inr (16, 0, 0))), (1, .inl x1), (2, .inl x2), (3, .inl x3)] [] w17
                      else
                        R 3 42 [(6, .inl (1 : Int32)), (5, .inl (-9 : Int32)), (4, .inl r15), (0, .inr (.inr (16, 0, 0))), (1, .inl x1), (2, .inl x2), (3, .inl x3)] [] w17
                    )
                  )
                )
            )
          )
      )
  ) := rfl
set_option maxRecDepth 100000 in
set_option maxHeartbeats 200000 in
theorem eX7_blendFor_42 (F : Nat → MF) (R : Nat → Nat → ML → List MV → MM → MR) (v : MM) (y1 y2 y3 y4 y5 y6 : Int32) : stp F cdX7_blendFor (runH F cdX7_blendFor [42] R 25) 42 [(6, .inl y1), (5, .inl y2), (4, .inl y3), (0, .inr (.inr (16, 0, 0))), (1, .inl y4), (2, .inl y5), (3, .inl y6)] [] v =
  if y3 < y1 then
    some (v, some (.inl y2))
  else
    if y2 = (-9 : Int32) then
      bI (F 6 v [.inr (.inr (16, 0, 0)), .inl y4, .inl y1, .inl y5]) (fun w1 r2 =>
        if r2 < 0 then
          bV (F 7 w1 [.inr (.inr (16, 0, 0))]) (fun w3 =>
            R 6 42 [(6, .inl (y1 + (1 : Int32))), (5, .inl (-9 : Int32)), (7, .inl r2), (4, .inl y3), (0, .inr (.inr (16, 0, 0))), (1, .inl y4), (2, .inl y5), (3, .inl y6)] [] w3
          )
        else
          bI (F 5 w1 [.inr (.inr (16, 0, 0)), .inl y5, .inl y6]) (fun w4 r5 =>
            if r5 = 0 then
              bV (F 7 w4 [.inr (.inr (16, 0, 0))]) (fun w6 =>
                R 0 42 [(6, .inl (y1 + (1 : Int32))), (5, .inl y1), (7, .inl r2), (4, .inl y3), (0, .inr (.inr (16, 0, 0))), (1, .inl y4), (2, .inl y5), (3, .inl y6)] [] w6
              )
            else
              bV (F 7 w4 [.inr (.inr (16, 0, 0))]) (fun w7 =>
                R 1 42 [(6, .inl (y1 + (1 : Int32))), (5, .inl (-9 : Int32)), (7, .inl r2), (4, .inl y3), (0, .inr (.inr (16, 0, 0))), (1, .inl y4), (2, .inl y5), (3, .inl y6)] [] w7
              )
          )
      )
    else
      some (v, some (.inl y2)) := rfl
set_option maxRecDepth 100000 in
set_option maxHeartbeats 200000 in
theorem eX7_blendFor_42_2 (F : Nat → MF) (R : Nat → Nat → ML → List MV → MM → MR) (v : MM) (y1 y2 y3 y4 y5 y6 y7 : Int32) : stp F cdX7_blendFor (runH F cdX7_blendFor [42] R 25) 42 [(6, .inl y1), (5, .inl y2), (7, .inl y3), (4, .inl y4), (0, .inr (.inr (16, 0, 0))), (1, .inl y5), (2, .inl y6), (3, .inl y7)] [] v =
  if y4 < y1 then
    some (v, some (.inl y2))
  else
    if y2 = (-9 : Int32) then
      bI (F 6 v [.inr (.inr (16, 0, 0)), .inl y5, .inl y1, .inl y6]) (fun w1 r2 =>
        if r2 < 0 then
          bV (F 7 w1 [.inr (.inr (16, 0, 0))]) (fun w3 =>
            R 6 42 [(6, .inl (y1 + (1 : Int32))), (5, .inl (-9 : Int32)), (7, .inl r2), (4, .inl y4), (0, .inr (.inr (16, 0, 0))), (1, .inl y5), (2, .inl y6), (3, .inl y7)] [] w3
          )
        else
          bI (F 5 w1 [.inr (.inr (16, 0, 0)), .inl y6, .inl y7]) (fun w4 r5 =>
            if r5 = 0 then
              bV (F 7 w4 [.inr (.inr (16, 0, 0))]) (fun w6 =>
                R 0 42 [(6, .inl (y1 + (1 : Int32))), (5, .inl y1), (7, .inl r2), (4, .inl y4), (0, .inr (.inr (16, 0, 0))), (1, .inl y5), (2, .inl y6), (3, .inl y7)] [] w6
              )
            else
              bV (F 7 w4 [.inr (.inr (16, 0, 0))]) (fun w7 =>
                R 1 42 [(6, .inl (y1 + (1 : Int32))), (5, .inl (-9 : Int32)), (7, .inl r2), (4, .inl y4), (0, .inr (.inr (16, 0, 0))), (1, .inl y5), (2, .inl y6), (3, .inl y7)] [] w7
              )
          )
      )
    else
      some (v, some (.inl y2)) := rfl
