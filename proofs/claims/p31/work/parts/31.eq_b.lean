-- EQUATIONS of the runs (by program: wip/whole/gen/sym.py)
set_option maxRecDepth 100000 in
set_option maxHeartbeats 200000 in
theorem eX0_copyFrom (F : Nat → MF) (R : Nat → Nat → ML → List MV → MM → MR) (v : MM) (i i1 : Nat) : stp F cdX0_copyFrom (runH F cdX0_copyFrom [34, 50, 66, 82] R 33) 0 [(0, .inr (.inr (2, i, 0))), (1, .inr (.inr (2, i1, 0)))] [] v =
  let w1 : MM := mUp v (i, 18) (v.1 i1 18)
  let w2 : MM := mUp w1 (i, 19) (w1.1 i1 19)
  let w3 : MM := mUp w2 (i, 20) (w2.1 i1 20)
  let w4 : MM := mUp w3 (i, 21) (w3.1 i1 21)
  let w5 : MM := mUp w4 (i, 42) (w4.1 i1 42)
  let w6 : MM := mUp w5 (i, 59) (w5.1 i1 59)
  let w7 : MM := mUp w6 (i, 102) (w6.1 i1 102)
  let w8 : MM := mUp w7 (i, 103) (w7.1 i1 103)
  R 0 34 [(2, .inl (0 : Int32)), (0, .inr (.inr (2, i, 0))), (1, .inr (.inr (2, i1, 0)))] [] w8 := rfl
set_option maxRecDepth 100000 in
set_option maxHeartbeats 200000 in
theorem eX0_copyFrom_34 (F : Nat → MF) (R : Nat → Nat → ML → List MV → MM → MR) (v : MM) (i i1 : Nat) (y1 : Int32) : stp F cdX0_copyFrom (runH F cdX0_copyFrom [34, 50, 66, 82] R 13) 34 [(2, .inl y1), (0, .inr (.inr (2, i, 0))), (1, .inr (.inr (2, i1, 0)))] [] v =
  if y1 < (6 : Int32) then
    if mIn y1 6 then
    if mIn y1 6 then
    bV (F 0 v [.inr (.inr (8, i, y1.toNatClampNeg)), .inr (.inr (8, i1, y1.toNatClampNeg))]) (fun w1 =>
      R 0 34 [(2, .inl (y1 + (1 : Int32))), (0, .inr (.inr (2, i, 0))), (1, .inr (.inr (2, i1, 0)))] [] w1
    )
    else none
    else none
  else
    R 9 50 [(2, .inl (0 : Int32)), (0, .inr (.inr (2, i, 0))), (1, .inr (.inr (2, i1, 0)))] [] v := rfl
set_option maxRecDepth 100000 in
set_option maxHeartbeats 200000 in
theorem eX0_copyFrom_50 (F : Nat → MF) (R : Nat → Nat → ML → List MV → MM → MR) (v : MM) (i i1 : Nat) (y1 : Int32) : stp F cdX0_copyFrom (runH F cdX0_copyFrom [34, 50, 66, 82] R 13) 50 [(2, .inl y1), (0, .inr (.inr (2, i, 0))), (1, .inr (.inr (2, i1, 0)))] [] v =
  if y1 < (4 : Int32) then
    if mIn y1 4 then
    if mIn y1 4 then
    bV (F 1 v [.inr (.inr (9, i, y1.toNatClampNeg)), .inr (.inr (9, i1, y1.toNatClampNeg))]) (fun w1 =>
      R 0 50 [(2, .inl (y1 + (1 : Int32))), (0, .inr (.inr (2, i, 0))), (1, .inr (.inr (2, i1, 0)))] [] w1
    )
    else none
    else none
  else
    R 9 66 [(2, .inl (0 : Int32)), (0, .inr (.inr (2, i, 0))), (1, .inr (.inr (2, i1, 0)))] [] v := rfl
set_option maxRecDepth 100000 in
set_option maxHeartbeats 200000 in
theorem eX0_copyFrom_66 (F : Nat → MF) (R : Nat → Nat → ML → List MV → MM → MR) (v : MM) (i i1 : Nat) (y1 : Int32) : stp F cdX0_copyFrom (runH F cdX0_copyFrom [34, 50, 66, 82] R 13) 66 [(2, .inl y1), (0, .inr (.inr (2, i, 0))), (1, .inr (.inr (2, i1, 0)))] [] v =
  if y1 < (8 : Int32) then
    if mIn y1 8 then
    if mIn y1 8 then
    bV (F 2 v [.inr (.inr (11, i, y1.toNatClampNeg)), .inr (.inr (11, i1, y1.toNatClampNeg))]) (fun w1 =>
      R 0 66 [(2, .inl (y1 + (1 : Int32))), (0, .inr (.inr (2, i, 0))), (1, .inr (.inr (2, i1, 0)))] [] w1
    )
    else none
    else none
  else
    R 9 82 [(2, .inl (0 : Int32)), (0, .inr (.inr (2, i, 0))), (1, .inr (.inr (2, i1, 0)))] [] v := rfl
set_option maxRecDepth 100000 in
set_option maxHeartbeats 200000 in
theorem eX0_copyFrom_82 (F : Nat → MF) (R : Nat → Nat → ML → List MV → MM → MR) (v : MM) (i i1 : Nat) (y1 : Int32) : stp F cdX0_copyFrom (runH F cdX0_copyFrom [34, 50, 66, 82] R 13) 82 [(2, .inl y1), (0, .inr (.inr (2, i, 0))), (1, .inr (.inr (2, i1, 0)))] [] v =
  if y1 < (6 : Int32) then
    if mIn y1 6 then
    if mIn y1 6 then
    bV (F 3 v [.inr (.inr (12, i, y1.toNatClampNeg)), .inr (.inr (12, i1, y1.toNatClampNeg))]) (fun w1 =>
      R 0 82 [(2, .inl (y1 + (1 : Int32))), (0, .inr (.inr (2, i, 0))), (1, .inr (.inr (2, i1, 0)))] [] w1
    )
    else none
    else none
  else
    let w2 : MM := mCpy v i1 (7, i, 0)
    some (w2, none) := rfl
set_option maxRecDepth 100000 in
set_option maxHeartbeats 200000 in
theorem eX0_hasLot (F : Nat → MF) (R : Nat → Nat → ML → List MV → MM → MR) (v : MM) (i : Nat) (x1 : Int32) : stp F cdX0_hasLot (runH F cdX0_hasLot [] R 13) 0 [(0, .inr (.inr (2, i, 0))), (1, .inl x1)] [] v =
  bI (F 0 v [.inl x1, .inl (0 : Int32), .inl ((v.1 i 42) - (1 : Int32))]) (fun w1 r2 =>
    if r2 = 0 then
      some (w1, some (.inl (0 : Int32)))
    else
      if x1 < (8 : Int32) then
        some (w1, some (.inl (1 : Int32)))
      else
        some (w1, some (.inl (0 : Int32)))
  ) := rfl
set_option maxRecDepth 100000 in
set_option maxHeartbeats 200000 in
theorem eX0_hasTank (F : Nat → MF) (R : Nat → Nat → ML → List MV → MM → MR) (v : MM) (i : Nat) (x1 : Int32) : stp F cdX0_hasTank (runH F cdX0_hasTank [] R 13) 0 [(0, .inr (.inr (2, i, 0))), (1, .inl x1)] [] v =
  bI (F 0 v [.inl x1, .inl (0 : Int32), .inl ((v.1 i 59) - (1 : Int32))]) (fun w1 r2 =>
    if r2 = 0 then
      some (w1, some (.inl (0 : Int32)))
    else
      if x1 < (6 : Int32) then
        some (w1, some (.inl (1 : Int32)))
      else
        some (w1, some (.inl (0 : Int32)))
  ) := rfl
set_option maxRecDepth 100000 in
set_option maxHeartbeats 200000 in
theorem eX0_refuse (F : Nat → MF) (R : Nat → Nat → ML → List MV → MM → MR) (v : MM) (i : Nat) (x1 : Int32) : stp F cdX0_refuse (runH F cdX0_refuse [] R 4) 0 [(0, .inr (.inr (2, i, 0))), (1, .inl x1)] [] v =
  let w1 : MM := mUp v (i, 155) x1
  some (w1, some (.inl (-2 : Int32))) := rfl
set_option maxRecDepth 100000 in
set_option maxHeartbeats 200000 in
theorem eX0_changeVariety (F : Nat → MF) (R : Nat → Nat → ML → List MV → MM → MR) (v : MM) (i : Nat) (x1 x2 x3 x4 : Int32) : stp F cdX0_changeVariety (runH F cdX0_changeVariety [] R 38) 0 [(0, .inr (.inr (2, i, 0))), (1, .inl x1), (2, .inl x2), (3, .inl x3), (4, .inl x4)] [] v =
  bI (F 0 v [.inl x1, .inl (0 : Int32), .inl (5 : Int32)]) (fun w1 r2 =>
    if r2 = 0 then
      some (w1, some (.inl (-1 : Int32)))
    else
      bI (F 0 w1 [.inl x2, .inl (300 : Int32), .inl (800 : Int32)]) (fun w3 r4 =>
        if r4 = 0 then
          some (w3, some (.inl (-1 : Int32)))
        else
          bI (F 0 w3 [.inl x3, .inl (0 : Int32), .inl (200 : Int32)]) (fun w5 r6 =>
            if r6 = 0 then
              some (w5, some (.inl (-1 : Int32)))
            else
              bI (F 0 w5 [.inl x4, .inl (0 : Int32), .inl (100 : Int32)]) (fun w7 r8 =>
                if r8 = 0 then
                  some (w7, some (.inl (-1 : Int32)))
                else
                  if mIn x1 6 then
                  let w9 : MM := mUp w7 (i, 3 * x1.toNatClampNeg + 0) x2
                  let w10 : MM := mUp w9 (i, 3 * x1.toNatClampNeg + 1) x3
                  let w11 : MM := mUp w10 (i, 3 * x1.toNatClampNeg + 2) x4
                  some (w11, some (.inl (w7.1 i (3 * x1.toNatClampNeg + 0))))
                  else none
              )
          )
      )
  ) := rfl
set_option maxRecDepth 100000 in
set_option maxHeartbeats 200000 in
theorem eX0_changeRates (F : Nat → MF) (R : Nat → Nat → ML → List MV → MM → MR) (v : MM) (i : Nat) (x1 x2 x3 x4 : Int32) : stp F cdX0_changeRates (runH F cdX0_changeRates [] R 55) 0 [(0, .inr (.inr (2, i, 0))), (1, .inl x1), (2, .inl x2), (3, .inl x3), (4, .inl x4)] [] v =
  bI (F 0 v [.inl x1, .inl (0 : Int32), .inl (20 : Int32)]) (fun w1 r2 =>
    if r2 = 0 then
      some (w1, some (.inl (-1 : Int32)))
    else
      bI (F 0 w1 [.inl x2, .inl (0 : Int32), .inl (100 : Int32)]) (fun w3 r4 =>
        if r4 = 0 then
          some (w3, some (.inl (-1 : Int32)))
        else
          bI (F 0 w3 [.inl x3, .inl (0 : Int32), .inl (500 : Int32)]) (fun w5 r6 =>
            if r6 = 0 then
              some (w5, some (.inl (-1 : Int32)))
            else
              bI (F 0 w5 [.inl x4, .inl (0 : Int32), .inl (300 : Int32)]) (fun w7 r8 =>
                if r8 = 0 then
                  some (w7, some (.inl (-1 : Int32)))
                else
                  if (w7.1 i 18) = x1 then
                    if (w7.1 i 19) = x2 then
                      if (w7.1 i 20) = x3 then
                        if (w7.1 i 21) = x4 then
                          let w9 : MM := mUp w7 (i, 18) x1
                          let w10 : MM := mUp w9 (i, 19) x2
                          let w11 : MM := mUp w10 (i, 20) x3
                          let w12 : MM := mUp w11 (i, 21) x4
                          if (1 : Int32) = 0 then
                            some (w12, some (.inl (1 : Int32)))
                          else
                            some (w12, some (.inl (0 : Int32)))
                        else
                          let w13 : MM := mUp w7 (i, 18) x1
                          let w14 : MM := mUp w13 (i, 19) x2
                          let w15 : MM := mUp w14 (i, 20) x3
                          let w16 : MM := mUp w15 (i, 21) x4
                          if (0 : Int32) = 0 then
                            some (w16, some (.inl (1 : Int32)))
                          else
                            some (w16, some (.inl (0 : Int32)))
                      else
                        let w17 : MM := mUp w7 (i, 18) x1
                        let w18 : MM := mUp w17 (i, 19) x2
                        let w19 : MM := mUp w18 (i, 20) x3
                        let w20 : MM := mUp w19 (i, 21) x4
                        if (0 : Int32) = 0 then
                          some (w20, some (.inl (1 : Int32)))
                        else
                          some (w20, some (.inl (0 : Int32)))
                    else
                      let w21 : MM := mUp w7 (i, 18) x1
                      let w22 : MM := mUp w21 (i, 19) x2
                      let w23 : MM := mUp w22 (i, 20) x3
                      let w24 : MM := mUp w23 (i, 21) x4
                      if (0 : Int32) = 0 then
                        some (w24, some (.inl (1 : Int32)))
                      else
                        some (w24, some (.inl (0 : Int32)))
                  else
                    let w25 : MM := mUp w7 (i, 18) x1
                    let w26 : MM := mUp w25 (i, 19) x2
                    let w27 : MM := mUp w26 (i, 20) x3
                    let w28 : MM := mUp w27 (i, 21) x4
                    if (0 : Int32) = 0 then
                      some (w28, some (.inl (1 : Int32)))
                    else
                      some (w28, some (.inl (0 : Int32)))
              )
          )
      )
  ) := rfl
set_option maxRecDepth 100000 in
set_option maxHeartbeats 200000 in
theorem eX0_changeLabel (F : Nat → MF) (R : Nat → Nat → ML → List MV → MM → MR) (v : MM) (i : Nat) (x1 x2 x3 x4 x5 x6 : Int32) : stp F cdX0_changeLabel (runH F cdX0_changeLabel [] R 40) 0 [(0, .inr (.inr (2, i, 0))), (1, .inl x1), (2, .inl x2), (3, .inl x3), (4, .inl x4), (5, .inl x5), (6, .inl x6)] [] v =
  bI (F 0 v [.inl x1, .inl (0 : Int32), .inl (3 : Int32)]) (fun w1 r2 =>
    if r2 = 0 then
      some (w1, some (.inl (-1 : Int32)))
    else
      bI (F 0 w1 [.inl x2, .inl (0 : Int32), .inl (1000 : Int32)]) (fun w3 r4 =>
        if r4 = 0 then
          some (w3, some (.inl (-1 : Int32)))
        else
          bI (F 0 w3 [.inl x3, .inl x2, .inl (1000 : Int32)]) (fun w5 r6 =>
            if r6 = 0 then
              some (w5, some (.inl (-1 : Int32)))
            else
              bI (F 0 w5 [.inl x4, .inl (0 : Int32), .inl (1000 : Int32)]) (fun w7 r8 =>
                if r8 = 0 then
                  some (w7, some (.inl (-1 : Int32)))
                else
                  bI (F 0 w7 [.inl x5, .inl x4, .inl (1000 : Int32)]) (fun w9 r10 =>
                    if r10 = 0 then
                      some (w9, some (.inl (-1 : Int32)))
                    else
                      bI (F 0 w9 [.inl x6, .inl (0 : Int32), .inl (1000 : Int32)]) (fun w11 r12 =>
                        if r12 = 0 then
                          some (w11, some (.inl (-1 : Int32)))
                        else
                          if mIn x1 4 then
                          bI (F 1 w11 [.inr (.inr (9, i, x1.toNatClampNeg)), .inl x2, .inl x3, .inl x4, .inl x5, .inl x6]) (fun w13 r14 =>
                            some (w13, some (.inl r14))
                          )
                          else none
                      )
                  )
              )
          )
      )
  ) := rfl
set_option maxRecDepth 100000 in
set_option maxHeartbeats 200000 in
theorem eX0_buyLot (F : Nat → MF) (R : Nat → Nat → ML → List MV → MM → MR) (v : MM) (i : Nat) (x1 x2 : Int32) : stp F cdX0_buyLot (runH F cdX0_buyLot [] R 48) 0 [(0, .inr (.inr (2, i, 0))), (1, .inl x1), (2, .inl x2)] [] v =
  bI (F 0 v [.inl x1, .inl (0 : Int32), .inl (5 : Int32)]) (fun w1 r2 =>
    if r2 = 0 then
      some (w1, some (.inl (-1 : Int32)))
    else
      bI (F 0 w1 [.inl x2, .inl (1 : Int32), .inl (20000 : Int32)]) (fun w3 r4 =>
        if r4 = 0 then
          some (w3, some (.inl (-1 : Int32)))
        else
          bI (F 0 w3 [.inl (w3.1 i 42), .inl (0 : Int32), .inl (7 : Int32)]) (fun w5 r6 =>
            if r6 = 0 then
              some (w5, some (.inl (-3 : Int32)))
            else
              if mIn (w5.1 i 42) 8 then
              let w7 : MM := mUp w5 (i, 43 + 2 * (w5.1 i 42).toNatClampNeg + 0) x1
              if mIn (w7.1 i 42) 8 then
              let w8 : MM := mUp w7 (i, 43 + 2 * (w7.1 i 42).toNatClampNeg + 1) x2
              if mIn (0 : Int32) 7 then
              if mIn (0 : Int32) 7 then
              let w9 : MM := mUp w8 (i, 104 + (0 : Int32).toNatClampNeg) ((w8.1 i (104 + (0 : Int32).toNatClampNeg)) + x2)
              let w10 : MM := mUp w9 (i, 42) ((w9.1 i 42) + (1 : Int32))
              some (w10, some (.inl ((w10.1 i 42) - (1 : Int32))))
              else none
              else none
              else none
              else none
          )
      )
  ) := rfl
set_option maxRecDepth 100000 in
set_option maxHeartbeats 200000 in
theorem eX0_openTank (F : Nat → MF) (R : Nat → Nat → ML → List MV → MM → MR) (v : MM) (i : Nat) (x1 : Int32) : stp F cdX0_openTank (runH F cdX0_openTank [] R 28) 0 [(0, .inr (.inr (2, i, 0))), (1, .inl x1)] [] v =
  bI (F 0 v [.inl x1, .inl (1 : Int32), .inl (5000 : Int32)]) (fun w1 r2 =>
    if r2 = 0 then
      some (w1, some (.inl (-1 : Int32)))
    else
      bI (F 0 w1 [.inl (w1.1 i 59), .inl (0 : Int32), .inl (5 : Int32)]) (fun w3 r4 =>
        if r4 = 0 then
          some (w3, some (.inl (-3 : Int32)))
        else
          if mIn (w3.1 i 59) 6 then
          let w5 : MM := mUp w3 (i, 60 + 7 * (w3.1 i 59).toNatClampNeg + 0) x1
          let w6 : MM := mUp w5 (i, 59) ((w5.1 i 59) + (1 : Int32))
          some (w6, some (.inl ((w6.1 i 59) - (1 : Int32))))
          else none
      )
  ) := rfl
set_option maxRecDepth 100000 in
set_option maxHeartbeats 200000 in
theorem eX0_pressLot (F : Nat → MF) (R : Nat → Nat → ML → List MV → MM → MR) (v : MM) (i : Nat) (x1 x2 x3 : Int32) : stp F cdX0_pressLot (runH F cdX0_pressLot [] R 84) 0 [(0, .inr (.inr (2, i, 0))), (1, .inl x1), (2, .inl x2), (3, .inl x3)] [] v =
  bI (F 0 v [.inr (.inr (2, i, 0)), .inl x1]) (fun w1 r2 =>
    if r2 = 0 then
      some (w1, some (.inl (-1 : Int32)))
    else
      bI (F 1 w1 [.inr (.inr (2, i, 0)), .inl x3]) (fun w3 r4 =>
        if r4 = 0 then
          some (w3, some (.inl (-1 : Int32)))
        else
          bI (F 2 w3 [.inl x2, .inl (1 : Int32), .inl (20000 : Int32)]) (fun w5 r6 =>
            if r6 = 0 then
              some (w5, some (.inl (-1 : Int32)))
            else
              if mIn x1 8 then
              if (w5.1 i (43 + 2 * x1.toNatClampNeg + 1)) < x2 then
                bI (F 3 w5 [.inr (.inr (2, i, 0)), .inl (11 : Int32)]) (fun w7 r8 =>
                  some (w7, some (.inl r8))
                )
              else
                if mIn x1 8 then
                bI (F 2 w5 [.inl (w5.1 i (43 + 2 * x1.toNatClampNeg + 0)), .inl (0 : Int32), .inl (5 : Int32)]) (fun w9 r10 =>
                  if r10 = 0 then
                    some (w9, some (.inl (-1 : Int32)))
                  else
                    if mIn (w5.1 i (43 + 2 * x1.toNatClampNeg + 0)) 6 then
                    bI (F 4 w9 [.inl x2, .inl (w9.1 i (3 * (w5.1 i (43 + 2 * x1.toNatClampNeg + 0)).toNatClampNeg + 0))]) (fun w11 r12 =>
                      if mIn x3 6 then
                      bI (F 5 w11 [.inr (.inr (12, i, x3.toNatClampNeg))]) (fun w13 r14 =>
                        if r14 < r12 then
                          some (w13, some (.inl (-3 : Int32)))
                        else
                          if mIn x1 8 then
                          let w15 : MM := mUp w13 (i, 43 + 2 * x1.toNatClampNeg + 1) ((w13.1 i (43 + 2 * x1.toNatClampNeg + 1)) - x2)
                          let w16 : MM := mUp w15 (i, 102) ((w15.1 i 102) + (x2 - r12))
                          if mIn x3 6 then
                          bI (F 4 w16 [.inl r12, .inl (w16.1 i (3 * (w5.1 i (43 + 2 * x1.toNatClampNeg + 0)).toNatClampNeg + 1))]) (fun w17 r18 =>
                            bI (F 4 w17 [.inl r12, .inl (w17.1 i (3 * (w5.1 i (43 + 2 * x1.toNatClampNeg + 0)).toNatClampNeg + 2))]) (fun w19 r20 =>
                              bI (F 4 w19 [.inl r12, .inl (w19.1 i 19)]) (fun w21 r22 =>
                                bV (F 6 w21 [.inr (.inr (12, i, x3.toNatClampNeg)), .inl r12, .inl r18, .inl r20, .inl r22]) (fun w23 =>
                                  some (w23, some (.inl r12))
                                )
                              )
                            )
                          )
                          else none
                          else none
                      )
                      else none
                    )
                    else none
                )
                else none
              else none
          )
      )
  ) := rfl
set_option maxRecDepth 100000 in
set_option maxHeartbeats 200000 in
theorem eX0_wetHeap (F : Nat → MF) (R : Nat → Nat → ML → List MV → MM → MR) (v : MM) (i : Nat) (x1 x2 : Int32) : stp F cdX0_wetHeap (runH F cdX0_wetHeap [] R 58) 0 [(0, .inr (.inr (2, i, 0))), (1, .inl x1), (2, .inl x2)] [] v =
  bI (F 0 v [.inl x1, .inl (0 : Int32), .inl (20000 : Int32)]) (fun w1 r2 =>
    if r2 = 0 then
      some (w1, some (.inl (-1 : Int32)))
    else
      bI (F 1 w1 [.inr (.inr (2, i, 0)), .inl x2]) (fun w3 r4 =>
        if r4 = 0 then
          some (w3, some (.inl (-1 : Int32)))
        else
          if (w3.1 i 102) = 0 then
            bI (F 2 w3 [.inr (.inr (2, i, 0)), .inl (12 : Int32)]) (fun w5 r6 =>
              some (w5, some (.inl r6))
            )
          else
            if mIn x2 6 then
            bI (F 3 w3 [.inr (.inr (12, i, x2.toNatClampNeg))]) (fun w7 r8 =>
              if r8 < (((w3.1 i 102) + x1) / (4 : Int32)) then
                some (w7, some (.inl (-3 : Int32)))
              else
                let w9 : MM := mUp w7 (i, 102) ((w7.1 i 102) + (x1 - (((w3.1 i 102) + x1) / (4 : Int32))))
                if mIn (1 : Int32) 7 then
                if mIn (1 : Int32) 7 then
                let w10 : MM := mUp w9 (i, 104 + (1 : Int32).toNatClampNeg) ((w9.1 i (104 + (1 : Int32).toNatClampNeg)) + x1)
                if mIn x2 6 then
                bV (F 4 w10 [.inr (.inr (12, i, x2.toNatClampNeg)), .inl (((w3.1 i 102) + x1) / (4 : Int32)), .inl ((((w3.1 i 102) + x1) / (4 : Int32)) / (50 : Int32)), .inl ((((w3.1 i 102) + x1) / (4 : Int32)) / (100 : Int32)), .inl ((((w3.1 i 102) + x1) / (4 : Int32)) / (10 : Int32))]) (fun w11 =>
                  some (w11, some (.inl (((w3.1 i 102) + x1) / (4 : Int32))))
                )
                else none
                else none
                else none
            )
            else none
      )
  ) := rfl
set_option maxRecDepth 100000 in
set_option maxHeartbeats 200000 in
theorem eX0_sellHeap (F : Nat → MF) (R : Nat → Nat → ML → List MV → MM → MR) (v : MM) (i : Nat) : stp F cdX0_sellHeap (runH F cdX0_sellHeap [] R 18) 0 [(0, .inr (.inr (2, i, 0)))] [] v =
  if (v.1 i 102) = 0 then
    bI (F 0 v [.inr (.inr (2, i, 0)), .inl (12 : Int32)]) (fun w1 r2 =>
      some (w1, some (.inl r2))
    )
  else
    let w3 : MM := mUp v (i, 102) (0 : Int32)
    if mIn (4 : Int32) 7 then
    if mIn (4 : Int32) 7 then
    let w4 : MM := mUp w3 (i, 104 + (4 : Int32).toNatClampNeg) ((w3.1 i (104 + (4 : Int32).toNatClampNeg)) + (v.1 i 102))
    some (w4, some (.inl (v.1 i 102)))
    else none
    else none := rfl
set_option maxRecDepth 100000 in
set_option maxHeartbeats 200000 in
theorem eX0_moveJuice (F : Nat → MF) (R : Nat → Nat → ML → List MV → MM → MR) (v : MM) (i : Nat) (x1 x2 x3 : Int32) : stp F cdX0_moveJuice (runH F cdX0_moveJuice [] R 53) 0 [(0, .inr (.inr (2, i, 0))), (1, .inl x1), (2, .inl x2), (3, .inl x3)] [] v =
  bI (F 0 v [.inr (.inr (2, i, 0)), .inl x1]) (fun w1 r2 =>
    if r2 = 0 then
      some (w1, some (.inl (-1 : Int32)))
    else
      bI (F 0 w1 [.inr (.inr (2, i, 0)), .inl x3]) (fun w3 r4 =>
        if r4 = 0 then
          some (w3, some (.inl (-1 : Int32)))
        else
          if x1 = x3 then
            some (w3, some (.inl (-1 : Int32)))
          else
            bI (F 1 w3 [.inl x2, .inl (1 : Int32), .inl (5000 : Int32)]) (fun w5 r6 =>
              if r6 = 0 then
                some (w5, some (.inl (-1 : Int32)))
              else
                if mIn x1 6 then
                if (w5.1 i (60 + 7 * x1.toNatClampNeg + 1)) < x2 then
                  bI (F 2 w5 [.inr (.inr (2, i, 0)), .inl (7 : Int32)]) (fun w7 r8 =>
                    some (w7, some (.inl r8))
                  )
                else
                  if mIn x3 6 then
                  bI (F 3 w5 [.inr (.inr (12, i, x3.toNatClampNeg))]) (fun w9 r10 =>
                    if r10 < x2 then
                      some (w9, some (.inl (-3 : Int32)))
                    else
                      if mIn x1 6 then
                      if mIn x1 6 then
                      bI (F 4 w9 [.inr (.inr (12, i, x1.toNatClampNeg)), .inl (w9.1 i (60 + 7 * x1.toNatClampNeg + 4)), .inl x2]) (fun w11 r12 =>
                        if mIn x1 6 then
                        if mIn x3 6 then
                        bV (F 5 w11 [.inr (.inr (12, i, x1.toNatClampNeg)), .inl x2, .inr (.inr (12, i, x3.toNatClampNeg))]) (fun w13 =>
                          some (w13, some (.inl r12))
                        )
                        else none
                        else none
                      )
                      else none
                      else none
                  )
                  else none
                else none
            )
      )
  ) := rfl
set_option maxRecDepth 100000 in
set_option maxHeartbeats 200000 in
theorem eX0_rackJuice (F : Nat → MF) (R : Nat → Nat → ML → List MV → MM → MR) (v : MM) (i : Nat) (x1 x2 : Int32) : stp F cdX0_rackJuice (runH F cdX0_rackJuice [] R 42) 0 [(0, .inr (.inr (2, i, 0))), (1, .inl x1), (2, .inl x2)] [] v =
  bI (F 0 v [.inr (.inr (2, i, 0)), .inl x1]) (fun w1 r2 =>
    if r2 = 0 then
      some (w1, some (.inl (-1 : Int32)))
    else
      bI (F 0 w1 [.inr (.inr (2, i, 0)), .inl x2]) (fun w3 r4 =>
        if r4 = 0 then
          some (w3, some (.inl (-1 : Int32)))
        else
          if x1 = x2 then
            some (w3, some (.inl (-1 : Int32)))
          else
            if mIn x1 6 then
            if (w3.1 i (60 + 7 * x1.toNatClampNeg + 1)) = 0 then
              bI (F 1 w3 [.inr (.inr (2, i, 0)), .inl (1 : Int32)]) (fun w5 r6 =>
                some (w5, some (.inl r6))
              )
            else
              if mIn x1 6 then
              if mIn x2 6 then
              bI (F 2 w3 [.inr (.inr (12, i, x2.toNatClampNeg))]) (fun w7 r8 =>
                bI (F 3 w7 [.inl (w3.1 i (60 + 7 * x1.toNatClampNeg + 1)), .inl r8]) (fun w9 r10 =>
                  if 0 < r10 then
                    if mIn x1 6 then
                    if mIn x2 6 then
                    bV (F 4 w9 [.inr (.inr (12, i, x1.toNatClampNeg)), .inl r10, .inr (.inr (12, i, x2.toNatClampNeg))]) (fun w11 =>
                      some (w11, some (.inl r10))
                    )
                    else none
                    else none
                  else
                    some (w9, some (.inl (-3 : Int32)))
                )
              )
              else none
              else none
            else none
      )
  ) := rfl
set_option maxRecDepth 100000 in
set_option maxHeartbeats 200000 in
theorem eX0_cleanTank (F : Nat → MF) (R : Nat → Nat → ML → List MV → MM → MR) (v : MM) (i : Nat) (x1 : Int32) : stp F cdX0_cleanTank (runH F cdX0_cleanTank [] R 31) 0 [(0, .inr (.inr (2, i, 0))), (1, .inl x1)] [] v =
  bI (F 0 v [.inr (.inr (2, i, 0)), .inl x1]) (fun w1 r2 =>
    if r2 = 0 then
      some (w1, some (.inl (-1 : Int32)))
    else
      if mIn x1 6 then
      if 0 < (w1.1 i (60 + 7 * x1.toNatClampNeg + 1)) then
        bI (F 1 w1 [.inr (.inr (2, i, 0)), .inl (13 : Int32)]) (fun w3 r4 =>
          some (w3, some (.inl r4))
        )
      else
        if mIn x1 6 then
        if mIn x1 6 then
        let w5 : MM := mUp w1 (i, 60 + 7 * x1.toNatClampNeg + 5) (0 : Int32)
        if mIn (3 : Int32) 7 then
        if mIn (3 : Int32) 7 then
        let w6 : MM := mUp w5 (i, 104 + (3 : Int32).toNatClampNeg) ((w5.1 i (104 + (3 : Int32).toNatClampNeg)) + (w1.1 i (60 + 7 * x1.toNatClampNeg + 5)))
        some (w6, some (.inl (w1.1 i (60 + 7 * x1.toNatClampNeg + 5))))
        else none
        else none
        else none
        else none
      else none
  ) := rfl
set_option maxRecDepth 100000 in
set_option maxHeartbeats 200000 in
theorem eX0_pourJuice (F : Nat → MF) (R : Nat → Nat → ML → List MV → MM → MR) (v : MM) (i : Nat) (x1 : Int32) : stp F cdX0_pourJuice (runH F cdX0_pourJuice [] R 27) 0 [(0, .inr (.inr (2, i, 0))), (1, .inl x1)] [] v =
  bI (F 0 v [.inr (.inr (2, i, 0)), .inl x1]) (fun w1 r2 =>
    if r2 = 0 then
      some (w1, some (.inl (-1 : Int32)))
    else
      if mIn x1 6 then
      if (w1.1 i (60 + 7 * x1.toNatClampNeg + 1)) = 0 then
        bI (F 1 w1 [.inr (.inr (2, i, 0)), .inl (1 : Int32)]) (fun w3 r4 =>
          some (w3, some (.inl r4))
        )
      else
        if mIn x1 6 then
        bV (F 2 w1 [.inr (.inr (12, i, x1.toNatClampNeg)), .inl (w1.1 i (60 + 7 * x1.toNatClampNeg + 1))]) (fun w5 =>
          if mIn (6 : Int32) 7 then
          if mIn (6 : Int32) 7 then
          let w6 : MM := mUp w5 (i, 104 + (6 : Int32).toNatClampNeg) ((w5.1 i (104 + (6 : Int32).toNatClampNeg)) + (w1.1 i (60 + 7 * x1.toNatClampNeg + 1)))
          some (w6, some (.inl (w1.1 i (60 + 7 * x1.toNatClampNeg + 1))))
          else none
          else none
        )
        else none
      else none
  ) := rfl
set_option maxRecDepth 100000 in
set_option maxHeartbeats 200000 in
theorem eX0_bottleJuice (F : Nat → MF) (R : Nat → Nat → ML → List MV → MM → MR) (v : MM) (i : Nat) (x1 x2 x3 x4 : Int32) : stp F cdX0_bottleJuice (runH F cdX0_bottleJuice [] R 70) 0 [(0, .inr (.inr (2, i, 0))), (1, .inl x1), (2, .inl x2), (3, .inl x3), (4, .inl x4)] [] v =
  bI (F 0 v [.inr (.inr (2, i, 0)), .inl x1]) (fun w1 r2 =>
    if r2 = 0 then
      some (w1, some (.inl (-1 : Int32)))
    else
      bI (F 1 w1 [.inl x2, .inl (0 : Int32), .inl (3 : Int32)]) (fun w3 r4 =>
        if r4 = 0 then
          some (w3, some (.inl (-1 : Int32)))
        else
          bI (F 1 w3 [.inl x3, .inl (1 : Int32), .inl (10 : Int32)]) (fun w5 r6 =>
            if r6 = 0 then
              some (w5, some (.inl (-1 : Int32)))
            else
              bI (F 1 w5 [.inl x4, .inl (1 : Int32), .inl (5000 : Int32)]) (fun w7 r8 =>
                if r8 = 0 then
                  some (w7, some (.inl (-1 : Int32)))
                else
                  if mIn x2 4 then
                  if mIn x1 6 then
                  bI (F 2 w7 [.inr (.inr (9, i, x2.toNatClampNeg)), .inr (.inr (12, i, x1.toNatClampNeg))]) (fun w9 r10 =>
                    if r10 = 0 then
                      if mIn x1 6 then
                      if (w9.1 i (60 + 7 * x1.toNatClampNeg + 1)) < (x3 * x4) then
                        bI (F 3 w9 [.inr (.inr (2, i, 0)), .inl (7 : Int32)]) (fun w11 r12 =>
                          some (w11, some (.inl r12))
                        )
                      else
                        if mIn x1 6 then
                        bV (F 4 w9 [.inr (.inr (12, i, x1.toNatClampNeg)), .inl (x3 * x4)]) (fun w13 =>
                          if mIn x2 4 then
                          bV (F 5 w13 [.inr (.inr (9, i, x2.toNatClampNeg)), .inl x3, .inl x4]) (fun w14 =>
                            if mIn (5 : Int32) 7 then
                            if mIn (5 : Int32) 7 then
                            let w15 : MM := mUp w14 (i, 104 + (5 : Int32).toNatClampNeg) ((w14.1 i (104 + (5 : Int32).toNatClampNeg)) + (x3 * x4))
                            if mIn x2 4 then
                            if mIn (0 : Int32) 11 then
                            some (w15, some (.inl (w15.1 i (if (0 : Int32).toNatClampNeg = 0 then 151 + x2.toNatClampNeg else 110 + 10 * x2.toNatClampNeg + (0 : Int32).toNatClampNeg))))
                            else none
                            else none
                            else none
                            else none
                          )
                          else none
                        )
                        else none
                      else none
                    else
                      bI (F 3 w9 [.inr (.inr (2, i, 0)), .inl r10]) (fun w16 r17 =>
                        some (w16, some (.inl r17))
                      )
                  )
                  else none
                  else none
              )
          )
      )
  ) := rfl
set_option maxRecDepth 100000 in
set_option maxHeartbeats 200000 in
theorem eX0_passDay (F : Nat → MF) (R : Nat → Nat → ML → List MV → MM → MR) (v : MM) (i : Nat) : stp F cdX0_passDay (runH F cdX0_passDay [2, 35] R 1) 0 [(0, .inr (.inr (2, i, 0)))] [] v =
  R 0 2 [(1, .inl (0 : Int32)), (0, .inr (.inr (2, i, 0)))] [] v := rfl
set_option maxRecDepth 100000 in
set_option maxHeartbeats 200000 in
theorem eX0_passDay_2 (F : Nat → MF) (R : Nat → Nat → ML → List MV → MM → MR) (v : MM) (i : Nat) (y1 : Int32) : stp F cdX0_passDay (runH F cdX0_passDay [2, 35] R 30) 2 [(1, .inl y1), (0, .inr (.inr (2, i, 0)))] [] v =
  if y1 < (8 : Int32) then
    if mIn y1 8 then
    bI (F 0 v [.inl (v.1 i (43 + 2 * y1.toNatClampNeg + 1)), .inl (v.1 i 18)]) (fun w1 r2 =>
      if mIn y1 8 then
      let w3 : MM := mUp w1 (i, 43 + 2 * y1.toNatClampNeg + 1) ((w1.1 i (43 + 2 * y1.toNatClampNeg + 1)) - r2)
      if mIn (2 : Int32) 7 then
      if mIn (2 : Int32) 7 then
      let w4 : MM := mUp w3 (i, 104 + (2 : Int32).toNatClampNeg) ((w3.1 i (104 + (2 : Int32).toNatClampNeg)) + r2)
      R 0 2 [(1, .inl (y1 + (1 : Int32))), (2, .inl r2), (0, .inr (.inr (2, i, 0)))] [] w4
      else none
      else none
      else none
    )
    else none
  else
    R 26 35 [(1, .inl (0 : Int32)), (0, .inr (.inr (2, i, 0)))] [] v := rfl
set_option maxRecDepth 100000 in
set_option maxHeartbeats 200000 in
theorem eX0_passDay_2_2 (F : Nat → MF) (R : Nat → Nat → ML → List MV → MM → MR) (v : MM) (i : Nat) (y1 y2 : Int32) : stp F cdX0_passDay (runH F cdX0_passDay [2, 35] R 30) 2 [(1, .inl y1), (2, .inl y2), (0, .inr (.inr (2, i, 0)))] [] v =
  if y1 < (8 : Int32) then
    if mIn y1 8 then
    bI (F 0 v [.inl (v.1 i (43 + 2 * y1.toNatClampNeg + 1)), .inl (v.1 i 18)]) (fun w1 r2 =>
      if mIn y1 8 then
      let w3 : MM := mUp w1 (i, 43 + 2 * y1.toNatClampNeg + 1) ((w1.1 i (43 + 2 * y1.toNatClampNeg + 1)) - r2)
      if mIn (2 : Int32) 7 then
      if mIn (2 : Int32) 7 then
      let w4 : MM := mUp w3 (i, 104 + (2 : Int32).toNatClampNeg) ((w3.1 i (104 + (2 : Int32).toNatClampNeg)) + r2)
      R 0 2 [(1, .inl (y1 + (1 : Int32))), (2, .inl r2), (0, .inr (.inr (2, i, 0)))] [] w4
      else none
      else none
      else none
    )
    else none
  else
    R 26 35 [(1, .inl (0 : Int32)), (2, .inl y2), (0, .inr (.inr (2, i, 0)))] [] v := rfl
set_option maxRecDepth 100000 in
set_option maxHeartbeats 200000 in
theorem eX0_passDay_35 (F : Nat → MF) (R : Nat → Nat → ML → List MV → MM → MR) (v : MM) (i : Nat) (y1 : Int32) : stp F cdX0_passDay (runH F cdX0_passDay [2, 35] R 13) 35 [(1, .inl y1), (0, .inr (.inr (2, i, 0)))] [] v =
  if y1 < (6 : Int32) then
    if mIn y1 6 then
    bV (F 1 v [.inr (.inr (12, i, y1.toNatClampNeg)), .inl (v.1 i 20), .inl (v.1 i 21)]) (fun w1 =>
      R 0 35 [(1, .inl (y1 + (1 : Int32))), (0, .inr (.inr (2, i, 0)))] [] w1
    )
    else none
  else
    let w2 : MM := mUp v (i, 103) ((v.1 i 103) + (1 : Int32))
    some (w2, some (.inl (w2.1 i 103))) := rfl
set_option maxRecDepth 100000 in
set_option maxHeartbeats 200000 in
theorem eX0_passDay_35_2 (F : Nat → MF) (R : Nat → Nat → ML → List MV → MM → MR) (v : MM) (i : Nat) (y1 y2 : Int32) : stp F cdX0_passDay (runH F cdX0_passDay [2, 35] R 13) 35 [(1, .inl y1), (2, .inl y2), (0, .inr (.inr (2, i, 0)))] [] v =
  if y1 < (6 : Int32) then
    if mIn y1 6 then
    bV (F 1 v [.inr (.inr (12, i, y1.toNatClampNeg)), .inl (v.1 i 20), .inl (v.1 i 21)]) (fun w1 =>
      R 0 35 [(1, .inl (y1 + (1 : Int32))), (2, .inl y2), (0, .inr (.inr (2, i, 0)))] [] w1
    )
    else none
  else
    let w2 : MM := mUp v (i, 103) ((v.1 i 103) + (1 : Int32))
    some (w2, some (.inl (w2.1 i 103))) := rfl
set_option maxRecDepth 100000 in
set_option maxHeartbeats 200000 in
theorem eX0_applesInLots (F : Nat → MF) (R : Nat → Nat → ML → List MV → MM → MR) (v : MM) (i : Nat) : stp F cdX0_applesInLots (runH F cdX0_applesInLots [4] R 3) 0 [(0, .inr (.inr (2, i, 0)))] [] v =
  R 0 4 [(2, .inl (0 : Int32)), (1, .inl (0 : Int32)), (0, .inr (.inr (2, i, 0)))] [] v := rfl
set_option maxRecDepth 100000 in
set_option maxHeartbeats 200000 in
theorem eX0_applesInLots_4 (F : Nat → MF) (R : Nat → Nat → ML → List MV → MM → MR) (v : MM) (i : Nat) (y1 y2 : Int32) : stp F cdX0_applesInLots (runH F cdX0_applesInLots [4] R 12) 4 [(2, .inl y1), (1, .inl y2), (0, .inr (.inr (2, i, 0)))] [] v =
  if y1 < (8 : Int32) then
    if mIn y1 8 then
    R 0 4 [(2, .inl (y1 + (1 : Int32))), (1, .inl (y2 + (v.1 i (43 + 2 * y1.toNatClampNeg + 1)))), (0, .inr (.inr (2, i, 0)))] [] v
    else none
  else
    some (v, some (.inl y2)) := rfl
set_option maxRecDepth 100000 in
set_option maxHeartbeats 200000 in
theorem eX0_juiceInTanks (F : Nat → MF) (R : Nat → Nat → ML → List MV → MM → MR) (v : MM) (i : Nat) : stp F cdX0_juiceInTanks (runH F cdX0_juiceInTanks [4] R 3) 0 [(0, .inr (.inr (2, i, 0)))] [] v =
  R 0 4 [(2, .inl (0 : Int32)), (1, .inl (0 : Int32)), (0, .inr (.inr (2, i, 0)))] [] v := rfl
set_option maxRecDepth 100000 in
set_option maxHeartbeats 200000 in
theorem eX0_juiceInTanks_4 (F : Nat → MF) (R : Nat → Nat → ML → List MV → MM → MR) (v : MM) (i : Nat) (y1 y2 : Int32) : stp F cdX0_juiceInTanks (runH F cdX0_juiceInTanks [4] R 12) 4 [(2, .inl y1), (1, .inl y2), (0, .inr (.inr (2, i, 0)))] [] v =
  if y1 < (6 : Int32) then
    if mIn y1 6 then
    R 0 4 [(2, .inl (y1 + (1 : Int32))), (1, .inl (y2 + (v.1 i (60 + 7 * y1.toNatClampNeg + 1)))), (0, .inr (.inr (2, i, 0)))] [] v
    else none
  else
    some (v, some (.inl y2)) := rfl
set_option maxRecDepth 100000 in
set_option maxHeartbeats 200000 in
theorem eX0_leesInTanks (F : Nat → MF) (R : Nat → Nat → ML → List MV → MM → MR) (v : MM) (i : Nat) : stp F cdX0_leesInTanks (runH F cdX0_leesInTanks [4] R 3) 0 [(0, .inr (.inr (2, i, 0)))] [] v =
  R 0 4 [(2, .inl (0 : Int32)), (1, .inl (0 : Int32)), (0, .inr (.inr (2, i, 0)))] [] v := rfl
set_option maxRecDepth 100000 in
set_option maxHeartbeats 200000 in
theorem eX0_leesInTanks_4 (F : Nat → MF) (R : Nat → Nat → ML → List MV → MM → MR) (v : MM) (i : Nat) (y1 y2 : Int32) : stp F cdX0_leesInTanks (runH F cdX0_leesInTanks [4] R 12) 4 [(2, .inl y1), (1, .inl y2), (0, .inr (.inr (2, i, 0)))] [] v =
  if y1 < (6 : Int32) then
    if mIn y1 6 then
    R 0 4 [(2, .inl (y1 + (1 : Int32))), (1, .inl (y2 + (v.1 i (60 + 7 * y1.toNatClampNeg + 5)))), (0, .inr (.inr (2, i, 0)))] [] v
    else none
  else
    some (v, some (.inl y2)) := rfl
set_option maxRecDepth 100000 in
set_option maxHeartbeats 200000 in
theorem eX0_sumOf (F : Nat → MF) (R : Nat → Nat → ML → List MV → MM → MR) (v : MM) (i : Nat) (x1 : Int32) : stp F cdX0_sumOf (runH F cdX0_sumOf [] R 9) 0 [(0, .inr (.inr (2, i, 0))), (1, .inl x1)] [] v =
  bI (F 0 v [.inl x1, .inl (0 : Int32), .inl (6 : Int32)]) (fun w1 r2 =>
    if r2 = 0 then
      if x1 = (7 : Int32) then
        bI (F 1 w1 [.inr (.inr (2, i, 0))]) (fun w3 r4 =>
          some (w3, some (.inl r4))
        )
      else if x1 = (8 : Int32) then
        some (w1, some (.inl (w1.1 i 102)))
      else if x1 = (9 : Int32) then
        bI (F 2 w1 [.inr (.inr (2, i, 0))]) (fun w5 r6 =>
          some (w5, some (.inl r6))
        )
      else if x1 = (10 : Int32) then
        bI (F 3 w1 [.inr (.inr (2, i, 0))]) (fun w7 r8 =>
          some (w7, some (.inl r8))
        )
      else
        some (w1, some (.inl (-1 : Int32)))
    else
      if mIn x1 7 then
      some (w1, some (.inl (w1.1 i (104 + x1.toNatClampNeg))))
      else none
  ) := rfl
