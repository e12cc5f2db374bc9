-- EQUATIONS of the runs (by program: wip/whole/gen/sym.py)
set_option maxRecDepth 100000 in
set_option maxHeartbeats 200000 in
theorem eX3_append (F : Nat → MF) (R : Nat → Nat → ML → List MV → MM → MR) (v : MM) (x1 : Int32) : stp F cdX3_append (runH F cdX3_append [] R 20) 0 [(0, .inr (.inr (13, 0, 0))), (1, .inl x1)] [] v =
  bI (F 0 v [.inl (v.1 9 1), .inl (0 : Int32), .inl (99 : Int32)]) (fun w1 r2 =>
    if r2 = 0 then
      some (w1, some (.inl (-3 : Int32)))
    else
      if mIn (w1.1 9 1) 100 then
      let w3 : MM := mUp w1 (10, (w1.1 9 1).toNatClampNeg) (vp_nar .char x1)
      let w4 : MM := mUp w3 (9, 1) ((w3.1 9 1) + (1 : Int32))
      some (w4, some (.inl (w4.1 9 1)))
      else none
  ) := rfl
set_option maxRecDepth 100000 in
set_option maxHeartbeats 200000 in
theorem eX3_clear (F : Nat → MF) (R : Nat → Nat → ML → List MV → MM → MR) (v : MM) : stp F cdX3_clear (runH F cdX3_clear [] R 7) 0 [(0, .inr (.inr (13, 0, 0)))] [] v =
  let w1 : MM := mUp v (9, 1) (0 : Int32)
  some (w1, some (.inl (v.1 9 1))) := rfl
set_option maxRecDepth 100000 in
set_option maxHeartbeats 200000 in
theorem eX3_number (F : Nat → MF) (R : Nat → Nat → ML → List MV → MM → MR) (v : MM) (x1 x2 : Int32) : stp F cdX3_number (runH F cdX3_number [] R 20) 0 [(0, .inr (.inr (13, 0, 0))), (1, .inl x1), (2, .inl x2)] [] v =
  bI (F 0 v [.inl ((x1 * (5 : Int32)) + x2), .inl (0 : Int32), .inl ((Int32.ofNat 125) - (1 : Int32))]) (fun w1 r2 =>
    if r2 = 0 then
      some (w1, some (.inl (0 : Int32)))
    else
      if mIn ((x1 * (5 : Int32)) + x2) 125 then
      some (w1, some (.inl (w1.1 11 (((x1 * (5 : Int32)) + x2).toNatClampNeg))))
      else none
  ) := rfl
set_option maxRecDepth 100000 in
set_option maxHeartbeats 200000 in
theorem eX3_keep (F : Nat → MF) (R : Nat → Nat → ML → List MV → MM → MR) (v : MM) (x1 x2 : Int32) : stp F cdX3_keep (runH F cdX3_keep [] R 21) 0 [(0, .inr (.inr (13, 0, 0))), (1, .inl x1), (2, .inl x2)] [] v =
  bI (F 0 v [.inl (((v.1 9 3) * (5 : Int32)) + x1), .inl (0 : Int32), .inl ((Int32.ofNat 125) - (1 : Int32))]) (fun w1 r2 =>
    if r2 = 0 then
      some (w1, none)
    else
      if mIn (((v.1 9 3) * (5 : Int32)) + x1) 125 then
      let w3 : MM := mUp w1 (11, (((v.1 9 3) * (5 : Int32)) + x1).toNatClampNeg) x2
      some (w3, none)
      else none
  ) := rfl
set_option maxRecDepth 100000 in
set_option maxHeartbeats 200000 in
theorem eX3_endOf (F : Nat → MF) (R : Nat → Nat → ML → List MV → MM → MR) (v : MM) (x1 x2 : Int32) : stp F cdX3_endOf (runH F cdX3_endOf [3] R 2) 0 [(0, .inr (.inr (13, 0, 0))), (1, .inl x1), (2, .inl x2)] [] v =
  R 0 3 [(3, .inl (v.1 9 2)), (0, .inr (.inr (13, 0, 0))), (1, .inl x1), (2, .inl x2)] [] v := rfl
set_option maxRecDepth 100000 in
set_option maxHeartbeats 200000 in
theorem eX3_endOf_3 (F : Nat → MF) (R : Nat → Nat → ML → List MV → MM → MR) (v : MM) (y1 y2 y3 : Int32) : stp F cdX3_endOf (runH F cdX3_endOf [3] R 17) 3 [(3, .inl y1), (0, .inr (.inr (13, 0, 0))), (1, .inl y2), (2, .inl y3)] [] v =
  if y1 < (v.1 9 1) then
    if mIn y1 100 then
    if (v.1 10 y1.toNatClampNeg) < y2 then
      some (v, some (.inl y1))
    else
      if mIn y1 100 then
      if y3 < (v.1 10 y1.toNatClampNeg) then
        some (v, some (.inl y1))
      else
        R 0 3 [(3, .inl (y1 + (1 : Int32))), (0, .inr (.inr (13, 0, 0))), (1, .inl y2), (2, .inl y3)] [] v
      else none
    else none
  else
    some (v, some (.inl y1)) := rfl
set_option maxRecDepth 100000 in
set_option maxHeartbeats 200000 in
theorem eX3_skipSpaces (F : Nat → MF) (R : Nat → Nat → ML → List MV → MM → MR) (v : MM) : stp F cdX3_skipSpaces (runH F cdX3_skipSpaces [] R 6) 0 [(0, .inr (.inr (13, 0, 0)))] [] v =
  bI (F 0 v [.inr (.inr (13, 0, 0)), .inl (32 : Int32), .inl (32 : Int32)]) (fun w1 r2 =>
    let w3 : MM := mUp w1 (9, 2) r2
    some (w3, none)
  ) := rfl
set_option maxRecDepth 100000 in
set_option maxHeartbeats 200000 in
theorem eX3_isWord (F : Nat → MF) (R : Nat → Nat → ML → List MV → MM → MR) (v : MM) (k1 : Nat) (x2 : Int32) : stp F cdX3_isWord (runH F cdX3_isWord [11] R 8) 0 [(0, .inr (.inr (13, 0, 0))), (1, .inr (.inr (23, k1, 0))), (2, .inl x2)] [] v =
  bI (F 0 v [.inr (.inr (23, k1, 0))]) (fun w1 r2 =>
    if (x2 - (v.1 9 2)) = r2 then
      R 0 11 [(3, .inl (0 : Int32)), (0, .inr (.inr (13, 0, 0))), (1, .inr (.inr (23, k1, 0))), (2, .inl x2)] [] w1
    else
      some (w1, some (.inl (0 : Int32)))
  ) := rfl
set_option maxRecDepth 100000 in
set_option maxHeartbeats 200000 in
theorem eX3_isWord_11 (F : Nat → MF) (R : Nat → Nat → ML → List MV → MM → MR) (v : MM) (k1 : Nat) (y1 y2 : Int32) : stp F cdX3_isWord (runH F cdX3_isWord [11] R 16) 11 [(3, .inl y1), (0, .inr (.inr (13, 0, 0))), (1, .inr (.inr (23, k1, 0))), (2, .inl y2)] [] v =
  bI (F 0 v [.inr (.inr (23, k1, 0))]) (fun w1 r2 =>
    if y1 < r2 then
      if mIn ((w1.1 9 2) + y1) 100 then
      bI (F 1 w1 [.inr (.inr (23, k1, 0)), .inl y1]) (fun w3 r4 =>
        if (w1.1 10 (((w1.1 9 2) + y1).toNatClampNeg)) = r4 then
          R 0 11 [(3, .inl (y1 + (1 : Int32))), (0, .inr (.inr (13, 0, 0))), (1, .inr (.inr (23, k1, 0))), (2, .inl y2)] [] w3
        else
          some (w3, some (.inl (0 : Int32)))
      )
      else none
    else
      some (w1, some (.inl (1 : Int32)))
  ) := rfl
set_option maxRecDepth 100000 in
set_option maxHeartbeats 200000 in
theorem eX3_kindOfWord (F : Nat → MF) (R : Nat → Nat → ML → List MV → MM → MR) (v : MM) (x1 : Int32) : stp F cdX3_kindOfWord (runH F cdX3_kindOfWord [] R 37) 0 [(0, .inr (.inr (13, 0, 0))), (1, .inl x1)] [] v =
  bI (F 0 v [.inr (.inr (13, 0, 0)), .inr (.inr (23, 0, 0)), .inl x1]) (fun w1 r2 =>
    if r2 = 0 then
      bI (F 0 w1 [.inr (.inr (13, 0, 0)), .inr (.inr (23, 1, 0)), .inl x1]) (fun w3 r4 =>
        if r4 = 0 then
          bI (F 0 w3 [.inr (.inr (13, 0, 0)), .inr (.inr (23, 2, 0)), .inl x1]) (fun w5 r6 =>
            if r6 = 0 then
              bI (F 0 w5 [.inr (.inr (13, 0, 0)), .inr (.inr (23, 3, 0)), .inl x1]) (fun w7 r8 =>
                if r8 = 0 then
                  bI (F 0 w7 [.inr (.inr (13, 0, 0)), .inr (.inr (23, 4, 0)), .inl x1]) (fun w9 r10 =>
                    if r10 = 0 then
                      bI (F 0 w9 [.inr (.inr (13, 0, 0)), .inr (.inr (23, 5, 0)), .inl x1]) (fun w11 r12 =>
                        if r12 = 0 then
                          bI (F 0 w11 [.inr (.inr (13, 0, 0)), .inr (.inr (23, 6, 0)), .inl x1]) (fun w13 r14 =>
                            if r14 = 0 then
                              some (w13, some (.inl (-1 : Int32)))
                            else
                              some (w13, some (.inl (6 : Int32)))
                          )
                        else
                          some (w11, some (.inl (5 : Int32)))
                      )
                    else
                      some (w9, some (.inl (4 : Int32)))
                  )
                else
                  some (w7, some (.inl (3 : Int32)))
              )
            else
              some (w5, some (.inl (2 : Int32)))
          )
        else
          some (w3, some (.inl (1 : Int32)))
      )
    else
      some (w1, some (.inl (0 : Int32)))
  ) := rfl
set_option maxRecDepth 100000 in
set_option maxHeartbeats 200000 in
theorem eX3_readWord (F : Nat → MF) (R : Nat → Nat → ML → List MV → MM → MR) (v : MM) : stp F cdX3_readWord (runH F cdX3_readWord [] R 16) 0 [(0, .inr (.inr (13, 0, 0)))] [] v =
  bI (F 0 v [.inr (.inr (13, 0, 0)), .inl (97 : Int32), .inl (122 : Int32)]) (fun w1 r2 =>
    bI (F 1 w1 [.inr (.inr (13, 0, 0)), .inl r2]) (fun w3 r4 =>
      if r4 = (-1 : Int32) then
        some (w3, some (.inl r4))
      else
        let w5 : MM := mUp w3 (9, 2) r2
        some (w5, some (.inl r4))
    )
  ) := rfl
set_option maxRecDepth 100000 in
set_option maxHeartbeats 200000 in
theorem eX3_numbersOf (F : Nat → MF) (R : Nat → Nat → ML → List MV → MM → MR) (v : MM) (x1 : Int32) : stp F cdX3_numbersOf (runH F cdX3_numbersOf [] R 3) 0 [(0, .inl x1)] [] v =
  if x1 = (0 : Int32) then
    some (v, some (.inl (3 : Int32)))
  else if x1 = (1 : Int32) then
    some (v, some (.inl (2 : Int32)))
  else if x1 = (2 : Int32) then
    some (v, some (.inl (3 : Int32)))
  else if x1 = (3 : Int32) then
    some (v, some (.inl (2 : Int32)))
  else if x1 = (4 : Int32) then
    some (v, some (.inl (1 : Int32)))
  else if x1 = (5 : Int32) then
    some (v, some (.inl (4 : Int32)))
  else
    some (v, some (.inl (0 : Int32))) := rfl
set_option maxRecDepth 100000 in
set_option maxHeartbeats 200000 in
theorem eX3_readNumber (F : Nat → MF) (R : Nat → Nat → ML → List MV → MM → MR) (v : MM) (x1 : Int32) : stp F cdX3_readNumber (runH F cdX3_readNumber [35] R 32) 0 [(0, .inr (.inr (13, 0, 0))), (1, .inl x1)] [] v =
  bV (F 0 v [.inr (.inr (13, 0, 0))]) (fun w1 =>
    bI (F 1 w1 [.inr (.inr (13, 0, 0)), .inl (48 : Int32), .inl (57 : Int32)]) (fun w2 r3 =>
      if (r3 - (w2.1 9 2)) < (1 : Int32) then
        some (w2, some (.inl (0 : Int32)))
      else
        if (5 : Int32) < (r3 - (w2.1 9 2)) then
          some (w2, some (.inl (0 : Int32)))
        else
          if (1 : Int32) < (r3 - (w2.1 9 2)) then
            if mIn (w2.1 9 2) 100 then
            if (w2.1 10 ((w2.1 9 2).toNatClampNeg)) = (48 : Int32) then
              some (w2, some (.inl (0 : Int32)))
            else
              R 0 35 [(5, .inl (w2.1 9 2)), (4, .inl (0 : Int32)), (3, .inl (r3 - (w2.1 9 2))), (2, .inl r3), (0, .inr (.inr (13, 0, 0))), (1, .inl x1)] [] w2
            else none
          else
            R 7 35 [(5, .inl (w2.1 9 2)), (4, .inl (0 : Int32)), (3, .inl (r3 - (w2.1 9 2))), (2, .inl r3), (0, .inr (.inr (13, 0, 0))), (1, .inl x1)] [] w2
    )
  ) := rfl
set_option maxRecDepth 100000 in
set_option maxHeartbeats 200000 in
theorem eX3_readNumber_35 (F : Nat → MF) (R : Nat → Nat → ML → List MV → MM → MR) (v : MM) (y1 y2 y3 y4 y5 : Int32) : stp F cdX3_readNumber (runH F cdX3_readNumber [35] R 15) 35 [(5, .inl y1), (4, .inl y2), (3, .inl y3), (2, .inl y4), (0, .inr (.inr (13, 0, 0))), (1, .inl y5)] [] v =
  if y1 < y4 then
    if mIn y1 100 then
    R 0 35 [(5, .inl (y1 + (1 : Int32))), (4, .inl ((y2 * (10 : Int32)) + ((v.1 10 y1.toNatClampNeg) - (48 : Int32)))), (3, .inl y3), (2, .inl y4), (0, .inr (.inr (13, 0, 0))), (1, .inl y5)] [] v
    else none
  else
    bV (F 2 v [.inr (.inr (13, 0, 0)), .inl y5, .inl y2]) (fun w1 =>
      let w2 : MM := mUp w1 (9, 2) y4
      some (w2, some (.inl (1 : Int32)))
    ) := rfl
set_option maxRecDepth 100000 in
set_option maxHeartbeats 200000 in
theorem eX3_readEnd (F : Nat → MF) (R : Nat → Nat → ML → List MV → MM → MR) (v : MM) : stp F cdX3_readEnd (runH F cdX3_readEnd [] R 21) 0 [(0, .inr (.inr (13, 0, 0)))] [] v =
  bV (F 0 v [.inr (.inr (13, 0, 0))]) (fun w1 =>
    if (w1.1 9 2) < (w1.1 9 1) then
      if mIn (w1.1 9 2) 100 then
      if (w1.1 10 ((w1.1 9 2).toNatClampNeg)) = (59 : Int32) then
        let w2 : MM := mUp w1 (9, 2) ((w1.1 9 2) + (1 : Int32))
        some (w2, some (.inl (1 : Int32)))
      else
        some (w1, some (.inl (0 : Int32)))
      else none
    else
      some (w1, some (.inl (0 : Int32)))
  ) := rfl
set_option maxRecDepth 100000 in
set_option maxHeartbeats 200000 in
theorem eX3_readCommand (F : Nat → MF) (R : Nat → Nat → ML → List MV → MM → MR) (v : MM) : stp F cdX3_readCommand (runH F cdX3_readCommand [14] R 11) 0 [(0, .inr (.inr (13, 0, 0)))] [] v =
  bI (F 0 v [.inr (.inr (13, 0, 0))]) (fun w1 r2 =>
    if r2 = (-1 : Int32) then
      some (w1, some (.inl (0 : Int32)))
    else
      bV (F 1 w1 [.inr (.inr (13, 0, 0)), .inl (0 : Int32), .inl r2]) (fun w3 =>
        R 0 14 [(2, .inl (1 : Int32)), (1, .inl r2), (0, .inr (.inr (13, 0, 0)))] [] w3
      )
  ) := rfl
set_option maxRecDepth 100000 in
set_option maxHeartbeats 200000 in
theorem eX3_readCommand_14 (F : Nat → MF) (R : Nat → Nat → ML → List MV → MM → MR) (v : MM) (y1 y2 : Int32) : stp F cdX3_readCommand (runH F cdX3_readCommand [14] R 9) 14 [(2, .inl y1), (1, .inl y2), (0, .inr (.inr (13, 0, 0)))] [] v =
  bI (F 2 v [.inl y2]) (fun w1 r2 =>
    if r2 < y1 then
      bI (F 4 w1 [.inr (.inr (13, 0, 0))]) (fun w3 r4 =>
        if r4 = 0 ∨ r4 = 1 then some (w3, some (.inl r4)) else none
      )
    else
      bI (F 3 w1 [.inr (.inr (13, 0, 0)), .inl y1]) (fun w5 r6 =>
        if r6 = 0 then
          some (w5, some (.inl (0 : Int32)))
        else
          R 0 14 [(2, .inl (y1 + (1 : Int32))), (1, .inl y2), (0, .inr (.inr (13, 0, 0)))] [] w5
      )
  ) := rfl
set_option maxRecDepth 100000 in
set_option maxHeartbeats 200000 in
theorem eX3_read (F : Nat → MF) (R : Nat → Nat → ML → List MV → MM → MR) (v : MM) : stp F cdX3_read (runH F cdX3_read [8] R 7) 0 [(0, .inr (.inr (13, 0, 0)))] [] v =
  let w1 : MM := mUp v (9, 2) (0 : Int32)
  let w2 : MM := mUp w1 (9, 3) (0 : Int32)
  R 0 8 [(1, .inl (0 : Int32)), (0, .inr (.inr (13, 0, 0)))] [] w2 := rfl
set_option maxRecDepth 100000 in
set_option maxHeartbeats 200000 in
theorem eX3_read_8 (F : Nat → MF) (R : Nat → Nat → ML → List MV → MM → MR) (v : MM) (y1 : Int32) : stp F cdX3_read (runH F cdX3_read [8] R 20) 8 [(1, .inl y1), (0, .inr (.inr (13, 0, 0)))] [] v =
  if (25 : Int32) < y1 then
    some (v, some (.inl (0 : Int32)))
  else
    bV (F 0 v [.inr (.inr (13, 0, 0))]) (fun w1 =>
      if (w1.1 9 2) < (w1.1 9 1) then
        bI (F 1 w1 [.inr (.inr (13, 0, 0))]) (fun w2 r3 =>
          if r3 = 0 then
            some (w2, some (.inl (0 : Int32)))
          else
            let w4 : MM := mUp w2 (9, 3) ((w2.1 9 3) + (1 : Int32))
            R 0 8 [(1, .inl (y1 + (1 : Int32))), (0, .inr (.inr (13, 0, 0)))] [] w4
        )
      else
        some (w1, some (.inl (1 : Int32)))
    ) := rfl
