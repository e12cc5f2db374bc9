-- EQUATIONS of the runs (by program: wip/whole/gen/sym.py)
set_option maxRecDepth 100000 in
set_option maxHeartbeats 200000 in
theorem eX6_nextPage (F : Nat → MF) (R : Nat → Nat → ML → List MV → MM → MR) (v : MM) : stp F cdX6_nextPage (runH F cdX6_nextPage [] R 6) 0 [(0, .inr (.inr (0, 0, 0)))] [] v =
  some (v, some (.inl (((v.1 12 3) + (1 : Int32)) - ((v.1 12 3) + (1 : Int32)) / (8 : Int32) * (8 : Int32)))) := rfl
set_option maxRecDepth 100000 in
set_option maxHeartbeats 200000 in
theorem eX6_books (F : Nat → MF) (R : Nat → Nat → ML → List MV → MM → MR) (v : MM) : stp F cdX6_books (runH F cdX6_books [] R 5) 0 [(0, .inr (.inr (0, 0, 0)))] [] v =
  if mIn (v.1 12 3) 8 then
  match Nat.beq 2 2 && (Nat.blt ((v.1 12 3).toNatClampNeg) 8 && Nat.beq 0 0) with | true => some (v, some (.inr (.inr (2, (v.1 12 3).toNatClampNeg, 0)))) | false => none
  else none := rfl
set_option maxRecDepth 100000 in
set_option maxHeartbeats 200000 in
theorem eX6_draft (F : Nat → MF) (R : Nat → Nat → ML → List MV → MM → MR) (v : MM) : stp F cdX6_draft (runH F cdX6_draft [9] R 8) 0 [(0, .inr (.inr (0, 0, 0)))] [] v =
  bI (F 0 v [.inr (.inr (0, 0, 0))]) (fun w1 r2 =>
    if mIn r2 8 then
    bN (F 1 w1 [.inr (.inr (0, 0, 0))]) (fun w3 q4 =>
      R 0 9 [(1, .inr (.inr (2, r2.toNatClampNeg, 0))), (0, .inr (.inr (0, 0, 0)))] [.inr (.inr q4), .inr (.inr (2, r2.toNatClampNeg, 0))] w3
    )
    else none
  ) := rfl
set_option maxRecDepth 100000 in
set_option maxHeartbeats 200000 in
theorem eX6_draft_9 (F : Nat → MF) (R : Nat → Nat → ML → List MV → MM → MR) (v : MM) (m1 pg : Nat) : stp F cdX6_draft (runH F cdX6_draft [9] R 2) 9 [(1, .inr (.inr (2, m1, 0))), (0, .inr (.inr (0, 0, 0)))] [.inr (.inr (2, pg, 0)), .inr (.inr (2, m1, 0))] v =
  bV (F 2 v [.inr (.inr (2, m1, 0)), .inr (.inr (2, pg, 0))]) (fun w1 =>
    match Nat.beq 2 2 && (Nat.blt m1 8 && Nat.beq 0 0) with | true => some (w1, some (.inr (.inr (2, m1, 0)))) | false => none
  ) := rfl
set_option maxRecDepth 100000 in
set_option maxHeartbeats 200000 in
theorem eX6_finish (F : Nat → MF) (R : Nat → Nat → ML → List MV → MM → MR) (v : MM) (i1 : Nat) (x2 : Int32) : stp F cdX6_finish (runH F cdX6_finish [] R 19) 0 [(0, .inr (.inr (0, 0, 0))), (1, .inr (.inr (2, i1, 0))), (2, .inl x2)] [] v =
  if x2 < 0 then
    if x2 = (-2 : Int32) then
      let w1 : MM := mUp v (12, 5) (v.1 i1 155)
      some (w1, some (.inl x2))
    else
      some (v, some (.inl x2))
  else
    bI (F 0 v [.inr (.inr (0, 0, 0))]) (fun w2 r3 =>
      let w4 : MM := mUp w2 (12, 3) r3
      bI (F 1 w4 [.inl ((w4.1 12 4) + (1 : Int32)), .inl (6 : Int32)]) (fun w5 r6 =>
        let w7 : MM := mUp w5 (12, 4) r6
        let w8 : MM := mUp w7 (12, 5) (0 : Int32)
        some (w8, some (.inl x2))
      )
    ) := rfl
set_option maxRecDepth 100000 in
set_option maxHeartbeats 200000 in
theorem eX6_setVariety (F : Nat → MF) (R : Nat → Nat → ML → List MV → MM → MR) (v : MM) (x1 x2 x3 x4 : Int32) : stp F cdX6_setVariety (runH F cdX6_setVariety [2] R 1) 0 [(0, .inr (.inr (0, 0, 0))), (1, .inl x1), (2, .inl x2), (3, .inl x3), (4, .inl x4)] [] v =
  bN (F 0 v [.inr (.inr (0, 0, 0))]) (fun w1 q2 =>
    R 0 2 [(0, .inr (.inr (0, 0, 0))), (1, .inl x1), (2, .inl x2), (3, .inl x3), (4, .inl x4)] [.inr (.inr q2)] w1
  ) := rfl
set_option maxRecDepth 100000 in
set_option maxHeartbeats 200000 in
theorem eX6_setVariety_2 (F : Nat → MF) (R : Nat → Nat → ML → List MV → MM → MR) (v : MM) (pg : Nat) (x1 x2 x3 x4 : Int32) : stp F cdX6_setVariety (runH F cdX6_setVariety [2] R 10) 2 [(0, .inr (.inr (0, 0, 0))), (1, .inl x1), (2, .inl x2), (3, .inl x3), (4, .inl x4)] [.inr (.inr (2, pg, 0))] v =
  bI (F 1 v [.inr (.inr (2, pg, 0)), .inl x1, .inl x2, .inl x3, .inl x4]) (fun w1 r2 =>
    bI (F 2 w1 [.inr (.inr (0, 0, 0)), .inr (.inr (2, pg, 0)), .inl r2]) (fun w3 r4 =>
      some (w3, some (.inl r4))
    )
  ) := rfl
set_option maxRecDepth 100000 in
set_option maxHeartbeats 200000 in
theorem eX6_setRates (F : Nat → MF) (R : Nat → Nat → ML → List MV → MM → MR) (v : MM) (x1 x2 x3 x4 : Int32) : stp F cdX6_setRates (runH F cdX6_setRates [2] R 1) 0 [(0, .inr (.inr (0, 0, 0))), (1, .inl x1), (2, .inl x2), (3, .inl x3), (4, .inl x4)] [] v =
  bN (F 0 v [.inr (.inr (0, 0, 0))]) (fun w1 q2 =>
    R 0 2 [(0, .inr (.inr (0, 0, 0))), (1, .inl x1), (2, .inl x2), (3, .inl x3), (4, .inl x4)] [.inr (.inr q2)] w1
  ) := rfl
set_option maxRecDepth 100000 in
set_option maxHeartbeats 200000 in
theorem eX6_setRates_2 (F : Nat → MF) (R : Nat → Nat → ML → List MV → MM → MR) (v : MM) (pg : Nat) (x1 x2 x3 x4 : Int32) : stp F cdX6_setRates (runH F cdX6_setRates [2] R 10) 2 [(0, .inr (.inr (0, 0, 0))), (1, .inl x1), (2, .inl x2), (3, .inl x3), (4, .inl x4)] [.inr (.inr (2, pg, 0))] v =
  bI (F 1 v [.inr (.inr (2, pg, 0)), .inl x1, .inl x2, .inl x3, .inl x4]) (fun w1 r2 =>
    bI (F 2 w1 [.inr (.inr (0, 0, 0)), .inr (.inr (2, pg, 0)), .inl r2]) (fun w3 r4 =>
      some (w3, some (.inl r4))
    )
  ) := rfl
set_option maxRecDepth 100000 in
set_option maxHeartbeats 200000 in
theorem eX6_setLabel (F : Nat → MF) (R : Nat → Nat → ML → List MV → MM → MR) (v : MM) (x1 x2 x3 x4 x5 x6 : Int32) : stp F cdX6_setLabel (runH F cdX6_setLabel [2] R 1) 0 [(0, .inr (.inr (0, 0, 0))), (1, .inl x1), (2, .inl x2), (3, .inl x3), (4, .inl x4), (5, .inl x5), (6, .inl x6)] [] v =
  bN (F 0 v [.inr (.inr (0, 0, 0))]) (fun w1 q2 =>
    R 0 2 [(0, .inr (.inr (0, 0, 0))), (1, .inl x1), (2, .inl x2), (3, .inl x3), (4, .inl x4), (5, .inl x5), (6, .inl x6)] [.inr (.inr q2)] w1
  ) := rfl
set_option maxRecDepth 100000 in
set_option maxHeartbeats 200000 in
theorem eX6_setLabel_2 (F : Nat → MF) (R : Nat → Nat → ML → List MV → MM → MR) (v : MM) (pg : Nat) (x1 x2 x3 x4 x5 x6 : Int32) : stp F cdX6_setLabel (runH F cdX6_setLabel [2] R 12) 2 [(0, .inr (.inr (0, 0, 0))), (1, .inl x1), (2, .inl x2), (3, .inl x3), (4, .inl x4), (5, .inl x5), (6, .inl x6)] [.inr (.inr (2, pg, 0))] v =
  bI (F 1 v [.inr (.inr (2, pg, 0)), .inl x1, .inl x2, .inl x3, .inl x4, .inl x5, .inl x6]) (fun w1 r2 =>
    bI (F 2 w1 [.inr (.inr (0, 0, 0)), .inr (.inr (2, pg, 0)), .inl r2]) (fun w3 r4 =>
      some (w3, some (.inl r4))
    )
  ) := rfl
set_option maxRecDepth 100000 in
set_option maxHeartbeats 200000 in
theorem eX6_buy (F : Nat → MF) (R : Nat → Nat → ML → List MV → MM → MR) (v : MM) (x1 x2 : Int32) : stp F cdX6_buy (runH F cdX6_buy [2] R 1) 0 [(0, .inr (.inr (0, 0, 0))), (1, .inl x1), (2, .inl x2)] [] v =
  bN (F 0 v [.inr (.inr (0, 0, 0))]) (fun w1 q2 =>
    R 0 2 [(0, .inr (.inr (0, 0, 0))), (1, .inl x1), (2, .inl x2)] [.inr (.inr q2)] w1
  ) := rfl
set_option maxRecDepth 100000 in
set_option maxHeartbeats 200000 in
theorem eX6_buy_2 (F : Nat → MF) (R : Nat → Nat → ML → List MV → MM → MR) (v : MM) (pg : Nat) (x1 x2 : Int32) : stp F cdX6_buy (runH F cdX6_buy [2] R 8) 2 [(0, .inr (.inr (0, 0, 0))), (1, .inl x1), (2, .inl x2)] [.inr (.inr (2, pg, 0))] v =
  bI (F 1 v [.inr (.inr (2, pg, 0)), .inl x1, .inl x2]) (fun w1 r2 =>
    bI (F 2 w1 [.inr (.inr (0, 0, 0)), .inr (.inr (2, pg, 0)), .inl r2]) (fun w3 r4 =>
      some (w3, some (.inl r4))
    )
  ) := rfl
set_option maxRecDepth 100000 in
set_option maxHeartbeats 200000 in
theorem eX6_addTank (F : Nat → MF) (R : Nat → Nat → ML → List MV → MM → MR) (v : MM) (x1 : Int32) : stp F cdX6_addTank (runH F cdX6_addTank [2] R 1) 0 [(0, .inr (.inr (0, 0, 0))), (1, .inl x1)] [] v =
  bN (F 0 v [.inr (.inr (0, 0, 0))]) (fun w1 q2 =>
    R 0 2 [(0, .inr (.inr (0, 0, 0))), (1, .inl x1)] [.inr (.inr q2)] w1
  ) := rfl
set_option maxRecDepth 100000 in
set_option maxHeartbeats 200000 in
theorem eX6_addTank_2 (F : Nat → MF) (R : Nat → Nat → ML → List MV → MM → MR) (v : MM) (pg : Nat) (x1 : Int32) : stp F cdX6_addTank (runH F cdX6_addTank [2] R 7) 2 [(0, .inr (.inr (0, 0, 0))), (1, .inl x1)] [.inr (.inr (2, pg, 0))] v =
  bI (F 1 v [.inr (.inr (2, pg, 0)), .inl x1]) (fun w1 r2 =>
    bI (F 2 w1 [.inr (.inr (0, 0, 0)), .inr (.inr (2, pg, 0)), .inl r2]) (fun w3 r4 =>
      some (w3, some (.inl r4))
    )
  ) := rfl
set_option maxRecDepth 100000 in
set_option maxHeartbeats 200000 in
theorem eX6_press (F : Nat → MF) (R : Nat → Nat → ML → List MV → MM → MR) (v : MM) (x1 x2 x3 : Int32) : stp F cdX6_press (runH F cdX6_press [2] R 1) 0 [(0, .inr (.inr (0, 0, 0))), (1, .inl x1), (2, .inl x2), (3, .inl x3)] [] v =
  bN (F 0 v [.inr (.inr (0, 0, 0))]) (fun w1 q2 =>
    R 0 2 [(0, .inr (.inr (0, 0, 0))), (1, .inl x1), (2, .inl x2), (3, .inl x3)] [.inr (.inr q2)] w1
  ) := rfl
set_option maxRecDepth 100000 in
set_option maxHeartbeats 200000 in
theorem eX6_press_2 (F : Nat → MF) (R : Nat → Nat → ML → List MV → MM → MR) (v : MM) (pg : Nat) (x1 x2 x3 : Int32) : stp F cdX6_press (runH F cdX6_press [2] R 9) 2 [(0, .inr (.inr (0, 0, 0))), (1, .inl x1), (2, .inl x2), (3, .inl x3)] [.inr (.inr (2, pg, 0))] v =
  bI (F 1 v [.inr (.inr (2, pg, 0)), .inl x1, .inl x2, .inl x3]) (fun w1 r2 =>
    bI (F 2 w1 [.inr (.inr (0, 0, 0)), .inr (.inr (2, pg, 0)), .inl r2]) (fun w3 r4 =>
      some (w3, some (.inl r4))
    )
  ) := rfl
set_option maxRecDepth 100000 in
set_option maxHeartbeats 200000 in
theorem eX6_wet (F : Nat → MF) (R : Nat → Nat → ML → List MV → MM → MR) (v : MM) (x1 x2 : Int32) : stp F cdX6_wet (runH F cdX6_wet [2] R 1) 0 [(0, .inr (.inr (0, 0, 0))), (1, .inl x1), (2, .inl x2)] [] v =
  bN (F 0 v [.inr (.inr (0, 0, 0))]) (fun w1 q2 =>
    R 0 2 [(0, .inr (.inr (0, 0, 0))), (1, .inl x1), (2, .inl x2)] [.inr (.inr q2)] w1
  ) := rfl
set_option maxRecDepth 100000 in
set_option maxHeartbeats 200000 in
theorem eX6_wet_2 (F : Nat → MF) (R : Nat → Nat → ML → List MV → MM → MR) (v : MM) (pg : Nat) (x1 x2 : Int32) : stp F cdX6_wet (runH F cdX6_wet [2] R 8) 2 [(0, .inr (.inr (0, 0, 0))), (1, .inl x1), (2, .inl x2)] [.inr (.inr (2, pg, 0))] v =
  bI (F 1 v [.inr (.inr (2, pg, 0)), .inl x1, .inl x2]) (fun w1 r2 =>
    bI (F 2 w1 [.inr (.inr (0, 0, 0)), .inr (.inr (2, pg, 0)), .inl r2]) (fun w3 r4 =>
      some (w3, some (.inl r4))
    )
  ) := rfl
set_option maxRecDepth 100000 in
set_option maxHeartbeats 200000 in
theorem eX6_sellPomace (F : Nat → MF) (R : Nat → Nat → ML → List MV → MM → MR) (v : MM) : stp F cdX6_sellPomace (runH F cdX6_sellPomace [2] R 1) 0 [(0, .inr (.inr (0, 0, 0)))] [] v =
  bN (F 0 v [.inr (.inr (0, 0, 0))]) (fun w1 q2 =>
    R 0 2 [(0, .inr (.inr (0, 0, 0)))] [.inr (.inr q2)] w1
  ) := rfl
set_option maxRecDepth 100000 in
set_option maxHeartbeats 200000 in
theorem eX6_sellPomace_2 (F : Nat → MF) (R : Nat → Nat → ML → List MV → MM → MR) (v : MM) (pg : Nat) : stp F cdX6_sellPomace (runH F cdX6_sellPomace [2] R 6) 2 [(0, .inr (.inr (0, 0, 0)))] [.inr (.inr (2, pg, 0))] v =
  bI (F 1 v [.inr (.inr (2, pg, 0))]) (fun w1 r2 =>
    bI (F 2 w1 [.inr (.inr (0, 0, 0)), .inr (.inr (2, pg, 0)), .inl r2]) (fun w3 r4 =>
      some (w3, some (.inl r4))
    )
  ) := rfl
set_option maxRecDepth 100000 in
set_option maxHeartbeats 200000 in
theorem eX6_move (F : Nat → MF) (R : Nat → Nat → ML → List MV → MM → MR) (v : MM) (x1 x2 x3 : Int32) : stp F cdX6_move (runH F cdX6_move [2] R 1) 0 [(0, .inr (.inr (0, 0, 0))), (1, .inl x1), (2, .inl x2), (3, .inl x3)] [] v =
  bN (F 0 v [.inr (.inr (0, 0, 0))]) (fun w1 q2 =>
    R 0 2 [(0, .inr (.inr (0, 0, 0))), (1, .inl x1), (2, .inl x2), (3, .inl x3)] [.inr (.inr q2)] w1
  ) := rfl
set_option maxRecDepth 100000 in
set_option maxHeartbeats 200000 in
theorem eX6_move_2 (F : Nat → MF) (R : Nat → Nat → ML → List MV → MM → MR) (v : MM) (pg : Nat) (x1 x2 x3 : Int32) : stp F cdX6_move (runH F cdX6_move [2] R 9) 2 [(0, .inr (.inr (0, 0, 0))), (1, .inl x1), (2, .inl x2), (3, .inl x3)] [.inr (.inr (2, pg, 0))] v =
  bI (F 1 v [.inr (.inr (2, pg, 0)), .inl x1, .inl x2, .inl x3]) (fun w1 r2 =>
    bI (F 2 w1 [.inr (.inr (0, 0, 0)), .inr (.inr (2, pg, 0)), .inl r2]) (fun w3 r4 =>
      some (w3, some (.inl r4))
    )
  ) := rfl
set_option maxRecDepth 100000 in
set_option maxHeartbeats 200000 in
theorem eX6_rack (F : Nat → MF) (R : Nat → Nat → ML → List MV → MM → MR) (v : MM) (x1 x2 : Int32) : stp F cdX6_rack (runH F cdX6_rack [2] R 1) 0 [(0, .inr (.inr (0, 0, 0))), (1, .inl x1), (2, .inl x2)] [] v =
  bN (F 0 v [.inr (.inr (0, 0, 0))]) (fun w1 q2 =>
    R 0 2 [(0, .inr (.inr (0, 0, 0))), (1, .inl x1), (2, .inl x2)] [.inr (.inr q2)] w1
  ) := rfl
set_option maxRecDepth 100000 in
set_option maxHeartbeats 200000 in
theorem eX6_rack_2 (F : Nat → MF) (R : Nat → Nat → ML → List MV → MM → MR) (v : MM) (pg : Nat) (x1 x2 : Int32) : stp F cdX6_rack (runH F cdX6_rack [2] R 8) 2 [(0, .inr (.inr (0, 0, 0))), (1, .inl x1), (2, .inl x2)] [.inr (.inr (2, pg, 0))] v =
  bI (F 1 v [.inr (.inr (2, pg, 0)), .inl x1, .inl x2]) (fun w1 r2 =>
    bI (F 2 w1 [.inr (.inr (0, 0, 0)), .inr (.inr (2, pg, 0)), .inl r2]) (fun w3 r4 =>
      some (w3, some (.inl r4))
    )
  ) := rfl
set_option maxRecDepth 100000 in
set_option maxHeartbeats 200000 in
theorem eX6_clean (F : Nat → MF) (R : Nat → Nat → ML → List MV → MM → MR) (v : MM) (x1 : Int32) : stp F cdX6_clean (runH F cdX6_clean [2] R 1) 0 [(0, .inr (.inr (0, 0, 0))), (1, .inl x1)] [] v =
  bN (F 0 v [.inr (.inr (0, 0, 0))]) (fun w1 q2 =>
    R 0 2 [(0, .inr (.inr (0, 0, 0))), (1, .inl x1)] [.inr (.inr q2)] w1
  ) := rfl
set_option maxRecDepth 100000 in
set_option maxHeartbeats 200000 in
theorem eX6_clean_2 (F : Nat → MF) (R : Nat → Nat → ML → List MV → MM → MR) (v : MM) (pg : Nat) (x1 : Int32) : stp F cdX6_clean (runH F cdX6_clean [2] R 7) 2 [(0, .inr (.inr (0, 0, 0))), (1, .inl x1)] [.inr (.inr (2, pg, 0))] v =
  bI (F 1 v [.inr (.inr (2, pg, 0)), .inl x1]) (fun w1 r2 =>
    bI (F 2 w1 [.inr (.inr (0, 0, 0)), .inr (.inr (2, pg, 0)), .inl r2]) (fun w3 r4 =>
      some (w3, some (.inl r4))
    )
  ) := rfl
set_option maxRecDepth 100000 in
set_option maxHeartbeats 200000 in
theorem eX6_pour (F : Nat → MF) (R : Nat → Nat → ML → List MV → MM → MR) (v : MM) (x1 : Int32) : stp F cdX6_pour (runH F cdX6_pour [2] R 1) 0 [(0, .inr (.inr (0, 0, 0))), (1, .inl x1)] [] v =
  bN (F 0 v [.inr (.inr (0, 0, 0))]) (fun w1 q2 =>
    R 0 2 [(0, .inr (.inr (0, 0, 0))), (1, .inl x1)] [.inr (.inr q2)] w1
  ) := rfl
set_option maxRecDepth 100000 in
set_option maxHeartbeats 200000 in
theorem eX6_pour_2 (F : Nat → MF) (R : Nat → Nat → ML → List MV → MM → MR) (v : MM) (pg : Nat) (x1 : Int32) : stp F cdX6_pour (runH F cdX6_pour [2] R 7) 2 [(0, .inr (.inr (0, 0, 0))), (1, .inl x1)] [.inr (.inr (2, pg, 0))] v =
  bI (F 1 v [.inr (.inr (2, pg, 0)), .inl x1]) (fun w1 r2 =>
    bI (F 2 w1 [.inr (.inr (0, 0, 0)), .inr (.inr (2, pg, 0)), .inl r2]) (fun w3 r4 =>
      some (w3, some (.inl r4))
    )
  ) := rfl
set_option maxRecDepth 100000 in
set_option maxHeartbeats 200000 in
theorem eX6_bottle (F : Nat → MF) (R : Nat → Nat → ML → List MV → MM → MR) (v : MM) (x1 x2 x3 x4 : Int32) : stp F cdX6_bottle (runH F cdX6_bottle [2] R 1) 0 [(0, .inr (.inr (0, 0, 0))), (1, .inl x1), (2, .inl x2), (3, .inl x3), (4, .inl x4)] [] v =
  bN (F 0 v [.inr (.inr (0, 0, 0))]) (fun w1 q2 =>
    R 0 2 [(0, .inr (.inr (0, 0, 0))), (1, .inl x1), (2, .inl x2), (3, .inl x3), (4, .inl x4)] [.inr (.inr q2)] w1
  ) := rfl
set_option maxRecDepth 100000 in
set_option maxHeartbeats 200000 in
theorem eX6_bottle_2 (F : Nat → MF) (R : Nat → Nat → ML → List MV → MM → MR) (v : MM) (pg : Nat) (x1 x2 x3 x4 : Int32) : stp F cdX6_bottle (runH F cdX6_bottle [2] R 10) 2 [(0, .inr (.inr (0, 0, 0))), (1, .inl x1), (2, .inl x2), (3, .inl x3), (4, .inl x4)] [.inr (.inr (2, pg, 0))] v =
  bI (F 1 v [.inr (.inr (2, pg, 0)), .inl x1, .inl x2, .inl x3, .inl x4]) (fun w1 r2 =>
    bI (F 2 w1 [.inr (.inr (0, 0, 0)), .inr (.inr (2, pg, 0)), .inl r2]) (fun w3 r4 =>
      some (w3, some (.inl r4))
    )
  ) := rfl
set_option maxRecDepth 100000 in
set_option maxHeartbeats 200000 in
theorem eX6_day (F : Nat → MF) (R : Nat → Nat → ML → List MV → MM → MR) (v : MM) : stp F cdX6_day (runH F cdX6_day [2] R 1) 0 [(0, .inr (.inr (0, 0, 0)))] [] v =
  bN (F 0 v [.inr (.inr (0, 0, 0))]) (fun w1 q2 =>
    R 0 2 [(0, .inr (.inr (0, 0, 0)))] [.inr (.inr q2)] w1
  ) := rfl
set_option maxRecDepth 100000 in
set_option maxHeartbeats 200000 in
theorem eX6_day_2 (F : Nat → MF) (R : Nat → Nat → ML → List MV → MM → MR) (v : MM) (pg : Nat) : stp F cdX6_day (runH F cdX6_day [2] R 6) 2 [(0, .inr (.inr (0, 0, 0)))] [.inr (.inr (2, pg, 0))] v =
  bI (F 1 v [.inr (.inr (2, pg, 0))]) (fun w1 r2 =>
    bI (F 2 w1 [.inr (.inr (0, 0, 0)), .inr (.inr (2, pg, 0)), .inl r2]) (fun w3 r4 =>
      some (w3, some (.inl r4))
    )
  ) := rfl
set_option maxRecDepth 100000 in
set_option maxHeartbeats 200000 in
theorem eX6_count (F : Nat → MF) (R : Nat → Nat → ML → List MV → MM → MR) (v : MM) (x1 : Int32) : stp F cdX6_count (runH F cdX6_count [2] R 1) 0 [(0, .inr (.inr (0, 0, 0))), (1, .inl x1)] [] v =
  bN (F 0 v [.inr (.inr (0, 0, 0))]) (fun w1 q2 =>
    R 0 2 [(0, .inr (.inr (0, 0, 0))), (1, .inl x1)] [.inr (.inr q2)] w1
  ) := rfl
set_option maxRecDepth 100000 in
set_option maxHeartbeats 200000 in
theorem eX6_count_2 (F : Nat → MF) (R : Nat → Nat → ML → List MV → MM → MR) (v : MM) (pg : Nat) (x1 : Int32) : stp F cdX6_count (runH F cdX6_count [2] R 6) 2 [(0, .inr (.inr (0, 0, 0))), (1, .inl x1)] [.inr (.inr (2, pg, 0))] v =
  if x1 = (0 : Int32) then
    some (v, some (.inl (v.1 pg 42)))
  else if x1 = (1 : Int32) then
    some (v, some (.inl (v.1 pg 59)))
  else if x1 = (2 : Int32) then
    some (v, some (.inl (v.1 pg 102)))
  else if x1 = (3 : Int32) then
    some (v, some (.inl (v.1 pg 103)))
  else if x1 = (4 : Int32) then
    some (v, some (.inl (v.1 12 5)))
  else if x1 = (5 : Int32) then
    some (v, some (.inl (v.1 9 1)))
  else if x1 = (6 : Int32) then
    some (v, some (.inl (v.1 12 4)))
  else if x1 = (7 : Int32) then
    some (v, some (.inl (v.1 pg 18)))
  else if x1 = (8 : Int32) then
    some (v, some (.inl (v.1 pg 19)))
  else if x1 = (9 : Int32) then
    some (v, some (.inl (v.1 pg 20)))
  else if x1 = (10 : Int32) then
    some (v, some (.inl (v.1 pg 21)))
  else
    some (v, some (.inl (-1 : Int32))) := rfl
set_option maxRecDepth 100000 in
set_option maxHeartbeats 200000 in
theorem eX6_lot (F : Nat → MF) (R : Nat → Nat → ML → List MV → MM → MR) (v : MM) (x1 x2 : Int32) : stp F cdX6_lot (runH F cdX6_lot [2] R 1) 0 [(0, .inr (.inr (0, 0, 0))), (1, .inl x1), (2, .inl x2)] [] v =
  bN (F 0 v [.inr (.inr (0, 0, 0))]) (fun w1 q2 =>
    R 0 2 [(0, .inr (.inr (0, 0, 0))), (1, .inl x1), (2, .inl x2)] [.inr (.inr q2)] w1
  ) := rfl
set_option maxRecDepth 100000 in
set_option maxHeartbeats 200000 in
theorem eX6_lot_2 (F : Nat → MF) (R : Nat → Nat → ML → List MV → MM → MR) (v : MM) (pg : Nat) (x1 x2 : Int32) : stp F cdX6_lot (runH F cdX6_lot [2] R 18) 2 [(0, .inr (.inr (0, 0, 0))), (1, .inl x1), (2, .inl x2)] [.inr (.inr (2, pg, 0))] v =
  bI (F 1 v [.inr (.inr (2, pg, 0)), .inl x1]) (fun w1 r2 =>
    if r2 = 0 then
      some (w1, some (.inl (-1 : Int32)))
    else
      bI (F 2 w1 [.inl x2, .inl (0 : Int32), .inl (1 : Int32)]) (fun w3 r4 =>
        if r4 = 0 then
          some (w3, some (.inl (-1 : Int32)))
        else
          if x2 = 0 then
            if mIn x1 8 then
            some (w3, some (.inl (w3.1 pg (43 + 2 * x1.toNatClampNeg + 0))))
            else none
          else
            if mIn x1 8 then
            some (w3, some (.inl (w3.1 pg (43 + 2 * x1.toNatClampNeg + 1))))
            else none
      )
  ) := rfl
set_option maxRecDepth 100000 in
set_option maxHeartbeats 200000 in
theorem eX6_tank (F : Nat → MF) (R : Nat → Nat → ML → List MV → MM → MR) (v : MM) (x1 x2 : Int32) : stp F cdX6_tank (runH F cdX6_tank [2] R 1) 0 [(0, .inr (.inr (0, 0, 0))), (1, .inl x1), (2, .inl x2)] [] v =
  bN (F 0 v [.inr (.inr (0, 0, 0))]) (fun w1 q2 =>
    R 0 2 [(0, .inr (.inr (0, 0, 0))), (1, .inl x1), (2, .inl x2)] [.inr (.inr q2)] w1
  ) := rfl
set_option maxRecDepth 100000 in
set_option maxHeartbeats 200000 in
theorem eX6_tank_2 (F : Nat → MF) (R : Nat → Nat → ML → List MV → MM → MR) (v : MM) (pg : Nat) (x1 x2 : Int32) : stp F cdX6_tank (runH F cdX6_tank [2] R 16) 2 [(0, .inr (.inr (0, 0, 0))), (1, .inl x1), (2, .inl x2)] [.inr (.inr (2, pg, 0))] v =
  bI (F 1 v [.inr (.inr (2, pg, 0)), .inl x1]) (fun w1 r2 =>
    if r2 = 0 then
      some (w1, some (.inl (-1 : Int32)))
    else
      bI (F 2 w1 [.inl x2, .inl (0 : Int32), .inl (7 : Int32)]) (fun w3 r4 =>
        if r4 = 0 then
          some (w3, some (.inl (-1 : Int32)))
        else
          if mIn x1 6 then
          bI (F 3 w3 [.inr (.inr (12, pg, x1.toNatClampNeg)), .inl x2]) (fun w5 r6 =>
            some (w5, some (.inl r6))
          )
          else none
      )
  ) := rfl
set_option maxRecDepth 100000 in
set_option maxHeartbeats 200000 in
theorem eX6_account (F : Nat → MF) (R : Nat → Nat → ML → List MV → MM → MR) (v : MM) (x1 : Int32) : stp F cdX6_account (runH F cdX6_account [2] R 1) 0 [(0, .inr (.inr (0, 0, 0))), (1, .inl x1)] [] v =
  bN (F 0 v [.inr (.inr (0, 0, 0))]) (fun w1 q2 =>
    R 0 2 [(0, .inr (.inr (0, 0, 0))), (1, .inl x1)] [.inr (.inr q2)] w1
  ) := rfl
set_option maxRecDepth 100000 in
set_option maxHeartbeats 200000 in
theorem eX6_account_2 (F : Nat → MF) (R : Nat → Nat → ML → List MV → MM → MR) (v : MM) (pg : Nat) (x1 : Int32) : stp F cdX6_account (runH F cdX6_account [2] R 2) 2 [(0, .inr (.inr (0, 0, 0))), (1, .inl x1)] [.inr (.inr (2, pg, 0))] v =
  bI (F 1 v [.inr (.inr (2, pg, 0)), .inl x1]) (fun w1 r2 =>
    some (w1, some (.inl r2))
  ) := rfl
set_option maxRecDepth 100000 in
set_option maxHeartbeats 200000 in
theorem eX6_bottles (F : Nat → MF) (R : Nat → Nat → ML → List MV → MM → MR) (v : MM) (x1 x2 : Int32) : stp F cdX6_bottles (runH F cdX6_bottles [14] R 11) 0 [(0, .inr (.inr (0, 0, 0))), (1, .inl x1), (2, .inl x2)] [] v =
  bI (F 0 v [.inl x1, .inl (0 : Int32), .inl (3 : Int32)]) (fun w1 r2 =>
    if r2 = 0 then
      some (w1, some (.inl (-1 : Int32)))
    else
      bI (F 0 w1 [.inl x2, .inl (0 : Int32), .inl (10 : Int32)]) (fun w3 r4 =>
        if r4 = 0 then
          some (w3, some (.inl (-1 : Int32)))
        else
          bN (F 1 w3 [.inr (.inr (0, 0, 0))]) (fun w5 q6 =>
            R 0 14 [(0, .inr (.inr (0, 0, 0))), (1, .inl x1), (2, .inl x2)] [.inr (.inr q6)] w5
          )
      )
  ) := rfl
set_option maxRecDepth 100000 in
set_option maxHeartbeats 200000 in
theorem eX6_bottles_14 (F : Nat → MF) (R : Nat → Nat → ML → List MV → MM → MR) (v : MM) (pg : Nat) (x1 x2 : Int32) : stp F cdX6_bottles (runH F cdX6_bottles [14] R 6) 14 [(0, .inr (.inr (0, 0, 0))), (1, .inl x1), (2, .inl x2)] [.inr (.inr (2, pg, 0))] v =
  if mIn x1 4 then
  if mIn x2 11 then
  some (v, some (.inl (v.1 pg (if x2.toNatClampNeg = 0 then 151 + x1.toNatClampNeg else 110 + 10 * x1.toNatClampNeg + x2.toNatClampNeg))))
  else none
  else none := rfl
set_option maxRecDepth 100000 in
set_option maxHeartbeats 200000 in
theorem eX6_undo (F : Nat → MF) (R : Nat → Nat → ML → List MV → MM → MR) (v : MM) : stp F cdX6_undo (runH F cdX6_undo [] R 21) 0 [(0, .inr (.inr (0, 0, 0)))] [] v =
  if 0 < (v.1 12 4) then
    let w1 : MM := mUp v (12, 3) ((((v.1 12 3) + (8 : Int32)) - (1 : Int32)) - (((v.1 12 3) + (8 : Int32)) - (1 : Int32)) / (8 : Int32) * (8 : Int32))
    let w2 : MM := mUp w1 (12, 4) ((w1.1 12 4) - (1 : Int32))
    some (w2, some (.inl (w2.1 12 4)))
  else
    some (v, some (.inl (-2 : Int32))) := rfl
