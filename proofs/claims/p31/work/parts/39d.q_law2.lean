-- THE LAW: its code from the loop on, and the equations of its runs (by program: wip/p31/gen/lawgen2.py)
def cdL_law : List MI := [(200, 0, 0, 0, 0, 0, []), (200, 0, 0, 0, 0, 0, []), (200, 0, 0, 0, 0, 0, []), (200, 0, 0, 0, 0, 0, []), (200, 0, 0, 0, 0, 0, []), (200, 0, 0, 0, 0, 0, []), (200, 0, 0, 0, 0, 0, []), (200, 0, 0, 0, 0, 0, []), (0, 0, 0, 0, 0, 0, []), (9, 2, 0, 0, 0, 0, []), (0, 0, 0, 0, 0, 0, []), (9, 3, 0, 0, 0, 0, []), (6, 3, 0, 0, 0, 0, []), (1, 0, 0, 0, 44, 0, []), (25, 198, 3, 0, 0, 0, []), (8, 0, 0, 0, 0, 0, []), (6, 3, 0, 0, 0, 0, []), (40, 93, 0, 2, 0, 0, []), (9, 4, 0, 1, 0, 0, []), (8, 1, 0, 0, 0, 0, []), (43, 97, 1, 1, 0, 0, []), (44, 5, 0, 1, 0, 0, []), (8, 1, 0, 0, 0, 0, []), (0, 0, 0, 0, 4, 0, []), (40, 20, 2, 2, 0, 0, [(0, 6)]), (9, 7, 0, 1, 0, 0, []), (8, 1, 0, 0, 0, 0, []), (6, 4, 0, 1, 0, 0, []), (40, 101, 3, 2, 0, 0, []), (9, 8, 0, 1, 0, 0, []), (6, 8, 0, 1, 0, 0, []), (24, 39, 3, 0, 0, 0, []), (8, 1, 0, 0, 0, 0, []), (43, 97, 1, 1, 0, 0, []), (7, 5, 0, 1, 0, 0, []), (20, 0, 0, 0, 0, 0, []), (24, 39, 0, 0, 0, 0, []), (0, 0, 0, 0, 0, 0, []), (51, 0, 0, 0, 0, 0, []), (6, 8, 0, 1, 0, 0, []), (24, 45, 2, 0, 0, 0, []), (8, 1, 0, 0, 0, 0, []), (0, 0, 0, 0, 4, 0, []), (40, 20, 2, 2, 0, 0, [(0, 6)]), (24, 62, 1, 0, 0, 0, []), (6, 8, 0, 1, 0, 0, []), (24, 55, 3, 0, 0, 0, []), (6, 8, 0, 1, 0, 0, []), (1, 0, 0, 0, (-2), 0, []), (25, 55, 0, 0, 0, 0, []), (8, 1, 0, 0, 0, 0, []), (0, 0, 0, 0, 4, 0, []), (40, 20, 2, 2, 0, 0, [(0, 6)]), (6, 7, 0, 1, 0, 0, []), (25, 62, 1, 0, 0, 0, []), (6, 8, 0, 1, 0, 0, []), (1, 0, 0, 0, (-2), 0, []), (25, 64, 1, 0, 0, 0, []), (8, 1, 0, 0, 0, 0, []), (0, 0, 0, 0, 4, 0, []), (40, 20, 2, 2, 0, 0, [(0, 6)]), (24, 64, 1, 0, 0, 0, []), (0, 0, 0, 0, 0, 0, []), (51, 0, 0, 0, 0, 0, []), (6, 8, 0, 1, 0, 0, []), (24, 68, 3, 0, 0, 0, []), (6, 2, 0, 0, 0, 0, []), (26, 76, 0, 0, 0, 0, []), (6, 2, 0, 0, 0, 0, []), (1, 0, 0, 0, 6, 0, []), (25, 75, 3, 0, 0, 0, []), (6, 2, 0, 0, 0, 0, []), (0, 0, 0, 0, 1, 0, []), (12, 0, 0, 0, 0, 0, []), (26, 76, 0, 0, 0, 0, []), (1, 0, 0, 0, 6, 0, []), (9, 2, 0, 0, 0, 0, []), (6, 8, 0, 1, 0, 0, []), (24, 103, 2, 0, 0, 0, []), (6, 4, 0, 1, 0, 0, []), (1, 0, 0, 0, 28, 0, []), (12, 0, 4, 0, 0, 0, []), (0, 0, 0, 0, 3, 0, []), (12, 0, 3, 0, 0, 0, []), (24, 103, 1, 0, 0, 0, []), (8, 1, 0, 0, 0, 0, []), (40, 105, 4, 1, 0, 0, [(0, 6)]), (6, 2, 0, 0, 0, 0, []), (0, 0, 0, 0, 1, 0, []), (12, 0, 1, 0, 0, 0, []), (25, 100, 1, 0, 0, 0, []), (8, 1, 0, 0, 0, 0, []), (43, 97, 1, 1, 0, 0, []), (7, 5, 0, 1, 0, 0, []), (20, 0, 0, 0, 0, 0, []), (24, 100, 1, 0, 0, 0, []), (8, 1, 0, 0, 0, 0, []), (0, 0, 0, 0, 4, 0, []), (40, 20, 2, 2, 0, 0, [(0, 6)]), (24, 102, 0, 0, 0, 0, []), (0, 0, 0, 0, 0, 0, []), (51, 0, 0, 0, 0, 0, []), (11, 2, 0, 0, (-1), 0, []), (8, 1, 0, 0, 0, 0, []), (1, 0, 0, 0, 6, 0, []), (40, 20, 2, 2, 0, 0, [(0, 6)]), (6, 2, 0, 0, 0, 0, []), (25, 110, 0, 0, 0, 0, []), (0, 0, 0, 0, 0, 0, []), (51, 0, 0, 0, 0, 0, []), (0, 0, 0, 0, 0, 0, []), (9, 9, 0, 1, 0, 0, []), (0, 0, 0, 0, 2, 0, []), (9, 10, 0, 1, 0, 0, []), (6, 10, 0, 1, 0, 0, []), (1, 0, 0, 0, 11, 0, []), (25, 125, 3, 0, 0, 0, []), (6, 9, 0, 1, 0, 0, []), (8, 1, 0, 0, 0, 0, []), (6, 10, 0, 1, 0, 0, []), (40, 12, 5, 2, 0, 0, [(0, 6)]), (12, 0, 0, 0, 0, 0, []), (9, 9, 0, 1, 0, 0, []), (11, 10, 0, 0, 1, 0, []), (26, 114, 0, 0, 0, 0, []), (8, 1, 0, 0, 0, 0, []), (0, 0, 0, 0, 0, 0, []), (40, 12, 5, 2, 0, 0, [(0, 6)]), (8, 1, 0, 0, 0, 0, []), (0, 0, 0, 0, 1, 0, []), (40, 12, 5, 2, 0, 0, [(0, 6)]), (12, 0, 0, 0, 0, 0, []), (6, 9, 0, 1, 0, 0, []), (25, 141, 1, 0, 0, 0, []), (8, 1, 0, 0, 0, 0, []), (1, 0, 0, 0, 8, 0, []), (40, 12, 5, 2, 0, 0, [(0, 6)]), (8, 1, 0, 0, 0, 0, []), (0, 0, 0, 0, 2, 0, []), (40, 20, 2, 2, 0, 0, [(0, 6)]), (25, 143, 0, 0, 0, 0, []), (0, 0, 0, 0, 0, 0, []), (51, 0, 0, 0, 0, 0, []), (0, 0, 0, 0, 0, 0, []), (9, 10, 0, 1, 0, 0, []), (6, 10, 0, 1, 0, 0, []), (8, 1, 0, 0, 0, 0, []), (0, 0, 0, 0, 1, 0, []), (40, 20, 2, 2, 0, 0, [(0, 6)]), (25, 196, 3, 0, 0, 0, []), (0, 0, 0, 0, 1, 0, []), (9, 11, 0, 1, 0, 0, []), (6, 11, 0, 1, 0, 0, []), (1, 0, 0, 0, 8, 0, []), (25, 164, 3, 0, 0, 0, []), (8, 1, 0, 0, 0, 0, []), (6, 10, 0, 1, 0, 0, []), (6, 11, 0, 1, 0, 0, []), (40, 25, 6, 3, 0, 0, [(0, 6)]), (24, 162, 3, 0, 0, 0, []), (0, 0, 0, 0, 0, 0, []), (51, 0, 0, 0, 0, 0, []), (11, 11, 0, 0, 1, 0, []), (26, 152, 0, 0, 0, 0, []), (8, 1, 0, 0, 0, 0, []), (6, 10, 0, 1, 0, 0, []), (0, 0, 0, 0, 1, 0, []), (40, 25, 6, 3, 0, 0, [(0, 6)]), (8, 1, 0, 0, 0, 0, []), (6, 10, 0, 1, 0, 0, []), (0, 0, 0, 0, 5, 0, []), (40, 25, 6, 3, 0, 0, [(0, 6)]), (12, 0, 0, 0, 0, 0, []), (8, 1, 0, 0, 0, 0, []), (6, 10, 0, 1, 0, 0, []), (1, 0, 0, 0, 7, 0, []), (40, 25, 6, 3, 0, 0, [(0, 6)]), (12, 0, 0, 0, 0, 0, []), (8, 1, 0, 0, 0, 0, []), (6, 10, 0, 1, 0, 0, []), (0, 0, 0, 0, 0, 0, []), (40, 25, 6, 3, 0, 0, [(0, 6)]), (25, 192, 1, 0, 0, 0, []), (8, 1, 0, 0, 0, 0, []), (6, 10, 0, 1, 0, 0, []), (0, 0, 0, 0, 4, 0, []), (40, 25, 6, 3, 0, 0, [(0, 6)]), (8, 1, 0, 0, 0, 0, []), (6, 10, 0, 1, 0, 0, []), (0, 0, 0, 0, 1, 0, []), (40, 25, 6, 3, 0, 0, [(0, 6)]), (25, 194, 5, 0, 0, 0, []), (0, 0, 0, 0, 0, 0, []), (51, 0, 0, 0, 0, 0, []), (11, 10, 0, 0, 1, 0, []), (26, 145, 0, 0, 0, 0, []), (11, 3, 0, 0, 1, 0, []), (26, 12, 0, 0, 0, 0, []), (8, 1, 0, 0, 0, 0, []), (40, 105, 4, 1, 0, 0, [(0, 6)]), (6, 2, 0, 0, 0, 0, []), (24, 204, 1, 0, 0, 0, []), (1, 0, 0, 0, (-2), 0, []), (26, 207, 0, 0, 0, 0, []), (6, 2, 0, 0, 0, 0, []), (0, 0, 0, 0, 1, 0, []), (12, 0, 1, 0, 0, 0, []), (25, 210, 1, 0, 0, 0, []), (0, 0, 0, 0, 1, 0, []), (26, 211, 0, 0, 0, 0, []), (0, 0, 0, 0, 0, 0, []), (51, 0, 0, 0, 0, 0, [])]
noncomputable def FL_law (S : MSc) : Nat → MF := fun k => match k with
  | 0 => fL_cell S
  | 1 => fL_tale
  | 2 => fX6_count
  | 3 => fL_does
  | 4 => fX6_undo
  | 5 => fX6_account
  | 6 => fX6_tank
  | _ => fun _ _ => none
set_option maxRecDepth 100000 in
set_option maxHeartbeats 400000 in
theorem eL_law_12 (F : Nat → MF) (R : Nat → Nat → ML → List MV → MM → MR) (v : MM) (e sv : Int32) : stp F cdL_law (runH F cdL_law [12, 39, 64, 77, 103, 114, 125, 145, 152, 164, 196, 198] R 26) 12 [(3, .inl e), (2, .inl sv), (1, .inr (.inr (0, 0, 0))), (0, .inr (.inr (22, 0, 0)))] [] v =
  if e < (44 : Int32) then
    bI (F 0 v [.inr (.inr (22, 0, 0)), .inl e]) (fun w1 r2 =>
      bL (F 1 w1 [.inr (.inr (0, 0, 0))]) (fun w3 r4 =>
        bI (F 2 w3 [.inr (.inr (0, 0, 0)), .inl (4 : Int32)]) (fun w5 r6 =>
          bI (F 3 w5 [.inr (.inr (0, 0, 0)), .inl r2]) (fun w7 r8 =>
            if r8 < 0 then
              bL (F 1 w7 [.inr (.inr (0, 0, 0))]) (fun w9 r10 =>
                if (lg_cmp r10 r4) = 0 then
                  R 2 39 [(8, .inl r8), (7, .inl r6), (5, .inr (.inl r4)), (4, .inl r2), (3, .inl e), (2, .inl sv), (1, .inr (.inr (0, 0, 0))), (0, .inr (.inr (22, 0, 0)))] [] w9
                else
                  some (w9, some (.inl (0 : Int32)))
              )
            else
              R 7 39 [(8, .inl r8), (7, .inl r6), (5, .inr (.inl r4)), (4, .inl r2), (3, .inl e), (2, .inl sv), (1, .inr (.inr (0, 0, 0))), (0, .inr (.inr (22, 0, 0)))] [] w7
          )
        )
      )
    )
  else
    R 24 198 [(3, .inl e), (2, .inl sv), (1, .inr (.inr (0, 0, 0))), (0, .inr (.inr (22, 0, 0)))] [] v := rfl
set_option maxRecDepth 100000 in
set_option maxHeartbeats 400000 in
theorem eL_law_39 (F : Nat → MF) (R : Nat → Nat → ML → List MV → MM → MR) (v : MM) (got rs w e sv : Int32) (z : Int64) : stp F cdL_law (runH F cdL_law [12, 39, 64, 77, 103, 114, 125, 145, 152, 164, 196, 198] R 24) 39 [(8, .inl got), (7, .inl rs), (5, .inr (.inl z)), (4, .inl w), (3, .inl e), (2, .inl sv), (1, .inr (.inr (0, 0, 0))), (0, .inr (.inr (22, 0, 0)))] [] v =
  if got < 0 then
    if got < 0 then
      if got = (-2 : Int32) then
        if got = (-2 : Int32) then
          bI (F 2 v [.inr (.inr (0, 0, 0)), .inl (4 : Int32)]) (fun w1 r2 =>
            if r2 = 0 then
              some (w1, some (.inl (0 : Int32)))
            else
              R 11 64 [(8, .inl got), (7, .inl rs), (5, .inr (.inl z)), (4, .inl w), (3, .inl e), (2, .inl sv), (1, .inr (.inr (0, 0, 0))), (0, .inr (.inr (22, 0, 0)))] [] w1
          )
        else
          R 15 64 [(8, .inl got), (7, .inl rs), (5, .inr (.inl z)), (4, .inl w), (3, .inl e), (2, .inl sv), (1, .inr (.inr (0, 0, 0))), (0, .inr (.inr (22, 0, 0)))] [] v
      else
        bI (F 2 v [.inr (.inr (0, 0, 0)), .inl (4 : Int32)]) (fun w3 r4 =>
          if r4 = rs then
            if got = (-2 : Int32) then
              bI (F 2 w3 [.inr (.inr (0, 0, 0)), .inl (4 : Int32)]) (fun w5 r6 =>
                if r6 = 0 then
                  some (w5, some (.inl (0 : Int32)))
                else
                  R 6 64 [(8, .inl got), (7, .inl rs), (5, .inr (.inl z)), (4, .inl w), (3, .inl e), (2, .inl sv), (1, .inr (.inr (0, 0, 0))), (0, .inr (.inr (22, 0, 0)))] [] w5
              )
            else
              R 10 64 [(8, .inl got), (7, .inl rs), (5, .inr (.inl z)), (4, .inl w), (3, .inl e), (2, .inl sv), (1, .inr (.inr (0, 0, 0))), (0, .inr (.inr (22, 0, 0)))] [] w3
          else
            some (w3, some (.inl (0 : Int32)))
        )
    else
      if got = (-2 : Int32) then
        bI (F 2 v [.inr (.inr (0, 0, 0)), .inl (4 : Int32)]) (fun w7 r8 =>
          if r8 = 0 then
            some (w7, some (.inl (0 : Int32)))
          else
            R 14 64 [(8, .inl got), (7, .inl rs), (5, .inr (.inl z)), (4, .inl w), (3, .inl e), (2, .inl sv), (1, .inr (.inr (0, 0, 0))), (0, .inr (.inr (22, 0, 0)))] [] w7
        )
      else
        R 18 64 [(8, .inl got), (7, .inl rs), (5, .inr (.inl z)), (4, .inl w), (3, .inl e), (2, .inl sv), (1, .inr (.inr (0, 0, 0))), (0, .inr (.inr (22, 0, 0)))] [] v
  else
    bI (F 2 v [.inr (.inr (0, 0, 0)), .inl (4 : Int32)]) (fun w9 r10 =>
      if r10 = 0 then
        if got < 0 then
          if got = (-2 : Int32) then
            if got = (-2 : Int32) then
              bI (F 2 w9 [.inr (.inr (0, 0, 0)), .inl (4 : Int32)]) (fun w11 r12 =>
                if r12 = 0 then
                  some (w11, some (.inl (0 : Int32)))
                else
                  R 7 64 [(8, .inl got), (7, .inl rs), (5, .inr (.inl z)), (4, .inl w), (3, .inl e), (2, .inl sv), (1, .inr (.inr (0, 0, 0))), (0, .inr (.inr (22, 0, 0)))] [] w11
              )
            else
              R 11 64 [(8, .inl got), (7, .inl rs), (5, .inr (.inl z)), (4, .inl w), (3, .inl e), (2, .inl sv), (1, .inr (.inr (0, 0, 0))), (0, .inr (.inr (22, 0, 0)))] [] w9
          else
            bI (F 2 w9 [.inr (.inr (0, 0, 0)), .inl (4 : Int32)]) (fun w13 r14 =>
              if r14 = rs then
                if got = (-2 : Int32) then
                  bI (F 2 w13 [.inr (.inr (0, 0, 0)), .inl (4 : Int32)]) (fun w15 r16 =>
                    if r16 = 0 then
                      some (w15, some (.inl (0 : Int32)))
                    else
                      R 2 64 [(8, .inl got), (7, .inl rs), (5, .inr (.inl z)), (4, .inl w), (3, .inl e), (2, .inl sv), (1, .inr (.inr (0, 0, 0))), (0, .inr (.inr (22, 0, 0)))] [] w15
                  )
                else
                  R 6 64 [(8, .inl got), (7, .inl rs), (5, .inr (.inl z)), (4, .inl w), (3, .inl e), (2, .inl sv), (1, .inr (.inr (0, 0, 0))), (0, .inr (.inr (22, 0, 0)))] [] w13
              else
                some (w13, some (.inl (0 : Int32)))
            )
        else
          if got = (-2 : Int32) then
            bI (F 2 w9 [.inr (.inr (0, 0, 0)), .inl (4 : Int32)]) (fun w17 r18 =>
              if r18 = 0 then
                some (w17, some (.inl (0 : Int32)))
              else
                R 10 64 [(8, .inl got), (7, .inl rs), (5, .inr (.inl z)), (4, .inl w), (3, .inl e), (2, .inl sv), (1, .inr (.inr (0, 0, 0))), (0, .inr (.inr (22, 0, 0)))] [] w17
            )
          else
            R 14 64 [(8, .inl got), (7, .inl rs), (5, .inr (.inl z)), (4, .inl w), (3, .inl e), (2, .inl sv), (1, .inr (.inr (0, 0, 0))), (0, .inr (.inr (22, 0, 0)))] [] w9
      else
        some (w9, some (.inl (0 : Int32)))
    ) := rfl
set_option maxRecDepth 100000 in
set_option maxHeartbeats 400000 in
theorem eL_law_64 (F : Nat → MF) (R : Nat → Nat → ML → List MV → MM → MR) (v : MM) (got w e sv : Int32) (z : Int64) : stp F cdL_law (runH F cdL_law [12, 39, 64, 77, 103, 114, 125, 145, 152, 164, 196, 198] R 9) 64 [(8, .inl got), (5, .inr (.inl z)), (4, .inl w), (3, .inl e), (2, .inl sv), (1, .inr (.inr (0, 0, 0))), (0, .inr (.inr (22, 0, 0)))] [] v =
  if got < 0 then
    R 5 77 [(2, .inl sv), (8, .inl got), (5, .inr (.inl z)), (4, .inl w), (3, .inl e), (1, .inr (.inr (0, 0, 0))), (0, .inr (.inr (22, 0, 0)))] [] v
  else
    if sv < (6 : Int32) then
      R 0 77 [(2, .inl (sv + (1 : Int32))), (8, .inl got), (5, .inr (.inl z)), (4, .inl w), (3, .inl e), (1, .inr (.inr (0, 0, 0))), (0, .inr (.inr (22, 0, 0)))] [] v
    else
      R 3 77 [(2, .inl (6 : Int32)), (8, .inl got), (5, .inr (.inl z)), (4, .inl w), (3, .inl e), (1, .inr (.inr (0, 0, 0))), (0, .inr (.inr (22, 0, 0)))] [] v := rfl
set_option maxRecDepth 100000 in
set_option maxHeartbeats 400000 in
theorem eL_law_77 (F : Nat → MF) (R : Nat → Nat → ML → List MV → MM → MR) (v : MM) (got w e sv : Int32) (z : Int64) : stp F cdL_law (runH F cdL_law [12, 39, 64, 77, 103, 114, 125, 145, 152, 164, 196, 198] R 24) 77 [(8, .inl got), (5, .inr (.inl z)), (4, .inl w), (3, .inl e), (2, .inl sv), (1, .inr (.inr (0, 0, 0))), (0, .inr (.inr (22, 0, 0)))] [] v =
  if got < 0 then
    R 23 103 [(8, .inl got), (5, .inr (.inl z)), (4, .inl w), (3, .inl e), (2, .inl sv), (1, .inr (.inr (0, 0, 0))), (0, .inr (.inr (22, 0, 0)))] [] v
  else
    if ((w >>> ((28 : Int32) &&& 31)) &&& (3 : Int32)) = 0 then
      bI (F 4 v [.inr (.inr (0, 0, 0))]) (fun w1 r2 =>
        if r2 = (sv - (1 : Int32)) then
          bL (F 1 w1 [.inr (.inr (0, 0, 0))]) (fun w3 r4 =>
            if (lg_cmp r4 z) = 0 then
              bI (F 2 w3 [.inr (.inr (0, 0, 0)), .inl (4 : Int32)]) (fun w5 r6 =>
                if r6 = 0 then
                  R 1 103 [(2, .inl (sv + (-1 : Int32))), (8, .inl got), (5, .inr (.inl z)), (4, .inl w), (3, .inl e), (1, .inr (.inr (0, 0, 0))), (0, .inr (.inr (22, 0, 0)))] [] w5
                else
                  some (w5, some (.inl (0 : Int32)))
              )
            else
              some (w3, some (.inl (0 : Int32)))
          )
        else
          some (w1, some (.inl (0 : Int32)))
      )
    else
      R 17 103 [(8, .inl got), (5, .inr (.inl z)), (4, .inl w), (3, .inl e), (2, .inl sv), (1, .inr (.inr (0, 0, 0))), (0, .inr (.inr (22, 0, 0)))] [] v := rfl
set_option maxRecDepth 100000 in
set_option maxHeartbeats 400000 in
theorem eL_law_103 (F : Nat → MF) (R : Nat → Nat → ML → List MV → MM → MR) (v : MM) (e sv : Int32) : stp F cdL_law (runH F cdL_law [12, 39, 64, 77, 103, 114, 125, 145, 152, 164, 196, 198] R 8) 103 [(3, .inl e), (2, .inl sv), (1, .inr (.inr (0, 0, 0))), (0, .inr (.inr (22, 0, 0)))] [] v =
  bI (F 2 v [.inr (.inr (0, 0, 0)), .inl (6 : Int32)]) (fun w1 r2 =>
    if r2 = sv then
      R 0 114 [(10, .inl (2 : Int32)), (9, .inl (0 : Int32)), (3, .inl e), (2, .inl sv), (1, .inr (.inr (0, 0, 0))), (0, .inr (.inr (22, 0, 0)))] [] w1
    else
      some (w1, some (.inl (0 : Int32)))
  ) := rfl
set_option maxRecDepth 100000 in
set_option maxHeartbeats 400000 in
theorem eL_law_114 (F : Nat → MF) (R : Nat → Nat → ML → List MV → MM → MR) (v : MM) (t gone e sv : Int32) : stp F cdL_law (runH F cdL_law [12, 39, 64, 77, 103, 114, 125, 145, 152, 164, 196, 198] R 10) 114 [(10, .inl t), (9, .inl gone), (3, .inl e), (2, .inl sv), (1, .inr (.inr (0, 0, 0))), (0, .inr (.inr (22, 0, 0)))] [] v =
  if t < (11 : Int32) then
    bI (F 5 v [.inr (.inr (0, 0, 0)), .inl t]) (fun w1 r2 =>
      R 0 114 [(10, .inl (t + (1 : Int32))), (9, .inl (gone + r2)), (3, .inl e), (2, .inl sv), (1, .inr (.inr (0, 0, 0))), (0, .inr (.inr (22, 0, 0)))] [] w1
    )
  else
    R 8 125 [(10, .inl t), (9, .inl gone), (3, .inl e), (2, .inl sv), (1, .inr (.inr (0, 0, 0))), (0, .inr (.inr (22, 0, 0)))] [] v := rfl
set_option maxRecDepth 100000 in
set_option maxHeartbeats 400000 in
theorem eL_law_125 (F : Nat → MF) (R : Nat → Nat → ML → List MV → MM → MR) (v : MM) (gone e sv : Int32) : stp F cdL_law (runH F cdL_law [12, 39, 64, 77, 103, 114, 125, 145, 152, 164, 196, 198] R 17) 125 [(9, .inl gone), (3, .inl e), (2, .inl sv), (1, .inr (.inr (0, 0, 0))), (0, .inr (.inr (22, 0, 0)))] [] v =
  bI (F 5 v [.inr (.inr (0, 0, 0)), .inl (0 : Int32)]) (fun w1 r2 =>
    bI (F 5 w1 [.inr (.inr (0, 0, 0)), .inl (1 : Int32)]) (fun w3 r4 =>
      if (r2 + r4) = gone then
        bI (F 5 w3 [.inr (.inr (0, 0, 0)), .inl (8 : Int32)]) (fun w5 r6 =>
          bI (F 2 w5 [.inr (.inr (0, 0, 0)), .inl (2 : Int32)]) (fun w7 r8 =>
            if r6 = r8 then
              R 0 145 [(10, .inl (0 : Int32)), (9, .inl gone), (3, .inl e), (2, .inl sv), (1, .inr (.inr (0, 0, 0))), (0, .inr (.inr (22, 0, 0)))] [] w7
            else
              some (w7, some (.inl (0 : Int32)))
          )
        )
      else
        some (w3, some (.inl (0 : Int32)))
    )
  ) := rfl
set_option maxRecDepth 100000 in
set_option maxHeartbeats 400000 in
theorem eL_law_145 (F : Nat → MF) (R : Nat → Nat → ML → List MV → MM → MR) (v : MM) (t e sv : Int32) : stp F cdL_law (runH F cdL_law [12, 39, 64, 77, 103, 114, 125, 145, 152, 164, 196, 198] R 6) 145 [(10, .inl t), (3, .inl e), (2, .inl sv), (1, .inr (.inr (0, 0, 0))), (0, .inr (.inr (22, 0, 0)))] [] v =
  bI (F 2 v [.inr (.inr (0, 0, 0)), .inl (1 : Int32)]) (fun w1 r2 =>
    if t < r2 then
      R 0 152 [(11, .inl (1 : Int32)), (10, .inl t), (3, .inl e), (2, .inl sv), (1, .inr (.inr (0, 0, 0))), (0, .inr (.inr (22, 0, 0)))] [] w1
    else
      R 2 196 [(10, .inl t), (3, .inl e), (2, .inl sv), (1, .inr (.inr (0, 0, 0))), (0, .inr (.inr (22, 0, 0)))] [] w1
  ) := rfl
set_option maxRecDepth 100000 in
set_option maxHeartbeats 400000 in
theorem eL_law_152 (F : Nat → MF) (R : Nat → Nat → ML → List MV → MM → MR) (v : MM) (k t e sv : Int32) : stp F cdL_law (runH F cdL_law [12, 39, 64, 77, 103, 114, 125, 145, 152, 164, 196, 198] R 9) 152 [(11, .inl k), (10, .inl t), (3, .inl e), (2, .inl sv), (1, .inr (.inr (0, 0, 0))), (0, .inr (.inr (22, 0, 0)))] [] v =
  if k < (8 : Int32) then
    bI (F 6 v [.inr (.inr (0, 0, 0)), .inl t, .inl k]) (fun w1 r2 =>
      if r2 < 0 then
        some (w1, some (.inl (0 : Int32)))
      else
        R 0 152 [(11, .inl (k + (1 : Int32))), (10, .inl t), (3, .inl e), (2, .inl sv), (1, .inr (.inr (0, 0, 0))), (0, .inr (.inr (22, 0, 0)))] [] w1
    )
  else
    R 7 164 [(11, .inl k), (10, .inl t), (3, .inl e), (2, .inl sv), (1, .inr (.inr (0, 0, 0))), (0, .inr (.inr (22, 0, 0)))] [] v := rfl
set_option maxRecDepth 100000 in
set_option maxHeartbeats 400000 in
theorem eL_law_164 (F : Nat → MF) (R : Nat → Nat → ML → List MV → MM → MR) (v : MM) (t e sv : Int32) : stp F cdL_law (runH F cdL_law [12, 39, 64, 77, 103, 114, 125, 145, 152, 164, 196, 198] R 29) 164 [(10, .inl t), (3, .inl e), (2, .inl sv), (1, .inr (.inr (0, 0, 0))), (0, .inr (.inr (22, 0, 0)))] [] v =
  bI (F 6 v [.inr (.inr (0, 0, 0)), .inl t, .inl (1 : Int32)]) (fun w1 r2 =>
    bI (F 6 w1 [.inr (.inr (0, 0, 0)), .inl t, .inl (5 : Int32)]) (fun w3 r4 =>
      bI (F 6 w3 [.inr (.inr (0, 0, 0)), .inl t, .inl (7 : Int32)]) (fun w5 r6 =>
        bI (F 6 w5 [.inr (.inr (0, 0, 0)), .inl t, .inl (0 : Int32)]) (fun w7 r8 =>
          if ((r2 + r4) + r6) = r8 then
            bI (F 6 w7 [.inr (.inr (0, 0, 0)), .inl t, .inl (4 : Int32)]) (fun w9 r10 =>
              bI (F 6 w9 [.inr (.inr (0, 0, 0)), .inl t, .inl (1 : Int32)]) (fun w11 r12 =>
                if r12 < r10 then
                  some (w11, some (.inl (0 : Int32)))
                else
                  R 0 145 [(10, .inl (t + (1 : Int32))), (3, .inl e), (2, .inl sv), (1, .inr (.inr (0, 0, 0))), (0, .inr (.inr (22, 0, 0)))] [] w11
              )
            )
          else
            some (w7, some (.inl (0 : Int32)))
        )
      )
    )
  ) := rfl
set_option maxRecDepth 100000 in
set_option maxHeartbeats 400000 in
theorem eL_law_196 (F : Nat → MF) (R : Nat → Nat → ML → List MV → MM → MR) (v : MM) (e sv : Int32) : stp F cdL_law (runH F cdL_law [12, 39, 64, 77, 103, 114, 125, 145, 152, 164, 196, 198] R 1) 196 [(3, .inl e), (2, .inl sv), (1, .inr (.inr (0, 0, 0))), (0, .inr (.inr (22, 0, 0)))] [] v =
  R 0 12 [(3, .inl (e + (1 : Int32))), (2, .inl sv), (1, .inr (.inr (0, 0, 0))), (0, .inr (.inr (22, 0, 0)))] [] v := rfl
set_option maxRecDepth 100000 in
set_option maxHeartbeats 400000 in
theorem eL_law_198 (F : Nat → MF) (R : Nat → Nat → ML → List MV → MM → MR) (v : MM) (sv : Int32) : stp F cdL_law (runH F cdL_law [12, 39, 64, 77, 103, 114, 125, 145, 152, 164, 196, 198] R 10) 198 [(2, .inl sv), (1, .inr (.inr (0, 0, 0))), (0, .inr (.inr (22, 0, 0)))] [] v =
  bI (F 4 v [.inr (.inr (0, 0, 0))]) (fun w1 r2 =>
    if sv = 0 then
      if r2 = (-2 : Int32) then
        some (w1, some (.inl (1 : Int32)))
      else
        some (w1, some (.inl (0 : Int32)))
    else
      if r2 = (sv - (1 : Int32)) then
        some (w1, some (.inl (1 : Int32)))
      else
        some (w1, some (.inl (0 : Int32)))
  ) := rfl
set_option maxRecDepth 100000 in
theorem qL_law_12 (S : MSc) (v : MM) (e sv : Int32) : rLim (FL_law S) cdL_law 12 [(3, .inl e), (2, .inl sv), (1, .inr (.inr (0, 0, 0))), (0, .inr (.inr (22, 0, 0)))] [] v =
  if e < (44 : Int32) then
    bI (fL_cell S v [.inr (.inr (22, 0, 0)), .inl e]) (fun w1 r2 =>
      bL (fL_tale w1 [.inr (.inr (0, 0, 0))]) (fun w3 r4 =>
        bI (fX6_count w3 [.inr (.inr (0, 0, 0)), .inl (4 : Int32)]) (fun w5 r6 =>
          bI (fL_does w5 [.inr (.inr (0, 0, 0)), .inl r2]) (fun w7 r8 =>
            if r8 < 0 then
              bL (fL_tale w7 [.inr (.inr (0, 0, 0))]) (fun w9 r10 =>
                if (lg_cmp r10 r4) = 0 then
                  rLim (FL_law S) cdL_law 39 [(8, .inl r8), (7, .inl r6), (5, .inr (.inl r4)), (4, .inl r2), (3, .inl e), (2, .inl sv), (1, .inr (.inr (0, 0, 0))), (0, .inr (.inr (22, 0, 0)))] [] w9
                else
                  some (w9, some (.inl (0 : Int32)))
              )
            else
              rLim (FL_law S) cdL_law 39 [(8, .inl r8), (7, .inl r6), (5, .inr (.inl r4)), (4, .inl r2), (3, .inl e), (2, .inl sv), (1, .inr (.inr (0, 0, 0))), (0, .inr (.inr (22, 0, 0)))] [] w7
          )
        )
      )
    )
  else
    rLim (FL_law S) cdL_law 198 [(3, .inl e), (2, .inl sv), (1, .inr (.inr (0, 0, 0))), (0, .inr (.inr (22, 0, 0)))] [] v := rl_eq (eL_law_12 (FL_law S) _ v e sv)
set_option maxRecDepth 100000 in
theorem qL_law_39 (S : MSc) (v : MM) (got rs w e sv : Int32) (z : Int64) : rLim (FL_law S) cdL_law 39 [(8, .inl got), (7, .inl rs), (5, .inr (.inl z)), (4, .inl w), (3, .inl e), (2, .inl sv), (1, .inr (.inr (0, 0, 0))), (0, .inr (.inr (22, 0, 0)))] [] v =
  if got < 0 then
    if got < 0 then
      if got = (-2 : Int32) then
        if got = (-2 : Int32) then
          bI (fX6_count v [.inr (.inr (0, 0, 0)), .inl (4 : Int32)]) (fun w1 r2 =>
            if r2 = 0 then
              some (w1, some (.inl (0 : Int32)))
            else
              rLim (FL_law S) cdL_law 64 [(8, .inl got), (7, .inl rs), (5, .inr (.inl z)), (4, .inl w), (3, .inl e), (2, .inl sv), (1, .inr (.inr (0, 0, 0))), (0, .inr (.inr (22, 0, 0)))] [] w1
          )
        else
          rLim (FL_law S) cdL_law 64 [(8, .inl got), (7, .inl rs), (5, .inr (.inl z)), (4, .inl w), (3, .inl e), (2, .inl sv), (1, .inr (.inr (0, 0, 0))), (0, .inr (.inr (22, 0, 0)))] [] v
      else
        bI (fX6_count v [.inr (.inr (0, 0, 0)), .inl (4 : Int32)]) (fun w3 r4 =>
          if r4 = rs then
            if got = (-2 : Int32) then
              bI (fX6_count w3 [.inr (.inr (0, 0, 0)), .inl (4 : Int32)]) (fun w5 r6 =>
                if r6 = 0 then
                  some (w5, some (.inl (0 : Int32)))
                else
                  rLim (FL_law S) cdL_law 64 [(8, .inl got), (7, .inl rs), (5, .inr (.inl z)), (4, .inl w), (3, .inl e), (2, .inl sv), (1, .inr (.inr (0, 0, 0))), (0, .inr (.inr (22, 0, 0)))] [] w5
              )
            else
              rLim (FL_law S) cdL_law 64 [(8, .inl got), (7, .inl rs), (5, .inr (.inl z)), (4, .inl w), (3, .inl e), (2, .inl sv), (1, .inr (.inr (0, 0, 0))), (0, .inr (.inr (22, 0, 0)))] [] w3
          else
            some (w3, some (.inl (0 : Int32)))
        )
    else
      if got = (-2 : Int32) then
        bI (fX6_count v [.inr (.inr (0, 0, 0)), .inl (4 : Int32)]) (fun w7 r8 =>
          if r8 = 0 then
            some (w7, some (.inl (0 : Int32)))
          else
            rLim (FL_law S) cdL_law 64 [(8, .inl got), (7, .inl rs), (5, .inr (.inl z)), (4, .inl w), (3, .inl e), (2, .inl sv), (1, .inr (.inr (0, 0, 0))), (0, .inr (.inr (22, 0, 0)))] [] w7
        )
      else
        rLim (FL_law S) cdL_law 64 [(8, .inl got), (7, .inl rs), (5, .inr (.inl z)), (4, .inl w), (3, .inl e), (2, .inl sv), (1, .inr (.inr (0, 0, 0))), (0, .inr (.inr (22, 0, 0)))] [] v
  else
    bI (fX6_count v [.inr (.inr (0, 0, 0)), .inl (4 : Int32)]) (fun w9 r10 =>
      if r10 = 0 then
        if got < 0 then
          if got = (-2 : Int32) then
            if got = (-2 : Int32) then
              bI (fX6_count w9 [.inr (.inr (0, 0, 0)), .inl (4 : Int32)]) (fun w11 r12 =>
                if r12 = 0 then
                  some (w11, some (.inl (0 : Int32)))
                else
                  rLim (FL_law S) cdL_law 64 [(8, .inl got), (7, .inl rs), (5, .inr (.inl z)), (4, .inl w), (3, .inl e), (2, .inl sv), (1, .inr (.inr (0, 0, 0))), (0, .inr (.inr (22, 0, 0)))] [] w11
              )
            else
              rLim (FL_law S) cdL_law 64 [(8, .inl got), (7, .inl rs), (5, .inr (.inl z)), (4, .inl w), (3, .inl e), (2, .inl sv), (1, .inr (.inr (0, 0, 0))), (0, .inr (.inr (22, 0, 0)))] [] w9
          else
            bI (fX6_count w9 [.inr (.inr (0, 0, 0)), .inl (4 : Int32)]) (fun w13 r14 =>
              if r14 = rs then
                if got = (-2 : Int32) then
                  bI (fX6_count w13 [.inr (.inr (0, 0, 0)), .inl (4 : Int32)]) (fun w15 r16 =>
                    if r16 = 0 then
                      some (w15, some (.inl (0 : Int32)))
                    else
                      rLim (FL_law S) cdL_law 64 [(8, .inl got), (7, .inl rs), (5, .inr (.inl z)), (4, .inl w), (3, .inl e), (2, .inl sv), (1, .inr (.inr (0, 0, 0))), (0, .inr (.inr (22, 0, 0)))] [] w15
                  )
                else
                  rLim (FL_law S) cdL_law 64 [(8, .inl got), (7, .inl rs), (5, .inr (.inl z)), (4, .inl w), (3, .inl e), (2, .inl sv), (1, .inr (.inr (0, 0, 0))), (0, .inr (.inr (22, 0, 0)))] [] w13
              else
                some (w13, some (.inl (0 : Int32)))
            )
        else
          if got = (-2 : Int32) then
            bI (fX6_count w9 [.inr (.inr (0, 0, 0)), .inl (4 : Int32)]) (fun w17 r18 =>
              if r18 = 0 then
                some (w17, some (.inl (0 : Int32)))
              else
                rLim (FL_law S) cdL_law 64 [(8, .inl got), (7, .inl rs), (5, .inr (.inl z)), (4, .inl w), (3, .inl e), (2, .inl sv), (1, .inr (.inr (0, 0, 0))), (0, .inr (.inr (22, 0, 0)))] [] w17
            )
          else
            rLim (FL_law S) cdL_law 64 [(8, .inl got), (7, .inl rs), (5, .inr (.inl z)), (4, .inl w), (3, .inl e), (2, .inl sv), (1, .inr (.inr (0, 0, 0))), (0, .inr (.inr (22, 0, 0)))] [] w9
      else
        some (w9, some (.inl (0 : Int32)))
    ) := rl_eq (eL_law_39 (FL_law S) _ v got rs w e sv z)
set_option maxRecDepth 100000 in
theorem qL_law_64 (S : MSc) (v : MM) (got w e sv : Int32) (z : Int64) : rLim (FL_law S) cdL_law 64 [(8, .inl got), (5, .inr (.inl z)), (4, .inl w), (3, .inl e), (2, .inl sv), (1, .inr (.inr (0, 0, 0))), (0, .inr (.inr (22, 0, 0)))] [] v =
  if got < 0 then
    rLim (FL_law S) cdL_law 77 [(2, .inl sv), (8, .inl got), (5, .inr (.inl z)), (4, .inl w), (3, .inl e), (1, .inr (.inr (0, 0, 0))), (0, .inr (.inr (22, 0, 0)))] [] v
  else
    if sv < (6 : Int32) then
      rLim (FL_law S) cdL_law 77 [(2, .inl (sv + (1 : Int32))), (8, .inl got), (5, .inr (.inl z)), (4, .inl w), (3, .inl e), (1, .inr (.inr (0, 0, 0))), (0, .inr (.inr (22, 0, 0)))] [] v
    else
      rLim (FL_law S) cdL_law 77 [(2, .inl (6 : Int32)), (8, .inl got), (5, .inr (.inl z)), (4, .inl w), (3, .inl e), (1, .inr (.inr (0, 0, 0))), (0, .inr (.inr (22, 0, 0)))] [] v := rl_eq (eL_law_64 (FL_law S) _ v got w e sv z)
set_option maxRecDepth 100000 in
theorem qL_law_77 (S : MSc) (v : MM) (got w e sv : Int32) (z : Int64) : rLim (FL_law S) cdL_law 77 [(8, .inl got), (5, .inr (.inl z)), (4, .inl w), (3, .inl e), (2, .inl sv), (1, .inr (.inr (0, 0, 0))), (0, .inr (.inr (22, 0, 0)))] [] v =
  if got < 0 then
    rLim (FL_law S) cdL_law 103 [(8, .inl got), (5, .inr (.inl z)), (4, .inl w), (3, .inl e), (2, .inl sv), (1, .inr (.inr (0, 0, 0))), (0, .inr (.inr (22, 0, 0)))] [] v
  else
    if ((w >>> ((28 : Int32) &&& 31)) &&& (3 : Int32)) = 0 then
      bI (fX6_undo v [.inr (.inr (0, 0, 0))]) (fun w1 r2 =>
        if r2 = (sv - (1 : Int32)) then
          bL (fL_tale w1 [.inr (.inr (0, 0, 0))]) (fun w3 r4 =>
            if (lg_cmp r4 z) = 0 then
              bI (fX6_count w3 [.inr (.inr (0, 0, 0)), .inl (4 : Int32)]) (fun w5 r6 =>
                if r6 = 0 then
                  rLim (FL_law S) cdL_law 103 [(2, .inl (sv + (-1 : Int32))), (8, .inl got), (5, .inr (.inl z)), (4, .inl w), (3, .inl e), (1, .inr (.inr (0, 0, 0))), (0, .inr (.inr (22, 0, 0)))] [] w5
                else
                  some (w5, some (.inl (0 : Int32)))
              )
            else
              some (w3, some (.inl (0 : Int32)))
          )
        else
          some (w1, some (.inl (0 : Int32)))
      )
    else
      rLim (FL_law S) cdL_law 103 [(8, .inl got), (5, .inr (.inl z)), (4, .inl w), (3, .inl e), (2, .inl sv), (1, .inr (.inr (0, 0, 0))), (0, .inr (.inr (22, 0, 0)))] [] v := rl_eq (eL_law_77 (FL_law S) _ v got w e sv z)
set_option maxRecDepth 100000 in
theorem qL_law_103 (S : MSc) (v : MM) (e sv : Int32) : rLim (FL_law S) cdL_law 103 [(3, .inl e), (2, .inl sv), (1, .inr (.inr (0, 0, 0))), (0, .inr (.inr (22, 0, 0)))] [] v =
  bI (fX6_count v [.inr (.inr (0, 0, 0)), .inl (6 : Int32)]) (fun w1 r2 =>
    if r2 = sv then
      rLim (FL_law S) cdL_law 114 [(10, .inl (2 : Int32)), (9, .inl (0 : Int32)), (3, .inl e), (2, .inl sv), (1, .inr (.inr (0, 0, 0))), (0, .inr (.inr (22, 0, 0)))] [] w1
    else
      some (w1, some (.inl (0 : Int32)))
  ) := rl_eq (eL_law_103 (FL_law S) _ v e sv)
set_option maxRecDepth 100000 in
theorem qL_law_114 (S : MSc) (v : MM) (t gone e sv : Int32) : rLim (FL_law S) cdL_law 114 [(10, .inl t), (9, .inl gone), (3, .inl e), (2, .inl sv), (1, .inr (.inr (0, 0, 0))), (0, .inr (.inr (22, 0, 0)))] [] v =
  if t < (11 : Int32) then
    bI (fX6_account v [.inr (.inr (0, 0, 0)), .inl t]) (fun w1 r2 =>
      rLim (FL_law S) cdL_law 114 [(10, .inl (t + (1 : Int32))), (9, .inl (gone + r2)), (3, .inl e), (2, .inl sv), (1, .inr (.inr (0, 0, 0))), (0, .inr (.inr (22, 0, 0)))] [] w1
    )
  else
    rLim (FL_law S) cdL_law 125 [(10, .inl t), (9, .inl gone), (3, .inl e), (2, .inl sv), (1, .inr (.inr (0, 0, 0))), (0, .inr (.inr (22, 0, 0)))] [] v := rl_eq (eL_law_114 (FL_law S) _ v t gone e sv)
set_option maxRecDepth 100000 in
theorem qL_law_125 (S : MSc) (v : MM) (gone e sv : Int32) : rLim (FL_law S) cdL_law 125 [(9, .inl gone), (3, .inl e), (2, .inl sv), (1, .inr (.inr (0, 0, 0))), (0, .inr (.inr (22, 0, 0)))] [] v =
  bI (fX6_account v [.inr (.inr (0, 0, 0)), .inl (0 : Int32)]) (fun w1 r2 =>
    bI (fX6_account w1 [.inr (.inr (0, 0, 0)), .inl (1 : Int32)]) (fun w3 r4 =>
      if (r2 + r4) = gone then
        bI (fX6_account w3 [.inr (.inr (0, 0, 0)), .inl (8 : Int32)]) (fun w5 r6 =>
          bI (fX6_count w5 [.inr (.inr (0, 0, 0)), .inl (2 : Int32)]) (fun w7 r8 =>
            if r6 = r8 then
              rLim (FL_law S) cdL_law 145 [(10, .inl (0 : Int32)), (9, .inl gone), (3, .inl e), (2, .inl sv), (1, .inr (.inr (0, 0, 0))), (0, .inr (.inr (22, 0, 0)))] [] w7
            else
              some (w7, some (.inl (0 : Int32)))
          )
        )
      else
        some (w3, some (.inl (0 : Int32)))
    )
  ) := rl_eq (eL_law_125 (FL_law S) _ v gone e sv)
set_option maxRecDepth 100000 in
theorem qL_law_145 (S : MSc) (v : MM) (t e sv : Int32) : rLim (FL_law S) cdL_law 145 [(10, .inl t), (3, .inl e), (2, .inl sv), (1, .inr (.inr (0, 0, 0))), (0, .inr (.inr (22, 0, 0)))] [] v =
  bI (fX6_count v [.inr (.inr (0, 0, 0)), .inl (1 : Int32)]) (fun w1 r2 =>
    if t < r2 then
      rLim (FL_law S) cdL_law 152 [(11, .inl (1 : Int32)), (10, .inl t), (3, .inl e), (2, .inl sv), (1, .inr (.inr (0, 0, 0))), (0, .inr (.inr (22, 0, 0)))] [] w1
    else
      rLim (FL_law S) cdL_law 196 [(10, .inl t), (3, .inl e), (2, .inl sv), (1, .inr (.inr (0, 0, 0))), (0, .inr (.inr (22, 0, 0)))] [] w1
  ) := rl_eq (eL_law_145 (FL_law S) _ v t e sv)
set_option maxRecDepth 100000 in
theorem qL_law_152 (S : MSc) (v : MM) (k t e sv : Int32) : rLim (FL_law S) cdL_law 152 [(11, .inl k), (10, .inl t), (3, .inl e), (2, .inl sv), (1, .inr (.inr (0, 0, 0))), (0, .inr (.inr (22, 0, 0)))] [] v =
  if k < (8 : Int32) then
    bI (fX6_tank v [.inr (.inr (0, 0, 0)), .inl t, .inl k]) (fun w1 r2 =>
      if r2 < 0 then
        some (w1, some (.inl (0 : Int32)))
      else
        rLim (FL_law S) cdL_law 152 [(11, .inl (k + (1 : Int32))), (10, .inl t), (3, .inl e), (2, .inl sv), (1, .inr (.inr (0, 0, 0))), (0, .inr (.inr (22, 0, 0)))] [] w1
    )
  else
    rLim (FL_law S) cdL_law 164 [(11, .inl k), (10, .inl t), (3, .inl e), (2, .inl sv), (1, .inr (.inr (0, 0, 0))), (0, .inr (.inr (22, 0, 0)))] [] v := rl_eq (eL_law_152 (FL_law S) _ v k t e sv)
set_option maxRecDepth 100000 in
theorem qL_law_164 (S : MSc) (v : MM) (t e sv : Int32) : rLim (FL_law S) cdL_law 164 [(10, .inl t), (3, .inl e), (2, .inl sv), (1, .inr (.inr (0, 0, 0))), (0, .inr (.inr (22, 0, 0)))] [] v =
  bI (fX6_tank v [.inr (.inr (0, 0, 0)), .inl t, .inl (1 : Int32)]) (fun w1 r2 =>
    bI (fX6_tank w1 [.inr (.inr (0, 0, 0)), .inl t, .inl (5 : Int32)]) (fun w3 r4 =>
      bI (fX6_tank w3 [.inr (.inr (0, 0, 0)), .inl t, .inl (7 : Int32)]) (fun w5 r6 =>
        bI (fX6_tank w5 [.inr (.inr (0, 0, 0)), .inl t, .inl (0 : Int32)]) (fun w7 r8 =>
          if ((r2 + r4) + r6) = r8 then
            bI (fX6_tank w7 [.inr (.inr (0, 0, 0)), .inl t, .inl (4 : Int32)]) (fun w9 r10 =>
              bI (fX6_tank w9 [.inr (.inr (0, 0, 0)), .inl t, .inl (1 : Int32)]) (fun w11 r12 =>
                if r12 < r10 then
                  some (w11, some (.inl (0 : Int32)))
                else
                  rLim (FL_law S) cdL_law 145 [(10, .inl (t + (1 : Int32))), (3, .inl e), (2, .inl sv), (1, .inr (.inr (0, 0, 0))), (0, .inr (.inr (22, 0, 0)))] [] w11
              )
            )
          else
            some (w7, some (.inl (0 : Int32)))
        )
      )
    )
  ) := rl_eq (eL_law_164 (FL_law S) _ v t e sv)
set_option maxRecDepth 100000 in
theorem qL_law_196 (S : MSc) (v : MM) (e sv : Int32) : rLim (FL_law S) cdL_law 196 [(3, .inl e), (2, .inl sv), (1, .inr (.inr (0, 0, 0))), (0, .inr (.inr (22, 0, 0)))] [] v =
  rLim (FL_law S) cdL_law 12 [(3, .inl (e + (1 : Int32))), (2, .inl sv), (1, .inr (.inr (0, 0, 0))), (0, .inr (.inr (22, 0, 0)))] [] v := rl_eq (eL_law_196 (FL_law S) _ v e sv)
set_option maxRecDepth 100000 in
theorem qL_law_198 (S : MSc) (v : MM) (sv : Int32) : rLim (FL_law S) cdL_law 198 [(2, .inl sv), (1, .inr (.inr (0, 0, 0))), (0, .inr (.inr (22, 0, 0)))] [] v =
  bI (fX6_undo v [.inr (.inr (0, 0, 0))]) (fun w1 r2 =>
    if sv = 0 then
      if r2 = (-2 : Int32) then
        some (w1, some (.inl (1 : Int32)))
      else
        some (w1, some (.inl (0 : Int32)))
    else
      if r2 = (sv - (1 : Int32)) then
        some (w1, some (.inl (1 : Int32)))
      else
        some (w1, some (.inl (0 : Int32)))
  ) := rl_eq (eL_law_198 (FL_law S) _ v sv)
