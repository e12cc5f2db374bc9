-- EQUATIONS of the methods, callees named (by program: wip/whole/gen/qgen.py)
noncomputable def gX0_copyFrom_34 (v : MM) (i i1 : Nat) (y1 : Int32) : MR := rLim FX0_copyFrom cdX0_copyFrom 34 [(2, .inl y1), (0, .inr (.inr (2, i, 0))), (1, .inr (.inr (2, i1, 0)))] [] v
noncomputable def gX0_copyFrom_50 (v : MM) (i i1 : Nat) (y1 : Int32) : MR := rLim FX0_copyFrom cdX0_copyFrom 50 [(2, .inl y1), (0, .inr (.inr (2, i, 0))), (1, .inr (.inr (2, i1, 0)))] [] v
noncomputable def gX0_copyFrom_66 (v : MM) (i i1 : Nat) (y1 : Int32) : MR := rLim FX0_copyFrom cdX0_copyFrom 66 [(2, .inl y1), (0, .inr (.inr (2, i, 0))), (1, .inr (.inr (2, i1, 0)))] [] v
noncomputable def gX0_copyFrom_82 (v : MM) (i i1 : Nat) (y1 : Int32) : MR := rLim FX0_copyFrom cdX0_copyFrom 82 [(2, .inl y1), (0, .inr (.inr (2, i, 0))), (1, .inr (.inr (2, i1, 0)))] [] v
set_option maxRecDepth 100000 in
theorem qX0_copyFrom (v : MM) (i i1 : Nat) : fX0_copyFrom v [.inr (.inr (2, i, 0)), .inr (.inr (2, i1, 0))] =
  let w1 : MM := mUp v (i, 18) (v.1 i1 18)
  let w2 : MM := mUp w1 (i, 19) (w1.1 i1 19)
  let w3 : MM := mUp w2 (i, 20) (w2.1 i1 20)
  let w4 : MM := mUp w3 (i, 21) (w3.1 i1 21)
  let w5 : MM := mUp w4 (i, 42) (w4.1 i1 42)
  let w6 : MM := mUp w5 (i, 59) (w5.1 i1 59)
  let w7 : MM := mUp w6 (i, 102) (w6.1 i1 102)
  let w8 : MM := mUp w7 (i, 103) (w7.1 i1 103)
  gX0_copyFrom_34 w8 i i1 (0 : Int32) := fn_eq rfl (eX0_copyFrom FX0_copyFrom _ v i i1)
set_option maxRecDepth 100000 in
theorem qX0_copyFrom_34 (v : MM) (i i1 : Nat) (y1 : Int32) : gX0_copyFrom_34 v i i1 y1 =
  if y1 < (6 : Int32) then
    if mIn y1 6 then
    if mIn y1 6 then
    bV (fX5_copyFrom v [.inr (.inr (8, i, y1.toNatClampNeg)), .inr (.inr (8, i1, y1.toNatClampNeg))]) (fun w1 =>
      gX0_copyFrom_34 w1 i i1 (y1 + (1 : Int32))
    )
    else none
    else none
  else
    gX0_copyFrom_50 v i i1 (0 : Int32) := rl_eq (eX0_copyFrom_34 FX0_copyFrom _ v i i1 y1)
set_option maxRecDepth 100000 in
theorem qX0_copyFrom_50 (v : MM) (i i1 : Nat) (y1 : Int32) : gX0_copyFrom_50 v i i1 y1 =
  if y1 < (4 : Int32) then
    if mIn y1 4 then
    if mIn y1 4 then
    bV (fX1_copyFrom v [.inr (.inr (9, i, y1.toNatClampNeg)), .inr (.inr (9, i1, y1.toNatClampNeg))]) (fun w1 =>
      gX0_copyFrom_50 w1 i i1 (y1 + (1 : Int32))
    )
    else none
    else none
  else
    gX0_copyFrom_66 v i i1 (0 : Int32) := rl_eq (eX0_copyFrom_50 FX0_copyFrom _ v i i1 y1)
set_option maxRecDepth 100000 in
theorem qX0_copyFrom_66 (v : MM) (i i1 : Nat) (y1 : Int32) : gX0_copyFrom_66 v i i1 y1 =
  if y1 < (8 : Int32) then
    if mIn y1 8 then
    if mIn y1 8 then
    bV (fX2_copyFrom v [.inr (.inr (11, i, y1.toNatClampNeg)), .inr (.inr (11, i1, y1.toNatClampNeg))]) (fun w1 =>
      gX0_copyFrom_66 w1 i i1 (y1 + (1 : Int32))
    )
    else none
    else none
  else
    gX0_copyFrom_82 v i i1 (0 : Int32) := rl_eq (eX0_copyFrom_66 FX0_copyFrom _ v i i1 y1)
set_option maxRecDepth 100000 in
theorem qX0_copyFrom_82 (v : MM) (i i1 : Nat) (y1 : Int32) : gX0_copyFrom_82 v i i1 y1 =
  if y1 < (6 : Int32) then
    if mIn y1 6 then
    if mIn y1 6 then
    bV (fX4_copyFrom v [.inr (.inr (12, i, y1.toNatClampNeg)), .inr (.inr (12, i1, y1.toNatClampNeg))]) (fun w1 =>
      gX0_copyFrom_82 w1 i i1 (y1 + (1 : Int32))
    )
    else none
    else none
  else
    let w2 : MM := mCpy v i1 (7, i, 0)
    some (w2, none) := rl_eq (eX0_copyFrom_82 FX0_copyFrom _ v i i1 y1)
set_option maxRecDepth 100000 in
theorem qX0_hasLot (v : MM) (i : Nat) (x1 : Int32) : fX0_hasLot v [.inr (.inr (2, i, 0)), .inl x1] =
  bI (fX6_within v [.inl x1, .inl (0 : Int32), .inl ((v.1 i 42) - (1 : Int32))]) (fun w1 r2 =>
    if r2 = 0 then
      some (w1, some (.inl (0 : Int32)))
    else
      if x1 < (8 : Int32) then
        some (w1, some (.inl (1 : Int32)))
      else
        some (w1, some (.inl (0 : Int32)))
  ) := fn_eq rfl (eX0_hasLot FX0_hasLot _ v i x1)
set_option maxRecDepth 100000 in
theorem qX0_hasTank (v : MM) (i : Nat) (x1 : Int32) : fX0_hasTank v [.inr (.inr (2, i, 0)), .inl x1] =
  bI (fX6_within v [.inl x1, .inl (0 : Int32), .inl ((v.1 i 59) - (1 : Int32))]) (fun w1 r2 =>
    if r2 = 0 then
      some (w1, some (.inl (0 : Int32)))
    else
      if x1 < (6 : Int32) then
        some (w1, some (.inl (1 : Int32)))
      else
        some (w1, some (.inl (0 : Int32)))
  ) := fn_eq rfl (eX0_hasTank FX0_hasTank _ v i x1)
set_option maxRecDepth 100000 in
theorem qX0_refuse (v : MM) (i : Nat) (x1 : Int32) : fX0_refuse v [.inr (.inr (2, i, 0)), .inl x1] =
  let w1 : MM := mUp v (i, 155) x1
  some (w1, some (.inl (-2 : Int32))) := fn_eq rfl (eX0_refuse FX0_refuse _ v i x1)
set_option maxRecDepth 100000 in
theorem qX0_changeVariety (v : MM) (i : Nat) (x1 x2 x3 x4 : Int32) : fX0_changeVariety v [.inr (.inr (2, i, 0)), .inl x1, .inl x2, .inl x3, .inl x4] =
  bI (fX6_within v [.inl x1, .inl (0 : Int32), .inl (5 : Int32)]) (fun w1 r2 =>
    if r2 = 0 then
      some (w1, some (.inl (-1 : Int32)))
    else
      bI (fX6_within w1 [.inl x2, .inl (300 : Int32), .inl (800 : Int32)]) (fun w3 r4 =>
        if r4 = 0 then
          some (w3, some (.inl (-1 : Int32)))
        else
          bI (fX6_within w3 [.inl x3, .inl (0 : Int32), .inl (200 : Int32)]) (fun w5 r6 =>
            if r6 = 0 then
              some (w5, some (.inl (-1 : Int32)))
            else
              bI (fX6_within w5 [.inl x4, .inl (0 : Int32), .inl (100 : Int32)]) (fun w7 r8 =>
                if r8 = 0 then
                  some (w7, some (.inl (-1 : Int32)))
                else
                  if mIn x1 6 then
                  let w9 : MM := mUp w7 (i, 3 * x1.toNatClampNeg + 0) x2
                  let w10 : MM := mUp w9 (i, 3 * x1.toNatClampNeg + 1) x3
                  let w11 : MM := mUp w10 (i, 3 * x1.toNatClampNeg + 2) x4
                  some (w11, some (.inl (w7.1 i (3 * x1.toNatClampNeg + 0))))
                  else none
              )
          )
      )
  ) := fn_eq rfl (eX0_changeVariety FX0_changeVariety _ v i x1 x2 x3 x4)
set_option maxRecDepth 100000 in
theorem qX0_changeRates (v : MM) (i : Nat) (x1 x2 x3 x4 : Int32) : fX0_changeRates v [.inr (.inr (2, i, 0)), .inl x1, .inl x2, .inl x3, .inl x4] =
  bI (fX6_within v [.inl x1, .inl (0 : Int32), .inl (20 : Int32)]) (fun w1 r2 =>
    if r2 = 0 then
      some (w1, some (.inl (-1 : Int32)))
    else
      bI (fX6_within w1 [.inl x2, .inl (0 : Int32), .inl (100 : Int32)]) (fun w3 r4 =>
        if r4 = 0 then
          some (w3, some (.inl (-1 : Int32)))
        else
          bI (fX6_within w3 [.inl x3, .inl (0 : Int32), .inl (500 : Int32)]) (fun w5 r6 =>
            if r6 = 0 then
              some (w5, some (.inl (-1 : Int32)))
            else
              bI (fX6_within w5 [.inl x4, .inl (0 : Int32), .inl (300 : Int32)]) (fun w7 r8 =>
                if r8 = 0 then
                  some (w7, some (.inl (-1 : Int32)))
                else
                  if (w7.1 i 18) = x1 then
                    if (w7.1 i 19) = x2 then
                      if (w7.1 i 20) = x3 then
                        if (w7.1 i 21) = x4 then
                          let w9 : MM := mUp w7 (i, 18) x1
                          let w10 : MM := mUp w9 (i, 19) x2
                          let w11 : MM := mUp w10 (i, 20) x3
                          let w12 : MM := mUp w11 (i, 21) x4
                          if (1 : Int32) = 0 then
                            some (w12, some (.inl (1 : Int32)))
                          else
                            some (w12, some (.inl (0 : Int32)))
                        else
                          let w13 : MM := mUp w7 (i, 18) x1
                          let w14 : MM := mUp w13 (i, 19) x2
                          let w15 : MM := mUp w14 (i, 20) x3
                          let w16 : MM := mUp w15 (i, 21) x4
                          if (0 : Int32) = 0 then
                            some (w16, some (.inl (1 : Int32)))
                          else
                            some (w16, some (.inl (0 : Int32)))
                      else
                        let w17 : MM := mUp w7 (i, 18) x1
                        let w18 : MM := mUp w17 (i, 19) x2
                        let w19 : MM := mUp w18 (i, 20) x3
                        let w20 : MM := mUp w19 (i, 21) x4
                        if (0 : Int32) = 0 then
                          some (w20, some (.inl (1 : Int32)))
                        else
                          some (w20, some (.inl (0 : Int32)))
                    else
                      let w21 : MM := mUp w7 (i, 18) x1
                      let w22 : MM := mUp w21 (i, 19) x2
                      let w23 : MM := mUp w22 (i, 20) x3
                      let w24 : MM := mUp w23 (i, 21) x4
                      if (0 : Int32) = 0 then
                        some (w24, some (.inl (1 : Int32)))
                      else
                        some (w24, some (.inl (0 : Int32)))
                  else
                    let w25 : MM := mUp w7 (i, 18) x1
                    let w26 : MM := mUp w25 (i, 19) x2
                    let w27 : MM := mUp w26 (i, 20) x3
                    let w28 : MM := mUp w27 (i, 21) x4
                    if (0 : Int32) = 0 then
                      some (w28, some (.inl (1 : Int32)))
                    else
                      some (w28, some (.inl (0 : Int32)))
              )
          )
      )
  ) := fn_eq rfl (eX0_changeRates FX0_changeRates _ v i x1 x2 x3 x4)
set_option maxRecDepth 100000 in
theorem qX0_changeLabel (v : MM) (i : Nat) (x1 x2 x3 x4 x5 x6 : Int32) : fX0_changeLabel v [.inr (.inr (2, i, 0)), .inl x1, .inl x2, .inl x3, .inl x4, .inl x5, .inl x6] =
  bI (fX6_within v [.inl x1, .inl (0 : Int32), .inl (3 : Int32)]) (fun w1 r2 =>
    if r2 = 0 then
      some (w1, some (.inl (-1 : Int32)))
    else
      bI (fX6_within w1 [.inl x2, .inl (0 : Int32), .inl (1000 : Int32)]) (fun w3 r4 =>
        if r4 = 0 then
          some (w3, some (.inl (-1 : Int32)))
        else
          bI (fX6_within w3 [.inl x3, .inl x2, .inl (1000 : Int32)]) (fun w5 r6 =>
            if r6 = 0 then
              some (w5, some (.inl (-1 : Int32)))
            else
              bI (fX6_within w5 [.inl x4, .inl (0 : Int32), .inl (1000 : Int32)]) (fun w7 r8 =>
                if r8 = 0 then
                  some (w7, some (.inl (-1 : Int32)))
                else
                  bI (fX6_within w7 [.inl x5, .inl x4, .inl (1000 : Int32)]) (fun w9 r10 =>
                    if r10 = 0 then
                      some (w9, some (.inl (-1 : Int32)))
                    else
                      bI (fX6_within w9 [.inl x6, .inl (0 : Int32), .inl (1000 : Int32)]) (fun w11 r12 =>
                        if r12 = 0 then
                          some (w11, some (.inl (-1 : Int32)))
                        else
                          if mIn x1 4 then
                          bI (fX1_change w11 [.inr (.inr (9, i, x1.toNatClampNeg)), .inl x2, .inl x3, .inl x4, .inl x5, .inl x6]) (fun w13 r14 =>
                            some (w13, some (.inl r14))
                          )
                          else none
                      )
                  )
              )
          )
      )
  ) := fn_eq rfl (eX0_changeLabel FX0_changeLabel _ v i x1 x2 x3 x4 x5 x6)
set_option maxRecDepth 100000 in
theorem qX0_buyLot (v : MM) (i : Nat) (x1 x2 : Int32) : fX0_buyLot v [.inr (.inr (2, i, 0)), .inl x1, .inl x2] =
  bI (fX6_within v [.inl x1, .inl (0 : Int32), .inl (5 : Int32)]) (fun w1 r2 =>
    if r2 = 0 then
      some (w1, some (.inl (-1 : Int32)))
    else
      bI (fX6_within w1 [.inl x2, .inl (1 : Int32), .inl (20000 : Int32)]) (fun w3 r4 =>
        if r4 = 0 then
          some (w3, some (.inl (-1 : Int32)))
        else
          bI (fX6_within w3 [.inl (w3.1 i 42), .inl (0 : Int32), .inl (7 : Int32)]) (fun w5 r6 =>
            if r6 = 0 then
              some (w5, some (.inl (-3 : Int32)))
            else
              if mIn (w5.1 i 42) 8 then
              let w7 : MM := mUp w5 (i, 43 + 2 * (w5.1 i 42).toNatClampNeg + 0) x1
              if mIn (w7.1 i 42) 8 then
              let w8 : MM := mUp w7 (i, 43 + 2 * (w7.1 i 42).toNatClampNeg + 1) x2
              if mIn (0 : Int32) 7 then
              if mIn (0 : Int32) 7 then
              let w9 : MM := mUp w8 (i, 104 + (0 : Int32).toNatClampNeg) ((w8.1 i (104 + (0 : Int32).toNatClampNeg)) + x2)
              let w10 : MM := mUp w9 (i, 42) ((w9.1 i 42) + (1 : Int32))
              some (w10, some (.inl ((w10.1 i 42) - (1 : Int32))))
              else none
              else none
              else none
              else none
          )
      )
  ) := fn_eq rfl (eX0_buyLot FX0_buyLot _ v i x1 x2)
set_option maxRecDepth 100000 in
theorem qX0_openTank (v : MM) (i : Nat) (x1 : Int32) : fX0_openTank v [.inr (.inr (2, i, 0)), .inl x1] =
  bI (fX6_within v [.inl x1, .inl (1 : Int32), .inl (5000 : Int32)]) (fun w1 r2 =>
    if r2 = 0 then
      some (w1, some (.inl (-1 : Int32)))
    else
      bI (fX6_within w1 [.inl (w1.1 i 59), .inl (0 : Int32), .inl (5 : Int32)]) (fun w3 r4 =>
        if r4 = 0 then
          some (w3, some (.inl (-3 : Int32)))
        else
          if mIn (w3.1 i 59) 6 then
          let w5 : MM := mUp w3 (i, 60 + 7 * (w3.1 i 59).toNatClampNeg + 0) x1
          let w6 : MM := mUp w5 (i, 59) ((w5.1 i 59) + (1 : Int32))
          some (w6, some (.inl ((w6.1 i 59) - (1 : Int32))))
          else none
      )
  ) := fn_eq rfl (eX0_openTank FX0_openTank _ v i x1)
set_option maxRecDepth 100000 in
theorem qX0_pressLot (v : MM) (i : Nat) (x1 x2 x3 : Int32) : fX0_pressLot v [.inr (.inr (2, i, 0)), .inl x1, .inl x2, .inl x3] =
  bI (fX0_hasLot v [.inr (.inr (2, i, 0)), .inl x1]) (fun w1 r2 =>
    if r2 = 0 then
      some (w1, some (.inl (-1 : Int32)))
    else
      bI (fX0_hasTank w1 [.inr (.inr (2, i, 0)), .inl x3]) (fun w3 r4 =>
        if r4 = 0 then
          some (w3, some (.inl (-1 : Int32)))
        else
          bI (fX6_within w3 [.inl x2, .inl (1 : Int32), .inl (20000 : Int32)]) (fun w5 r6 =>
            if r6 = 0 then
              some (w5, some (.inl (-1 : Int32)))
            else
              if mIn x1 8 then
              if (w5.1 i (43 + 2 * x1.toNatClampNeg + 1)) < x2 then
                bI (fX0_refuse w5 [.inr (.inr (2, i, 0)), .inl (11 : Int32)]) (fun w7 r8 =>
                  some (w7, some (.inl r8))
                )
              else
                if mIn x1 8 then
                bI (fX6_within w5 [.inl (w5.1 i (43 + 2 * x1.toNatClampNeg + 0)), .inl (0 : Int32), .inl (5 : Int32)]) (fun w9 r10 =>
                  if r10 = 0 then
                    some (w9, some (.inl (-1 : Int32)))
                  else
                    if mIn (w5.1 i (43 + 2 * x1.toNatClampNeg + 0)) 6 then
                    bI (fX6_thousandths w9 [.inl x2, .inl (w9.1 i (3 * (w5.1 i (43 + 2 * x1.toNatClampNeg + 0)).toNatClampNeg + 0))]) (fun w11 r12 =>
                      if mIn x3 6 then
                      bI (fX4_left w11 [.inr (.inr (12, i, x3.toNatClampNeg))]) (fun w13 r14 =>
                        if r14 < r12 then
                          some (w13, some (.inl (-3 : Int32)))
                        else
                          if mIn x1 8 then
                          let w15 : MM := mUp w13 (i, 43 + 2 * x1.toNatClampNeg + 1) ((w13.1 i (43 + 2 * x1.toNatClampNeg + 1)) - x2)
                          let w16 : MM := mUp w15 (i, 102) ((w15.1 i 102) + (x2 - r12))
                          if mIn x3 6 then
                          bI (fX6_thousandths w16 [.inl r12, .inl (w16.1 i (3 * (w5.1 i (43 + 2 * x1.toNatClampNeg + 0)).toNatClampNeg + 1))]) (fun w17 r18 =>
                            bI (fX6_thousandths w17 [.inl r12, .inl (w17.1 i (3 * (w5.1 i (43 + 2 * x1.toNatClampNeg + 0)).toNatClampNeg + 2))]) (fun w19 r20 =>
                              bI (fX6_thousandths w19 [.inl r12, .inl (w19.1 i 19)]) (fun w21 r22 =>
                                bV (fX4_fill w21 [.inr (.inr (12, i, x3.toNatClampNeg)), .inl r12, .inl r18, .inl r20, .inl r22]) (fun w23 =>
                                  some (w23, some (.inl r12))
                                )
                              )
                            )
                          )
                          else none
                          else none
                      )
                      else none
                    )
                    else none
                )
                else none
              else none
          )
      )
  ) := fn_eq rfl (eX0_pressLot FX0_pressLot _ v i x1 x2 x3)
set_option maxRecDepth 100000 in
theorem qX0_wetHeap (v : MM) (i : Nat) (x1 x2 : Int32) : fX0_wetHeap v [.inr (.inr (2, i, 0)), .inl x1, .inl x2] =
  bI (fX6_within v [.inl x1, .inl (0 : Int32), .inl (20000 : Int32)]) (fun w1 r2 =>
    if r2 = 0 then
      some (w1, some (.inl (-1 : Int32)))
    else
      bI (fX0_hasTank w1 [.inr (.inr (2, i, 0)), .inl x2]) (fun w3 r4 =>
        if r4 = 0 then
          some (w3, some (.inl (-1 : Int32)))
        else
          if (w3.1 i 102) = 0 then
            bI (fX0_refuse w3 [.inr (.inr (2, i, 0)), .inl (12 : Int32)]) (fun w5 r6 =>
              some (w5, some (.inl r6))
            )
          else
            if mIn x2 6 then
            bI (fX4_left w3 [.inr (.inr (12, i, x2.toNatClampNeg))]) (fun w7 r8 =>
              if r8 < (((w3.1 i 102) + x1) / (4 : Int32)) then
                some (w7, some (.inl (-3 : Int32)))
              else
                let w9 : MM := mUp w7 (i, 102) ((w7.1 i 102) + (x1 - (((w3.1 i 102) + x1) / (4 : Int32))))
                if mIn (1 : Int32) 7 then
                if mIn (1 : Int32) 7 then
                let w10 : MM := mUp w9 (i, 104 + (1 : Int32).toNatClampNeg) ((w9.1 i (104 + (1 : Int32).toNatClampNeg)) + x1)
                if mIn x2 6 then
                bV (fX4_fill w10 [.inr (.inr (12, i, x2.toNatClampNeg)), .inl (((w3.1 i 102) + x1) / (4 : Int32)), .inl ((((w3.1 i 102) + x1) / (4 : Int32)) / (50 : Int32)), .inl ((((w3.1 i 102) + x1) / (4 : Int32)) / (100 : Int32)), .inl ((((w3.1 i 102) + x1) / (4 : Int32)) / (10 : Int32))]) (fun w11 =>
                  some (w11, some (.inl (((w3.1 i 102) + x1) / (4 : Int32))))
                )
                else none
                else none
                else none
            )
            else none
      )
  ) := fn_eq rfl (eX0_wetHeap FX0_wetHeap _ v i x1 x2)
set_option maxRecDepth 100000 in
theorem qX0_sellHeap (v : MM) (i : Nat) : fX0_sellHeap v [.inr (.inr (2, i, 0))] =
  if (v.1 i 102) = 0 then
    bI (fX0_refuse v [.inr (.inr (2, i, 0)), .inl (12 : Int32)]) (fun w1 r2 =>
      some (w1, some (.inl r2))
    )
  else
    let w3 : MM := mUp v (i, 102) (0 : Int32)
    if mIn (4 : Int32) 7 then
    if mIn (4 : Int32) 7 then
    let w4 : MM := mUp w3 (i, 104 + (4 : Int32).toNatClampNeg) ((w3.1 i (104 + (4 : Int32).toNatClampNeg)) + (v.1 i 102))
    some (w4, some (.inl (v.1 i 102)))
    else none
    else none := fn_eq rfl (eX0_sellHeap FX0_sellHeap _ v i)
set_option maxRecDepth 100000 in
theorem qX0_moveJuice (v : MM) (i : Nat) (x1 x2 x3 : Int32) : fX0_moveJuice v [.inr (.inr (2, i, 0)), .inl x1, .inl x2, .inl x3] =
  bI (fX0_hasTank v [.inr (.inr (2, i, 0)), .inl x1]) (fun w1 r2 =>
    if r2 = 0 then
      some (w1, some (.inl (-1 : Int32)))
    else
      bI (fX0_hasTank w1 [.inr (.inr (2, i, 0)), .inl x3]) (fun w3 r4 =>
        if r4 = 0 then
          some (w3, some (.inl (-1 : Int32)))
        else
          if x1 = x3 then
            some (w3, some (.inl (-1 : Int32)))
          else
            bI (fX6_within w3 [.inl x2, .inl (1 : Int32), .inl (5000 : Int32)]) (fun w5 r6 =>
              if r6 = 0 then
                some (w5, some (.inl (-1 : Int32)))
              else
                if mIn x1 6 then
                if (w5.1 i (60 + 7 * x1.toNatClampNeg + 1)) < x2 then
                  bI (fX0_refuse w5 [.inr (.inr (2, i, 0)), .inl (7 : Int32)]) (fun w7 r8 =>
                    some (w7, some (.inl r8))
                  )
                else
                  if mIn x3 6 then
                  bI (fX4_left w5 [.inr (.inr (12, i, x3.toNatClampNeg))]) (fun w9 r10 =>
                    if r10 < x2 then
                      some (w9, some (.inl (-3 : Int32)))
                    else
                      if mIn x1 6 then
                      if mIn x1 6 then
                      bI (fX4_part w9 [.inr (.inr (12, i, x1.toNatClampNeg)), .inl (w9.1 i (60 + 7 * x1.toNatClampNeg + 4)), .inl x2]) (fun w11 r12 =>
                        if mIn x1 6 then
                        if mIn x3 6 then
                        bV (fX4_give w11 [.inr (.inr (12, i, x1.toNatClampNeg)), .inl x2, .inr (.inr (12, i, x3.toNatClampNeg))]) (fun w13 =>
                          some (w13, some (.inl r12))
                        )
                        else none
                        else none
                      )
                      else none
                      else none
                  )
                  else none
                else none
            )
      )
  ) := fn_eq rfl (eX0_moveJuice FX0_moveJuice _ v i x1 x2 x3)
set_option maxRecDepth 100000 in
theorem qX0_rackJuice (v : MM) (i : Nat) (x1 x2 : Int32) : fX0_rackJuice v [.inr (.inr (2, i, 0)), .inl x1, .inl x2] =
  bI (fX0_hasTank v [.inr (.inr (2, i, 0)), .inl x1]) (fun w1 r2 =>
    if r2 = 0 then
      some (w1, some (.inl (-1 : Int32)))
    else
      bI (fX0_hasTank w1 [.inr (.inr (2, i, 0)), .inl x2]) (fun w3 r4 =>
        if r4 = 0 then
          some (w3, some (.inl (-1 : Int32)))
        else
          if x1 = x2 then
            some (w3, some (.inl (-1 : Int32)))
          else
            if mIn x1 6 then
            if (w3.1 i (60 + 7 * x1.toNatClampNeg + 1)) = 0 then
              bI (fX0_refuse w3 [.inr (.inr (2, i, 0)), .inl (1 : Int32)]) (fun w5 r6 =>
                some (w5, some (.inl r6))
              )
            else
              if mIn x1 6 then
              if mIn x2 6 then
              bI (fX4_left w3 [.inr (.inr (12, i, x2.toNatClampNeg))]) (fun w7 r8 =>
                bI (fJ9_min_7cf53 w7 [.inl (w3.1 i (60 + 7 * x1.toNatClampNeg + 1)), .inl r8]) (fun w9 r10 =>
                  if 0 < r10 then
                    if mIn x1 6 then
                    if mIn x2 6 then
                    bV (fX4_give w9 [.inr (.inr (12, i, x1.toNatClampNeg)), .inl r10, .inr (.inr (12, i, x2.toNatClampNeg))]) (fun w11 =>
                      some (w11, some (.inl r10))
                    )
                    else none
                    else none
                  else
                    some (w9, some (.inl (-3 : Int32)))
                )
              )
              else none
              else none
            else none
      )
  ) := fn_eq rfl (eX0_rackJuice FX0_rackJuice _ v i x1 x2)
set_option maxRecDepth 100000 in
theorem qX0_cleanTank (v : MM) (i : Nat) (x1 : Int32) : fX0_cleanTank v [.inr (.inr (2, i, 0)), .inl x1] =
  bI (fX0_hasTank v [.inr (.inr (2, i, 0)), .inl x1]) (fun w1 r2 =>
    if r2 = 0 then
      some (w1, some (.inl (-1 : Int32)))
    else
      if mIn x1 6 then
      if 0 < (w1.1 i (60 + 7 * x1.toNatClampNeg + 1)) then
        bI (fX0_refuse w1 [.inr (.inr (2, i, 0)), .inl (13 : Int32)]) (fun w3 r4 =>
          some (w3, some (.inl r4))
        )
      else
        if mIn x1 6 then
        if mIn x1 6 then
        let w5 : MM := mUp w1 (i, 60 + 7 * x1.toNatClampNeg + 5) (0 : Int32)
        if mIn (3 : Int32) 7 then
        if mIn (3 : Int32) 7 then
        let w6 : MM := mUp w5 (i, 104 + (3 : Int32).toNatClampNeg) ((w5.1 i (104 + (3 : Int32).toNatClampNeg)) + (w1.1 i (60 + 7 * x1.toNatClampNeg + 5)))
        some (w6, some (.inl (w1.1 i (60 + 7 * x1.toNatClampNeg + 5))))
        else none
        else none
        else none
        else none
      else none
  ) := fn_eq rfl (eX0_cleanTank FX0_cleanTank _ v i x1)
set_option maxRecDepth 100000 in
theorem qX0_pourJuice (v : MM) (i : Nat) (x1 : Int32) : fX0_pourJuice v [.inr (.inr (2, i, 0)), .inl x1] =
  bI (fX0_hasTank v [.inr (.inr (2, i, 0)), .inl x1]) (fun w1 r2 =>
    if r2 = 0 then
      some (w1, some (.inl (-1 : Int32)))
    else
      if mIn x1 6 then
      if (w1.1 i (60 + 7 * x1.toNatClampNeg + 1)) = 0 then
        bI (fX0_refuse w1 [.inr (.inr (2, i, 0)), .inl (1 : Int32)]) (fun w3 r4 =>
          some (w3, some (.inl r4))
        )
      else
        if mIn x1 6 then
        bV (fX4_drop w1 [.inr (.inr (12, i, x1.toNatClampNeg)), .inl (w1.1 i (60 + 7 * x1.toNatClampNeg + 1))]) (fun w5 =>
          if mIn (6 : Int32) 7 then
          if mIn (6 : Int32) 7 then
          let w6 : MM := mUp w5 (i, 104 + (6 : Int32).toNatClampNeg) ((w5.1 i (104 + (6 : Int32).toNatClampNeg)) + (w1.1 i (60 + 7 * x1.toNatClampNeg + 1)))
          some (w6, some (.inl (w1.1 i (60 + 7 * x1.toNatClampNeg + 1))))
          else none
          else none
        )
        else none
      else none
  ) := fn_eq rfl (eX0_pourJuice FX0_pourJuice _ v i x1)
set_option maxRecDepth 100000 in
theorem qX0_bottleJuice (v : MM) (i : Nat) (x1 x2 x3 x4 : Int32) : fX0_bottleJuice v [.inr (.inr (2, i, 0)), .inl x1, .inl x2, .inl x3, .inl x4] =
  bI (fX0_hasTank v [.inr (.inr (2, i, 0)), .inl x1]) (fun w1 r2 =>
    if r2 = 0 then
      some (w1, some (.inl (-1 : Int32)))
    else
      bI (fX6_within w1 [.inl x2, .inl (0 : Int32), .inl (3 : Int32)]) (fun w3 r4 =>
        if r4 = 0 then
          some (w3, some (.inl (-1 : Int32)))
        else
          bI (fX6_within w3 [.inl x3, .inl (1 : Int32), .inl (10 : Int32)]) (fun w5 r6 =>
            if r6 = 0 then
              some (w5, some (.inl (-1 : Int32)))
            else
              bI (fX6_within w5 [.inl x4, .inl (1 : Int32), .inl (5000 : Int32)]) (fun w7 r8 =>
                if r8 = 0 then
                  some (w7, some (.inl (-1 : Int32)))
                else
                  if mIn x2 4 then
                  if mIn x1 6 then
                  bI (fX1_reasonAgainst w7 [.inr (.inr (9, i, x2.toNatClampNeg)), .inr (.inr (12, i, x1.toNatClampNeg))]) (fun w9 r10 =>
                    if r10 = 0 then
                      if mIn x1 6 then
                      if (w9.1 i (60 + 7 * x1.toNatClampNeg + 1)) < (x3 * x4) then
                        bI (fX0_refuse w9 [.inr (.inr (2, i, 0)), .inl (7 : Int32)]) (fun w11 r12 =>
                          some (w11, some (.inl r12))
                        )
                      else
                        if mIn x1 6 then
                        bV (fX4_drop w9 [.inr (.inr (12, i, x1.toNatClampNeg)), .inl (x3 * x4)]) (fun w13 =>
                          if mIn x2 4 then
                          bV (fX1_addBottles w13 [.inr (.inr (9, i, x2.toNatClampNeg)), .inl x3, .inl x4]) (fun w14 =>
                            if mIn (5 : Int32) 7 then
                            if mIn (5 : Int32) 7 then
                            let w15 : MM := mUp w14 (i, 104 + (5 : Int32).toNatClampNeg) ((w14.1 i (104 + (5 : Int32).toNatClampNeg)) + (x3 * x4))
                            if mIn x2 4 then
                            if mIn (0 : Int32) 11 then
                            some (w15, some (.inl (w15.1 i (if (0 : Int32).toNatClampNeg = 0 then 151 + x2.toNatClampNeg else 110 + 10 * x2.toNatClampNeg + (0 : Int32).toNatClampNeg))))
                            else none
                            else none
                            else none
                            else none
                          )
                          else none
                        )
                        else none
                      else none
                    else
                      bI (fX0_refuse w9 [.inr (.inr (2, i, 0)), .inl r10]) (fun w16 r17 =>
                        some (w16, some (.inl r17))
                      )
                  )
                  else none
                  else none
              )
          )
      )
  ) := fn_eq rfl (eX0_bottleJuice FX0_bottleJuice _ v i x1 x2 x3 x4)
noncomputable def gX0_passDay_2 (v : MM) (i : Nat) (y1 : Int32) : MR := rLim FX0_passDay cdX0_passDay 2 [(1, .inl y1), (0, .inr (.inr (2, i, 0)))] [] v
noncomputable def gX0_passDay_2_2 (v : MM) (i : Nat) (y1 y2 : Int32) : MR := rLim FX0_passDay cdX0_passDay 2 [(1, .inl y1), (2, .inl y2), (0, .inr (.inr (2, i, 0)))] [] v
noncomputable def gX0_passDay_35 (v : MM) (i : Nat) (y1 : Int32) : MR := rLim FX0_passDay cdX0_passDay 35 [(1, .inl y1), (0, .inr (.inr (2, i, 0)))] [] v
noncomputable def gX0_passDay_35_2 (v : MM) (i : Nat) (y1 y2 : Int32) : MR := rLim FX0_passDay cdX0_passDay 35 [(1, .inl y1), (2, .inl y2), (0, .inr (.inr (2, i, 0)))] [] v
set_option maxRecDepth 100000 in
theorem qX0_passDay (v : MM) (i : Nat) : fX0_passDay v [.inr (.inr (2, i, 0))] =
  gX0_passDay_2 v i (0 : Int32) := fn_eq rfl (eX0_passDay FX0_passDay _ v i)
set_option maxRecDepth 100000 in
theorem qX0_passDay_2 (v : MM) (i : Nat) (y1 : Int32) : gX0_passDay_2 v i y1 =
  if y1 < (8 : Int32) then
    if mIn y1 8 then
    bI (fX6_thousandths v [.inl (v.1 i (43 + 2 * y1.toNatClampNeg + 1)), .inl (v.1 i 18)]) (fun w1 r2 =>
      if mIn y1 8 then
      let w3 : MM := mUp w1 (i, 43 + 2 * y1.toNatClampNeg + 1) ((w1.1 i (43 + 2 * y1.toNatClampNeg + 1)) - r2)
      if mIn (2 : Int32) 7 then
      if mIn (2 : Int32) 7 then
      let w4 : MM := mUp w3 (i, 104 + (2 : Int32).toNatClampNeg) ((w3.1 i (104 + (2 : Int32).toNatClampNeg)) + r2)
      gX0_passDay_2_2 w4 i (y1 + (1 : Int32)) r2
      else none
      else none
      else none
    )
    else none
  else
    gX0_passDay_35 v i (0 : Int32) := rl_eq (eX0_passDay_2 FX0_passDay _ v i y1)
set_option maxRecDepth 100000 in
theorem qX0_passDay_2_2 (v : MM) (i : Nat) (y1 y2 : Int32) : gX0_passDay_2_2 v i y1 y2 =
  if y1 < (8 : Int32) then
    if mIn y1 8 then
    bI (fX6_thousandths v [.inl (v.1 i (43 + 2 * y1.toNatClampNeg + 1)), .inl (v.1 i 18)]) (fun w1 r2 =>
      if mIn y1 8 then
      let w3 : MM := mUp w1 (i, 43 + 2 * y1.toNatClampNeg + 1) ((w1.1 i (43 + 2 * y1.toNatClampNeg + 1)) - r2)
      if mIn (2 : Int32) 7 then
      if mIn (2 : Int32) 7 then
      let w4 : MM := mUp w3 (i, 104 + (2 : Int32).toNatClampNeg) ((w3.1 i (104 + (2 : Int32).toNatClampNeg)) + r2)
      gX0_passDay_2_2 w4 i (y1 + (1 : Int32)) r2
      else none
      else none
      else none
    )
    else none
  else
    gX0_passDay_35_2 v i (0 : Int32) y2 := rl_eq (eX0_passDay_2_2 FX0_passDay _ v i y1 y2)
set_option maxRecDepth 100000 in
theorem qX0_passDay_35 (v : MM) (i : Nat) (y1 : Int32) : gX0_passDay_35 v i y1 =
  if y1 < (6 : Int32) then
    if mIn y1 6 then
    bV (fX4_passDay v [.inr (.inr (12, i, y1.toNatClampNeg)), .inl (v.1 i 20), .inl (v.1 i 21)]) (fun w1 =>
      gX0_passDay_35 w1 i (y1 + (1 : Int32))
    )
    else none
  else
    let w2 : MM := mUp v (i, 103) ((v.1 i 103) + (1 : Int32))
    some (w2, some (.inl (w2.1 i 103))) := rl_eq (eX0_passDay_35 FX0_passDay _ v i y1)
set_option maxRecDepth 100000 in
theorem qX0_passDay_35_2 (v : MM) (i : Nat) (y1 y2 : Int32) : gX0_passDay_35_2 v i y1 y2 =
  if y1 < (6 : Int32) then
    if mIn y1 6 then
    bV (fX4_passDay v [.inr (.inr (12, i, y1.toNatClampNeg)), .inl (v.1 i 20), .inl (v.1 i 21)]) (fun w1 =>
      gX0_passDay_35_2 w1 i (y1 + (1 : Int32)) y2
    )
    else none
  else
    let w2 : MM := mUp v (i, 103) ((v.1 i 103) + (1 : Int32))
    some (w2, some (.inl (w2.1 i 103))) := rl_eq (eX0_passDay_35_2 FX0_passDay _ v i y1 y2)
noncomputable def gX0_applesInLots_4 (v : MM) (i : Nat) (y1 y2 : Int32) : MR := rLim FX0_applesInLots cdX0_applesInLots 4 [(2, .inl y1), (1, .inl y2), (0, .inr (.inr (2, i, 0)))] [] v
set_option maxRecDepth 100000 in
theorem qX0_applesInLots (v : MM) (i : Nat) : fX0_applesInLots v [.inr (.inr (2, i, 0))] =
  gX0_applesInLots_4 v i (0 : Int32) (0 : Int32) := fn_eq rfl (eX0_applesInLots FX0_applesInLots _ v i)
set_option maxRecDepth 100000 in
theorem qX0_applesInLots_4 (v : MM) (i : Nat) (y1 y2 : Int32) : gX0_applesInLots_4 v i y1 y2 =
  if y1 < (8 : Int32) then
    if mIn y1 8 then
    gX0_applesInLots_4 v i (y1 + (1 : Int32)) (y2 + (v.1 i (43 + 2 * y1.toNatClampNeg + 1)))
    else none
  else
    some (v, some (.inl y2)) := rl_eq (eX0_applesInLots_4 FX0_applesInLots _ v i y1 y2)
noncomputable def gX0_juiceInTanks_4 (v : MM) (i : Nat) (y1 y2 : Int32) : MR := rLim FX0_juiceInTanks cdX0_juiceInTanks 4 [(2, .inl y1), (1, .inl y2), (0, .inr (.inr (2, i, 0)))] [] v
set_option maxRecDepth 100000 in
theorem qX0_juiceInTanks (v : MM) (i : Nat) : fX0_juiceInTanks v [.inr (.inr (2, i, 0))] =
  gX0_juiceInTanks_4 v i (0 : Int32) (0 : Int32) := fn_eq rfl (eX0_juiceInTanks FX0_juiceInTanks _ v i)
set_option maxRecDepth 100000 in
theorem qX0_juiceInTanks_4 (v : MM) (i : Nat) (y1 y2 : Int32) : gX0_juiceInTanks_4 v i y1 y2 =
  if y1 < (6 : Int32) then
    if mIn y1 6 then
    gX0_juiceInTanks_4 v i (y1 + (1 : Int32)) (y2 + (v.1 i (60 + 7 * y1.toNatClampNeg + 1)))
    else none
  else
    some (v, some (.inl y2)) := rl_eq (eX0_juiceInTanks_4 FX0_juiceInTanks _ v i y1 y2)
noncomputable def gX0_leesInTanks_4 (v : MM) (i : Nat) (y1 y2 : Int32) : MR := rLim FX0_leesInTanks cdX0_leesInTanks 4 [(2, .inl y1), (1, .inl y2), (0, .inr (.inr (2, i, 0)))] [] v
set_option maxRecDepth 100000 in
theorem qX0_leesInTanks (v : MM) (i : Nat) : fX0_leesInTanks v [.inr (.inr (2, i, 0))] =
  gX0_leesInTanks_4 v i (0 : Int32) (0 : Int32) := fn_eq rfl (eX0_leesInTanks FX0_leesInTanks _ v i)
set_option maxRecDepth 100000 in
theorem qX0_leesInTanks_4 (v : MM) (i : Nat) (y1 y2 : Int32) : gX0_leesInTanks_4 v i y1 y2 =
  if y1 < (6 : Int32) then
    if mIn y1 6 then
    gX0_leesInTanks_4 v i (y1 + (1 : Int32)) (y2 + (v.1 i (60 + 7 * y1.toNatClampNeg + 5)))
    else none
  else
    some (v, some (.inl y2)) := rl_eq (eX0_leesInTanks_4 FX0_leesInTanks _ v i y1 y2)
set_option maxRecDepth 100000 in
theorem qX0_sumOf (v : MM) (i : Nat) (x1 : Int32) : fX0_sumOf v [.inr (.inr (2, i, 0)), .inl x1] =
  bI (fX6_within v [.inl x1, .inl (0 : Int32), .inl (6 : Int32)]) (fun w1 r2 =>
    if r2 = 0 then
      if x1 = (7 : Int32) then
        bI (fX0_applesInLots w1 [.inr (.inr (2, i, 0))]) (fun w3 r4 =>
          some (w3, some (.inl r4))
        )
      else if x1 = (8 : Int32) then
        some (w1, some (.inl (w1.1 i 102)))
      else if x1 = (9 : Int32) then
        bI (fX0_juiceInTanks w1 [.inr (.inr (2, i, 0))]) (fun w5 r6 =>
          some (w5, some (.inl r6))
        )
      else if x1 = (10 : Int32) then
        bI (fX0_leesInTanks w1 [.inr (.inr (2, i, 0))]) (fun w7 r8 =>
          some (w7, some (.inl r8))
        )
      else
        some (w1, some (.inl (-1 : Int32)))
    else
      if mIn x1 7 then
      some (w1, some (.inl (w1.1 i (104 + x1.toNatClampNeg))))
      else none
  ) := fn_eq rfl (eX0_sumOf FX0_sumOf _ v i x1)
