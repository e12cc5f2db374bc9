-- EQUATIONS of the methods, callees named (by program: wip/whole/gen/qgen.py)
set_option maxRecDepth 100000 in
theorem qX7_in (v : MM) (x1 x2 x3 : Int32) : fX7_in v [.inl x1, .inl x2, .inl x3] =
  if x1 < x2 then
    some (v, some (.inl (0 : Int32)))
  else
    if x3 < x1 then
      some (v, some (.inl (0 : Int32)))
    else
      some (v, some (.inl (1 : Int32))) := fn_eq rfl (eX7_in FX7_in _ v x1 x2 x3)
noncomputable def gX7_edits_6 (v : MM) (y1 : Int32) : MR := rLim FX7_edits cdX7_edits 6 [(1, .inl y1), (0, .inr (.inr (16, 0, 0)))] [] v
noncomputable def gX7_edits_29 (v : MM) (y1 : Int32) : MR := rLim FX7_edits cdX7_edits 29 [(1, .inl y1), (0, .inr (.inr (16, 0, 0)))] [] v
set_option maxRecDepth 100000 in
theorem qX7_edits (v : MM) : fX7_edits v [.inr (.inr (16, 0, 0))] =
  if (v.1 13 2) = (6 : Int32) then
    gX7_edits_6 v (0 : Int32)
  else
    gX7_edits_29 v (0 : Int32) := fn_eq rfl (eX7_edits FX7_edits _ v )
set_option maxRecDepth 100000 in
theorem qX7_edits_6 (v : MM) (y1 : Int32) : gX7_edits_6 v y1 =
  if y1 < (755 : Int32) then
    if mIn (y1 + (151 : Int32)) 906 then
    if mIn y1 906 then
    let w1 : MM := mUp v (15, y1.toNatClampNeg) (v.1 15 ((y1 + (151 : Int32)).toNatClampNeg))
    gX7_edits_6 w1 (y1 + (1 : Int32))
    else none
    else none
  else
    let w2 : MM := mUp v (13, 2) ((v.1 13 2) - (1 : Int32))
    gX7_edits_29 w2 (0 : Int32) := rl_eq (eX7_edits_6 FX7_edits _ v y1)
set_option maxRecDepth 100000 in
theorem qX7_edits_29 (v : MM) (y1 : Int32) : gX7_edits_29 v y1 =
  if y1 < (151 : Int32) then
    if mIn y1 151 then
    if mIn (((151 : Int32) * (v.1 13 2)) + y1) 906 then
    let w1 : MM := mUp v (15, (((151 : Int32) * (v.1 13 2)) + y1).toNatClampNeg) (v.1 14 y1.toNatClampNeg)
    gX7_edits_29 w1 (y1 + (1 : Int32))
    else none
    else none
  else
    let w2 : MM := mUp v (13, 2) ((v.1 13 2) + (1 : Int32))
    let w3 : MM := mUp w2 (13, 4) (0 : Int32)
    some (w3, none) := rl_eq (eX7_edits_29 FX7_edits _ v y1)
noncomputable def gX7_undo_13 (v : MM) (y1 : Int32) : MR := rLim FX7_undo cdX7_undo 13 [(1, .inl y1), (0, .inr (.inr (16, 0, 0)))] [] v
set_option maxRecDepth 100000 in
theorem qX7_undo (v : MM) : fX7_undo v [.inr (.inr (16, 0, 0))] =
  if (v.1 13 2) = 0 then
    some (v, some (.inl (-2 : Int32)))
  else
    let w1 : MM := mUp v (13, 2) ((v.1 13 2) - (1 : Int32))
    gX7_undo_13 w1 (0 : Int32) := fn_eq rfl (eX7_undo FX7_undo _ v )
set_option maxRecDepth 100000 in
theorem qX7_undo_13 (v : MM) (y1 : Int32) : gX7_undo_13 v y1 =
  if y1 < (151 : Int32) then
    if mIn (((151 : Int32) * (v.1 13 2)) + y1) 906 then
    if mIn y1 151 then
    let w1 : MM := mUp v (14, y1.toNatClampNeg) (v.1 15 ((((151 : Int32) * (v.1 13 2)) + y1).toNatClampNeg))
    gX7_undo_13 w1 (y1 + (1 : Int32))
    else none
    else none
  else
    some (v, some (.inl (v.1 13 2))) := rl_eq (eX7_undo_13 FX7_undo _ v y1)
set_option maxRecDepth 100000 in
theorem qX7_refuses (v : MM) (x1 : Int32) : fX7_refuses v [.inr (.inr (16, 0, 0)), .inl x1] =
  let w1 : MM := mUp v (13, 4) x1
  some (w1, some (.inl (-2 : Int32))) := fn_eq rfl (eX7_refuses FX7_refuses _ v x1)
noncomputable def gX7_keeps_2 (v : MM) (y1 : Int32) : MR := rLim FX7_keeps cdX7_keeps 2 [(1, .inl y1), (0, .inr (.inr (16, 0, 0)))] [] v
set_option maxRecDepth 100000 in
theorem qX7_keeps (v : MM) : fX7_keeps v [.inr (.inr (16, 0, 0))] =
  gX7_keeps_2 v (0 : Int32) := fn_eq rfl (eX7_keeps FX7_keeps _ v )
set_option maxRecDepth 100000 in
theorem qX7_keeps_2 (v : MM) (y1 : Int32) : gX7_keeps_2 v y1 =
  if y1 < (151 : Int32) then
    if mIn y1 151 then
    if mIn y1 151 then
    let w1 : MM := mUp v (16, y1.toNatClampNeg) (v.1 14 y1.toNatClampNeg)
    gX7_keeps_2 w1 (y1 + (1 : Int32))
    else none
    else none
  else
    some (v, none) := rl_eq (eX7_keeps_2 FX7_keeps _ v y1)
noncomputable def gX7_restores_2 (v : MM) (y1 : Int32) : MR := rLim FX7_restores cdX7_restores 2 [(1, .inl y1), (0, .inr (.inr (16, 0, 0)))] [] v
set_option maxRecDepth 100000 in
theorem qX7_restores (v : MM) : fX7_restores v [.inr (.inr (16, 0, 0))] =
  gX7_restores_2 v (0 : Int32) := fn_eq rfl (eX7_restores FX7_restores _ v )
set_option maxRecDepth 100000 in
theorem qX7_restores_2 (v : MM) (y1 : Int32) : gX7_restores_2 v y1 =
  if y1 < (151 : Int32) then
    if mIn y1 151 then
    if mIn y1 151 then
    let w1 : MM := mUp v (14, y1.toNatClampNeg) (v.1 16 y1.toNatClampNeg)
    gX7_restores_2 w1 (y1 + (1 : Int32))
    else none
    else none
  else
    some (v, none) := rl_eq (eX7_restores_2 FX7_restores _ v y1)
set_option maxRecDepth 100000 in
theorem qX7_changes (v : MM) (x1 x2 : Int32) : fX7_changes v [.inr (.inr (16, 0, 0)), .inl x1, .inl x2] =
  if mIn x1 151 then
  if (v.1 14 x1.toNatClampNeg) = x2 then
    if mIn x1 151 then
    let w1 : MM := mUp v (14, x1.toNatClampNeg) x2
    some (w1, some (.inl (0 : Int32)))
    else none
  else
    if mIn x1 151 then
    let w2 : MM := mUp v (14, x1.toNatClampNeg) x2
    some (w2, some (.inl (1 : Int32)))
    else none
  else none := fn_eq rfl (eX7_changes FX7_changes _ v x1 x2)
set_option maxRecDepth 100000 in
theorem qX7_setVariety (v : MM) (x1 x2 x3 x4 : Int32) : fX7_setVariety v [.inr (.inr (16, 0, 0)), .inl x1, .inl x2, .inl x3, .inl x4] =
  bI (fX7_in v [.inl x1, .inl (0 : Int32), .inl (5 : Int32)]) (fun w1 r2 =>
    if r2 = 0 then
      some (w1, some (.inl (-1 : Int32)))
    else
      bI (fX7_in w1 [.inl x2, .inl (300 : Int32), .inl (800 : Int32)]) (fun w3 r4 =>
        if r4 = 0 then
          some (w3, some (.inl (-1 : Int32)))
        else
          bI (fX7_in w3 [.inl x3, .inl (0 : Int32), .inl (200 : Int32)]) (fun w5 r6 =>
            if r6 = 0 then
              some (w5, some (.inl (-1 : Int32)))
            else
              bI (fX7_in w5 [.inl x4, .inl (0 : Int32), .inl (100 : Int32)]) (fun w7 r8 =>
                if r8 = 0 then
                  some (w7, some (.inl (-1 : Int32)))
                else
                  bV (fX7_edits w7 [.inr (.inr (16, 0, 0))]) (fun w9 =>
                    if mIn ((3 : Int32) * x1) 151 then
                    if mIn ((3 : Int32) * x1) 151 then
                    let w10 : MM := mUp w9 (14, ((3 : Int32) * x1).toNatClampNeg) x2
                    if mIn (((3 : Int32) * x1) + (1 : Int32)) 151 then
                    let w11 : MM := mUp w10 (14, (((3 : Int32) * x1) + (1 : Int32)).toNatClampNeg) x3
                    if mIn (((3 : Int32) * x1) + (2 : Int32)) 151 then
                    let w12 : MM := mUp w11 (14, (((3 : Int32) * x1) + (2 : Int32)).toNatClampNeg) x4
                    some (w12, some (.inl (w9.1 14 (((3 : Int32) * x1).toNatClampNeg))))
                    else none
                    else none
                    else none
                    else none
                  )
              )
          )
      )
  ) := fn_eq rfl (eX7_setVariety FX7_setVariety _ v x1 x2 x3 x4)
set_option maxRecDepth 100000 in
theorem qX7_setRates (v : MM) (x1 x2 x3 x4 : Int32) : fX7_setRates v [.inr (.inr (16, 0, 0)), .inl x1, .inl x2, .inl x3, .inl x4] =
  bI (fX7_in v [.inl x1, .inl (0 : Int32), .inl (20 : Int32)]) (fun w1 r2 =>
    if r2 = 0 then
      some (w1, some (.inl (-1 : Int32)))
    else
      bI (fX7_in w1 [.inl x2, .inl (0 : Int32), .inl (100 : Int32)]) (fun w3 r4 =>
        if r4 = 0 then
          some (w3, some (.inl (-1 : Int32)))
        else
          bI (fX7_in w3 [.inl x3, .inl (0 : Int32), .inl (500 : Int32)]) (fun w5 r6 =>
            if r6 = 0 then
              some (w5, some (.inl (-1 : Int32)))
            else
              bI (fX7_in w5 [.inl x4, .inl (0 : Int32), .inl (300 : Int32)]) (fun w7 r8 =>
                if r8 = 0 then
                  some (w7, some (.inl (-1 : Int32)))
                else
                  bV (fX7_edits w7 [.inr (.inr (16, 0, 0))]) (fun w9 =>
                    bI (fX7_changes w9 [.inr (.inr (16, 0, 0)), .inl (18 : Int32), .inl x1]) (fun w10 r11 =>
                      bI (fX7_changes w10 [.inr (.inr (16, 0, 0)), .inl (19 : Int32), .inl x2]) (fun w12 r13 =>
                        bI (fX7_changes w12 [.inr (.inr (16, 0, 0)), .inl (20 : Int32), .inl x3]) (fun w14 r15 =>
                          bI (fX7_changes w14 [.inr (.inr (16, 0, 0)), .inl (21 : Int32), .inl x4]) (fun w16 r17 =>
                            if 0 < (((r11 + r13) + r15) + r17) then
                              some (w16, some (.inl (1 : Int32)))
                            else
                              some (w16, some (.inl (0 : Int32)))
                          )
                        )
                      )
                    )
                  )
              )
          )
      )
  ) := fn_eq rfl (eX7_setRates FX7_setRates _ v x1 x2 x3 x4)
set_option maxRecDepth 100000 in
theorem qX7_setLabel (v : MM) (x1 x2 x3 x4 x5 x6 : Int32) : fX7_setLabel v [.inr (.inr (16, 0, 0)), .inl x1, .inl x2, .inl x3, .inl x4, .inl x5, .inl x6] =
  bI (fX7_in v [.inl x1, .inl (0 : Int32), .inl (3 : Int32)]) (fun w1 r2 =>
    if r2 = 0 then
      if (0 : Int32) = 0 then
        some (w1, some (.inl (-1 : Int32)))
      else
        bV (fX7_edits w1 [.inr (.inr (16, 0, 0))]) (fun w3 =>
          bI (fX7_changes w3 [.inr (.inr (16, 0, 0)), .inl ((22 : Int32) + ((5 : Int32) * x1)), .inl x2]) (fun w4 r5 =>
            bI (fX7_changes w4 [.inr (.inr (16, 0, 0)), .inl (((22 : Int32) + ((5 : Int32) * x1)) + (1 : Int32)), .inl x3]) (fun w6 r7 =>
              bI (fX7_changes w6 [.inr (.inr (16, 0, 0)), .inl (((22 : Int32) + ((5 : Int32) * x1)) + (2 : Int32)), .inl x4]) (fun w8 r9 =>
                bI (fX7_changes w8 [.inr (.inr (16, 0, 0)), .inl (((22 : Int32) + ((5 : Int32) * x1)) + (3 : Int32)), .inl x5]) (fun w10 r11 =>
                  bI (fX7_changes w10 [.inr (.inr (16, 0, 0)), .inl (((22 : Int32) + ((5 : Int32) * x1)) + (4 : Int32)), .inl x6]) (fun w12 r13 =>
                    if 0 < ((((r5 + r7) + r9) + r11) + r13) then
                      some (w12, some (.inl (1 : Int32)))
                    else
                      some (w12, some (.inl (0 : Int32)))
                  )
                )
              )
            )
          )
        )
    else
      bI (fX7_in w1 [.inl x2, .inl (0 : Int32), .inl (1000 : Int32)]) (fun w14 r15 =>
        if r15 = 0 then
          if (0 : Int32) = 0 then
            some (w14, some (.inl (-1 : Int32)))
          else
            bV (fX7_edits w14 [.inr (.inr (16, 0, 0))]) (fun w16 =>
              bI (fX7_changes w16 [.inr (.inr (16, 0, 0)), .inl ((22 : Int32) + ((5 : Int32) * x1)), .inl x2]) (fun w17 r18 =>
                bI (fX7_changes w17 [.inr (.inr (16, 0, 0)), .inl (((22 : Int32) + ((5 : Int32) * x1)) + (1 : Int32)), .inl x3]) (fun w19 r20 =>
                  bI (fX7_changes w19 [.inr (.inr (16, 0, 0)), .inl (((22 : Int32) + ((5 : Int32) * x1)) + (2 : Int32)), .inl x4]) (fun w21 r22 =>
                    bI (fX7_changes w21 [.inr (.inr (16, 0, 0)), .inl (((22 : Int32) + ((5 : Int32) * x1)) + (3 : Int32)), .inl x5]) (fun w23 r24 =>
                      bI (fX7_changes w23 [.inr (.inr (16, 0, 0)), .inl (((22 : Int32) + ((5 : Int32) * x1)) + (4 : Int32)), .inl x6]) (fun w25 r26 =>
                        if 0 < ((((r18 + r20) + r22) + r24) + r26) then
                          some (w25, some (.inl (1 : Int32)))
                        else
                          some (w25, some (.inl (0 : Int32)))
                      )
                    )
                  )
                )
              )
            )
        else
          bI (fX7_in w14 [.inl x3, .inl x2, .inl (1000 : Int32)]) (fun w27 r28 =>
            if r28 = 0 then
              if (0 : Int32) = 0 then
                some (w27, some (.inl (-1 : Int32)))
              else
                bV (fX7_edits w27 [.inr (.inr (16, 0, 0))]) (fun w29 =>
                  bI (fX7_changes w29 [.inr (.inr (16, 0, 0)), .inl ((22 : Int32) + ((5 : Int32) * x1)), .inl x2]) (fun w30 r31 =>
                    bI (fX7_changes w30 [.inr (.inr (16, 0, 0)), .inl (((22 : Int32) + ((5 : Int32) * x1)) + (1 : Int32)), .inl x3]) (fun w32 r33 =>
                      bI (fX7_changes w32 [.inr (.inr (16, 0, 0)), .inl (((22 : Int32) + ((5 : Int32) * x1)) + (2 : Int32)), .inl x4]) (fun w34 r35 =>
                        bI (fX7_changes w34 [.inr (.inr (16, 0, 0)), .inl (((22 : Int32) + ((5 : Int32) * x1)) + (3 : Int32)), .inl x5]) (fun w36 r37 =>
                          bI (fX7_changes w36 [.inr (.inr (16, 0, 0)), .inl (((22 : Int32) + ((5 : Int32) * x1)) + (4 : Int32)), .inl x6]) (fun w38 r39 =>
                            if 0 < ((((r31 + r33) + r35) + r37) + r39) then
                              some (w38, some (.inl (1 : Int32)))
                            else
                              some (w38, some (.inl (0 : Int32)))
                          )
                        )
                      )
                    )
                  )
                )
            else
              bI (fX7_in w27 [.inl x4, .inl (0 : Int32), .inl (1000 : Int32)]) (fun w40 r41 =>
                if r41 = 0 then
                  if (0 : Int32) = 0 then
                    some (w40, some (.inl (-1 : Int32)))
                  else
                    bV (fX7_edits w40 [.inr (.inr (16, 0, 0))]) (fun w42 =>
                      bI (fX7_changes w42 [.inr (.inr (16, 0, 0)), .inl ((22 : Int32) + ((5 : Int32) * x1)), .inl x2]) (fun w43 r44 =>
                        bI (fX7_changes w43 [.inr (.inr (16, 0, 0)), .inl (((22 : Int32) + ((5 : Int32) * x1)) + (1 : Int32)), .inl x3]) (fun w45 r46 =>
                          bI (fX7_changes w45 [.inr (.inr (16, 0, 0)), .inl (((22 : Int32) + ((5 : Int32) * x1)) + (2 : Int32)), .inl x4]) (fun w47 r48 =>
                            bI (fX7_changes w47 [.inr (.inr (16, 0, 0)), .inl (((22 : Int32) + ((5 : Int32) * x1)) + (3 : Int32)), .inl x5]) (fun w49 r50 =>
                              bI (fX7_changes w49 [.inr (.inr (16, 0, 0)), .inl (((22 : Int32) + ((5 : Int32) * x1)) + (4 : Int32)), .inl x6]) (fun w51 r52 =>
                                if 0 < ((((r44 + r46) + r48) + r50) + r52) then
                                  some (w51, some (.inl (1 : Int32)))
                                else
                                  some (w51, some (.inl (0 : Int32)))
                              )
                            )
                          )
                        )
                      )
                    )
                else
                  bI (fX7_in w40 [.inl x5, .inl x4, .inl (1000 : Int32)]) (fun w53 r54 =>
                    if r54 = 0 then
                      if (0 : Int32) = 0 then
                        some (w53, some (.inl (-1 : Int32)))
                      else
                        bV (fX7_edits w53 [.inr (.inr (16, 0, 0))]) (fun w55 =>
                          bI (fX7_changes w55 [.inr (.inr (16, 0, 0)), .inl ((22 : Int32) + ((5 : Int32) * x1)), .inl x2]) (fun w56 r57 =>
                            bI (fX7_changes w56 [.inr (.inr (16, 0, 0)), .inl (((22 : Int32) + ((5 : Int32) * x1)) + (1 : Int32)), .inl x3]) (fun w58 r59 =>
                              bI (fX7_changes w58 [.inr (.inr (16, 0, 0)), .inl (((22 : Int32) + ((5 : Int32) * x1)) + (2 : Int32)), .inl x4]) (fun w60 r61 =>
                                bI (fX7_changes w60 [.inr (.inr (16, 0, 0)), .inl (((22 : Int32) + ((5 : Int32) * x1)) + (3 : Int32)), .inl x5]) (fun w62 r63 =>
                                  bI (fX7_changes w62 [.inr (.inr (16, 0, 0)), .inl (((22 : Int32) + ((5 : Int32) * x1)) + (4 : Int32)), .inl x6]) (fun w64 r65 =>
                                    if 0 < ((((r57 + r59) + r61) + r63) + r65) then
                                      some (w64, some (.inl (1 : Int32)))
                                    else
                                      some (w64, some (.inl (0 : Int32)))
                                  )
                                )
                              )
                            )
                          )
                        )
                    else
                      bI (fX7_in w53 [.inl x6, .inl (0 : Int32), .inl (1000 : Int32)]) (fun w66 r67 =>
                        if r67 = 0 then
                          if (0 : Int32) = 0 then
                            some (w66, some (.inl (-1 : Int32)))
                          else
                            bV (fX7_edits w66 [.inr (.inr (16, 0, 0))]) (fun w68 =>
                              bI (fX7_changes w68 [.inr (.inr (16, 0, 0)), .inl ((22 : Int32) + ((5 : Int32) * x1)), .inl x2]) (fun w69 r70 =>
                                bI (fX7_changes w69 [.inr (.inr (16, 0, 0)), .inl (((22 : Int32) + ((5 : Int32) * x1)) + (1 : Int32)), .inl x3]) (fun w71 r72 =>
                                  bI (fX7_changes w71 [.inr (.inr (16, 0, 0)), .inl (((22 : Int32) + ((5 : Int32) * x1)) + (2 : Int32)), .inl x4]) (fun w73 r74 =>
                                    bI (fX7_changes w73 [.inr (.inr (16, 0, 0)), .inl (((22 : Int32) + ((5 : Int32) * x1)) + (3 : Int32)), .inl x5]) (fun w75 r76 =>
                                      bI (fX7_changes w75 [.inr (.inr (16, 0, 0)), .inl (((22 : Int32) + ((5 : Int32) * x1)) + (4 : Int32)), .inl x6]) (fun w77 r78 =>
                                        if 0 < ((((r70 + r72) + r74) + r76) + r78) then
                                          some (w77, some (.inl (1 : Int32)))
                                        else
                                          some (w77, some (.inl (0 : Int32)))
                                      )
                                    )
                                  )
                                )
                              )
                            )
                        else
                          if (1 : Int32) = 0 then
                            some (w66, some (.inl (-1 : Int32)))
                          else
                            bV (fX7_edits w66 [.inr (.inr (16, 0, 0))]) (fun w79 =>
                              bI (fX7_changes w79 [.inr (.inr (16, 0, 0)), .inl ((22 : Int32) + ((5 : Int32) * x1)), .inl x2]) (fun w80 r81 =>
                                bI (fX7_changes w80 [.inr (.inr (16, 0, 0)), .inl (((22 : Int32) + ((5 : Int32) * x1)) + (1 : Int32)), .inl x3]) (fun w82 r83 =>
                                  bI (fX7_changes w82 [.inr (.inr (16, 0, 0)), .inl (((22 : Int32) + ((5 : Int32) * x1)) + (2 : Int32)), .inl x4]) (fun w84 r85 =>
                                    bI (fX7_changes w84 [.inr (.inr (16, 0, 0)), .inl (((22 : Int32) + ((5 : Int32) * x1)) + (3 : Int32)), .inl x5]) (fun w86 r87 =>
                                      bI (fX7_changes w86 [.inr (.inr (16, 0, 0)), .inl (((22 : Int32) + ((5 : Int32) * x1)) + (4 : Int32)), .inl x6]) (fun w88 r89 =>
                                        if 0 < ((((r81 + r83) + r85) + r87) + r89) then
                                          some (w88, some (.inl (1 : Int32)))
                                        else
                                          some (w88, some (.inl (0 : Int32)))
                                      )
                                    )
                                  )
                                )
                              )
                            )
                      )
                  )
              )
          )
      )
  ) := fn_eq rfl (eX7_setLabel FX7_setLabel _ v x1 x2 x3 x4 x5 x6)
set_option maxRecDepth 100000 in
theorem qX7_isLot (v : MM) (x1 : Int32) : fX7_isLot v [.inr (.inr (16, 0, 0)), .inl x1] =
  if mIn (42 : Int32) 151 then
  bI (fX7_in v [.inl x1, .inl (0 : Int32), .inl ((v.1 14 ((42 : Int32).toNatClampNeg)) - (1 : Int32))]) (fun w1 r2 =>
    if r2 = 0 ∨ r2 = 1 then some (w1, some (.inl r2)) else none
  )
  else none := fn_eq rfl (eX7_isLot FX7_isLot _ v x1)
set_option maxRecDepth 100000 in
theorem qX7_isTank (v : MM) (x1 : Int32) : fX7_isTank v [.inr (.inr (16, 0, 0)), .inl x1] =
  if mIn (59 : Int32) 151 then
  bI (fX7_in v [.inl x1, .inl (0 : Int32), .inl ((v.1 14 ((59 : Int32).toNatClampNeg)) - (1 : Int32))]) (fun w1 r2 =>
    if r2 = 0 ∨ r2 = 1 then some (w1, some (.inl r2)) else none
  )
  else none := fn_eq rfl (eX7_isTank FX7_isTank _ v x1)
set_option maxRecDepth 100000 in
theorem qX7_of (v : MM) (x1 x2 : Int32) : fX7_of v [.inr (.inr (16, 0, 0)), .inl x1, .inl x2] =
  if mIn (((60 : Int32) + ((7 : Int32) * x1)) + x2) 151 then
  some (v, some (.inl (v.1 14 ((((60 : Int32) + ((7 : Int32) * x1)) + x2).toNatClampNeg))))
  else none := fn_eq rfl (eX7_of FX7_of _ v x1 x2)
set_option maxRecDepth 100000 in
theorem qX7_adds (v : MM) (x1 x2 x3 : Int32) : fX7_adds v [.inr (.inr (16, 0, 0)), .inl x1, .inl x2, .inl x3] =
  if mIn (((60 : Int32) + ((7 : Int32) * x1)) + x2) 151 then
  if mIn (((60 : Int32) + ((7 : Int32) * x1)) + x2) 151 then
  let w1 : MM := mUp v (14, (((60 : Int32) + ((7 : Int32) * x1)) + x2).toNatClampNeg) ((v.1 14 ((((60 : Int32) + ((7 : Int32) * x1)) + x2).toNatClampNeg)) + x3)
  some (w1, none)
  else none
  else none := fn_eq rfl (eX7_adds FX7_adds _ v x1 x2 x3)
set_option maxRecDepth 100000 in
theorem qX7_left (v : MM) (x1 : Int32) : fX7_left v [.inr (.inr (16, 0, 0)), .inl x1] =
  bI (fX7_of v [.inr (.inr (16, 0, 0)), .inl x1, .inl (0 : Int32)]) (fun w1 r2 =>
    bI (fX7_of w1 [.inr (.inr (16, 0, 0)), .inl x1, .inl (1 : Int32)]) (fun w3 r4 =>
      bI (fX7_of w3 [.inr (.inr (16, 0, 0)), .inl x1, .inl (5 : Int32)]) (fun w5 r6 =>
        some (w5, some (.inl ((r2 - r4) - r6)))
      )
    )
  ) := fn_eq rfl (eX7_left FX7_left _ v x1)
set_option maxRecDepth 100000 in
theorem qX7_buy (v : MM) (x1 x2 : Int32) : fX7_buy v [.inr (.inr (16, 0, 0)), .inl x1, .inl x2] =
  bI (fX7_in v [.inl x1, .inl (0 : Int32), .inl (5 : Int32)]) (fun w1 r2 =>
    if r2 = 0 then
      some (w1, some (.inl (-1 : Int32)))
    else
      bI (fX7_in w1 [.inl x2, .inl (1 : Int32), .inl (20000 : Int32)]) (fun w3 r4 =>
        if r4 = 0 then
          some (w3, some (.inl (-1 : Int32)))
        else
          if mIn (42 : Int32) 151 then
          if (w3.1 14 ((42 : Int32).toNatClampNeg)) = (8 : Int32) then
            some (w3, some (.inl (-3 : Int32)))
          else
            bV (fX7_edits w3 [.inr (.inr (16, 0, 0))]) (fun w5 =>
              if mIn (42 : Int32) 151 then
              if mIn ((43 : Int32) + ((2 : Int32) * (w5.1 14 ((42 : Int32).toNatClampNeg)))) 151 then
              let w6 : MM := mUp w5 (14, ((43 : Int32) + ((2 : Int32) * (w5.1 14 ((42 : Int32).toNatClampNeg)))).toNatClampNeg) x1
              if mIn (42 : Int32) 151 then
              if mIn (((43 : Int32) + ((2 : Int32) * (w6.1 14 ((42 : Int32).toNatClampNeg)))) + (1 : Int32)) 151 then
              let w7 : MM := mUp w6 (14, (((43 : Int32) + ((2 : Int32) * (w6.1 14 ((42 : Int32).toNatClampNeg)))) + (1 : Int32)).toNatClampNeg) x2
              if mIn (42 : Int32) 151 then
              if mIn (42 : Int32) 151 then
              let w8 : MM := mUp w7 (14, (42 : Int32).toNatClampNeg) ((w7.1 14 ((42 : Int32).toNatClampNeg)) + (1 : Int32))
              if mIn (104 : Int32) 151 then
              if mIn (104 : Int32) 151 then
              let w9 : MM := mUp w8 (14, (104 : Int32).toNatClampNeg) ((w8.1 14 ((104 : Int32).toNatClampNeg)) + x2)
              if mIn (42 : Int32) 151 then
              some (w9, some (.inl ((w9.1 14 ((42 : Int32).toNatClampNeg)) - (1 : Int32))))
              else none
              else none
              else none
              else none
              else none
              else none
              else none
              else none
              else none
            )
          else none
      )
  ) := fn_eq rfl (eX7_buy FX7_buy _ v x1 x2)
noncomputable def gX7_addTank_19 (v : MM) (y1 y2 : Int32) : MR := rLim FX7_addTank cdX7_addTank 19 [(2, .inl y1), (0, .inr (.inr (16, 0, 0))), (1, .inl y2)] [] v
set_option maxRecDepth 100000 in
theorem qX7_addTank (v : MM) (x1 : Int32) : fX7_addTank v [.inr (.inr (16, 0, 0)), .inl x1] =
  bI (fX7_in v [.inl x1, .inl (1 : Int32), .inl (5000 : Int32)]) (fun w1 r2 =>
    if r2 = 0 then
      some (w1, some (.inl (-1 : Int32)))
    else
      if mIn (59 : Int32) 151 then
      if (w1.1 14 ((59 : Int32).toNatClampNeg)) = (6 : Int32) then
        some (w1, some (.inl (-3 : Int32)))
      else
        bV (fX7_edits w1 [.inr (.inr (16, 0, 0))]) (fun w3 =>
          gX7_addTank_19 w3 (0 : Int32) x1
        )
      else none
  ) := fn_eq rfl (eX7_addTank FX7_addTank _ v x1)
set_option maxRecDepth 100000 in
theorem qX7_addTank_19 (v : MM) (y1 y2 : Int32) : gX7_addTank_19 v y1 y2 =
  if y1 < (7 : Int32) then
    if mIn (59 : Int32) 151 then
    if y1 = 0 then
      if mIn (((60 : Int32) + ((7 : Int32) * (v.1 14 ((59 : Int32).toNatClampNeg)))) + y1) 151 then
      let w1 : MM := mUp v (14, (((60 : Int32) + ((7 : Int32) * (v.1 14 ((59 : Int32).toNatClampNeg)))) + y1).toNatClampNeg) y2
      gX7_addTank_19 w1 (y1 + (1 : Int32)) y2
      else none
    else
      if mIn (((60 : Int32) + ((7 : Int32) * (v.1 14 ((59 : Int32).toNatClampNeg)))) + y1) 151 then
      let w2 : MM := mUp v (14, (((60 : Int32) + ((7 : Int32) * (v.1 14 ((59 : Int32).toNatClampNeg)))) + y1).toNatClampNeg) (0 : Int32)
      gX7_addTank_19 w2 (y1 + (1 : Int32)) y2
      else none
    else none
  else
    if mIn (59 : Int32) 151 then
    if mIn (59 : Int32) 151 then
    let w3 : MM := mUp v (14, (59 : Int32).toNatClampNeg) ((v.1 14 ((59 : Int32).toNatClampNeg)) + (1 : Int32))
    if mIn (59 : Int32) 151 then
    some (w3, some (.inl ((w3.1 14 ((59 : Int32).toNatClampNeg)) - (1 : Int32))))
    else none
    else none
    else none := rl_eq (eX7_addTank_19 FX7_addTank _ v y1 y2)
set_option maxRecDepth 100000 in
theorem qX7_presses (v : MM) (x1 x2 x3 : Int32) : fX7_presses v [.inr (.inr (16, 0, 0)), .inl x1, .inl x2, .inl x3] =
  bI (fX7_isLot v [.inr (.inr (16, 0, 0)), .inl x1]) (fun w1 r2 =>
    if r2 = 0 then
      some (w1, some (.inl (-1 : Int32)))
    else
      bI (fX7_isTank w1 [.inr (.inr (16, 0, 0)), .inl x3]) (fun w3 r4 =>
        if r4 = 0 then
          some (w3, some (.inl (-1 : Int32)))
        else
          bI (fX7_in w3 [.inl x2, .inl (1 : Int32), .inl (20000 : Int32)]) (fun w5 r6 =>
            if r6 = 0 then
              some (w5, some (.inl (-1 : Int32)))
            else
              if mIn (((43 : Int32) + ((2 : Int32) * x1)) + (1 : Int32)) 151 then
              if (w5.1 14 ((((43 : Int32) + ((2 : Int32) * x1)) + (1 : Int32)).toNatClampNeg)) < x2 then
                bI (fX7_refuses w5 [.inr (.inr (16, 0, 0)), .inl (11 : Int32)]) (fun w7 r8 =>
                  some (w7, some (.inl r8))
                )
              else
                if mIn ((43 : Int32) + ((2 : Int32) * x1)) 151 then
                if mIn ((3 : Int32) * (w5.1 14 (((43 : Int32) + ((2 : Int32) * x1)).toNatClampNeg))) 151 then
                bI (fX7_left w5 [.inr (.inr (16, 0, 0)), .inl x3]) (fun w9 r10 =>
                  if r10 < ((x2 * (w5.1 14 (((3 : Int32) * (w5.1 14 (((43 : Int32) + ((2 : Int32) * x1)).toNatClampNeg))).toNatClampNeg))) / (1000 : Int32)) then
                    some (w9, some (.inl (-3 : Int32)))
                  else
                    if mIn (((43 : Int32) + ((2 : Int32) * x1)) + (1 : Int32)) 151 then
                    if mIn (((43 : Int32) + ((2 : Int32) * x1)) + (1 : Int32)) 151 then
                    let w11 : MM := mUp w9 (14, (((43 : Int32) + ((2 : Int32) * x1)) + (1 : Int32)).toNatClampNeg) ((w9.1 14 ((((43 : Int32) + ((2 : Int32) * x1)) + (1 : Int32)).toNatClampNeg)) - x2)
                    bV (fX7_adds w11 [.inr (.inr (16, 0, 0)), .inl x3, .inl (1 : Int32), .inl ((x2 * (w5.1 14 (((3 : Int32) * (w5.1 14 (((43 : Int32) + ((2 : Int32) * x1)).toNatClampNeg))).toNatClampNeg))) / (1000 : Int32))]) (fun w12 =>
                      if mIn (((3 : Int32) * (w5.1 14 (((43 : Int32) + ((2 : Int32) * x1)).toNatClampNeg))) + (1 : Int32)) 151 then
                      bV (fX7_adds w12 [.inr (.inr (16, 0, 0)), .inl x3, .inl (2 : Int32), .inl ((((x2 * (w5.1 14 (((3 : Int32) * (w5.1 14 (((43 : Int32) + ((2 : Int32) * x1)).toNatClampNeg))).toNatClampNeg))) / (1000 : Int32)) * (w12.1 14 ((((3 : Int32) * (w5.1 14 (((43 : Int32) + ((2 : Int32) * x1)).toNatClampNeg))) + (1 : Int32)).toNatClampNeg))) / (1000 : Int32))]) (fun w13 =>
                        if mIn (((3 : Int32) * (w5.1 14 (((43 : Int32) + ((2 : Int32) * x1)).toNatClampNeg))) + (2 : Int32)) 151 then
                        bV (fX7_adds w13 [.inr (.inr (16, 0, 0)), .inl x3, .inl (3 : Int32), .inl ((((x2 * (w5.1 14 (((3 : Int32) * (w5.1 14 (((43 : Int32) + ((2 : Int32) * x1)).toNatClampNeg))).toNatClampNeg))) / (1000 : Int32)) * (w13.1 14 ((((3 : Int32) * (w5.1 14 (((43 : Int32) + ((2 : Int32) * x1)).toNatClampNeg))) + (2 : Int32)).toNatClampNeg))) / (1000 : Int32))]) (fun w14 =>
                          if mIn (19 : Int32) 151 then
                          bV (fX7_adds w14 [.inr (.inr (16, 0, 0)), .inl x3, .inl (4 : Int32), .inl ((((x2 * (w5.1 14 (((3 : Int32) * (w5.1 14 (((43 : Int32) + ((2 : Int32) * x1)).toNatClampNeg))).toNatClampNeg))) / (1000 : Int32)) * (w14.1 14 ((19 : Int32).toNatClampNeg))) / (1000 : Int32))]) (fun w15 =>
                            if mIn (102 : Int32) 151 then
                            if mIn (102 : Int32) 151 then
                            let w16 : MM := mUp w15 (14, (102 : Int32).toNatClampNeg) ((w15.1 14 ((102 : Int32).toNatClampNeg)) + (x2 - ((x2 * (w5.1 14 (((3 : Int32) * (w5.1 14 (((43 : Int32) + ((2 : Int32) * x1)).toNatClampNeg))).toNatClampNeg))) / (1000 : Int32))))
                            some (w16, some (.inl ((x2 * (w5.1 14 (((3 : Int32) * (w5.1 14 (((43 : Int32) + ((2 : Int32) * x1)).toNatClampNeg))).toNatClampNeg))) / (1000 : Int32))))
                            else none
                            else none
                          )
                          else none
                        )
                        else none
                      )
                      else none
                    )
                    else none
                    else none
                )
                else none
                else none
              else none
          )
      )
  ) := fn_eq rfl (eX7_presses FX7_presses _ v x1 x2 x3)
set_option maxRecDepth 100000 in
theorem qX7_wets (v : MM) (x1 x2 : Int32) : fX7_wets v [.inr (.inr (16, 0, 0)), .inl x1, .inl x2] =
  bI (fX7_in v [.inl x1, .inl (0 : Int32), .inl (20000 : Int32)]) (fun w1 r2 =>
    if r2 = 0 then
      some (w1, some (.inl (-1 : Int32)))
    else
      bI (fX7_isTank w1 [.inr (.inr (16, 0, 0)), .inl x2]) (fun w3 r4 =>
        if r4 = 0 then
          some (w3, some (.inl (-1 : Int32)))
        else
          if mIn (102 : Int32) 151 then
          if (w3.1 14 ((102 : Int32).toNatClampNeg)) = 0 then
            bI (fX7_refuses w3 [.inr (.inr (16, 0, 0)), .inl (12 : Int32)]) (fun w5 r6 =>
              some (w5, some (.inl r6))
            )
          else
            if mIn (102 : Int32) 151 then
            bI (fX7_left w3 [.inr (.inr (16, 0, 0)), .inl x2]) (fun w7 r8 =>
              if r8 < (((w3.1 14 ((102 : Int32).toNatClampNeg)) + x1) / (4 : Int32)) then
                some (w7, some (.inl (-3 : Int32)))
              else
                bV (fX7_adds w7 [.inr (.inr (16, 0, 0)), .inl x2, .inl (1 : Int32), .inl (((w3.1 14 ((102 : Int32).toNatClampNeg)) + x1) / (4 : Int32))]) (fun w9 =>
                  bV (fX7_adds w9 [.inr (.inr (16, 0, 0)), .inl x2, .inl (2 : Int32), .inl ((((w3.1 14 ((102 : Int32).toNatClampNeg)) + x1) / (4 : Int32)) / (50 : Int32))]) (fun w10 =>
                    bV (fX7_adds w10 [.inr (.inr (16, 0, 0)), .inl x2, .inl (3 : Int32), .inl ((((w3.1 14 ((102 : Int32).toNatClampNeg)) + x1) / (4 : Int32)) / (100 : Int32))]) (fun w11 =>
                      bV (fX7_adds w11 [.inr (.inr (16, 0, 0)), .inl x2, .inl (4 : Int32), .inl ((((w3.1 14 ((102 : Int32).toNatClampNeg)) + x1) / (4 : Int32)) / (10 : Int32))]) (fun w12 =>
                        if mIn (102 : Int32) 151 then
                        if mIn (102 : Int32) 151 then
                        let w13 : MM := mUp w12 (14, (102 : Int32).toNatClampNeg) ((w12.1 14 ((102 : Int32).toNatClampNeg)) + (x1 - (((w3.1 14 ((102 : Int32).toNatClampNeg)) + x1) / (4 : Int32))))
                        if mIn (105 : Int32) 151 then
                        if mIn (105 : Int32) 151 then
                        let w14 : MM := mUp w13 (14, (105 : Int32).toNatClampNeg) ((w13.1 14 ((105 : Int32).toNatClampNeg)) + x1)
                        some (w14, some (.inl (((w3.1 14 ((102 : Int32).toNatClampNeg)) + x1) / (4 : Int32))))
                        else none
                        else none
                        else none
                        else none
                      )
                    )
                  )
                )
            )
            else none
          else none
      )
  ) := fn_eq rfl (eX7_wets FX7_wets _ v x1 x2)
noncomputable def gX7_carries_9 (v : MM) (y1 y2 y3 y4 y5 y6 : Int32) : MR := rLim FX7_carries cdX7_carries 9 [(6, .inl y1), (5, .inl y2), (4, .inl y3), (0, .inr (.inr (16, 0, 0))), (1, .inl y4), (2, .inl y5), (3, .inl y6)] [] v
noncomputable def gX7_carries_9_2 (v : MM) (y1 y2 y3 y4 y5 y6 y7 : Int32) : MR := rLim FX7_carries cdX7_carries 9 [(6, .inl y1), (5, .inl y2), (7, .inl y3), (4, .inl y4), (0, .inr (.inr (16, 0, 0))), (1, .inl y5), (2, .inl y6), (3, .inl y7)] [] v
set_option maxRecDepth 100000 in
theorem qX7_carries (v : MM) (x1 x2 x3 : Int32) : fX7_carries v [.inr (.inr (16, 0, 0)), .inl x1, .inl x2, .inl x3] =
  bI (fX7_of v [.inr (.inr (16, 0, 0)), .inl x1, .inl (1 : Int32)]) (fun w1 r2 =>
    gX7_carries_9 w1 (2 : Int32) (0 : Int32) r2 x1 x2 x3
  ) := fn_eq rfl (eX7_carries FX7_carries _ v x1 x2 x3)
set_option maxRecDepth 100000 in
theorem qX7_carries_9 (v : MM) (y1 y2 y3 y4 y5 y6 : Int32) : gX7_carries_9 v y1 y2 y3 y4 y5 y6 =
  if (6 : Int32) < y1 then
    bV (fX7_adds v [.inr (.inr (16, 0, 0)), .inl y4, .inl (1 : Int32), .inl (-y5)]) (fun w1 =>
      if y6 < 0 then
        some (w1, some (.inl y2))
      else
        bV (fX7_adds w1 [.inr (.inr (16, 0, 0)), .inl y6, .inl (1 : Int32), .inl y5]) (fun w2 =>
          some (w2, some (.inl y2))
        )
    )
  else
    if y1 = (5 : Int32) then
      if y1 = (4 : Int32) then
        bV (fX7_adds v [.inr (.inr (16, 0, 0)), .inl y4, .inl y1, .inl (-(0 : Int32))]) (fun w3 =>
          if y6 < 0 then
            gX7_carries_9_2 w3 (y1 + (1 : Int32)) (0 : Int32) (0 : Int32) y3 y4 y5 y6
          else
            bV (fX7_adds w3 [.inr (.inr (16, 0, 0)), .inl y6, .inl y1, .inl (0 : Int32)]) (fun w4 =>
              gX7_carries_9_2 w4 (y1 + (1 : Int32)) (0 : Int32) (0 : Int32) y3 y4 y5 y6
            )
        )
      else
        bV (fX7_adds v [.inr (.inr (16, 0, 0)), .inl y4, .inl y1, .inl (-(0 : Int32))]) (fun w5 =>
          if y6 < 0 then
            gX7_carries_9_2 w5 (y1 + (1 : Int32)) y2 (0 : Int32) y3 y4 y5 y6
          else
            bV (fX7_adds w5 [.inr (.inr (16, 0, 0)), .inl y6, .inl y1, .inl (0 : Int32)]) (fun w6 =>
              gX7_carries_9_2 w6 (y1 + (1 : Int32)) y2 (0 : Int32) y3 y4 y5 y6
            )
        )
    else
      bI (fX7_of v [.inr (.inr (16, 0, 0)), .inl y4, .inl y1]) (fun w7 r8 =>
        if y3 = 0 then none else
        if y1 = (4 : Int32) then
          bV (fX7_adds w7 [.inr (.inr (16, 0, 0)), .inl y4, .inl y1, .inl (-((r8 * y5) / y3))]) (fun w9 =>
            if y6 < 0 then
              gX7_carries_9_2 w9 (y1 + (1 : Int32)) ((r8 * y5) / y3) ((r8 * y5) / y3) y3 y4 y5 y6
            else
              bV (fX7_adds w9 [.inr (.inr (16, 0, 0)), .inl y6, .inl y1, .inl ((r8 * y5) / y3)]) (fun w10 =>
                gX7_carries_9_2 w10 (y1 + (1 : Int32)) ((r8 * y5) / y3) ((r8 * y5) / y3) y3 y4 y5 y6
              )
          )
        else
          bV (fX7_adds w7 [.inr (.inr (16, 0, 0)), .inl y4, .inl y1, .inl (-((r8 * y5) / y3))]) (fun w11 =>
            if y6 < 0 then
              gX7_carries_9_2 w11 (y1 + (1 : Int32)) y2 ((r8 * y5) / y3) y3 y4 y5 y6
            else
              bV (fX7_adds w11 [.inr (.inr (16, 0, 0)), .inl y6, .inl y1, .inl ((r8 * y5) / y3)]) (fun w12 =>
                gX7_carries_9_2 w12 (y1 + (1 : Int32)) y2 ((r8 * y5) / y3) y3 y4 y5 y6
              )
          )
      ) := rl_eq (eX7_carries_9 FX7_carries _ v y1 y2 y3 y4 y5 y6)
set_option maxRecDepth 100000 in
theorem qX7_carries_9_2 (v : MM) (y1 y2 y3 y4 y5 y6 y7 : Int32) : gX7_carries_9_2 v y1 y2 y3 y4 y5 y6 y7 =
  if (6 : Int32) < y1 then
    bV (fX7_adds v [.inr (.inr (16, 0, 0)), .inl y5, .inl (1 : Int32), .inl (-y6)]) (fun w1 =>
      if y7 < 0 then
        some (w1, some (.inl y2))
      else
        bV (fX7_adds w1 [.inr (.inr (16, 0, 0)), .inl y7, .inl (1 : Int32), .inl y6]) (fun w2 =>
          some (w2, some (.inl y2))
        )
    )
  else
    if y1 = (5 : Int32) then
      if y1 = (4 : Int32) then
        bV (fX7_adds v [.inr (.inr (16, 0, 0)), .inl y5, .inl y1, .inl (-(0 : Int32))]) (fun w3 =>
          if y7 < 0 then
            gX7_carries_9_2 w3 (y1 + (1 : Int32)) (0 : Int32) (0 : Int32) y4 y5 y6 y7
          else
            bV (fX7_adds w3 [.inr (.inr (16, 0, 0)), .inl y7, .inl y1, .inl (0 : Int32)]) (fun w4 =>
              gX7_carries_9_2 w4 (y1 + (1 : Int32)) (0 : Int32) (0 : Int32) y4 y5 y6 y7
            )
        )
      else
        bV (fX7_adds v [.inr (.inr (16, 0, 0)), .inl y5, .inl y1, .inl (-(0 : Int32))]) (fun w5 =>
          if y7 < 0 then
            gX7_carries_9_2 w5 (y1 + (1 : Int32)) y2 (0 : Int32) y4 y5 y6 y7
          else
            bV (fX7_adds w5 [.inr (.inr (16, 0, 0)), .inl y7, .inl y1, .inl (0 : Int32)]) (fun w6 =>
              gX7_carries_9_2 w6 (y1 + (1 : Int32)) y2 (0 : Int32) y4 y5 y6 y7
            )
        )
    else
      bI (fX7_of v [.inr (.inr (16, 0, 0)), .inl y5, .inl y1]) (fun w7 r8 =>
        if y4 = 0 then none else
        if y1 = (4 : Int32) then
          bV (fX7_adds w7 [.inr (.inr (16, 0, 0)), .inl y5, .inl y1, .inl (-((r8 * y6) / y4))]) (fun w9 =>
            if y7 < 0 then
              gX7_carries_9_2 w9 (y1 + (1 : Int32)) ((r8 * y6) / y4) ((r8 * y6) / y4) y4 y5 y6 y7
            else
              bV (fX7_adds w9 [.inr (.inr (16, 0, 0)), .inl y7, .inl y1, .inl ((r8 * y6) / y4)]) (fun w10 =>
                gX7_carries_9_2 w10 (y1 + (1 : Int32)) ((r8 * y6) / y4) ((r8 * y6) / y4) y4 y5 y6 y7
              )
          )
        else
          bV (fX7_adds w7 [.inr (.inr (16, 0, 0)), .inl y5, .inl y1, .inl (-((r8 * y6) / y4))]) (fun w11 =>
            if y7 < 0 then
              gX7_carries_9_2 w11 (y1 + (1 : Int32)) y2 ((r8 * y6) / y4) y4 y5 y6 y7
            else
              bV (fX7_adds w11 [.inr (.inr (16, 0, 0)), .inl y7, .inl y1, .inl ((r8 * y6) / y4)]) (fun w12 =>
                gX7_carries_9_2 w12 (y1 + (1 : Int32)) y2 ((r8 * y6) / y4) y4 y5 y6 y7
              )
          )
      ) := rl_eq (eX7_carries_9_2 FX7_carries _ v y1 y2 y3 y4 y5 y6 y7)
set_option maxRecDepth 100000 in
theorem qX7_areTwo (v : MM) (x1 x2 : Int32) : fX7_areTwo v [.inr (.inr (16, 0, 0)), .inl x1, .inl x2] =
  bI (fX7_isTank v [.inr (.inr (16, 0, 0)), .inl x1]) (fun w1 r2 =>
    if r2 = 0 then
      some (w1, some (.inl (0 : Int32)))
    else
      bI (fX7_isTank w1 [.inr (.inr (16, 0, 0)), .inl x2]) (fun w3 r4 =>
        if r4 = 0 then
          some (w3, some (.inl (0 : Int32)))
        else
          if x1 = x2 then
            some (w3, some (.inl (0 : Int32)))
          else
            some (w3, some (.inl (1 : Int32)))
      )
  ) := fn_eq rfl (eX7_areTwo FX7_areTwo _ v x1 x2)
set_option maxRecDepth 100000 in
theorem qX7_moves (v : MM) (x1 x2 x3 : Int32) : fX7_moves v [.inr (.inr (16, 0, 0)), .inl x1, .inl x2, .inl x3] =
  bI (fX7_areTwo v [.inr (.inr (16, 0, 0)), .inl x1, .inl x3]) (fun w1 r2 =>
    if r2 = 0 then
      some (w1, some (.inl (-1 : Int32)))
    else
      bI (fX7_in w1 [.inl x2, .inl (1 : Int32), .inl (5000 : Int32)]) (fun w3 r4 =>
        if r4 = 0 then
          some (w3, some (.inl (-1 : Int32)))
        else
          bI (fX7_of w3 [.inr (.inr (16, 0, 0)), .inl x1, .inl (1 : Int32)]) (fun w5 r6 =>
            if r6 < x2 then
              bI (fX7_refuses w5 [.inr (.inr (16, 0, 0)), .inl (7 : Int32)]) (fun w7 r8 =>
                some (w7, some (.inl r8))
              )
            else
              bI (fX7_left w5 [.inr (.inr (16, 0, 0)), .inl x3]) (fun w9 r10 =>
                if r10 < x2 then
                  some (w9, some (.inl (-3 : Int32)))
                else
                  bI (fX7_carries w9 [.inr (.inr (16, 0, 0)), .inl x1, .inl x2, .inl x3]) (fun w11 r12 =>
                    some (w11, some (.inl r12))
                  )
              )
          )
      )
  ) := fn_eq rfl (eX7_moves FX7_moves _ v x1 x2 x3)
set_option maxRecDepth 100000 in
theorem qX7_racks (v : MM) (x1 x2 : Int32) : fX7_racks v [.inr (.inr (16, 0, 0)), .inl x1, .inl x2] =
  bI (fX7_areTwo v [.inr (.inr (16, 0, 0)), .inl x1, .inl x2]) (fun w1 r2 =>
    if r2 = 0 then
      some (w1, some (.inl (-1 : Int32)))
    else
      bI (fX7_of w1 [.inr (.inr (16, 0, 0)), .inl x1, .inl (1 : Int32)]) (fun w3 r4 =>
        if r4 = 0 then
          bI (fX7_refuses w3 [.inr (.inr (16, 0, 0)), .inl (1 : Int32)]) (fun w5 r6 =>
            some (w5, some (.inl r6))
          )
        else
          bI (fX7_left w3 [.inr (.inr (16, 0, 0)), .inl x2]) (fun w7 r8 =>
            if r8 = 0 then
              some (w7, some (.inl (-3 : Int32)))
            else
              bI (fX7_of w7 [.inr (.inr (16, 0, 0)), .inl x1, .inl (1 : Int32)]) (fun w9 r10 =>
                bI (fX7_left w9 [.inr (.inr (16, 0, 0)), .inl x2]) (fun w11 r12 =>
                  if r10 < r12 then
                    bI (fX7_of w11 [.inr (.inr (16, 0, 0)), .inl x1, .inl (1 : Int32)]) (fun w13 r14 =>
                      bI (fX7_carries w13 [.inr (.inr (16, 0, 0)), .inl x1, .inl r14, .inl x2]) (fun w15 r16 =>
                        if r16 < 0 then
                          some (w15, some (.inl r16))
                        else
                          some (w15, some (.inl r14))
                      )
                    )
                  else
                    bI (fX7_left w11 [.inr (.inr (16, 0, 0)), .inl x2]) (fun w17 r18 =>
                      bI (fX7_carries w17 [.inr (.inr (16, 0, 0)), .inl x1, .inl r18, .inl x2]) (fun w19 r20 =>
                        if r20 < 0 then
                          some (w19, some (.inl r20))
                        else
                          some (w19, some (.inl r18))
                      )
                    )
                )
              )
          )
      )
  ) := fn_eq rfl (eX7_racks FX7_racks _ v x1 x2)
set_option maxRecDepth 100000 in
theorem qX7_cleans (v : MM) (x1 : Int32) : fX7_cleans v [.inr (.inr (16, 0, 0)), .inl x1] =
  bI (fX7_isTank v [.inr (.inr (16, 0, 0)), .inl x1]) (fun w1 r2 =>
    if r2 = 0 then
      some (w1, some (.inl (-1 : Int32)))
    else
      bI (fX7_of w1 [.inr (.inr (16, 0, 0)), .inl x1, .inl (1 : Int32)]) (fun w3 r4 =>
        if 0 < r4 then
          bI (fX7_refuses w3 [.inr (.inr (16, 0, 0)), .inl (13 : Int32)]) (fun w5 r6 =>
            some (w5, some (.inl r6))
          )
        else
          bI (fX7_of w3 [.inr (.inr (16, 0, 0)), .inl x1, .inl (5 : Int32)]) (fun w7 r8 =>
            bV (fX7_adds w7 [.inr (.inr (16, 0, 0)), .inl x1, .inl (5 : Int32), .inl (-r8)]) (fun w9 =>
              if mIn (107 : Int32) 151 then
              if mIn (107 : Int32) 151 then
              let w10 : MM := mUp w9 (14, (107 : Int32).toNatClampNeg) ((w9.1 14 ((107 : Int32).toNatClampNeg)) + r8)
              some (w10, some (.inl r8))
              else none
              else none
            )
          )
      )
  ) := fn_eq rfl (eX7_cleans FX7_cleans _ v x1)
noncomputable def gX7_bottled_4 (v : MM) (y1 y2 y3 : Int32) : MR := rLim FX7_bottled cdX7_bottled 4 [(3, .inl y1), (2, .inl y2), (0, .inr (.inr (16, 0, 0))), (1, .inl y3)] [] v
set_option maxRecDepth 100000 in
theorem qX7_bottled (v : MM) (x1 : Int32) : fX7_bottled v [.inr (.inr (16, 0, 0)), .inl x1] =
  gX7_bottled_4 v (0 : Int32) (0 : Int32) x1 := fn_eq rfl (eX7_bottled FX7_bottled _ v x1)
set_option maxRecDepth 100000 in
theorem qX7_bottled_4 (v : MM) (y1 y2 y3 : Int32) : gX7_bottled_4 v y1 y2 y3 =
  if y1 < (10 : Int32) then
    if mIn (((111 : Int32) + ((10 : Int32) * y3)) + y1) 151 then
    gX7_bottled_4 v (y1 + (1 : Int32)) (y2 + (v.1 14 ((((111 : Int32) + ((10 : Int32) * y3)) + y1).toNatClampNeg))) y3
    else none
  else
    some (v, some (.inl y2)) := rl_eq (eX7_bottled_4 FX7_bottled _ v y1 y2 y3)
set_option maxRecDepth 100000 in
theorem qX7_portion (v : MM) (x1 x2 : Int32) : fX7_portion v [.inr (.inr (16, 0, 0)), .inl x1, .inl x2] =
  bI (fX7_of v [.inr (.inr (16, 0, 0)), .inl x1, .inl x2]) (fun w1 r2 =>
    bI (fX7_of w1 [.inr (.inr (16, 0, 0)), .inl x1, .inl (1 : Int32)]) (fun w3 r4 =>
      if r4 = 0 then none else
      some (w3, some (.inl ((r2 * (1000 : Int32)) / r4)))
    )
  ) := fn_eq rfl (eX7_portion FX7_portion _ v x1 x2)
set_option maxRecDepth 100000 in
theorem qX7_forbids (v : MM) (x1 x2 : Int32) : fX7_forbids v [.inr (.inr (16, 0, 0)), .inl x1, .inl x2] =
  bI (fX7_of v [.inr (.inr (16, 0, 0)), .inl x1, .inl (1 : Int32)]) (fun w1 r2 =>
    if r2 = 0 then
      some (w1, some (.inl (1 : Int32)))
    else
      bI (fX7_portion w1 [.inr (.inr (16, 0, 0)), .inl x1, .inl (2 : Int32)]) (fun w3 r4 =>
        bI (fX7_portion w3 [.inr (.inr (16, 0, 0)), .inl x1, .inl (3 : Int32)]) (fun w5 r6 =>
          if mIn ((22 : Int32) + ((5 : Int32) * x2)) 151 then
          if r4 < (w5.1 14 (((22 : Int32) + ((5 : Int32) * x2)).toNatClampNeg)) then
            if mIn ((22 : Int32) + ((5 : Int32) * x2)) 151 then
            if r4 < (w5.1 14 (((22 : Int32) + ((5 : Int32) * x2)).toNatClampNeg)) then
              some (w5, some (.inl (2 : Int32)))
            else
              some (w5, some (.inl (3 : Int32)))
            else none
          else
            if mIn (((22 : Int32) + ((5 : Int32) * x2)) + (1 : Int32)) 151 then
            if (w5.1 14 ((((22 : Int32) + ((5 : Int32) * x2)) + (1 : Int32)).toNatClampNeg)) < r4 then
              if mIn ((22 : Int32) + ((5 : Int32) * x2)) 151 then
              if r4 < (w5.1 14 (((22 : Int32) + ((5 : Int32) * x2)).toNatClampNeg)) then
                some (w5, some (.inl (2 : Int32)))
              else
                some (w5, some (.inl (3 : Int32)))
              else none
            else
              if mIn (((22 : Int32) + ((5 : Int32) * x2)) + (2 : Int32)) 151 then
              if r6 < (w5.1 14 ((((22 : Int32) + ((5 : Int32) * x2)) + (2 : Int32)).toNatClampNeg)) then
                if mIn (((22 : Int32) + ((5 : Int32) * x2)) + (2 : Int32)) 151 then
                if r6 < (w5.1 14 ((((22 : Int32) + ((5 : Int32) * x2)) + (2 : Int32)).toNatClampNeg)) then
                  some (w5, some (.inl (4 : Int32)))
                else
                  some (w5, some (.inl (5 : Int32)))
                else none
              else
                if mIn (((22 : Int32) + ((5 : Int32) * x2)) + (3 : Int32)) 151 then
                if (w5.1 14 ((((22 : Int32) + ((5 : Int32) * x2)) + (3 : Int32)).toNatClampNeg)) < r6 then
                  if mIn (((22 : Int32) + ((5 : Int32) * x2)) + (2 : Int32)) 151 then
                  if r6 < (w5.1 14 ((((22 : Int32) + ((5 : Int32) * x2)) + (2 : Int32)).toNatClampNeg)) then
                    some (w5, some (.inl (4 : Int32)))
                  else
                    some (w5, some (.inl (5 : Int32)))
                  else none
                else
                  bI (fX7_portion w5 [.inr (.inr (16, 0, 0)), .inl x1, .inl (4 : Int32)]) (fun w7 r8 =>
                    if mIn (((22 : Int32) + ((5 : Int32) * x2)) + (4 : Int32)) 151 then
                    if (w7.1 14 ((((22 : Int32) + ((5 : Int32) * x2)) + (4 : Int32)).toNatClampNeg)) < r8 then
                      some (w7, some (.inl (6 : Int32)))
                    else
                      some (w7, some (.inl (0 : Int32)))
                    else none
                  )
                else none
              else none
            else none
          else none
        )
      )
  ) := fn_eq rfl (eX7_forbids FX7_forbids _ v x1 x2)
set_option maxRecDepth 100000 in
theorem qX7_fillsBottles (v : MM) (x1 x2 x3 x4 x5 : Int32) : fX7_fillsBottles v [.inr (.inr (16, 0, 0)), .inl x1, .inl x2, .inl x3, .inl x4, .inl x5] =
  bI (fX7_isTank v [.inr (.inr (16, 0, 0)), .inl x1]) (fun w1 r2 =>
    if r2 = 0 then
      some (w1, some (.inl (-1 : Int32)))
    else
      bI (fX7_in w1 [.inl x2, .inl (0 : Int32), .inl (3 : Int32)]) (fun w3 r4 =>
        if r4 = 0 then
          some (w3, some (.inl (-1 : Int32)))
        else
          bI (fX7_in w3 [.inl x3, .inl (1 : Int32), .inl (10 : Int32)]) (fun w5 r6 =>
            if r6 = 0 then
              some (w5, some (.inl (-1 : Int32)))
            else
              bI (fX7_in w5 [.inl x4, .inl (1 : Int32), .inl (5000 : Int32)]) (fun w7 r8 =>
                if r8 = 0 then
                  some (w7, some (.inl (-1 : Int32)))
                else
                  bI (fX7_forbids w7 [.inr (.inr (16, 0, 0)), .inl x1, .inl x2]) (fun w9 r10 =>
                    if r10 = 0 then
                      bI (fX7_of w9 [.inr (.inr (16, 0, 0)), .inl x1, .inl (1 : Int32)]) (fun w11 r12 =>
                        if r12 < (x3 * x4) then
                          if 0 < (7 : Int32) then
                            bI (fX7_refuses w11 [.inr (.inr (16, 0, 0)), .inl (7 : Int32)]) (fun w13 r14 =>
                              some (w13, some (.inl r14))
                            )
                          else
                            if x5 = 0 then
                              bI (fX7_carries w11 [.inr (.inr (16, 0, 0)), .inl x1, .inl (x3 * x4), .inl (-1 : Int32)]) (fun w15 r16 =>
                                if mIn (109 : Int32) 151 then
                                if mIn (109 : Int32) 151 then
                                let w17 : MM := mUp w15 (14, (109 : Int32).toNatClampNeg) ((w15.1 14 ((109 : Int32).toNatClampNeg)) + (x3 * x4))
                                if mIn ((((111 : Int32) + ((10 : Int32) * x2)) + x3) - (1 : Int32)) 151 then
                                if mIn ((((111 : Int32) + ((10 : Int32) * x2)) + x3) - (1 : Int32)) 151 then
                                let w18 : MM := mUp w17 (14, ((((111 : Int32) + ((10 : Int32) * x2)) + x3) - (1 : Int32)).toNatClampNeg) ((w17.1 14 (((((111 : Int32) + ((10 : Int32) * x2)) + x3) - (1 : Int32)).toNatClampNeg)) + x4)
                                if r16 < 0 then
                                  some (w18, some (.inl r16))
                                else
                                  bI (fX7_bottled w18 [.inr (.inr (16, 0, 0)), .inl x2]) (fun w19 r20 =>
                                    some (w19, some (.inl r20))
                                  )
                                else none
                                else none
                                else none
                                else none
                              )
                            else
                              bV (fX7_edits w11 [.inr (.inr (16, 0, 0))]) (fun w21 =>
                                bI (fX7_carries w21 [.inr (.inr (16, 0, 0)), .inl x1, .inl (x3 * x4), .inl (-1 : Int32)]) (fun w22 r23 =>
                                  if mIn (109 : Int32) 151 then
                                  if mIn (109 : Int32) 151 then
                                  let w24 : MM := mUp w22 (14, (109 : Int32).toNatClampNeg) ((w22.1 14 ((109 : Int32).toNatClampNeg)) + (x3 * x4))
                                  if mIn ((((111 : Int32) + ((10 : Int32) * x2)) + x3) - (1 : Int32)) 151 then
                                  if mIn ((((111 : Int32) + ((10 : Int32) * x2)) + x3) - (1 : Int32)) 151 then
                                  let w25 : MM := mUp w24 (14, ((((111 : Int32) + ((10 : Int32) * x2)) + x3) - (1 : Int32)).toNatClampNeg) ((w24.1 14 (((((111 : Int32) + ((10 : Int32) * x2)) + x3) - (1 : Int32)).toNatClampNeg)) + x4)
                                  if r23 < 0 then
                                    some (w25, some (.inl r23))
                                  else
                                    bI (fX7_bottled w25 [.inr (.inr (16, 0, 0)), .inl x2]) (fun w26 r27 =>
                                      some (w26, some (.inl r27))
                                    )
                                  else none
                                  else none
                                  else none
                                  else none
                                )
                              )
                        else
                          if 0 < r10 then
                            bI (fX7_refuses w11 [.inr (.inr (16, 0, 0)), .inl r10]) (fun w28 r29 =>
                              some (w28, some (.inl r29))
                            )
                          else
                            if x5 = 0 then
                              bI (fX7_carries w11 [.inr (.inr (16, 0, 0)), .inl x1, .inl (x3 * x4), .inl (-1 : Int32)]) (fun w30 r31 =>
                                if mIn (109 : Int32) 151 then
                                if mIn (109 : Int32) 151 then
                                let w32 : MM := mUp w30 (14, (109 : Int32).toNatClampNeg) ((w30.1 14 ((109 : Int32).toNatClampNeg)) + (x3 * x4))
                                if mIn ((((111 : Int32) + ((10 : Int32) * x2)) + x3) - (1 : Int32)) 151 then
                                if mIn ((((111 : Int32) + ((10 : Int32) * x2)) + x3) - (1 : Int32)) 151 then
                                let w33 : MM := mUp w32 (14, ((((111 : Int32) + ((10 : Int32) * x2)) + x3) - (1 : Int32)).toNatClampNeg) ((w32.1 14 (((((111 : Int32) + ((10 : Int32) * x2)) + x3) - (1 : Int32)).toNatClampNeg)) + x4)
                                if r31 < 0 then
                                  some (w33, some (.inl r31))
                                else
                                  bI (fX7_bottled w33 [.inr (.inr (16, 0, 0)), .inl x2]) (fun w34 r35 =>
                                    some (w34, some (.inl r35))
                                  )
                                else none
                                else none
                                else none
                                else none
                              )
                            else
                              bV (fX7_edits w11 [.inr (.inr (16, 0, 0))]) (fun w36 =>
                                bI (fX7_carries w36 [.inr (.inr (16, 0, 0)), .inl x1, .inl (x3 * x4), .inl (-1 : Int32)]) (fun w37 r38 =>
                                  if mIn (109 : Int32) 151 then
                                  if mIn (109 : Int32) 151 then
                                  let w39 : MM := mUp w37 (14, (109 : Int32).toNatClampNeg) ((w37.1 14 ((109 : Int32).toNatClampNeg)) + (x3 * x4))
                                  if mIn ((((111 : Int32) + ((10 : Int32) * x2)) + x3) - (1 : Int32)) 151 then
                                  if mIn ((((111 : Int32) + ((10 : Int32) * x2)) + x3) - (1 : Int32)) 151 then
                                  let w40 : MM := mUp w39 (14, ((((111 : Int32) + ((10 : Int32) * x2)) + x3) - (1 : Int32)).toNatClampNeg) ((w39.1 14 (((((111 : Int32) + ((10 : Int32) * x2)) + x3) - (1 : Int32)).toNatClampNeg)) + x4)
                                  if r38 < 0 then
                                    some (w40, some (.inl r38))
                                  else
                                    bI (fX7_bottled w40 [.inr (.inr (16, 0, 0)), .inl x2]) (fun w41 r42 =>
                                      some (w41, some (.inl r42))
                                    )
                                  else none
                                  else none
                                  else none
                                  else none
                                )
                              )
                      )
                    else
                      if 0 < r10 then
                        bI (fX7_refuses w9 [.inr (.inr (16, 0, 0)), .inl r10]) (fun w43 r44 =>
                          some (w43, some (.inl r44))
                        )
                      else
                        if x5 = 0 then
                          bI (fX7_carries w9 [.inr (.inr (16, 0, 0)), .inl x1, .inl (x3 * x4), .inl (-1 : Int32)]) (fun w45 r46 =>
                            if mIn (109 : Int32) 151 then
                            if mIn (109 : Int32) 151 then
                            let w47 : MM := mUp w45 (14, (109 : Int32).toNatClampNeg) ((w45.1 14 ((109 : Int32).toNatClampNeg)) + (x3 * x4))
                            if mIn ((((111 : Int32) + ((10 : Int32) * x2)) + x3) - (1 : Int32)) 151 then
                            if mIn ((((111 : Int32) + ((10 : Int32) * x2)) + x3) - (1 : Int32)) 151 then
                            let w48 : MM := mUp w47 (14, ((((111 : Int32) + ((10 : Int32) * x2)) + x3) - (1 : Int32)).toNatClampNeg) ((w47.1 14 (((((111 : Int32) + ((10 : Int32) * x2)) + x3) - (1 : Int32)).toNatClampNeg)) + x4)
                            if r46 < 0 then
                              some (w48, some (.inl r46))
                            else
                              bI (fX7_bottled w48 [.inr (.inr (16, 0, 0)), .inl x2]) (fun w49 r50 =>
                                some (w49, some (.inl r50))
                              )
                            else none
                            else none
                            else none
                            else none
                          )
                        else
                          bV (fX7_edits w9 [.inr (.inr (16, 0, 0))]) (fun w51 =>
                            bI (fX7_carries w51 [.inr (.inr (16, 0, 0)), .inl x1, .inl (x3 * x4), .inl (-1 : Int32)]) (fun w52 r53 =>
                              if mIn (109 : Int32) 151 then
                              if mIn (109 : Int32) 151 then
                              let w54 : MM := mUp w52 (14, (109 : Int32).toNatClampNeg) ((w52.1 14 ((109 : Int32).toNatClampNeg)) + (x3 * x4))
                              if mIn ((((111 : Int32) + ((10 : Int32) * x2)) + x3) - (1 : Int32)) 151 then
                              if mIn ((((111 : Int32) + ((10 : Int32) * x2)) + x3) - (1 : Int32)) 151 then
                              let w55 : MM := mUp w54 (14, ((((111 : Int32) + ((10 : Int32) * x2)) + x3) - (1 : Int32)).toNatClampNeg) ((w54.1 14 (((((111 : Int32) + ((10 : Int32) * x2)) + x3) - (1 : Int32)).toNatClampNeg)) + x4)
                              if r53 < 0 then
                                some (w55, some (.inl r53))
                              else
                                bI (fX7_bottled w55 [.inr (.inr (16, 0, 0)), .inl x2]) (fun w56 r57 =>
                                  some (w56, some (.inl r57))
                                )
                              else none
                              else none
                              else none
                              else none
                            )
                          )
                  )
              )
          )
      )
  ) := fn_eq rfl (eX7_fillsBottles FX7_fillsBottles _ v x1 x2 x3 x4 x5)
set_option maxRecDepth 100000 in
theorem qX7_works (v : MM) (x1 : Int32) : fX7_works v [.inr (.inr (16, 0, 0)), .inl x1] =
  bI (fX7_of v [.inr (.inr (16, 0, 0)), .inl x1, .inl (4 : Int32)]) (fun w1 r2 =>
    if mIn (20 : Int32) 151 then
    bV (fX7_adds w1 [.inr (.inr (16, 0, 0)), .inl x1, .inl (4 : Int32), .inl (-((r2 * (w1.1 14 ((20 : Int32).toNatClampNeg))) / (1000 : Int32)))]) (fun w3 =>
      bV (fX7_adds w3 [.inr (.inr (16, 0, 0)), .inl x1, .inl (1 : Int32), .inl (-((r2 * (w1.1 14 ((20 : Int32).toNatClampNeg))) / (1000 : Int32)))]) (fun w4 =>
        bV (fX7_adds w4 [.inr (.inr (16, 0, 0)), .inl x1, .inl (5 : Int32), .inl ((r2 * (w1.1 14 ((20 : Int32).toNatClampNeg))) / (1000 : Int32))]) (fun w5 =>
          bI (fX7_of w5 [.inr (.inr (16, 0, 0)), .inl x1, .inl (2 : Int32)]) (fun w6 r7 =>
            if mIn (21 : Int32) 151 then
            bV (fX7_adds w6 [.inr (.inr (16, 0, 0)), .inl x1, .inl (2 : Int32), .inl (-((r7 * (w6.1 14 ((21 : Int32).toNatClampNeg))) / (1000 : Int32)))]) (fun w8 =>
              bV (fX7_adds w8 [.inr (.inr (16, 0, 0)), .inl x1, .inl (6 : Int32), .inl ((r7 * (w6.1 14 ((21 : Int32).toNatClampNeg))) / (1000 : Int32))]) (fun w9 =>
                some (w9, none)
              )
            )
            else none
          )
        )
      )
    )
    else none
  ) := fn_eq rfl (eX7_works FX7_works _ v x1)
noncomputable def gX7_days_2 (v : MM) (y1 : Int32) : MR := rLim FX7_days cdX7_days 2 [(1, .inl y1), (0, .inr (.inr (16, 0, 0)))] [] v
noncomputable def gX7_days_2_2 (v : MM) (y1 y2 : Int32) : MR := rLim FX7_days cdX7_days 2 [(1, .inl y1), (2, .inl y2), (0, .inr (.inr (16, 0, 0)))] [] v
noncomputable def gX7_days_52 (v : MM) (y1 : Int32) : MR := rLim FX7_days cdX7_days 52 [(1, .inl y1), (0, .inr (.inr (16, 0, 0)))] [] v
noncomputable def gX7_days_52_2 (v : MM) (y1 y2 : Int32) : MR := rLim FX7_days cdX7_days 52 [(1, .inl y1), (2, .inl y2), (0, .inr (.inr (16, 0, 0)))] [] v
set_option maxRecDepth 100000 in
theorem qX7_days (v : MM) : fX7_days v [.inr (.inr (16, 0, 0))] =
  gX7_days_2 v (0 : Int32) := fn_eq rfl (eX7_days FX7_days _ v )
set_option maxRecDepth 100000 in
theorem qX7_days_2 (v : MM) (y1 : Int32) : gX7_days_2 v y1 =
  if mIn (42 : Int32) 151 then
  if y1 < (v.1 14 ((42 : Int32).toNatClampNeg)) then
    if mIn (((43 : Int32) + ((2 : Int32) * y1)) + (1 : Int32)) 151 then
    if mIn (18 : Int32) 151 then
    if mIn (((43 : Int32) + ((2 : Int32) * y1)) + (1 : Int32)) 151 then
    if mIn (((43 : Int32) + ((2 : Int32) * y1)) + (1 : Int32)) 151 then
    let w1 : MM := mUp v (14, (((43 : Int32) + ((2 : Int32) * y1)) + (1 : Int32)).toNatClampNeg) ((v.1 14 ((((43 : Int32) + ((2 : Int32) * y1)) + (1 : Int32)).toNatClampNeg)) - (((v.1 14 ((((43 : Int32) + ((2 : Int32) * y1)) + (1 : Int32)).toNatClampNeg)) * (v.1 14 ((18 : Int32).toNatClampNeg))) / (1000 : Int32)))
    if mIn (106 : Int32) 151 then
    if mIn (106 : Int32) 151 then
    let w2 : MM := mUp w1 (14, (106 : Int32).toNatClampNeg) ((w1.1 14 ((106 : Int32).toNatClampNeg)) + (((v.1 14 ((((43 : Int32) + ((2 : Int32) * y1)) + (1 : Int32)).toNatClampNeg)) * (v.1 14 ((18 : Int32).toNatClampNeg))) / (1000 : Int32)))
    gX7_days_2_2 w2 (y1 + (1 : Int32)) (((v.1 14 ((((43 : Int32) + ((2 : Int32) * y1)) + (1 : Int32)).toNatClampNeg)) * (v.1 14 ((18 : Int32).toNatClampNeg))) / (1000 : Int32))
    else none
    else none
    else none
    else none
    else none
    else none
  else
    gX7_days_52 v (0 : Int32)
  else none := rl_eq (eX7_days_2 FX7_days _ v y1)
set_option maxRecDepth 100000 in
theorem qX7_days_2_2 (v : MM) (y1 y2 : Int32) : gX7_days_2_2 v y1 y2 =
  if mIn (42 : Int32) 151 then
  if y1 < (v.1 14 ((42 : Int32).toNatClampNeg)) then
    if mIn (((43 : Int32) + ((2 : Int32) * y1)) + (1 : Int32)) 151 then
    if mIn (18 : Int32) 151 then
    if mIn (((43 : Int32) + ((2 : Int32) * y1)) + (1 : Int32)) 151 then
    if mIn (((43 : Int32) + ((2 : Int32) * y1)) + (1 : Int32)) 151 then
    let w1 : MM := mUp v (14, (((43 : Int32) + ((2 : Int32) * y1)) + (1 : Int32)).toNatClampNeg) ((v.1 14 ((((43 : Int32) + ((2 : Int32) * y1)) + (1 : Int32)).toNatClampNeg)) - (((v.1 14 ((((43 : Int32) + ((2 : Int32) * y1)) + (1 : Int32)).toNatClampNeg)) * (v.1 14 ((18 : Int32).toNatClampNeg))) / (1000 : Int32)))
    if mIn (106 : Int32) 151 then
    if mIn (106 : Int32) 151 then
    let w2 : MM := mUp w1 (14, (106 : Int32).toNatClampNeg) ((w1.1 14 ((106 : Int32).toNatClampNeg)) + (((v.1 14 ((((43 : Int32) + ((2 : Int32) * y1)) + (1 : Int32)).toNatClampNeg)) * (v.1 14 ((18 : Int32).toNatClampNeg))) / (1000 : Int32)))
    gX7_days_2_2 w2 (y1 + (1 : Int32)) (((v.1 14 ((((43 : Int32) + ((2 : Int32) * y1)) + (1 : Int32)).toNatClampNeg)) * (v.1 14 ((18 : Int32).toNatClampNeg))) / (1000 : Int32))
    else none
    else none
    else none
    else none
    else none
    else none
  else
    gX7_days_52_2 v (0 : Int32) y2
  else none := rl_eq (eX7_days_2_2 FX7_days _ v y1 y2)
set_option maxRecDepth 100000 in
theorem qX7_days_52 (v : MM) (y1 : Int32) : gX7_days_52 v y1 =
  if mIn (59 : Int32) 151 then
  if y1 < (v.1 14 ((59 : Int32).toNatClampNeg)) then
    bV (fX7_works v [.inr (.inr (16, 0, 0)), .inl y1]) (fun w1 =>
      gX7_days_52 w1 (y1 + (1 : Int32))
    )
  else
    if mIn (103 : Int32) 151 then
    if mIn (103 : Int32) 151 then
    let w2 : MM := mUp v (14, (103 : Int32).toNatClampNeg) ((v.1 14 ((103 : Int32).toNatClampNeg)) + (1 : Int32))
    if mIn (103 : Int32) 151 then
    some (w2, some (.inl (w2.1 14 ((103 : Int32).toNatClampNeg))))
    else none
    else none
    else none
  else none := rl_eq (eX7_days_52 FX7_days _ v y1)
set_option maxRecDepth 100000 in
theorem qX7_days_52_2 (v : MM) (y1 y2 : Int32) : gX7_days_52_2 v y1 y2 =
  if mIn (59 : Int32) 151 then
  if y1 < (v.1 14 ((59 : Int32).toNatClampNeg)) then
    bV (fX7_works v [.inr (.inr (16, 0, 0)), .inl y1]) (fun w1 =>
      gX7_days_52_2 w1 (y1 + (1 : Int32)) y2
    )
  else
    if mIn (103 : Int32) 151 then
    if mIn (103 : Int32) 151 then
    let w2 : MM := mUp v (14, (103 : Int32).toNatClampNeg) ((v.1 14 ((103 : Int32).toNatClampNeg)) + (1 : Int32))
    if mIn (103 : Int32) 151 then
    some (w2, some (.inl (w2.1 14 ((103 : Int32).toNatClampNeg))))
    else none
    else none
    else none
  else none := rl_eq (eX7_days_52_2 FX7_days _ v y1 y2)
noncomputable def gX7_exchanges_2 (v : MM) (y1 : Int32) : MR := rLim FX7_exchanges cdX7_exchanges 2 [(1, .inl y1), (0, .inr (.inr (16, 0, 0)))] [] v
noncomputable def gX7_exchanges_2_2 (v : MM) (y1 y2 : Int32) : MR := rLim FX7_exchanges cdX7_exchanges 2 [(1, .inl y1), (2, .inl y2), (0, .inr (.inr (16, 0, 0)))] [] v
set_option maxRecDepth 100000 in
theorem qX7_exchanges (v : MM) : fX7_exchanges v [.inr (.inr (16, 0, 0))] =
  gX7_exchanges_2 v (0 : Int32) := fn_eq rfl (eX7_exchanges FX7_exchanges _ v )
set_option maxRecDepth 100000 in
theorem qX7_exchanges_2 (v : MM) (y1 : Int32) : gX7_exchanges_2 v y1 =
  if y1 < (151 : Int32) then
    if mIn y1 151 then
    if mIn y1 151 then
    if mIn y1 151 then
    let w1 : MM := mUp v (14, y1.toNatClampNeg) (v.1 16 y1.toNatClampNeg)
    if mIn y1 151 then
    let w2 : MM := mUp w1 (16, y1.toNatClampNeg) (v.1 14 y1.toNatClampNeg)
    gX7_exchanges_2_2 w2 (y1 + (1 : Int32)) (v.1 14 y1.toNatClampNeg)
    else none
    else none
    else none
    else none
  else
    some (v, none) := rl_eq (eX7_exchanges_2 FX7_exchanges _ v y1)
set_option maxRecDepth 100000 in
theorem qX7_exchanges_2_2 (v : MM) (y1 y2 : Int32) : gX7_exchanges_2_2 v y1 y2 =
  if y1 < (151 : Int32) then
    if mIn y1 151 then
    if mIn y1 151 then
    if mIn y1 151 then
    let w1 : MM := mUp v (14, y1.toNatClampNeg) (v.1 16 y1.toNatClampNeg)
    if mIn y1 151 then
    let w2 : MM := mUp w1 (16, y1.toNatClampNeg) (v.1 14 y1.toNatClampNeg)
    gX7_exchanges_2_2 w2 (y1 + (1 : Int32)) (v.1 14 y1.toNatClampNeg)
    else none
    else none
    else none
    else none
  else
    some (v, none) := rl_eq (eX7_exchanges_2_2 FX7_exchanges _ v y1 y2)
set_option maxRecDepth 100000 in
theorem qX7_done (v : MM) (x1 : Int32) : fX7_done v [.inr (.inr (16, 0, 0)), .inl x1] =
  if x1 < 0 then
    some (v, some (.inl x1))
  else
    bV (fX7_exchanges v [.inr (.inr (16, 0, 0))]) (fun w1 =>
      bV (fX7_edits w1 [.inr (.inr (16, 0, 0))]) (fun w2 =>
        bV (fX7_exchanges w2 [.inr (.inr (16, 0, 0))]) (fun w3 =>
          some (w3, some (.inl x1))
        )
      )
    ) := fn_eq rfl (eX7_done FX7_done _ v x1)
set_option maxRecDepth 100000 in
theorem qX7_press (v : MM) (x1 x2 x3 : Int32) : fX7_press v [.inr (.inr (16, 0, 0)), .inl x1, .inl x2, .inl x3] =
  bV (fX7_keeps v [.inr (.inr (16, 0, 0))]) (fun w1 =>
    bI (fX7_presses w1 [.inr (.inr (16, 0, 0)), .inl x1, .inl x2, .inl x3]) (fun w2 r3 =>
      bI (fX7_done w2 [.inr (.inr (16, 0, 0)), .inl r3]) (fun w4 r5 =>
        some (w4, some (.inl r5))
      )
    )
  ) := fn_eq rfl (eX7_press FX7_press _ v x1 x2 x3)
set_option maxRecDepth 100000 in
theorem qX7_wet (v : MM) (x1 x2 : Int32) : fX7_wet v [.inr (.inr (16, 0, 0)), .inl x1, .inl x2] =
  bV (fX7_keeps v [.inr (.inr (16, 0, 0))]) (fun w1 =>
    bI (fX7_wets w1 [.inr (.inr (16, 0, 0)), .inl x1, .inl x2]) (fun w2 r3 =>
      bI (fX7_done w2 [.inr (.inr (16, 0, 0)), .inl r3]) (fun w4 r5 =>
        some (w4, some (.inl r5))
      )
    )
  ) := fn_eq rfl (eX7_wet FX7_wet _ v x1 x2)
set_option maxRecDepth 100000 in
theorem qX7_sellPomace (v : MM) : fX7_sellPomace v [.inr (.inr (16, 0, 0))] =
  if mIn (102 : Int32) 151 then
  if (v.1 14 ((102 : Int32).toNatClampNeg)) = 0 then
    bI (fX7_refuses v [.inr (.inr (16, 0, 0)), .inl (12 : Int32)]) (fun w1 r2 =>
      some (w1, some (.inl r2))
    )
  else
    bV (fX7_edits v [.inr (.inr (16, 0, 0))]) (fun w3 =>
      if mIn (102 : Int32) 151 then
      if mIn (108 : Int32) 151 then
      if mIn (108 : Int32) 151 then
      let w4 : MM := mUp w3 (14, (108 : Int32).toNatClampNeg) ((w3.1 14 ((108 : Int32).toNatClampNeg)) + (w3.1 14 ((102 : Int32).toNatClampNeg)))
      if mIn (102 : Int32) 151 then
      let w5 : MM := mUp w4 (14, (102 : Int32).toNatClampNeg) (0 : Int32)
      some (w5, some (.inl (w3.1 14 ((102 : Int32).toNatClampNeg))))
      else none
      else none
      else none
      else none
    )
  else none := fn_eq rfl (eX7_sellPomace FX7_sellPomace _ v )
set_option maxRecDepth 100000 in
theorem qX7_move (v : MM) (x1 x2 x3 : Int32) : fX7_move v [.inr (.inr (16, 0, 0)), .inl x1, .inl x2, .inl x3] =
  bV (fX7_keeps v [.inr (.inr (16, 0, 0))]) (fun w1 =>
    bI (fX7_moves w1 [.inr (.inr (16, 0, 0)), .inl x1, .inl x2, .inl x3]) (fun w2 r3 =>
      bI (fX7_done w2 [.inr (.inr (16, 0, 0)), .inl r3]) (fun w4 r5 =>
        some (w4, some (.inl r5))
      )
    )
  ) := fn_eq rfl (eX7_move FX7_move _ v x1 x2 x3)
set_option maxRecDepth 100000 in
theorem qX7_rack (v : MM) (x1 x2 : Int32) : fX7_rack v [.inr (.inr (16, 0, 0)), .inl x1, .inl x2] =
  bV (fX7_keeps v [.inr (.inr (16, 0, 0))]) (fun w1 =>
    bI (fX7_racks w1 [.inr (.inr (16, 0, 0)), .inl x1, .inl x2]) (fun w2 r3 =>
      bI (fX7_done w2 [.inr (.inr (16, 0, 0)), .inl r3]) (fun w4 r5 =>
        some (w4, some (.inl r5))
      )
    )
  ) := fn_eq rfl (eX7_rack FX7_rack _ v x1 x2)
set_option maxRecDepth 100000 in
theorem qX7_clean (v : MM) (x1 : Int32) : fX7_clean v [.inr (.inr (16, 0, 0)), .inl x1] =
  bV (fX7_keeps v [.inr (.inr (16, 0, 0))]) (fun w1 =>
    bI (fX7_cleans w1 [.inr (.inr (16, 0, 0)), .inl x1]) (fun w2 r3 =>
      bI (fX7_done w2 [.inr (.inr (16, 0, 0)), .inl r3]) (fun w4 r5 =>
        some (w4, some (.inl r5))
      )
    )
  ) := fn_eq rfl (eX7_clean FX7_clean _ v x1)
noncomputable def gX7_pour_21 (v : MM) (y1 y2 y3 : Int32) : MR := rLim FX7_pour cdX7_pour 21 [(3, .inl y1), (2, .inl y2), (0, .inr (.inr (16, 0, 0))), (1, .inl y3)] [] v
set_option maxRecDepth 100000 in
theorem qX7_pour (v : MM) (x1 : Int32) : fX7_pour v [.inr (.inr (16, 0, 0)), .inl x1] =
  bI (fX7_isTank v [.inr (.inr (16, 0, 0)), .inl x1]) (fun w1 r2 =>
    if r2 = 0 then
      some (w1, some (.inl (-1 : Int32)))
    else
      bI (fX7_of w1 [.inr (.inr (16, 0, 0)), .inl x1, .inl (1 : Int32)]) (fun w3 r4 =>
        if r4 = 0 then
          bI (fX7_refuses w3 [.inr (.inr (16, 0, 0)), .inl (1 : Int32)]) (fun w5 r6 =>
            some (w5, some (.inl r6))
          )
        else
          bV (fX7_edits w3 [.inr (.inr (16, 0, 0))]) (fun w7 =>
            gX7_pour_21 w7 (1 : Int32) r4 x1
          )
      )
  ) := fn_eq rfl (eX7_pour FX7_pour _ v x1)
set_option maxRecDepth 100000 in
theorem qX7_pour_21 (v : MM) (y1 y2 y3 : Int32) : gX7_pour_21 v y1 y2 y3 =
  if (6 : Int32) < y1 then
    if mIn (110 : Int32) 151 then
    if mIn (110 : Int32) 151 then
    let w1 : MM := mUp v (14, (110 : Int32).toNatClampNeg) ((v.1 14 ((110 : Int32).toNatClampNeg)) + y2)
    some (w1, some (.inl y2))
    else none
    else none
  else
    if y1 = (5 : Int32) then
      bV (fX7_adds v [.inr (.inr (16, 0, 0)), .inl y3, .inl y1, .inl (0 : Int32)]) (fun w2 =>
        gX7_pour_21 w2 (y1 + (1 : Int32)) y2 y3
      )
    else
      bI (fX7_of v [.inr (.inr (16, 0, 0)), .inl y3, .inl y1]) (fun w3 r4 =>
        bV (fX7_adds w3 [.inr (.inr (16, 0, 0)), .inl y3, .inl y1, .inl (-r4)]) (fun w5 =>
          gX7_pour_21 w5 (y1 + (1 : Int32)) y2 y3
        )
      ) := rl_eq (eX7_pour_21 FX7_pour _ v y1 y2 y3)
set_option maxRecDepth 100000 in
theorem qX7_bottle (v : MM) (x1 x2 x3 x4 : Int32) : fX7_bottle v [.inr (.inr (16, 0, 0)), .inl x1, .inl x2, .inl x3, .inl x4] =
  bI (fX7_fillsBottles v [.inr (.inr (16, 0, 0)), .inl x1, .inl x2, .inl x3, .inl x4, .inl (1 : Int32)]) (fun w1 r2 =>
    some (w1, some (.inl r2))
  ) := fn_eq rfl (eX7_bottle FX7_bottle _ v x1 x2 x3 x4)
set_option maxRecDepth 100000 in
theorem qX7_day (v : MM) : fX7_day v [.inr (.inr (16, 0, 0))] =
  bV (fX7_edits v [.inr (.inr (16, 0, 0))]) (fun w1 =>
    bI (fX7_days w1 [.inr (.inr (16, 0, 0))]) (fun w2 r3 =>
      some (w2, some (.inl r3))
    )
  ) := fn_eq rfl (eX7_day FX7_day _ v )
set_option maxRecDepth 100000 in
theorem qX7_appendCharacter (v : MM) (x1 : Int32) : fX7_appendCharacter v [.inr (.inr (16, 0, 0)), .inl x1] =
  bI (fX7_in v [.inl x1, .inl (0 : Int32), .inl (255 : Int32)]) (fun w1 r2 =>
    if r2 = 0 then
      some (w1, some (.inl (-1 : Int32)))
    else
      if (w1.1 13 6) = (100 : Int32) then
        some (w1, some (.inl (-3 : Int32)))
      else
        if mIn (w1.1 13 6) 100 then
        let w3 : MM := mUp w1 (17, (w1.1 13 6).toNatClampNeg) (vp_nar .byte x1.toInt8.toInt32)
        let w4 : MM := mUp w3 (13, 6) ((w3.1 13 6) + (1 : Int32))
        some (w4, some (.inl (w4.1 13 6)))
        else none
  ) := fn_eq rfl (eX7_appendCharacter FX7_appendCharacter _ v x1)
set_option maxRecDepth 100000 in
theorem qX7_clearText (v : MM) : fX7_clearText v [.inr (.inr (16, 0, 0))] =
  let w1 : MM := mUp v (13, 6) (0 : Int32)
  some (w1, some (.inl (v.1 13 6))) := fn_eq rfl (eX7_clearText FX7_clearText _ v )
noncomputable def gX7_goes_0 (v : MM) : MR := rLim FX7_goes cdX7_goes 0 [(0, .inr (.inr (16, 0, 0)))] [] v
noncomputable def gX7_goes_63 (v : MM) (y1 y2 : Int32) : MR := rLim FX7_goes cdX7_goes 63 [(2, .inl y1), (1, .inl y2), (0, .inr (.inr (16, 0, 0)))] [] v
noncomputable def gX7_goes_100 (v : MM) (y1 y2 y3 : Int32) : MR := rLim FX7_goes cdX7_goes 100 [(3, .inl y1), (2, .inl y2), (1, .inl y3), (0, .inr (.inr (16, 0, 0)))] [] v
set_option maxRecDepth 100000 in
theorem qX7_goes (v : MM) : fX7_goes v [.inr (.inr (16, 0, 0))] =
  if (v.1 13 9) < (v.1 13 6) then
    if mIn (v.1 13 9) 100 then
    if (v.1 17 ((v.1 13 9).toNatClampNeg)) = (32 : Int32) then
      let w1 : MM := mUp v (13, 9) ((v.1 13 9) + (1 : Int32))
      gX7_goes_0 w1 
    else
      let w2 : MM := mUp v (13, 10) (v.1 13 9)
      let w3 : MM := (w2.1, (0 : Int64))
      let w4 : MM := mUp w3 (13, 12) (0 : Int32)
      let w5 : MM := mUp w4 (13, 13) (0 : Int32)
      if (w5.1 13 9) = (w5.1 13 6) then
        some (w5, some (.inl (0 : Int32)))
      else
        if mIn (w5.1 13 9) 100 then
        bI (fX7_in w5 [.inl (w5.1 17 ((w5.1 13 9).toNatClampNeg)), .inl (97 : Int32), .inl (122 : Int32)]) (fun w6 r7 =>
          if mIn (w6.1 13 9) 100 then
          bI (fX7_in w6 [.inl (w6.1 17 ((w6.1 13 9).toNatClampNeg)), .inl (48 : Int32), .inl (57 : Int32)]) (fun w8 r9 =>
            let w10 : MM := mUp w8 (13, 9) ((w8.1 13 9) + (1 : Int32))
            gX7_goes_63 w10 r9 r7
          )
          else none
        )
        else none
    else none
  else
    let w11 : MM := mUp v (13, 10) (v.1 13 9)
    let w12 : MM := (w11.1, (0 : Int64))
    let w13 : MM := mUp w12 (13, 12) (0 : Int32)
    let w14 : MM := mUp w13 (13, 13) (0 : Int32)
    if (w14.1 13 9) = (w14.1 13 6) then
      some (w14, some (.inl (0 : Int32)))
    else
      if mIn (w14.1 13 9) 100 then
      bI (fX7_in w14 [.inl (w14.1 17 ((w14.1 13 9).toNatClampNeg)), .inl (97 : Int32), .inl (122 : Int32)]) (fun w15 r16 =>
        if mIn (w15.1 13 9) 100 then
        bI (fX7_in w15 [.inl (w15.1 17 ((w15.1 13 9).toNatClampNeg)), .inl (48 : Int32), .inl (57 : Int32)]) (fun w17 r18 =>
          let w19 : MM := mUp w17 (13, 9) ((w17.1 13 9) + (1 : Int32))
          gX7_goes_63 w19 r18 r16
        )
        else none
      )
      else none := fn_eq rfl (eX7_goes FX7_goes _ v )
set_option maxRecDepth 100000 in
theorem qX7_goes_0 (v : MM) : gX7_goes_0 v  =
  if (v.1 13 9) < (v.1 13 6) then
    if mIn (v.1 13 9) 100 then
    if (v.1 17 ((v.1 13 9).toNatClampNeg)) = (32 : Int32) then
      let w1 : MM := mUp v (13, 9) ((v.1 13 9) + (1 : Int32))
      gX7_goes_0 w1 
    else
      let w2 : MM := mUp v (13, 10) (v.1 13 9)
      let w3 : MM := (w2.1, (0 : Int64))
      let w4 : MM := mUp w3 (13, 12) (0 : Int32)
      let w5 : MM := mUp w4 (13, 13) (0 : Int32)
      if (w5.1 13 9) = (w5.1 13 6) then
        some (w5, some (.inl (0 : Int32)))
      else
        if mIn (w5.1 13 9) 100 then
        bI (fX7_in w5 [.inl (w5.1 17 ((w5.1 13 9).toNatClampNeg)), .inl (97 : Int32), .inl (122 : Int32)]) (fun w6 r7 =>
          if mIn (w6.1 13 9) 100 then
          bI (fX7_in w6 [.inl (w6.1 17 ((w6.1 13 9).toNatClampNeg)), .inl (48 : Int32), .inl (57 : Int32)]) (fun w8 r9 =>
            let w10 : MM := mUp w8 (13, 9) ((w8.1 13 9) + (1 : Int32))
            gX7_goes_63 w10 r9 r7
          )
          else none
        )
        else none
    else none
  else
    let w11 : MM := mUp v (13, 10) (v.1 13 9)
    let w12 : MM := (w11.1, (0 : Int64))
    let w13 : MM := mUp w12 (13, 12) (0 : Int32)
    let w14 : MM := mUp w13 (13, 13) (0 : Int32)
    if (w14.1 13 9) = (w14.1 13 6) then
      some (w14, some (.inl (0 : Int32)))
    else
      if mIn (w14.1 13 9) 100 then
      bI (fX7_in w14 [.inl (w14.1 17 ((w14.1 13 9).toNatClampNeg)), .inl (97 : Int32), .inl (122 : Int32)]) (fun w15 r16 =>
        if mIn (w15.1 13 9) 100 then
        bI (fX7_in w15 [.inl (w15.1 17 ((w15.1 13 9).toNatClampNeg)), .inl (48 : Int32), .inl (57 : Int32)]) (fun w17 r18 =>
          let w19 : MM := mUp w17 (13, 9) ((w17.1 13 9) + (1 : Int32))
          gX7_goes_63 w19 r18 r16
        )
        else none
      )
      else none := rl_eq (eX7_goes FX7_goes _ v )
set_option maxRecDepth 100000 in
theorem qX7_goes_63 (v : MM) (y1 y2 : Int32) : gX7_goes_63 v y1 y2 =
  if (v.1 13 9) < (v.1 13 6) then
    if y2 = 0 then
      if y1 = 0 then
        gX7_goes_100 v (v.1 13 10) y1 y2
      else
        if mIn (v.1 13 9) 100 then
        bI (fX7_in v [.inl (v.1 17 ((v.1 13 9).toNatClampNeg)), .inl (48 : Int32), .inl (57 : Int32)]) (fun w1 r2 =>
          if r2 = 0 then
            gX7_goes_100 w1 (w1.1 13 10) y1 y2
          else
            let w3 : MM := mUp w1 (13, 9) ((w1.1 13 9) + (1 : Int32))
            gX7_goes_63 w3 y1 y2
        )
        else none
    else
      if mIn (v.1 13 9) 100 then
      bI (fX7_in v [.inl (v.1 17 ((v.1 13 9).toNatClampNeg)), .inl (97 : Int32), .inl (122 : Int32)]) (fun w4 r5 =>
        if r5 = 0 then
          if y1 = 0 then
            gX7_goes_100 w4 (w4.1 13 10) y1 y2
          else
            if mIn (w4.1 13 9) 100 then
            bI (fX7_in w4 [.inl (w4.1 17 ((w4.1 13 9).toNatClampNeg)), .inl (48 : Int32), .inl (57 : Int32)]) (fun w6 r7 =>
              if r7 = 0 then
                gX7_goes_100 w6 (w6.1 13 10) y1 y2
              else
                let w8 : MM := mUp w6 (13, 9) ((w6.1 13 9) + (1 : Int32))
                gX7_goes_63 w8 y1 y2
            )
            else none
        else
          let w9 : MM := mUp w4 (13, 9) ((w4.1 13 9) + (1 : Int32))
          gX7_goes_63 w9 y1 y2
      )
      else none
  else
    gX7_goes_100 v (v.1 13 10) y1 y2 := rl_eq (eX7_goes_63 FX7_goes _ v y1 y2)
set_option maxRecDepth 100000 in
theorem qX7_goes_100 (v : MM) (y1 y2 y3 : Int32) : gX7_goes_100 v y1 y2 y3 =
  if y1 < (v.1 13 9) then
    if ((v.1 13 9) - (v.1 13 10)) < (8 : Int32) then
      if y3 = 0 then
        let w1 : MM := (v.1, (0 : Int64))
        if y2 = 0 then
          let w2 : MM := mUp w1 (13, 12) (0 : Int32)
          gX7_goes_100 w2 (y1 + (1 : Int32)) y2 y3
        else
          if mIn y1 100 then
          let w3 : MM := mUp w1 (13, 12) ((((10 : Int32) * (w1.1 13 12)) + (w1.1 17 y1.toNatClampNeg)) - (48 : Int32))
          gX7_goes_100 w3 (y1 + (1 : Int32)) y2 y3
          else none
      else
        if mIn y1 100 then
        let w4 : MM := (v.1, (((27 : Int64) * v.2) + ((v.1 17 y1.toNatClampNeg).toInt64)) - (96 : Int64))
        if y2 = 0 then
          let w5 : MM := mUp w4 (13, 12) (0 : Int32)
          gX7_goes_100 w5 (y1 + (1 : Int32)) y2 y3
        else
          if mIn y1 100 then
          let w6 : MM := mUp w4 (13, 12) ((((10 : Int32) * (w4.1 13 12)) + (w4.1 17 y1.toNatClampNeg)) - (48 : Int32))
          gX7_goes_100 w6 (y1 + (1 : Int32)) y2 y3
          else none
        else none
    else
      if y2 = 0 then
        let w7 : MM := mUp v (13, 13) (0 : Int32)
        some (w7, some (.inl (1 : Int32)))
      else
        if ((v.1 13 9) - (v.1 13 10)) < (6 : Int32) then
          if mIn (v.1 13 10) 100 then
          if (v.1 17 ((v.1 13 10).toNatClampNeg)) = (48 : Int32) then
            if (v.1 13 9) = ((v.1 13 10) + (1 : Int32)) then
              let w8 : MM := mUp v (13, 13) (1 : Int32)
              some (w8, some (.inl (1 : Int32)))
            else
              let w9 : MM := mUp v (13, 13) (0 : Int32)
              some (w9, some (.inl (1 : Int32)))
          else
            let w10 : MM := mUp v (13, 13) (1 : Int32)
            some (w10, some (.inl (1 : Int32)))
          else none
        else
          let w11 : MM := mUp v (13, 13) (0 : Int32)
          some (w11, some (.inl (1 : Int32)))
  else
    if y2 = 0 then
      let w12 : MM := mUp v (13, 13) (0 : Int32)
      some (w12, some (.inl (1 : Int32)))
    else
      if ((v.1 13 9) - (v.1 13 10)) < (6 : Int32) then
        if mIn (v.1 13 10) 100 then
        if (v.1 17 ((v.1 13 10).toNatClampNeg)) = (48 : Int32) then
          if (v.1 13 9) = ((v.1 13 10) + (1 : Int32)) then
            let w13 : MM := mUp v (13, 13) (1 : Int32)
            some (w13, some (.inl (1 : Int32)))
          else
            let w14 : MM := mUp v (13, 13) (0 : Int32)
            some (w14, some (.inl (1 : Int32)))
        else
          let w15 : MM := mUp v (13, 13) (1 : Int32)
          some (w15, some (.inl (1 : Int32)))
        else none
      else
        let w16 : MM := mUp v (13, 13) (0 : Int32)
        some (w16, some (.inl (1 : Int32))) := rl_eq (eX7_goes_100 FX7_goes _ v y1 y2 y3)
set_option maxRecDepth 100000 in
theorem qX7_wants (v : MM) (x1 : Int64) : fX7_wants v [.inr (.inl x1)] =
  if (lg_cmp x1 (8861527 : Int64)) = 0 then
    some (v, some (.inl (3 : Int32)))
  else
    if (lg_cmp x1 (267413 : Int64)) = 0 then
      some (v, some (.inl (3 : Int32)))
    else
      if (lg_cmp x1 (16922 : Int64)) = 0 then
        some (v, some (.inl (2 : Int32)))
      else
        if (lg_cmp x1 (355115 : Int64)) = 0 then
          some (v, some (.inl (2 : Int32)))
        else
          if (lg_cmp x1 (1834205 : Int64)) = 0 then
            some (v, some (.inl (1 : Int32)))
          else
            if (lg_cmp x1 (37077998 : Int64)) = 0 then
              some (v, some (.inl (4 : Int32)))
            else
              if (lg_cmp x1 (2968 : Int64)) = 0 then
                some (v, some (.inl (0 : Int32)))
              else
                some (v, some (.inl (-9 : Int32))) := fn_eq rfl (eX7_wants FX7_wants _ v x1)
set_option maxRecDepth 100000 in
theorem qX7_kind (v : MM) (x1 : Int64) : fX7_kind v [.inr (.inl x1)] =
  if (lg_cmp x1 (8861527 : Int64)) = 0 then
    some (v, some (.inl (0 : Int32)))
  else
    if (lg_cmp x1 (16922 : Int64)) = 0 then
      some (v, some (.inl (1 : Int32)))
    else
      if (lg_cmp x1 (267413 : Int64)) = 0 then
        some (v, some (.inl (2 : Int32)))
      else
        if (lg_cmp x1 (355115 : Int64)) = 0 then
          some (v, some (.inl (3 : Int32)))
        else
          if (lg_cmp x1 (1834205 : Int64)) = 0 then
            some (v, some (.inl (4 : Int32)))
          else
            if (lg_cmp x1 (37077998 : Int64)) = 0 then
              some (v, some (.inl (5 : Int32)))
            else
              some (v, some (.inl (6 : Int32))) := fn_eq rfl (eX7_kind FX7_kind _ v x1)
noncomputable def gX7_readsCommand_21 (v : MM) (y1 y2 : Int32) : MR := rLim FX7_readsCommand cdX7_readsCommand 21 [(2, .inl y1), (1, .inl y2), (0, .inr (.inr (16, 0, 0)))] [] v
set_option maxRecDepth 100000 in
theorem qX7_readsCommand (v : MM) : fX7_readsCommand v [.inr (.inr (16, 0, 0))] =
  bI (fX7_wants v [.inr (.inl v.2)]) (fun w1 r2 =>
    if r2 = (-9 : Int32) then
      some (w1, some (.inl (0 : Int32)))
    else
      bI (fX7_kind w1 [.inr (.inl w1.2)]) (fun w3 r4 =>
        if mIn ((5 : Int32) * (w1.1 13 8)) 165 then
        let w5 : MM := mUp w3 (18, ((5 : Int32) * (w1.1 13 8)).toNatClampNeg) r4
        gX7_readsCommand_21 w5 (1 : Int32) r2
        else none
      )
  ) := fn_eq rfl (eX7_readsCommand FX7_readsCommand _ v )
set_option maxRecDepth 100000 in
theorem qX7_readsCommand_21 (v : MM) (y1 y2 : Int32) : gX7_readsCommand_21 v y1 y2 =
  if y2 < y1 then
    let w1 : MM := mUp v (13, 8) ((v.1 13 8) + (1 : Int32))
    bI (fX7_goes w1 [.inr (.inr (16, 0, 0))]) (fun w2 r3 =>
      if r3 = 0 then
        some (w2, some (.inl (0 : Int32)))
      else
        if (w2.1 13 9) = ((w2.1 13 10) + (1 : Int32)) then
          if mIn (w2.1 13 10) 100 then
          if (w2.1 17 ((w2.1 13 10).toNatClampNeg)) = (59 : Int32) then
            some (w2, some (.inl (1 : Int32)))
          else
            some (w2, some (.inl (0 : Int32)))
          else none
        else
          some (w2, some (.inl (0 : Int32)))
    )
  else
    bI (fX7_goes v [.inr (.inr (16, 0, 0))]) (fun w4 r5 =>
      if r5 = 0 then
        some (w4, some (.inl (0 : Int32)))
      else
        if (w4.1 13 13) = 0 then
          some (w4, some (.inl (0 : Int32)))
        else
          if mIn (((5 : Int32) * (w4.1 13 8)) + y1) 165 then
          let w6 : MM := mUp w4 (18, (((5 : Int32) * (w4.1 13 8)) + y1).toNatClampNeg) (w4.1 13 12)
          gX7_readsCommand_21 w6 (y1 + (1 : Int32)) y2
          else none
    ) := rl_eq (eX7_readsCommand_21 FX7_readsCommand _ v y1 y2)
noncomputable def gX7_reads_6 (v : MM) : MR := rLim FX7_reads cdX7_reads 6 [(0, .inr (.inr (16, 0, 0)))] [] v
set_option maxRecDepth 100000 in
theorem qX7_reads (v : MM) : fX7_reads v [.inr (.inr (16, 0, 0))] =
  let w1 : MM := mUp v (13, 9) (0 : Int32)
  let w2 : MM := mUp w1 (13, 8) (0 : Int32)
  gX7_reads_6 w2  := fn_eq rfl (eX7_reads FX7_reads _ v )
set_option maxRecDepth 100000 in
theorem qX7_reads_6 (v : MM) : gX7_reads_6 v  =
  bI (fX7_goes v [.inr (.inr (16, 0, 0))]) (fun w1 r2 =>
    if r2 = 0 then
      some (w1, some (.inl (1 : Int32)))
    else
      bI (fX7_readsCommand w1 [.inr (.inr (16, 0, 0))]) (fun w3 r4 =>
        if r4 = 0 then
          some (w3, some (.inl (0 : Int32)))
        else
          gX7_reads_6 w3 
      )
  ) := rl_eq (eX7_reads_6 FX7_reads _ v )
set_option maxRecDepth 100000 in
theorem qX7_does (v : MM) (x1 : Int32) : fX7_does v [.inr (.inr (16, 0, 0)), .inl x1] =
  if mIn ((5 : Int32) * x1) 165 then
  if (v.1 18 (((5 : Int32) * x1).toNatClampNeg)) = (0 : Int32) then
    if mIn (((5 : Int32) * x1) + (1 : Int32)) 165 then
    if mIn (((5 : Int32) * x1) + (2 : Int32)) 165 then
    if mIn (((5 : Int32) * x1) + (3 : Int32)) 165 then
    bI (fX7_presses v [.inr (.inr (16, 0, 0)), .inl (v.1 18 ((((5 : Int32) * x1) + (1 : Int32)).toNatClampNeg)), .inl (v.1 18 ((((5 : Int32) * x1) + (2 : Int32)).toNatClampNeg)), .inl (v.1 18 ((((5 : Int32) * x1) + (3 : Int32)).toNatClampNeg))]) (fun w1 r2 =>
      some (w1, some (.inl r2))
    )
    else none
    else none
    else none
  else if (v.1 18 (((5 : Int32) * x1).toNatClampNeg)) = (1 : Int32) then
    if mIn (((5 : Int32) * x1) + (1 : Int32)) 165 then
    if mIn (((5 : Int32) * x1) + (2 : Int32)) 165 then
    bI (fX7_wets v [.inr (.inr (16, 0, 0)), .inl (v.1 18 ((((5 : Int32) * x1) + (1 : Int32)).toNatClampNeg)), .inl (v.1 18 ((((5 : Int32) * x1) + (2 : Int32)).toNatClampNeg))]) (fun w3 r4 =>
      some (w3, some (.inl r4))
    )
    else none
    else none
  else if (v.1 18 (((5 : Int32) * x1).toNatClampNeg)) = (2 : Int32) then
    if mIn (((5 : Int32) * x1) + (1 : Int32)) 165 then
    if mIn (((5 : Int32) * x1) + (2 : Int32)) 165 then
    if mIn (((5 : Int32) * x1) + (3 : Int32)) 165 then
    bI (fX7_moves v [.inr (.inr (16, 0, 0)), .inl (v.1 18 ((((5 : Int32) * x1) + (1 : Int32)).toNatClampNeg)), .inl (v.1 18 ((((5 : Int32) * x1) + (2 : Int32)).toNatClampNeg)), .inl (v.1 18 ((((5 : Int32) * x1) + (3 : Int32)).toNatClampNeg))]) (fun w5 r6 =>
      some (w5, some (.inl r6))
    )
    else none
    else none
    else none
  else if (v.1 18 (((5 : Int32) * x1).toNatClampNeg)) = (3 : Int32) then
    if mIn (((5 : Int32) * x1) + (1 : Int32)) 165 then
    if mIn (((5 : Int32) * x1) + (2 : Int32)) 165 then
    bI (fX7_racks v [.inr (.inr (16, 0, 0)), .inl (v.1 18 ((((5 : Int32) * x1) + (1 : Int32)).toNatClampNeg)), .inl (v.1 18 ((((5 : Int32) * x1) + (2 : Int32)).toNatClampNeg))]) (fun w7 r8 =>
      some (w7, some (.inl r8))
    )
    else none
    else none
  else if (v.1 18 (((5 : Int32) * x1).toNatClampNeg)) = (4 : Int32) then
    if mIn (((5 : Int32) * x1) + (1 : Int32)) 165 then
    bI (fX7_cleans v [.inr (.inr (16, 0, 0)), .inl (v.1 18 ((((5 : Int32) * x1) + (1 : Int32)).toNatClampNeg))]) (fun w9 r10 =>
      some (w9, some (.inl r10))
    )
    else none
  else if (v.1 18 (((5 : Int32) * x1).toNatClampNeg)) = (5 : Int32) then
    if mIn (((5 : Int32) * x1) + (1 : Int32)) 165 then
    if mIn (((5 : Int32) * x1) + (2 : Int32)) 165 then
    if mIn (((5 : Int32) * x1) + (3 : Int32)) 165 then
    if mIn (((5 : Int32) * x1) + (4 : Int32)) 165 then
    bI (fX7_fillsBottles v [.inr (.inr (16, 0, 0)), .inl (v.1 18 ((((5 : Int32) * x1) + (1 : Int32)).toNatClampNeg)), .inl (v.1 18 ((((5 : Int32) * x1) + (2 : Int32)).toNatClampNeg)), .inl (v.1 18 ((((5 : Int32) * x1) + (3 : Int32)).toNatClampNeg)), .inl (v.1 18 ((((5 : Int32) * x1) + (4 : Int32)).toNatClampNeg)), .inl (0 : Int32)]) (fun w11 r12 =>
      some (w11, some (.inl r12))
    )
    else none
    else none
    else none
    else none
  else
    bI (fX7_days v [.inr (.inr (16, 0, 0))]) (fun w13 r14 =>
      some (w13, some (.inl r14))
    )
  else none := fn_eq rfl (eX7_does FX7_does _ v x1)
noncomputable def gX7_runScript_12 (v : MM) (y1 : Int32) : MR := rLim FX7_runScript cdX7_runScript 12 [(1, .inl y1), (0, .inr (.inr (16, 0, 0)))] [] v
set_option maxRecDepth 100000 in
theorem qX7_runScript (v : MM) : fX7_runScript v [.inr (.inr (16, 0, 0))] =
  bI (fX7_reads v [.inr (.inr (16, 0, 0))]) (fun w1 r2 =>
    if r2 = 0 then
      some (w1, some (.inl ((-10 : Int32) - (w1.1 13 10))))
    else
      bV (fX7_keeps w1 [.inr (.inr (16, 0, 0))]) (fun w3 =>
        gX7_runScript_12 w3 (0 : Int32)
      )
  ) := fn_eq rfl (eX7_runScript FX7_runScript _ v )
set_option maxRecDepth 100000 in
theorem qX7_runScript_12 (v : MM) (y1 : Int32) : gX7_runScript_12 v y1 =
  if y1 < (v.1 13 8) then
    bI (fX7_does v [.inr (.inr (16, 0, 0)), .inl y1]) (fun w1 r2 =>
      if r2 < 0 then
        bV (fX7_restores w1 [.inr (.inr (16, 0, 0))]) (fun w3 =>
          some (w3, some (.inl ((-1000 : Int32) - y1)))
        )
      else
        gX7_runScript_12 w1 (y1 + (1 : Int32))
    )
  else
    let w4 : MM := mUp v (13, 6) (0 : Int32)
    bI (fX7_done w4 [.inr (.inr (16, 0, 0)), .inl (w4.1 13 8)]) (fun w5 r6 =>
      some (w5, some (.inl r6))
    ) := rl_eq (eX7_runScript_12 FX7_runScript _ v y1)
set_option maxRecDepth 100000 in
theorem qX7_count (v : MM) (x1 : Int32) : fX7_count v [.inr (.inr (16, 0, 0)), .inl x1] =
  if x1 = (0 : Int32) then
    if mIn (42 : Int32) 151 then
    some (v, some (.inl (v.1 14 ((42 : Int32).toNatClampNeg))))
    else none
  else if x1 = (1 : Int32) then
    if mIn (59 : Int32) 151 then
    some (v, some (.inl (v.1 14 ((59 : Int32).toNatClampNeg))))
    else none
  else if x1 = (2 : Int32) then
    if mIn (102 : Int32) 151 then
    some (v, some (.inl (v.1 14 ((102 : Int32).toNatClampNeg))))
    else none
  else if x1 = (3 : Int32) then
    if mIn (103 : Int32) 151 then
    some (v, some (.inl (v.1 14 ((103 : Int32).toNatClampNeg))))
    else none
  else if x1 = (4 : Int32) then
    some (v, some (.inl (v.1 13 4)))
  else if x1 = (5 : Int32) then
    some (v, some (.inl (v.1 13 6)))
  else if x1 = (6 : Int32) then
    some (v, some (.inl (v.1 13 2)))
  else
    bI (fX7_in v [.inl x1, .inl (7 : Int32), .inl (10 : Int32)]) (fun w1 r2 =>
      if r2 = 0 then
        some (w1, some (.inl (-1 : Int32)))
      else
        if mIn (((18 : Int32) + x1) - (7 : Int32)) 151 then
        some (w1, some (.inl (w1.1 14 ((((18 : Int32) + x1) - (7 : Int32)).toNatClampNeg))))
        else none
    ) := fn_eq rfl (eX7_count FX7_count _ v x1)
set_option maxRecDepth 100000 in
theorem qX7_lot (v : MM) (x1 x2 : Int32) : fX7_lot v [.inr (.inr (16, 0, 0)), .inl x1, .inl x2] =
  bI (fX7_isLot v [.inr (.inr (16, 0, 0)), .inl x1]) (fun w1 r2 =>
    if r2 = 0 then
      some (w1, some (.inl (-1 : Int32)))
    else
      bI (fX7_in w1 [.inl x2, .inl (0 : Int32), .inl (1 : Int32)]) (fun w3 r4 =>
        if r4 = 0 then
          some (w3, some (.inl (-1 : Int32)))
        else
          if mIn (((43 : Int32) + ((2 : Int32) * x1)) + x2) 151 then
          some (w3, some (.inl (w3.1 14 ((((43 : Int32) + ((2 : Int32) * x1)) + x2).toNatClampNeg))))
          else none
      )
  ) := fn_eq rfl (eX7_lot FX7_lot _ v x1 x2)
set_option maxRecDepth 100000 in
theorem qX7_variety (v : MM) (x1 x2 : Int32) : fX7_variety v [.inr (.inr (16, 0, 0)), .inl x1, .inl x2] =
  bI (fX7_in v [.inl x1, .inl (0 : Int32), .inl (5 : Int32)]) (fun w1 r2 =>
    if r2 = 0 then
      some (w1, some (.inl (-1 : Int32)))
    else
      bI (fX7_in w1 [.inl x2, .inl (0 : Int32), .inl (2 : Int32)]) (fun w3 r4 =>
        if r4 = 0 then
          some (w3, some (.inl (-1 : Int32)))
        else
          if mIn (((3 : Int32) * x1) + x2) 151 then
          some (w3, some (.inl (w3.1 14 ((((3 : Int32) * x1) + x2).toNatClampNeg))))
          else none
      )
  ) := fn_eq rfl (eX7_variety FX7_variety _ v x1 x2)
set_option maxRecDepth 100000 in
theorem qX7_tank (v : MM) (x1 x2 : Int32) : fX7_tank v [.inr (.inr (16, 0, 0)), .inl x1, .inl x2] =
  bI (fX7_isTank v [.inr (.inr (16, 0, 0)), .inl x1]) (fun w1 r2 =>
    if r2 = 0 then
      some (w1, some (.inl (-1 : Int32)))
    else
      bI (fX7_in w1 [.inl x2, .inl (0 : Int32), .inl (7 : Int32)]) (fun w3 r4 =>
        if r4 = 0 then
          some (w3, some (.inl (-1 : Int32)))
        else
          if x2 = (7 : Int32) then
            bI (fX7_left w3 [.inr (.inr (16, 0, 0)), .inl x1]) (fun w5 r6 =>
              some (w5, some (.inl r6))
            )
          else
            bI (fX7_of w3 [.inr (.inr (16, 0, 0)), .inl x1, .inl x2]) (fun w7 r8 =>
              some (w7, some (.inl r8))
            )
      )
  ) := fn_eq rfl (eX7_tank FX7_tank _ v x1 x2)
set_option maxRecDepth 100000 in
theorem qX7_share (v : MM) (x1 x2 : Int32) : fX7_share v [.inr (.inr (16, 0, 0)), .inl x1, .inl x2] =
  bI (fX7_isTank v [.inr (.inr (16, 0, 0)), .inl x1]) (fun w1 r2 =>
    if r2 = 0 then
      some (w1, some (.inl (-1 : Int32)))
    else
      bI (fX7_in w1 [.inl x2, .inl (0 : Int32), .inl (3 : Int32)]) (fun w3 r4 =>
        if r4 = 0 then
          some (w3, some (.inl (-1 : Int32)))
        else
          bI (fX7_of w3 [.inr (.inr (16, 0, 0)), .inl x1, .inl (1 : Int32)]) (fun w5 r6 =>
            if r6 = 0 then
              some (w5, some (.inl (-9 : Int32)))
            else
              if x2 = (3 : Int32) then
                bI (fX7_portion w5 [.inr (.inr (16, 0, 0)), .inl x1, .inl (6 : Int32)]) (fun w7 r8 =>
                  some (w7, some (.inl r8))
                )
              else
                bI (fX7_portion w5 [.inr (.inr (16, 0, 0)), .inl x1, .inl ((2 : Int32) + x2)]) (fun w9 r10 =>
                  some (w9, some (.inl r10))
                )
          )
      )
  ) := fn_eq rfl (eX7_share FX7_share _ v x1 x2)
set_option maxRecDepth 100000 in
theorem qX7_why (v : MM) (x1 x2 : Int32) : fX7_why v [.inr (.inr (16, 0, 0)), .inl x1, .inl x2] =
  bI (fX7_isTank v [.inr (.inr (16, 0, 0)), .inl x1]) (fun w1 r2 =>
    if r2 = 0 then
      some (w1, some (.inl (-1 : Int32)))
    else
      bI (fX7_in w1 [.inl x2, .inl (0 : Int32), .inl (3 : Int32)]) (fun w3 r4 =>
        if r4 = 0 then
          some (w3, some (.inl (-1 : Int32)))
        else
          bI (fX7_forbids w3 [.inr (.inr (16, 0, 0)), .inl x1, .inl x2]) (fun w5 r6 =>
            some (w5, some (.inl r6))
          )
      )
  ) := fn_eq rfl (eX7_why FX7_why _ v x1 x2)
noncomputable def gX7_account_32 (v : MM) (y1 y2 y3 : Int32) : MR := rLim FX7_account cdX7_account 32 [(3, .inl y1), (2, .inl y2), (0, .inr (.inr (16, 0, 0))), (1, .inl y3)] [] v
set_option maxRecDepth 100000 in
theorem qX7_account (v : MM) (x1 : Int32) : fX7_account v [.inr (.inr (16, 0, 0)), .inl x1] =
  bI (fX7_in v [.inl x1, .inl (0 : Int32), .inl (10 : Int32)]) (fun w1 r2 =>
    if r2 = 0 then
      some (w1, some (.inl (-1 : Int32)))
    else
      if x1 < (7 : Int32) then
        if x1 = (8 : Int32) then
          if mIn (102 : Int32) 151 then
          some (w1, some (.inl (w1.1 14 ((102 : Int32).toNatClampNeg))))
          else none
        else
          if mIn ((104 : Int32) + x1) 151 then
          some (w1, some (.inl (w1.1 14 (((104 : Int32) + x1).toNatClampNeg))))
          else none
      else
        if x1 = (8 : Int32) then
          if x1 = (8 : Int32) then
            if mIn (102 : Int32) 151 then
            some (w1, some (.inl (w1.1 14 ((102 : Int32).toNatClampNeg))))
            else none
          else
            if mIn ((104 : Int32) + x1) 151 then
            some (w1, some (.inl (w1.1 14 (((104 : Int32) + x1).toNatClampNeg))))
            else none
        else
          gX7_account_32 w1 (0 : Int32) (0 : Int32) x1
  ) := fn_eq rfl (eX7_account FX7_account _ v x1)
set_option maxRecDepth 100000 in
theorem qX7_account_32 (v : MM) (y1 y2 y3 : Int32) : gX7_account_32 v y1 y2 y3 =
  if y1 < (8 : Int32) then
    if y3 = (7 : Int32) then
      if mIn (42 : Int32) 151 then
      if y1 < (v.1 14 ((42 : Int32).toNatClampNeg)) then
        if mIn (((43 : Int32) + ((2 : Int32) * y1)) + (1 : Int32)) 151 then
        gX7_account_32 v (y1 + (1 : Int32)) (y2 + (v.1 14 ((((43 : Int32) + ((2 : Int32) * y1)) + (1 : Int32)).toNatClampNeg))) y3
        else none
      else
        if (8 : Int32) < y3 then
          if mIn (59 : Int32) 151 then
          if y1 < (v.1 14 ((59 : Int32).toNatClampNeg)) then
            if y3 = (9 : Int32) then
              bI (fX7_of v [.inr (.inr (16, 0, 0)), .inl y1, .inl (1 : Int32)]) (fun w1 r2 =>
                gX7_account_32 w1 (y1 + (1 : Int32)) (y2 + r2) y3
              )
            else
              bI (fX7_of v [.inr (.inr (16, 0, 0)), .inl y1, .inl (5 : Int32)]) (fun w3 r4 =>
                gX7_account_32 w3 (y1 + (1 : Int32)) (y2 + r4) y3
              )
          else
            gX7_account_32 v (y1 + (1 : Int32)) (y2 + (0 : Int32)) y3
          else none
        else
          gX7_account_32 v (y1 + (1 : Int32)) (y2 + (0 : Int32)) y3
      else none
    else
      if (8 : Int32) < y3 then
        if mIn (59 : Int32) 151 then
        if y1 < (v.1 14 ((59 : Int32).toNatClampNeg)) then
          if y3 = (9 : Int32) then
            bI (fX7_of v [.inr (.inr (16, 0, 0)), .inl y1, .inl (1 : Int32)]) (fun w5 r6 =>
              gX7_account_32 w5 (y1 + (1 : Int32)) (y2 + r6) y3
            )
          else
            bI (fX7_of v [.inr (.inr (16, 0, 0)), .inl y1, .inl (5 : Int32)]) (fun w7 r8 =>
              gX7_account_32 w7 (y1 + (1 : Int32)) (y2 + r8) y3
            )
        else
          gX7_account_32 v (y1 + (1 : Int32)) (y2 + (0 : Int32)) y3
        else none
      else
        gX7_account_32 v (y1 + (1 : Int32)) (y2 + (0 : Int32)) y3
  else
    some (v, some (.inl y2)) := rl_eq (eX7_account_32 FX7_account _ v y1 y2 y3)
set_option maxRecDepth 100000 in
theorem qX7_bottles (v : MM) (x1 x2 : Int32) : fX7_bottles v [.inr (.inr (16, 0, 0)), .inl x1, .inl x2] =
  bI (fX7_in v [.inl x1, .inl (0 : Int32), .inl (3 : Int32)]) (fun w1 r2 =>
    if r2 = 0 then
      some (w1, some (.inl (-1 : Int32)))
    else
      bI (fX7_in w1 [.inl x2, .inl (0 : Int32), .inl (10 : Int32)]) (fun w3 r4 =>
        if r4 = 0 then
          some (w3, some (.inl (-1 : Int32)))
        else
          if x2 = 0 then
            bI (fX7_bottled w3 [.inr (.inr (16, 0, 0)), .inl x1]) (fun w5 r6 =>
              some (w5, some (.inl r6))
            )
          else
            if mIn ((((111 : Int32) + ((10 : Int32) * x1)) + x2) - (1 : Int32)) 151 then
            some (w3, some (.inl (w3.1 14 (((((111 : Int32) + ((10 : Int32) * x1)) + x2) - (1 : Int32)).toNatClampNeg))))
            else none
      )
  ) := fn_eq rfl (eX7_bottles FX7_bottles _ v x1 x2)
noncomputable def gX7_daysTo_15 (v : MM) (y1 y2 y3 : Int32) : MR := rLim FX7_daysTo cdX7_daysTo 15 [(3, .inl y1), (0, .inr (.inr (16, 0, 0))), (1, .inl y2), (2, .inl y3)] [] v
set_option maxRecDepth 100000 in
theorem qX7_daysTo (v : MM) (x1 x2 : Int32) : fX7_daysTo v [.inr (.inr (16, 0, 0)), .inl x1, .inl x2] =
  bI (fX7_isTank v [.inr (.inr (16, 0, 0)), .inl x1]) (fun w1 r2 =>
    if r2 = 0 then
      some (w1, some (.inl (-1 : Int32)))
    else
      bI (fX7_in w1 [.inl x2, .inl (0 : Int32), .inl (3 : Int32)]) (fun w3 r4 =>
        if r4 = 0 then
          some (w3, some (.inl (-1 : Int32)))
        else
          bV (fX7_keeps w3 [.inr (.inr (16, 0, 0))]) (fun w5 =>
            gX7_daysTo_15 w5 (0 : Int32) x1 x2
          )
      )
  ) := fn_eq rfl (eX7_daysTo FX7_daysTo _ v x1 x2)
set_option maxRecDepth 100000 in
theorem qX7_daysTo_15 (v : MM) (y1 y2 y3 : Int32) : gX7_daysTo_15 v y1 y2 y3 =
  if y1 < (60 : Int32) then
    bI (fX7_forbids v [.inr (.inr (16, 0, 0)), .inl y2, .inl y3]) (fun w1 r2 =>
      if 0 < r2 then
        bV (fX7_works w1 [.inr (.inr (16, 0, 0)), .inl y2]) (fun w3 =>
          gX7_daysTo_15 w3 (y1 + (1 : Int32)) y2 y3
        )
      else
        bI (fX7_forbids w1 [.inr (.inr (16, 0, 0)), .inl y2, .inl y3]) (fun w4 r5 =>
          if r5 = 0 then
            bV (fX7_restores w4 [.inr (.inr (16, 0, 0))]) (fun w6 =>
              if (1 : Int32) = 0 then
                some (w6, some (.inl (-9 : Int32)))
              else
                some (w6, some (.inl y1))
            )
          else
            bV (fX7_restores w4 [.inr (.inr (16, 0, 0))]) (fun w7 =>
              if (0 : Int32) = 0 then
                some (w7, some (.inl (-9 : Int32)))
              else
                some (w7, some (.inl y1))
            )
        )
    )
  else
    bI (fX7_forbids v [.inr (.inr (16, 0, 0)), .inl y2, .inl y3]) (fun w8 r9 =>
      if r9 = 0 then
        bV (fX7_restores w8 [.inr (.inr (16, 0, 0))]) (fun w10 =>
          if (1 : Int32) = 0 then
            some (w10, some (.inl (-9 : Int32)))
          else
            some (w10, some (.inl y1))
        )
      else
        bV (fX7_restores w8 [.inr (.inr (16, 0, 0))]) (fun w11 =>
          if (0 : Int32) = 0 then
            some (w11, some (.inl (-9 : Int32)))
          else
            some (w11, some (.inl y1))
        )
    ) := rl_eq (eX7_daysTo_15 FX7_daysTo _ v y1 y2 y3)
noncomputable def gX7_blendFor_42 (v : MM) (y1 y2 y3 y4 y5 y6 : Int32) : MR := rLim FX7_blendFor cdX7_blendFor 42 [(6, .inl y1), (5, .inl y2), (4, .inl y3), (0, .inr (.inr (16, 0, 0))), (1, .inl y4), (2, .inl y5), (3, .inl y6)] [] v
noncomputable def gX7_blendFor_42_2 (v : MM) (y1 y2 y3 y4 y5 y6 y7 : Int32) : MR := rLim FX7_blendFor cdX7_blendFor 42 [(6, .inl y1), (5, .inl y2), (7, .inl y3), (4, .inl y4), (0, .inr (.inr (16, 0, 0))), (1, .inl y5), (2, .inl y6), (3, .inl y7)] [] v
set_option maxRecDepth 100000 in
theorem qX7_blendFor (v : MM) (x1 x2 x3 : Int32) : fX7_blendFor v [.inr (.inr (16, 0, 0)), .inl x1, .inl x2, .inl x3] =
  bI (fX7_areTwo v [.inr (.inr (16, 0, 0)), .inl x1, .inl x2]) (fun w1 r2 =>
    if r2 = 0 then
      some (w1, some (.inl (-1 : Int32)))
    else
      bI (fX7_in w1 [.inl x3, .inl (0 : Int32), .inl (3 : Int32)]) (fun w3 r4 =>
        if r4 = 0 then
          some (w3, some (.inl (-1 : Int32)))
        else
          bI (fX7_of w3 [.inr (.inr (16, 0, 0)), .inl x1, .inl (1 : Int32)]) (fun w5 r6 =>
            bI (fX7_left w5 [.inr (.inr (16, 0, 0)), .inl x2]) (fun w7 r8 =>
              if r6 < r8 then
                bI (fX7_of w7 [.inr (.inr (16, 0, 0)), .inl x1, .inl (1 : Int32)]) (fun w9 r10 =>
                  bV (fX7_keeps w9 [.inr (.inr (16, 0, 0))]) (fun w11 =>
                    bI (fX7_forbids w11 [.inr (.inr (16, 0, 0)), .inl x2, .inl x3]) (fun w12 r13 =>
                      if r13 = 0 then
                        gX7_blendFor_42 w12 (1 : Int32) (0 : Int32) r10 x1 x2 x3
                      else
                        gX7_blendFor_42 w12 (1 : Int32) (-9 : Int32) r10 x1 x2 x3
                    )
                  )
                )
              else
                bI (fX7_left w7 [.inr (.inr (16, 0, 0)), .inl x2]) (fun w14 r15 =>
                  bV (fX7_keeps w14 [.inr (.inr (16, 0, 0))]) (fun w16 =>
                    bI (fX7_forbids w16 [.inr (.inr (16, 0, 0)), .inl x2, .inl x3]) (fun w17 r18 =>
                      if r18 = 0 then
                        gX7_blendFor_42 w17 (1 : Int32) (0 : Int32) r15 x1 x2 x3
                      else
                        gX7_blendFor_42 w17 (1 : Int32) (-9 : Int32) r15 x1 x2 x3
                    )
                  )
                )
            )
          )
      )
  ) := fn_eq rfl (eX7_blendFor FX7_blendFor _ v x1 x2 x3)
set_option maxRecDepth 100000 in
theorem qX7_blendFor_42 (v : MM) (y1 y2 y3 y4 y5 y6 : Int32) : gX7_blendFor_42 v y1 y2 y3 y4 y5 y6 =
  if y3 < y1 then
    some (v, some (.inl y2))
  else
    if y2 = (-9 : Int32) then
      bI (fX7_carries v [.inr (.inr (16, 0, 0)), .inl y4, .inl y1, .inl y5]) (fun w1 r2 =>
        if r2 < 0 then
          bV (fX7_restores w1 [.inr (.inr (16, 0, 0))]) (fun w3 =>
            gX7_blendFor_42_2 w3 (y1 + (1 : Int32)) (-9 : Int32) r2 y3 y4 y5 y6
          )
        else
          bI (fX7_forbids w1 [.inr (.inr (16, 0, 0)), .inl y5, .inl y6]) (fun w4 r5 =>
            if r5 = 0 then
              bV (fX7_restores w4 [.inr (.inr (16, 0, 0))]) (fun w6 =>
                gX7_blendFor_42_2 w6 (y1 + (1 : Int32)) y1 r2 y3 y4 y5 y6
              )
            else
              bV (fX7_restores w4 [.inr (.inr (16, 0, 0))]) (fun w7 =>
                gX7_blendFor_42_2 w7 (y1 + (1 : Int32)) (-9 : Int32) r2 y3 y4 y5 y6
              )
          )
      )
    else
      some (v, some (.inl y2)) := rl_eq (eX7_blendFor_42 FX7_blendFor _ v y1 y2 y3 y4 y5 y6)
set_option maxRecDepth 100000 in
theorem qX7_blendFor_42_2 (v : MM) (y1 y2 y3 y4 y5 y6 y7 : Int32) : gX7_blendFor_42_2 v y1 y2 y3 y4 y5 y6 y7 =
  if y4 < y1 then
    some (v, some (.inl y2))
  else
    if y2 = (-9 : Int32) then
      bI (fX7_carries v [.inr (.inr (16, 0, 0)), .inl y5, .inl y1, .inl y6]) (fun w1 r2 =>
        if r2 < 0 then
          bV (fX7_restores w1 [.inr (.inr (16, 0, 0))]) (fun w3 =>
            gX7_blendFor_42_2 w3 (y1 + (1 : Int32)) (-9 : Int32) r2 y4 y5 y6 y7
          )
        else
          bI (fX7_forbids w1 [.inr (.inr (16, 0, 0)), .inl y6, .inl y7]) (fun w4 r5 =>
            if r5 = 0 then
              bV (fX7_restores w4 [.inr (.inr (16, 0, 0))]) (fun w6 =>
                gX7_blendFor_42_2 w6 (y1 + (1 : Int32)) y1 r2 y4 y5 y6 y7
              )
            else
              bV (fX7_restores w4 [.inr (.inr (16, 0, 0))]) (fun w7 =>
                gX7_blendFor_42_2 w7 (y1 + (1 : Int32)) (-9 : Int32) r2 y4 y5 y6 y7
              )
          )
      )
    else
      some (v, some (.inl y2)) := rl_eq (eX7_blendFor_42_2 FX7_blendFor _ v y1 y2 y3 y4 y5 y6 y7)
