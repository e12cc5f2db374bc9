-- EQUATIONS of the methods, callees named (by program: wip/whole/gen/qgen.py)
set_option maxRecDepth 100000 in
theorem qX3_append (v : MM) (x1 : Int32) : fX3_append v [.inr (.inr (13, 0, 0)), .inl x1] =
  bI (fX6_within v [.inl (v.1 9 1), .inl (0 : Int32), .inl (99 : Int32)]) (fun w1 r2 =>
    if r2 = 0 then
      some (w1, some (.inl (-3 : Int32)))
    else
      if mIn (w1.1 9 1) 100 then
      let w3 : MM := mUp w1 (10, (w1.1 9 1).toNatClampNeg) (vp_nar .char x1)
      let w4 : MM := mUp w3 (9, 1) ((w3.1 9 1) + (1 : Int32))
      some (w4, some (.inl (w4.1 9 1)))
      else none
  ) := fn_eq rfl (eX3_append FX3_append _ v x1)
set_option maxRecDepth 100000 in
theorem qX3_clear (v : MM) : fX3_clear v [.inr (.inr (13, 0, 0))] =
  let w1 : MM := mUp v (9, 1) (0 : Int32)
  some (w1, some (.inl (v.1 9 1))) := fn_eq rfl (eX3_clear FX3_clear _ v )
set_option maxRecDepth 100000 in
theorem qX3_number (v : MM) (x1 x2 : Int32) : fX3_number v [.inr (.inr (13, 0, 0)), .inl x1, .inl x2] =
  bI (fX6_within v [.inl ((x1 * (5 : Int32)) + x2), .inl (0 : Int32), .inl ((Int32.ofNat 125) - (1 : Int32))]) (fun w1 r2 =>
    if r2 = 0 then
      some (w1, some (.inl (0 : Int32)))
    else
      if mIn ((x1 * (5 : Int32)) + x2) 125 then
      some (w1, some (.inl (w1.1 11 (((x1 * (5 : Int32)) + x2).toNatClampNeg))))
      else none
  ) := fn_eq rfl (eX3_number FX3_number _ v x1 x2)
set_option maxRecDepth 100000 in
theorem qX3_keep (v : MM) (x1 x2 : Int32) : fX3_keep v [.inr (.inr (13, 0, 0)), .inl x1, .inl x2] =
  bI (fX6_within v [.inl (((v.1 9 3) * (5 : Int32)) + x1), .inl (0 : Int32), .inl ((Int32.ofNat 125) - (1 : Int32))]) (fun w1 r2 =>
    if r2 = 0 then
      some (w1, none)
    else
      if mIn (((v.1 9 3) * (5 : Int32)) + x1) 125 then
      let w3 : MM := mUp w1 (11, (((v.1 9 3) * (5 : Int32)) + x1).toNatClampNeg) x2
      some (w3, none)
      else none
  ) := fn_eq rfl (eX3_keep FX3_keep _ v x1 x2)
noncomputable def gX3_endOf_3 (v : MM) (y1 y2 y3 : Int32) : MR := rLim FX3_endOf cdX3_endOf 3 [(3, .inl y1), (0, .inr (.inr (13, 0, 0))), (1, .inl y2), (2, .inl y3)] [] v
set_option maxRecDepth 100000 in
theorem qX3_endOf (v : MM) (x1 x2 : Int32) : fX3_endOf v [.inr (.inr (13, 0, 0)), .inl x1, .inl x2] =
  gX3_endOf_3 v (v.1 9 2) x1 x2 := fn_eq rfl (eX3_endOf FX3_endOf _ v x1 x2)
set_option maxRecDepth 100000 in
theorem qX3_endOf_3 (v : MM) (y1 y2 y3 : Int32) : gX3_endOf_3 v y1 y2 y3 =
  if y1 < (v.1 9 1) then
    if mIn y1 100 then
    if (v.1 10 y1.toNatClampNeg) < y2 then
      some (v, some (.inl y1))
    else
      if mIn y1 100 then
      if y3 < (v.1 10 y1.toNatClampNeg) then
        some (v, some (.inl y1))
      else
        gX3_endOf_3 v (y1 + (1 : Int32)) y2 y3
      else none
    else none
  else
    some (v, some (.inl y1)) := rl_eq (eX3_endOf_3 FX3_endOf _ v y1 y2 y3)
set_option maxRecDepth 100000 in
theorem qX3_skipSpaces (v : MM) : fX3_skipSpaces v [.inr (.inr (13, 0, 0))] =
  bI (fX3_endOf v [.inr (.inr (13, 0, 0)), .inl (32 : Int32), .inl (32 : Int32)]) (fun w1 r2 =>
    let w3 : MM := mUp w1 (9, 2) r2
    some (w3, none)
  ) := fn_eq rfl (eX3_skipSpaces FX3_skipSpaces _ v )
noncomputable def gX3_isWord_11 (v : MM) (k1 : Nat) (y1 y2 : Int32) : MR := rLim FX3_isWord cdX3_isWord 11 [(3, .inl y1), (0, .inr (.inr (13, 0, 0))), (1, .inr (.inr (23, k1, 0))), (2, .inl y2)] [] v
set_option maxRecDepth 100000 in
theorem qX3_isWord (v : MM) (k1 : Nat) (x2 : Int32) : fX3_isWord v [.inr (.inr (13, 0, 0)), .inr (.inr (23, k1, 0)), .inl x2] =
  bI (fJ0_length_8abf5 v [.inr (.inr (23, k1, 0))]) (fun w1 r2 =>
    if (x2 - (v.1 9 2)) = r2 then
      gX3_isWord_11 w1 k1 (0 : Int32) x2
    else
      some (w1, some (.inl (0 : Int32)))
  ) := fn_eq rfl (eX3_isWord FX3_isWord _ v k1 x2)
set_option maxRecDepth 100000 in
theorem qX3_isWord_11 (v : MM) (k1 : Nat) (y1 y2 : Int32) : gX3_isWord_11 v k1 y1 y2 =
  bI (fJ0_length_8abf5 v [.inr (.inr (23, k1, 0))]) (fun w1 r2 =>
    if y1 < r2 then
      if mIn ((w1.1 9 2) + y1) 100 then
      bI (fJ0_charAt_5068e w1 [.inr (.inr (23, k1, 0)), .inl y1]) (fun w3 r4 =>
        if (w1.1 10 (((w1.1 9 2) + y1).toNatClampNeg)) = r4 then
          gX3_isWord_11 w3 k1 (y1 + (1 : Int32)) y2
        else
          some (w3, some (.inl (0 : Int32)))
      )
      else none
    else
      some (w1, some (.inl (1 : Int32)))
  ) := rl_eq (eX3_isWord_11 FX3_isWord _ v k1 y1 y2)
set_option maxRecDepth 100000 in
theorem qX3_kindOfWord (v : MM) (x1 : Int32) : fX3_kindOfWord v [.inr (.inr (13, 0, 0)), .inl x1] =
  bI (fX3_isWord v [.inr (.inr (13, 0, 0)), .inr (.inr (23, 0, 0)), .inl x1]) (fun w1 r2 =>
    if r2 = 0 then
      bI (fX3_isWord w1 [.inr (.inr (13, 0, 0)), .inr (.inr (23, 1, 0)), .inl x1]) (fun w3 r4 =>
        if r4 = 0 then
          bI (fX3_isWord w3 [.inr (.inr (13, 0, 0)), .inr (.inr (23, 2, 0)), .inl x1]) (fun w5 r6 =>
            if r6 = 0 then
              bI (fX3_isWord w5 [.inr (.inr (13, 0, 0)), .inr (.inr (23, 3, 0)), .inl x1]) (fun w7 r8 =>
                if r8 = 0 then
                  bI (fX3_isWord w7 [.inr (.inr (13, 0, 0)), .inr (.inr (23, 4, 0)), .inl x1]) (fun w9 r10 =>
                    if r10 = 0 then
                      bI (fX3_isWord w9 [.inr (.inr (13, 0, 0)), .inr (.inr (23, 5, 0)), .inl x1]) (fun w11 r12 =>
                        if r12 = 0 then
                          bI (fX3_isWord w11 [.inr (.inr (13, 0, 0)), .inr (.inr (23, 6, 0)), .inl x1]) (fun w13 r14 =>
                            if r14 = 0 then
                              some (w13, some (.inl (-1 : Int32)))
                            else
                              some (w13, some (.inl (6 : Int32)))
                          )
                        else
                          some (w11, some (.inl (5 : Int32)))
                      )
                    else
                      some (w9, some (.inl (4 : Int32)))
                  )
                else
                  some (w7, some (.inl (3 : Int32)))
              )
            else
              some (w5, some (.inl (2 : Int32)))
          )
        else
          some (w3, some (.inl (1 : Int32)))
      )
    else
      some (w1, some (.inl (0 : Int32)))
  ) := fn_eq rfl (eX3_kindOfWord FX3_kindOfWord _ v x1)
set_option maxRecDepth 100000 in
theorem qX3_readWord (v : MM) : fX3_readWord v [.inr (.inr (13, 0, 0))] =
  bI (fX3_endOf v [.inr (.inr (13, 0, 0)), .inl (97 : Int32), .inl (122 : Int32)]) (fun w1 r2 =>
    bI (fX3_kindOfWord w1 [.inr (.inr (13, 0, 0)), .inl r2]) (fun w3 r4 =>
      if r4 = (-1 : Int32) then
        some (w3, some (.inl r4))
      else
        let w5 : MM := mUp w3 (9, 2) r2
        some (w5, some (.inl r4))
    )
  ) := fn_eq rfl (eX3_readWord FX3_readWord _ v )
set_option maxRecDepth 100000 in
theorem qX3_numbersOf (v : MM) (x1 : Int32) : fX3_numbersOf v [.inl x1] =
  if x1 = (0 : Int32) then
    some (v, some (.inl (3 : Int32)))
  else if x1 = (1 : Int32) then
    some (v, some (.inl (2 : Int32)))
  else if x1 = (2 : Int32) then
    some (v, some (.inl (3 : Int32)))
  else if x1 = (3 : Int32) then
    some (v, some (.inl (2 : Int32)))
  else if x1 = (4 : Int32) then
    some (v, some (.inl (1 : Int32)))
  else if x1 = (5 : Int32) then
    some (v, some (.inl (4 : Int32)))
  else
    some (v, some (.inl (0 : Int32))) := fn_eq rfl (eX3_numbersOf FX3_numbersOf _ v x1)
noncomputable def gX3_readNumber_35 (v : MM) (y1 y2 y3 y4 y5 : Int32) : MR := rLim FX3_readNumber cdX3_readNumber 35 [(5, .inl y1), (4, .inl y2), (3, .inl y3), (2, .inl y4), (0, .inr (.inr (13, 0, 0))), (1, .inl y5)] [] v
set_option maxRecDepth 100000 in
theorem qX3_readNumber (v : MM) (x1 : Int32) : fX3_readNumber v [.inr (.inr (13, 0, 0)), .inl x1] =
  bV (fX3_skipSpaces v [.inr (.inr (13, 0, 0))]) (fun w1 =>
    bI (fX3_endOf w1 [.inr (.inr (13, 0, 0)), .inl (48 : Int32), .inl (57 : Int32)]) (fun w2 r3 =>
      if (r3 - (w2.1 9 2)) < (1 : Int32) then
        some (w2, some (.inl (0 : Int32)))
      else
        if (5 : Int32) < (r3 - (w2.1 9 2)) then
          some (w2, some (.inl (0 : Int32)))
        else
          if (1 : Int32) < (r3 - (w2.1 9 2)) then
            if mIn (w2.1 9 2) 100 then
            if (w2.1 10 ((w2.1 9 2).toNatClampNeg)) = (48 : Int32) then
              some (w2, some (.inl (0 : Int32)))
            else
              gX3_readNumber_35 w2 (w2.1 9 2) (0 : Int32) (r3 - (w2.1 9 2)) r3 x1
            else none
          else
            gX3_readNumber_35 w2 (w2.1 9 2) (0 : Int32) (r3 - (w2.1 9 2)) r3 x1
    )
  ) := fn_eq rfl (eX3_readNumber FX3_readNumber _ v x1)
set_option maxRecDepth 100000 in
theorem qX3_readNumber_35 (v : MM) (y1 y2 y3 y4 y5 : Int32) : gX3_readNumber_35 v y1 y2 y3 y4 y5 =
  if y1 < y4 then
    if mIn y1 100 then
    gX3_readNumber_35 v (y1 + (1 : Int32)) ((y2 * (10 : Int32)) + ((v.1 10 y1.toNatClampNeg) - (48 : Int32))) y3 y4 y5
    else none
  else
    bV (fX3_keep v [.inr (.inr (13, 0, 0)), .inl y5, .inl y2]) (fun w1 =>
      let w2 : MM := mUp w1 (9, 2) y4
      some (w2, some (.inl (1 : Int32)))
    ) := rl_eq (eX3_readNumber_35 FX3_readNumber _ v y1 y2 y3 y4 y5)
set_option maxRecDepth 100000 in
theorem qX3_readEnd (v : MM) : fX3_readEnd v [.inr (.inr (13, 0, 0))] =
  bV (fX3_skipSpaces v [.inr (.inr (13, 0, 0))]) (fun w1 =>
    if (w1.1 9 2) < (w1.1 9 1) then
      if mIn (w1.1 9 2) 100 then
      if (w1.1 10 ((w1.1 9 2).toNatClampNeg)) = (59 : Int32) then
        let w2 : MM := mUp w1 (9, 2) ((w1.1 9 2) + (1 : Int32))
        some (w2, some (.inl (1 : Int32)))
      else
        some (w1, some (.inl (0 : Int32)))
      else none
    else
      some (w1, some (.inl (0 : Int32)))
  ) := fn_eq rfl (eX3_readEnd FX3_readEnd _ v )
noncomputable def gX3_readCommand_14 (v : MM) (y1 y2 : Int32) : MR := rLim FX3_readCommand cdX3_readCommand 14 [(2, .inl y1), (1, .inl y2), (0, .inr (.inr (13, 0, 0)))] [] v
set_option maxRecDepth 100000 in
theorem qX3_readCommand (v : MM) : fX3_readCommand v [.inr (.inr (13, 0, 0))] =
  bI (fX3_readWord v [.inr (.inr (13, 0, 0))]) (fun w1 r2 =>
    if r2 = (-1 : Int32) then
      some (w1, some (.inl (0 : Int32)))
    else
      bV (fX3_keep w1 [.inr (.inr (13, 0, 0)), .inl (0 : Int32), .inl r2]) (fun w3 =>
        gX3_readCommand_14 w3 (1 : Int32) r2
      )
  ) := fn_eq rfl (eX3_readCommand FX3_readCommand _ v )
set_option maxRecDepth 100000 in
theorem qX3_readCommand_14 (v : MM) (y1 y2 : Int32) : gX3_readCommand_14 v y1 y2 =
  bI (fX3_numbersOf v [.inl y2]) (fun w1 r2 =>
    if r2 < y1 then
      bI (fX3_readEnd w1 [.inr (.inr (13, 0, 0))]) (fun w3 r4 =>
        if r4 = 0 ∨ r4 = 1 then some (w3, some (.inl r4)) else none
      )
    else
      bI (fX3_readNumber w1 [.inr (.inr (13, 0, 0)), .inl y1]) (fun w5 r6 =>
        if r6 = 0 then
          some (w5, some (.inl (0 : Int32)))
        else
          gX3_readCommand_14 w5 (y1 + (1 : Int32)) y2
      )
  ) := rl_eq (eX3_readCommand_14 FX3_readCommand _ v y1 y2)
noncomputable def gX3_read_8 (v : MM) (y1 : Int32) : MR := rLim FX3_read cdX3_read 8 [(1, .inl y1), (0, .inr (.inr (13, 0, 0)))] [] v
set_option maxRecDepth 100000 in
theorem qX3_read (v : MM) : fX3_read v [.inr (.inr (13, 0, 0))] =
  let w1 : MM := mUp v (9, 2) (0 : Int32)
  let w2 : MM := mUp w1 (9, 3) (0 : Int32)
  gX3_read_8 w2 (0 : Int32) := fn_eq rfl (eX3_read FX3_read _ v )
set_option maxRecDepth 100000 in
theorem qX3_read_8 (v : MM) (y1 : Int32) : gX3_read_8 v y1 =
  if (25 : Int32) < y1 then
    some (v, some (.inl (0 : Int32)))
  else
    bV (fX3_skipSpaces v [.inr (.inr (13, 0, 0))]) (fun w1 =>
      if (w1.1 9 2) < (w1.1 9 1) then
        bI (fX3_readCommand w1 [.inr (.inr (13, 0, 0))]) (fun w2 r3 =>
          if r3 = 0 then
            some (w2, some (.inl (0 : Int32)))
          else
            let w4 : MM := mUp w2 (9, 3) ((w2.1 9 3) + (1 : Int32))
            gX3_read_8 w4 (y1 + (1 : Int32))
        )
      else
        some (w1, some (.inl (1 : Int32)))
    ) := rl_eq (eX3_read_8 FX3_read _ v y1)
