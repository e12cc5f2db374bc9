-- EQUATIONS of the methods, callees named (by program: wip/whole/gen/qgen.py)
set_option maxRecDepth 100000 in
theorem qX5_copyFrom (v : MM) (i j i1 j1 : Nat) : fX5_copyFrom v [.inr (.inr (8, i, j)), .inr (.inr (8, i1, j1))] =
  let w1 : MM := mUp v (i, 3 * j + 0) (v.1 i1 (3 * j1 + 0))
  let w2 : MM := mUp w1 (i, 3 * j + 1) (w1.1 i1 (3 * j1 + 1))
  let w3 : MM := mUp w2 (i, 3 * j + 2) (w2.1 i1 (3 * j1 + 2))
  some (w3, none) := fn_eq rfl (eX5_copyFrom FX5_copyFrom _ v i j i1 j1)
set_option maxRecDepth 100000 in
theorem qX1_copyFrom (v : MM) (i j i1 : Nat) (hj : j < 4) : fX1_copyFrom v [.inr (.inr (9, i, j)), .inr (.inr (9, i1, j))] =
  let w1 : MM := mUp v (i, 22 + 5 * j + 0) (v.1 i1 (22 + 5 * j + 0))
  let w2 : MM := mUp w1 (i, 22 + 5 * j + 1) (w1.1 i1 (22 + 5 * j + 1))
  let w3 : MM := mUp w2 (i, 22 + 5 * j + 2) (w2.1 i1 (22 + 5 * j + 2))
  let w4 : MM := mUp w3 (i, 22 + 5 * j + 3) (w3.1 i1 (22 + 5 * j + 3))
  let w5 : MM := mUp w4 (i, 22 + 5 * j + 4) (w4.1 i1 (22 + 5 * j + 4))
  let w6 : MM := mCpy w5 i1 (10, i, j)
  some (w6, none) := fn_eq rfl (eX1_copyFrom FX1_copyFrom _ v i j i1 hj)
set_option maxRecDepth 100000 in
theorem qX2_copyFrom (v : MM) (i j i1 j1 : Nat) : fX2_copyFrom v [.inr (.inr (11, i, j)), .inr (.inr (11, i1, j1))] =
  let w1 : MM := mUp v (i, 43 + 2 * j + 0) (v.1 i1 (43 + 2 * j1 + 0))
  let w2 : MM := mUp w1 (i, 43 + 2 * j + 1) (w1.1 i1 (43 + 2 * j1 + 1))
  some (w2, none) := fn_eq rfl (eX2_copyFrom FX2_copyFrom _ v i j i1 j1)
set_option maxRecDepth 100000 in
theorem qX4_copyFrom (v : MM) (i j i1 j1 : Nat) : fX4_copyFrom v [.inr (.inr (12, i, j)), .inr (.inr (12, i1, j1))] =
  let w1 : MM := mUp v (i, 60 + 7 * j + 0) (v.1 i1 (60 + 7 * j1 + 0))
  let w2 : MM := mUp w1 (i, 60 + 7 * j + 1) (w1.1 i1 (60 + 7 * j1 + 1))
  let w3 : MM := mUp w2 (i, 60 + 7 * j + 2) (w2.1 i1 (60 + 7 * j1 + 2))
  let w4 : MM := mUp w3 (i, 60 + 7 * j + 3) (w3.1 i1 (60 + 7 * j1 + 3))
  let w5 : MM := mUp w4 (i, 60 + 7 * j + 4) (w4.1 i1 (60 + 7 * j1 + 4))
  let w6 : MM := mUp w5 (i, 60 + 7 * j + 5) (w5.1 i1 (60 + 7 * j1 + 5))
  let w7 : MM := mUp w6 (i, 60 + 7 * j + 6) (w6.1 i1 (60 + 7 * j1 + 6))
  some (w7, none) := fn_eq rfl (eX4_copyFrom FX4_copyFrom _ v i j i1 j1)
set_option maxRecDepth 100000 in
theorem qX6_within (v : MM) (x1 x2 x3 : Int32) : fX6_within v [.inl x1, .inl x2, .inl x3] =
  if x1 < x2 then
    some (v, some (.inl (0 : Int32)))
  else
    if x3 < x1 then
      some (v, some (.inl (0 : Int32)))
    else
      some (v, some (.inl (1 : Int32))) := fn_eq rfl (eX6_within FX6_within _ v x1 x2 x3)
set_option maxRecDepth 100000 in
theorem qX1_change (v : MM) (i j : Nat) (x1 x2 x3 x4 x5 : Int32) : fX1_change v [.inr (.inr (9, i, j)), .inl x1, .inl x2, .inl x3, .inl x4, .inl x5] =
  if (v.1 i (22 + 5 * j + 0)) = x1 then
    if (v.1 i (22 + 5 * j + 1)) = x2 then
      if (v.1 i (22 + 5 * j + 2)) = x3 then
        if (v.1 i (22 + 5 * j + 3)) = x4 then
          if (v.1 i (22 + 5 * j + 4)) = x5 then
            let w1 : MM := mUp v (i, 22 + 5 * j + 0) x1
            let w2 : MM := mUp w1 (i, 22 + 5 * j + 1) x2
            let w3 : MM := mUp w2 (i, 22 + 5 * j + 2) x3
            let w4 : MM := mUp w3 (i, 22 + 5 * j + 3) x4
            let w5 : MM := mUp w4 (i, 22 + 5 * j + 4) x5
            if (1 : Int32) = 0 then
              some (w5, some (.inl (1 : Int32)))
            else
              some (w5, some (.inl (0 : Int32)))
          else
            let w6 : MM := mUp v (i, 22 + 5 * j + 0) x1
            let w7 : MM := mUp w6 (i, 22 + 5 * j + 1) x2
            let w8 : MM := mUp w7 (i, 22 + 5 * j + 2) x3
            let w9 : MM := mUp w8 (i, 22 + 5 * j + 3) x4
            let w10 : MM := mUp w9 (i, 22 + 5 * j + 4) x5
            if (0 : Int32) = 0 then
              some (w10, some (.inl (1 : Int32)))
            else
              some (w10, some (.inl (0 : Int32)))
        else
          let w11 : MM := mUp v (i, 22 + 5 * j + 0) x1
          let w12 : MM := mUp w11 (i, 22 + 5 * j + 1) x2
          let w13 : MM := mUp w12 (i, 22 + 5 * j + 2) x3
          let w14 : MM := mUp w13 (i, 22 + 5 * j + 3) x4
          let w15 : MM := mUp w14 (i, 22 + 5 * j + 4) x5
          if (0 : Int32) = 0 then
            some (w15, some (.inl (1 : Int32)))
          else
            some (w15, some (.inl (0 : Int32)))
      else
        let w16 : MM := mUp v (i, 22 + 5 * j + 0) x1
        let w17 : MM := mUp w16 (i, 22 + 5 * j + 1) x2
        let w18 : MM := mUp w17 (i, 22 + 5 * j + 2) x3
        let w19 : MM := mUp w18 (i, 22 + 5 * j + 3) x4
        let w20 : MM := mUp w19 (i, 22 + 5 * j + 4) x5
        if (0 : Int32) = 0 then
          some (w20, some (.inl (1 : Int32)))
        else
          some (w20, some (.inl (0 : Int32)))
    else
      let w21 : MM := mUp v (i, 22 + 5 * j + 0) x1
      let w22 : MM := mUp w21 (i, 22 + 5 * j + 1) x2
      let w23 : MM := mUp w22 (i, 22 + 5 * j + 2) x3
      let w24 : MM := mUp w23 (i, 22 + 5 * j + 3) x4
      let w25 : MM := mUp w24 (i, 22 + 5 * j + 4) x5
      if (0 : Int32) = 0 then
        some (w25, some (.inl (1 : Int32)))
      else
        some (w25, some (.inl (0 : Int32)))
  else
    let w26 : MM := mUp v (i, 22 + 5 * j + 0) x1
    let w27 : MM := mUp w26 (i, 22 + 5 * j + 1) x2
    let w28 : MM := mUp w27 (i, 22 + 5 * j + 2) x3
    let w29 : MM := mUp w28 (i, 22 + 5 * j + 3) x4
    let w30 : MM := mUp w29 (i, 22 + 5 * j + 4) x5
    if (0 : Int32) = 0 then
      some (w30, some (.inl (1 : Int32)))
    else
      some (w30, some (.inl (0 : Int32))) := fn_eq rfl (eX1_change FX1_change _ v i j x1 x2 x3 x4 x5)
set_option maxRecDepth 100000 in
theorem qX6_thousandths (v : MM) (x1 x2 : Int32) : fX6_thousandths v [.inl x1, .inl x2] =
  some (v, some (.inl (((x1.toInt64 * x2.toInt64) / (1000 : Int64)).toInt32))) := fn_eq rfl (eX6_thousandths FX6_thousandths _ v x1 x2)
set_option maxRecDepth 100000 in
theorem qX4_left (v : MM) (i j : Nat) : fX4_left v [.inr (.inr (12, i, j))] =
  some (v, some (.inl (((v.1 i (60 + 7 * j + 0)) - (v.1 i (60 + 7 * j + 1))) - (v.1 i (60 + 7 * j + 5))))) := fn_eq rfl (eX4_left FX4_left _ v i j)
set_option maxRecDepth 100000 in
theorem qX4_fill (v : MM) (i j : Nat) (x1 x2 x3 x4 : Int32) : fX4_fill v [.inr (.inr (12, i, j)), .inl x1, .inl x2, .inl x3, .inl x4] =
  let w1 : MM := mUp v (i, 60 + 7 * j + 1) ((v.1 i (60 + 7 * j + 1)) + x1)
  let w2 : MM := mUp w1 (i, 60 + 7 * j + 2) ((w1.1 i (60 + 7 * j + 2)) + x2)
  let w3 : MM := mUp w2 (i, 60 + 7 * j + 3) ((w2.1 i (60 + 7 * j + 3)) + x3)
  let w4 : MM := mUp w3 (i, 60 + 7 * j + 4) ((w3.1 i (60 + 7 * j + 4)) + x4)
  some (w4, none) := fn_eq rfl (eX4_fill FX4_fill _ v i j x1 x2 x3 x4)
set_option maxRecDepth 100000 in
theorem qX4_part (v : MM) (i j : Nat) (x1 x2 : Int32) : fX4_part v [.inr (.inr (12, i, j)), .inl x1, .inl x2] =
  if 0 < (v.1 i (60 + 7 * j + 1)) then
    if ((v.1 i (60 + 7 * j + 1)).toInt64) = 0 then none else
    some (v, some (.inl (((x1.toInt64 * x2.toInt64) / ((v.1 i (60 + 7 * j + 1)).toInt64)).toInt32)))
  else
    some (v, some (.inl (0 : Int32))) := fn_eq rfl (eX4_part FX4_part _ v i j x1 x2)
set_option maxRecDepth 100000 in
theorem qX4_drop (v : MM) (i j : Nat) (x1 : Int32) : fX4_drop v [.inr (.inr (12, i, j)), .inl x1] =
  bI (fX4_part v [.inr (.inr (12, i, j)), .inl (v.1 i (60 + 7 * j + 2)), .inl x1]) (fun w1 r2 =>
    let w3 : MM := mUp w1 (i, 60 + 7 * j + 2) ((v.1 i (60 + 7 * j + 2)) - r2)
    bI (fX4_part w3 [.inr (.inr (12, i, j)), .inl (w3.1 i (60 + 7 * j + 3)), .inl x1]) (fun w4 r5 =>
      let w6 : MM := mUp w4 (i, 60 + 7 * j + 3) ((w3.1 i (60 + 7 * j + 3)) - r5)
      bI (fX4_part w6 [.inr (.inr (12, i, j)), .inl (w6.1 i (60 + 7 * j + 4)), .inl x1]) (fun w7 r8 =>
        let w9 : MM := mUp w7 (i, 60 + 7 * j + 4) ((w6.1 i (60 + 7 * j + 4)) - r8)
        bI (fX4_part w9 [.inr (.inr (12, i, j)), .inl (w9.1 i (60 + 7 * j + 6)), .inl x1]) (fun w10 r11 =>
          let w12 : MM := mUp w10 (i, 60 + 7 * j + 6) ((w9.1 i (60 + 7 * j + 6)) - r11)
          let w13 : MM := mUp w12 (i, 60 + 7 * j + 1) ((w12.1 i (60 + 7 * j + 1)) - x1)
          some (w13, none)
        )
      )
    )
  ) := fn_eq rfl (eX4_drop FX4_drop _ v i j x1)
set_option maxRecDepth 100000 in
theorem qX4_give (v : MM) (i j i2 j2 : Nat) (x1 : Int32) : fX4_give v [.inr (.inr (12, i, j)), .inl x1, .inr (.inr (12, i2, j2))] =
  bI (fX4_part v [.inr (.inr (12, i, j)), .inl (v.1 i (60 + 7 * j + 2)), .inl x1]) (fun w1 r2 =>
    bI (fX4_part w1 [.inr (.inr (12, i, j)), .inl (w1.1 i (60 + 7 * j + 3)), .inl x1]) (fun w3 r4 =>
      bI (fX4_part w3 [.inr (.inr (12, i, j)), .inl (w3.1 i (60 + 7 * j + 4)), .inl x1]) (fun w5 r6 =>
        bV (fX4_fill w5 [.inr (.inr (12, i2, j2)), .inl x1, .inl r2, .inl r4, .inl r6]) (fun w7 =>
          bI (fX4_part w7 [.inr (.inr (12, i, j)), .inl (w7.1 i (60 + 7 * j + 6)), .inl x1]) (fun w8 r9 =>
            let w10 : MM := mUp w8 (i2, 60 + 7 * j2 + 6) ((w7.1 i2 (60 + 7 * j2 + 6)) + r9)
            bV (fX4_drop w10 [.inr (.inr (12, i, j)), .inl x1]) (fun w11 =>
              some (w11, none)
            )
          )
        )
      )
    )
  ) := fn_eq rfl (eX4_give FX4_give _ v i j i2 j2 x1)
set_option maxRecDepth 100000 in
theorem qJ9_min_7cf53 (v : MM) (x1 x2 : Int32) : fJ9_min_7cf53 v [.inl x1, .inl x2] =
  if x2 < x1 then
    some (v, some (.inl x2))
  else
    some (v, some (.inl x1)) := fn_eq rfl (eJ9_min_7cf53 FJ9_min_7cf53 _ v x1 x2)
set_option maxRecDepth 100000 in
theorem qX6_perThousand (v : MM) (x1 x2 : Int32) : fX6_perThousand v [.inl x1, .inl x2] =
  if 0 < x2 then
    if x2.toInt64 = 0 then none else
    some (v, some (.inl (((x1.toInt64 * (1000 : Int64)) / x2.toInt64).toInt32)))
  else
    some (v, some (.inl (-9 : Int32))) := fn_eq rfl (eX6_perThousand FX6_perThousand _ v x1 x2)
set_option maxRecDepth 100000 in
theorem qX1_reasonAgainstJuice (v : MM) (i j : Nat) (x1 x2 x3 x4 : Int32) : fX1_reasonAgainstJuice v [.inr (.inr (9, i, j)), .inl x1, .inl x2, .inl x3, .inl x4] =
  if 0 < x1 then
    bI (fX6_perThousand v [.inl x2, .inl x1]) (fun w1 r2 =>
      if r2 < (w1.1 i (22 + 5 * j + 0)) then
        some (w1, some (.inl (2 : Int32)))
      else
        if (w1.1 i (22 + 5 * j + 1)) < r2 then
          some (w1, some (.inl (3 : Int32)))
        else
          bI (fX6_perThousand w1 [.inl x3, .inl x1]) (fun w3 r4 =>
            if r4 < (w3.1 i (22 + 5 * j + 2)) then
              some (w3, some (.inl (4 : Int32)))
            else
              if (w3.1 i (22 + 5 * j + 3)) < r4 then
                some (w3, some (.inl (5 : Int32)))
              else
                bI (fX6_perThousand w3 [.inl x4, .inl x1]) (fun w5 r6 =>
                  if (w5.1 i (22 + 5 * j + 4)) < r6 then
                    some (w5, some (.inl (6 : Int32)))
                  else
                    some (w5, some (.inl (0 : Int32)))
                )
          )
    )
  else
    some (v, some (.inl (1 : Int32))) := fn_eq rfl (eX1_reasonAgainstJuice FX1_reasonAgainstJuice _ v i j x1 x2 x3 x4)
set_option maxRecDepth 100000 in
theorem qX1_reasonAgainst (v : MM) (i j i1 j1 : Nat) : fX1_reasonAgainst v [.inr (.inr (9, i, j)), .inr (.inr (12, i1, j1))] =
  bI (fX1_reasonAgainstJuice v [.inr (.inr (9, i, j)), .inl (v.1 i1 (60 + 7 * j1 + 1)), .inl (v.1 i1 (60 + 7 * j1 + 2)), .inl (v.1 i1 (60 + 7 * j1 + 3)), .inl (v.1 i1 (60 + 7 * j1 + 4))]) (fun w1 r2 =>
    some (w1, some (.inl r2))
  ) := fn_eq rfl (eX1_reasonAgainst FX1_reasonAgainst _ v i j i1 j1)
set_option maxRecDepth 100000 in
theorem qX1_addBottles (v : MM) (i j : Nat) (x1 x2 : Int32) : fX1_addBottles v [.inr (.inr (9, i, j)), .inl x1, .inl x2] =
  bI (fX6_within v [.inl x1, .inl (1 : Int32), .inl (10 : Int32)]) (fun w1 r2 =>
    if r2 = 0 then
      some (w1, none)
    else
      if mIn x1 11 then
      if mIn x1 11 then
      let w3 : MM := mUp w1 (i, if x1.toNatClampNeg = 0 then 151 + j else 110 + 10 * j + x1.toNatClampNeg) ((w1.1 i (if x1.toNatClampNeg = 0 then 151 + j else 110 + 10 * j + x1.toNatClampNeg)) + x2)
      if mIn (0 : Int32) 11 then
      if mIn (0 : Int32) 11 then
      let w4 : MM := mUp w3 (i, if (0 : Int32).toNatClampNeg = 0 then 151 + j else 110 + 10 * j + (0 : Int32).toNatClampNeg) ((w3.1 i (if (0 : Int32).toNatClampNeg = 0 then 151 + j else 110 + 10 * j + (0 : Int32).toNatClampNeg)) + x2)
      some (w4, none)
      else none
      else none
      else none
      else none
  ) := fn_eq rfl (eX1_addBottles FX1_addBottles _ v i j x1 x2)
set_option maxRecDepth 100000 in
theorem qX4_passDay (v : MM) (i j : Nat) (x1 x2 : Int32) : fX4_passDay v [.inr (.inr (12, i, j)), .inl x1, .inl x2] =
  bI (fX6_thousandths v [.inl (v.1 i (60 + 7 * j + 4)), .inl x1]) (fun w1 r2 =>
    let w3 : MM := mUp w1 (i, 60 + 7 * j + 4) ((w1.1 i (60 + 7 * j + 4)) - r2)
    let w4 : MM := mUp w3 (i, 60 + 7 * j + 1) ((w3.1 i (60 + 7 * j + 1)) - r2)
    let w5 : MM := mUp w4 (i, 60 + 7 * j + 5) ((w4.1 i (60 + 7 * j + 5)) + r2)
    bI (fX6_thousandths w5 [.inl (w5.1 i (60 + 7 * j + 2)), .inl x2]) (fun w6 r7 =>
      let w8 : MM := mUp w6 (i, 60 + 7 * j + 2) ((w6.1 i (60 + 7 * j + 2)) - r7)
      let w9 : MM := mUp w8 (i, 60 + 7 * j + 6) ((w8.1 i (60 + 7 * j + 6)) + r7)
      some (w9, none)
    )
  ) := fn_eq rfl (eX4_passDay FX4_passDay _ v i j x1 x2)
set_option maxRecDepth 100000 in
theorem qX4_property (v : MM) (i j : Nat) (x1 : Int32) : fX4_property v [.inr (.inr (12, i, j)), .inl x1] =
  if x1 = (0 : Int32) then
    some (v, some (.inl (v.1 i (60 + 7 * j + 0))))
  else if x1 = (1 : Int32) then
    some (v, some (.inl (v.1 i (60 + 7 * j + 1))))
  else if x1 = (2 : Int32) then
    some (v, some (.inl (v.1 i (60 + 7 * j + 2))))
  else if x1 = (3 : Int32) then
    some (v, some (.inl (v.1 i (60 + 7 * j + 3))))
  else if x1 = (4 : Int32) then
    some (v, some (.inl (v.1 i (60 + 7 * j + 4))))
  else if x1 = (5 : Int32) then
    some (v, some (.inl (v.1 i (60 + 7 * j + 5))))
  else if x1 = (6 : Int32) then
    some (v, some (.inl (v.1 i (60 + 7 * j + 6))))
  else
    bI (fX4_left v [.inr (.inr (12, i, j))]) (fun w1 r2 =>
      some (w1, some (.inl r2))
    ) := fn_eq rfl (eX4_property FX4_property _ v i j x1)
