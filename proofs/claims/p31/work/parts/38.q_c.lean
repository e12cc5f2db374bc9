-- EQUATIONS of the methods, callees named (by program: wip/whole/gen/qgen.py)
set_option maxRecDepth 100000 in
theorem qX6_nextPage (v : MM) : fX6_nextPage v [.inr (.inr (0, 0, 0))] =
  some (v, some (.inl (((v.1 12 3) + (1 : Int32)) - ((v.1 12 3) + (1 : Int32)) / (8 : Int32) * (8 : Int32)))) := fn_eq rfl (eX6_nextPage FX6_nextPage _ v )
set_option maxRecDepth 100000 in
theorem qX6_books (v : MM) : fX6_books v [.inr (.inr (0, 0, 0))] =
  if mIn (v.1 12 3) 8 then
  match Nat.beq 2 2 && (Nat.blt ((v.1 12 3).toNatClampNeg) 8 && Nat.beq 0 0) with | true => some (v, some (.inr (.inr (2, (v.1 12 3).toNatClampNeg, 0)))) | false => none
  else none := fn_eq rfl (eX6_books FX6_books _ v )
noncomputable def gX6_draft_9 (v : MM) (m1 pg : Nat) : MR := rLim FX6_draft cdX6_draft 9 [(1, .inr (.inr (2, m1, 0))), (0, .inr (.inr (0, 0, 0)))] [.inr (.inr (2, pg, 0)), .inr (.inr (2, m1, 0))] v
theorem uX6_draft_9 (v : MM) (m1 pg : Nat) : rLim FX6_draft cdX6_draft 9 [(1, .inr (.inr (2, m1, 0))), (0, .inr (.inr (0, 0, 0)))] [.inr (.inr (2, pg, 0)), .inr (.inr (2, m1, 0))] v = gX6_draft_9 v m1 pg := rfl
set_option maxRecDepth 100000 in
theorem qX6_draft (v : MM) : fX6_draft v [.inr (.inr (0, 0, 0))] =
  bI (fX6_nextPage v [.inr (.inr (0, 0, 0))]) (fun w1 r2 =>
    if mIn r2 8 then
    bN (fX6_books w1 [.inr (.inr (0, 0, 0))]) (fun w3 q4 =>
      rLim FX6_draft cdX6_draft 9 [(1, .inr (.inr (2, r2.toNatClampNeg, 0))), (0, .inr (.inr (0, 0, 0)))] [.inr (.inr q4), .inr (.inr (2, r2.toNatClampNeg, 0))] w3
    )
    else none
  ) := fn_eq rfl (eX6_draft FX6_draft _ v )
set_option maxRecDepth 100000 in
theorem qX6_draft_9 (v : MM) (m1 pg : Nat) : gX6_draft_9 v m1 pg =
  bV (fX0_copyFrom v [.inr (.inr (2, m1, 0)), .inr (.inr (2, pg, 0))]) (fun w1 =>
    match Nat.beq 2 2 && (Nat.blt m1 8 && Nat.beq 0 0) with | true => some (w1, some (.inr (.inr (2, m1, 0)))) | false => none
  ) := rl_eq (eX6_draft_9 FX6_draft _ v m1 pg)
set_option maxRecDepth 100000 in
theorem qX6_finish (v : MM) (i1 : Nat) (x2 : Int32) : fX6_finish v [.inr (.inr (0, 0, 0)), .inr (.inr (2, i1, 0)), .inl x2] =
  if x2 < 0 then
    if x2 = (-2 : Int32) then
      let w1 : MM := mUp v (12, 5) (v.1 i1 155)
      some (w1, some (.inl x2))
    else
      some (v, some (.inl x2))
  else
    bI (fX6_nextPage v [.inr (.inr (0, 0, 0))]) (fun w2 r3 =>
      let w4 : MM := mUp w2 (12, 3) r3
      bI (fJ9_min_7cf53 w4 [.inl ((w4.1 12 4) + (1 : Int32)), .inl (6 : Int32)]) (fun w5 r6 =>
        let w7 : MM := mUp w5 (12, 4) r6
        let w8 : MM := mUp w7 (12, 5) (0 : Int32)
        some (w8, some (.inl x2))
      )
    ) := fn_eq rfl (eX6_finish FX6_finish _ v i1 x2)
noncomputable def gX6_setVariety_2 (v : MM) (pg : Nat) (x1 x2 x3 x4 : Int32) : MR := rLim FX6_setVariety cdX6_setVariety 2 [(0, .inr (.inr (0, 0, 0))), (1, .inl x1), (2, .inl x2), (3, .inl x3), (4, .inl x4)] [.inr (.inr (2, pg, 0))] v
theorem uX6_setVariety_2 (v : MM) (pg : Nat) (x1 x2 x3 x4 : Int32) : rLim FX6_setVariety cdX6_setVariety 2 [(0, .inr (.inr (0, 0, 0))), (1, .inl x1), (2, .inl x2), (3, .inl x3), (4, .inl x4)] [.inr (.inr (2, pg, 0))] v = gX6_setVariety_2 v pg x1 x2 x3 x4 := rfl
set_option maxRecDepth 100000 in
theorem qX6_setVariety (v : MM) (x1 x2 x3 x4 : Int32) : fX6_setVariety v [.inr (.inr (0, 0, 0)), .inl x1, .inl x2, .inl x3, .inl x4] =
  bN (fX6_draft v [.inr (.inr (0, 0, 0))]) (fun w1 q2 =>
    rLim FX6_setVariety cdX6_setVariety 2 [(0, .inr (.inr (0, 0, 0))), (1, .inl x1), (2, .inl x2), (3, .inl x3), (4, .inl x4)] [.inr (.inr q2)] w1
  ) := fn_eq rfl (eX6_setVariety FX6_setVariety _ v x1 x2 x3 x4)
set_option maxRecDepth 100000 in
theorem qX6_setVariety_2 (v : MM) (pg : Nat) (x1 x2 x3 x4 : Int32) : gX6_setVariety_2 v pg x1 x2 x3 x4 =
  bI (fX0_changeVariety v [.inr (.inr (2, pg, 0)), .inl x1, .inl x2, .inl x3, .inl x4]) (fun w1 r2 =>
    bI (fX6_finish w1 [.inr (.inr (0, 0, 0)), .inr (.inr (2, pg, 0)), .inl r2]) (fun w3 r4 =>
      some (w3, some (.inl r4))
    )
  ) := rl_eq (eX6_setVariety_2 FX6_setVariety _ v pg x1 x2 x3 x4)
noncomputable def gX6_setRates_2 (v : MM) (pg : Nat) (x1 x2 x3 x4 : Int32) : MR := rLim FX6_setRates cdX6_setRates 2 [(0, .inr (.inr (0, 0, 0))), (1, .inl x1), (2, .inl x2), (3, .inl x3), (4, .inl x4)] [.inr (.inr (2, pg, 0))] v
theorem uX6_setRates_2 (v : MM) (pg : Nat) (x1 x2 x3 x4 : Int32) : rLim FX6_setRates cdX6_setRates 2 [(0, .inr (.inr (0, 0, 0))), (1, .inl x1), (2, .inl x2), (3, .inl x3), (4, .inl x4)] [.inr (.inr (2, pg, 0))] v = gX6_setRates_2 v pg x1 x2 x3 x4 := rfl
set_option maxRecDepth 100000 in
theorem qX6_setRates (v : MM) (x1 x2 x3 x4 : Int32) : fX6_setRates v [.inr (.inr (0, 0, 0)), .inl x1, .inl x2, .inl x3, .inl x4] =
  bN (fX6_draft v [.inr (.inr (0, 0, 0))]) (fun w1 q2 =>
    rLim FX6_setRates cdX6_setRates 2 [(0, .inr (.inr (0, 0, 0))), (1, .inl x1), (2, .inl x2), (3, .inl x3), (4, .inl x4)] [.inr (.inr q2)] w1
  ) := fn_eq rfl (eX6_setRates FX6_setRates _ v x1 x2 x3 x4)
set_option maxRecDepth 100000 in
theorem qX6_setRates_2 (v : MM) (pg : Nat) (x1 x2 x3 x4 : Int32) : gX6_setRates_2 v pg x1 x2 x3 x4 =
  bI (fX0_changeRates v [.inr (.inr (2, pg, 0)), .inl x1, .inl x2, .inl x3, .inl x4]) (fun w1 r2 =>
    bI (fX6_finish w1 [.inr (.inr (0, 0, 0)), .inr (.inr (2, pg, 0)), .inl r2]) (fun w3 r4 =>
      some (w3, some (.inl r4))
    )
  ) := rl_eq (eX6_setRates_2 FX6_setRates _ v pg x1 x2 x3 x4)
noncomputable def gX6_setLabel_2 (v : MM) (pg : Nat) (x1 x2 x3 x4 x5 x6 : Int32) : MR := rLim FX6_setLabel cdX6_setLabel 2 [(0, .inr (.inr (0, 0, 0))), (1, .inl x1), (2, .inl x2), (3, .inl x3), (4, .inl x4), (5, .inl x5), (6, .inl x6)] [.inr (.inr (2, pg, 0))] v
theorem uX6_setLabel_2 (v : MM) (pg : Nat) (x1 x2 x3 x4 x5 x6 : Int32) : rLim FX6_setLabel cdX6_setLabel 2 [(0, .inr (.inr (0, 0, 0))), (1, .inl x1), (2, .inl x2), (3, .inl x3), (4, .inl x4), (5, .inl x5), (6, .inl x6)] [.inr (.inr (2, pg, 0))] v = gX6_setLabel_2 v pg x1 x2 x3 x4 x5 x6 := rfl
set_option maxRecDepth 100000 in
theorem qX6_setLabel (v : MM) (x1 x2 x3 x4 x5 x6 : Int32) : fX6_setLabel v [.inr (.inr (0, 0, 0)), .inl x1, .inl x2, .inl x3, .inl x4, .inl x5, .inl x6] =
  bN (fX6_draft v [.inr (.inr (0, 0, 0))]) (fun w1 q2 =>
    rLim FX6_setLabel cdX6_setLabel 2 [(0, .inr (.inr (0, 0, 0))), (1, .inl x1), (2, .inl x2), (3, .inl x3), (4, .inl x4), (5, .inl x5), (6, .inl x6)] [.inr (.inr q2)] w1
  ) := fn_eq rfl (eX6_setLabel FX6_setLabel _ v x1 x2 x3 x4 x5 x6)
set_option maxRecDepth 100000 in
theorem qX6_setLabel_2 (v : MM) (pg : Nat) (x1 x2 x3 x4 x5 x6 : Int32) : gX6_setLabel_2 v pg x1 x2 x3 x4 x5 x6 =
  bI (fX0_changeLabel v [.inr (.inr (2, pg, 0)), .inl x1, .inl x2, .inl x3, .inl x4, .inl x5, .inl x6]) (fun w1 r2 =>
    bI (fX6_finish w1 [.inr (.inr (0, 0, 0)), .inr (.inr (2, pg, 0)), .inl r2]) (fun w3 r4 =>
      some (w3, some (.inl r4))
    )
  ) := rl_eq (eX6_setLabel_2 FX6_setLabel _ v pg x1 x2 x3 x4 x5 x6)
noncomputable def gX6_buy_2 (v : MM) (pg : Nat) (x1 x2 : Int32) : MR := rLim FX6_buy cdX6_buy 2 [(0, .inr (.inr (0, 0, 0))), (1, .inl x1), (2, .inl x2)] [.inr (.inr (2, pg, 0))] v
theorem uX6_buy_2 (v : MM) (pg : Nat) (x1 x2 : Int32) : rLim FX6_buy cdX6_buy 2 [(0, .inr (.inr (0, 0, 0))), (1, .inl x1), (2, .inl x2)] [.inr (.inr (2, pg, 0))] v = gX6_buy_2 v pg x1 x2 := rfl
set_option maxRecDepth 100000 in
theorem qX6_buy (v : MM) (x1 x2 : Int32) : fX6_buy v [.inr (.inr (0, 0, 0)), .inl x1, .inl x2] =
  bN (fX6_draft v [.inr (.inr (0, 0, 0))]) (fun w1 q2 =>
    rLim FX6_buy cdX6_buy 2 [(0, .inr (.inr (0, 0, 0))), (1, .inl x1), (2, .inl x2)] [.inr (.inr q2)] w1
  ) := fn_eq rfl (eX6_buy FX6_buy _ v x1 x2)
set_option maxRecDepth 100000 in
theorem qX6_buy_2 (v : MM) (pg : Nat) (x1 x2 : Int32) : gX6_buy_2 v pg x1 x2 =
  bI (fX0_buyLot v [.inr (.inr (2, pg, 0)), .inl x1, .inl x2]) (fun w1 r2 =>
    bI (fX6_finish w1 [.inr (.inr (0, 0, 0)), .inr (.inr (2, pg, 0)), .inl r2]) (fun w3 r4 =>
      some (w3, some (.inl r4))
    )
  ) := rl_eq (eX6_buy_2 FX6_buy _ v pg x1 x2)
noncomputable def gX6_addTank_2 (v : MM) (pg : Nat) (x1 : Int32) : MR := rLim FX6_addTank cdX6_addTank 2 [(0, .inr (.inr (0, 0, 0))), (1, .inl x1)] [.inr (.inr (2, pg, 0))] v
theorem uX6_addTank_2 (v : MM) (pg : Nat) (x1 : Int32) : rLim FX6_addTank cdX6_addTank 2 [(0, .inr (.inr (0, 0, 0))), (1, .inl x1)] [.inr (.inr (2, pg, 0))] v = gX6_addTank_2 v pg x1 := rfl
set_option maxRecDepth 100000 in
theorem qX6_addTank (v : MM) (x1 : Int32) : fX6_addTank v [.inr (.inr (0, 0, 0)), .inl x1] =
  bN (fX6_draft v [.inr (.inr (0, 0, 0))]) (fun w1 q2 =>
    rLim FX6_addTank cdX6_addTank 2 [(0, .inr (.inr (0, 0, 0))), (1, .inl x1)] [.inr (.inr q2)] w1
  ) := fn_eq rfl (eX6_addTank FX6_addTank _ v x1)
set_option maxRecDepth 100000 in
theorem qX6_addTank_2 (v : MM) (pg : Nat) (x1 : Int32) : gX6_addTank_2 v pg x1 =
  bI (fX0_openTank v [.inr (.inr (2, pg, 0)), .inl x1]) (fun w1 r2 =>
    bI (fX6_finish w1 [.inr (.inr (0, 0, 0)), .inr (.inr (2, pg, 0)), .inl r2]) (fun w3 r4 =>
      some (w3, some (.inl r4))
    )
  ) := rl_eq (eX6_addTank_2 FX6_addTank _ v pg x1)
noncomputable def gX6_press_2 (v : MM) (pg : Nat) (x1 x2 x3 : Int32) : MR := rLim FX6_press cdX6_press 2 [(0, .inr (.inr (0, 0, 0))), (1, .inl x1), (2, .inl x2), (3, .inl x3)] [.inr (.inr (2, pg, 0))] v
theorem uX6_press_2 (v : MM) (pg : Nat) (x1 x2 x3 : Int32) : rLim FX6_press cdX6_press 2 [(0, .inr (.inr (0, 0, 0))), (1, .inl x1), (2, .inl x2), (3, .inl x3)] [.inr (.inr (2, pg, 0))] v = gX6_press_2 v pg x1 x2 x3 := rfl
set_option maxRecDepth 100000 in
theorem qX6_press (v : MM) (x1 x2 x3 : Int32) : fX6_press v [.inr (.inr (0, 0, 0)), .inl x1, .inl x2, .inl x3] =
  bN (fX6_draft v [.inr (.inr (0, 0, 0))]) (fun w1 q2 =>
    rLim FX6_press cdX6_press 2 [(0, .inr (.inr (0, 0, 0))), (1, .inl x1), (2, .inl x2), (3, .inl x3)] [.inr (.inr q2)] w1
  ) := fn_eq rfl (eX6_press FX6_press _ v x1 x2 x3)
set_option maxRecDepth 100000 in
theorem qX6_press_2 (v : MM) (pg : Nat) (x1 x2 x3 : Int32) : gX6_press_2 v pg x1 x2 x3 =
  bI (fX0_pressLot v [.inr (.inr (2, pg, 0)), .inl x1, .inl x2, .inl x3]) (fun w1 r2 =>
    bI (fX6_finish w1 [.inr (.inr (0, 0, 0)), .inr (.inr (2, pg, 0)), .inl r2]) (fun w3 r4 =>
      some (w3, some (.inl r4))
    )
  ) := rl_eq (eX6_press_2 FX6_press _ v pg x1 x2 x3)
noncomputable def gX6_wet_2 (v : MM) (pg : Nat) (x1 x2 : Int32) : MR := rLim FX6_wet cdX6_wet 2 [(0, .inr (.inr (0, 0, 0))), (1, .inl x1), (2, .inl x2)] [.inr (.inr (2, pg, 0))] v
theorem uX6_wet_2 (v : MM) (pg : Nat) (x1 x2 : Int32) : rLim FX6_wet cdX6_wet 2 [(0, .inr (.inr (0, 0, 0))), (1, .inl x1), (2, .inl x2)] [.inr (.inr (2, pg, 0))] v = gX6_wet_2 v pg x1 x2 := rfl
set_option maxRecDepth 100000 in
theorem qX6_wet (v : MM) (x1 x2 : Int32) : fX6_wet v [.inr (.inr (0, 0, 0)), .inl x1, .inl x2] =
  bN (fX6_draft v [.inr (.inr (0, 0, 0))]) (fun w1 q2 =>
    rLim FX6_wet cdX6_wet 2 [(0, .inr (.inr (0, 0, 0))), (1, .inl x1), (2, .inl x2)] [.inr (.inr q2)] w1
  ) := fn_eq rfl (eX6_wet FX6_wet _ v x1 x2)
set_option maxRecDepth 100000 in
theorem qX6_wet_2 (v : MM) (pg : Nat) (x1 x2 : Int32) : gX6_wet_2 v pg x1 x2 =
  bI (fX0_wetHeap v [.inr (.inr (2, pg, 0)), .inl x1, .inl x2]) (fun w1 r2 =>
    bI (fX6_finish w1 [.inr (.inr (0, 0, 0)), .inr (.inr (2, pg, 0)), .inl r2]) (fun w3 r4 =>
      some (w3, some (.inl r4))
    )
  ) := rl_eq (eX6_wet_2 FX6_wet _ v pg x1 x2)
noncomputable def gX6_sellPomace_2 (v : MM) (pg : Nat) : MR := rLim FX6_sellPomace cdX6_sellPomace 2 [(0, .inr (.inr (0, 0, 0)))] [.inr (.inr (2, pg, 0))] v
theorem uX6_sellPomace_2 (v : MM) (pg : Nat) : rLim FX6_sellPomace cdX6_sellPomace 2 [(0, .inr (.inr (0, 0, 0)))] [.inr (.inr (2, pg, 0))] v = gX6_sellPomace_2 v pg := rfl
set_option maxRecDepth 100000 in
theorem qX6_sellPomace (v : MM) : fX6_sellPomace v [.inr (.inr (0, 0, 0))] =
  bN (fX6_draft v [.inr (.inr (0, 0, 0))]) (fun w1 q2 =>
    rLim FX6_sellPomace cdX6_sellPomace 2 [(0, .inr (.inr (0, 0, 0)))] [.inr (.inr q2)] w1
  ) := fn_eq rfl (eX6_sellPomace FX6_sellPomace _ v )
set_option maxRecDepth 100000 in
theorem qX6_sellPomace_2 (v : MM) (pg : Nat) : gX6_sellPomace_2 v pg =
  bI (fX0_sellHeap v [.inr (.inr (2, pg, 0))]) (fun w1 r2 =>
    bI (fX6_finish w1 [.inr (.inr (0, 0, 0)), .inr (.inr (2, pg, 0)), .inl r2]) (fun w3 r4 =>
      some (w3, some (.inl r4))
    )
  ) := rl_eq (eX6_sellPomace_2 FX6_sellPomace _ v pg)
noncomputable def gX6_move_2 (v : MM) (pg : Nat) (x1 x2 x3 : Int32) : MR := rLim FX6_move cdX6_move 2 [(0, .inr (.inr (0, 0, 0))), (1, .inl x1), (2, .inl x2), (3, .inl x3)] [.inr (.inr (2, pg, 0))] v
theorem uX6_move_2 (v : MM) (pg : Nat) (x1 x2 x3 : Int32) : rLim FX6_move cdX6_move 2 [(0, .inr (.inr (0, 0, 0))), (1, .inl x1), (2, .inl x2), (3, .inl x3)] [.inr (.inr (2, pg, 0))] v = gX6_move_2 v pg x1 x2 x3 := rfl
set_option maxRecDepth 100000 in
theorem qX6_move (v : MM) (x1 x2 x3 : Int32) : fX6_move v [.inr (.inr (0, 0, 0)), .inl x1, .inl x2, .inl x3] =
  bN (fX6_draft v [.inr (.inr (0, 0, 0))]) (fun w1 q2 =>
    rLim FX6_move cdX6_move 2 [(0, .inr (.inr (0, 0, 0))), (1, .inl x1), (2, .inl x2), (3, .inl x3)] [.inr (.inr q2)] w1
  ) := fn_eq rfl (eX6_move FX6_move _ v x1 x2 x3)
set_option maxRecDepth 100000 in
theorem qX6_move_2 (v : MM) (pg : Nat) (x1 x2 x3 : Int32) : gX6_move_2 v pg x1 x2 x3 =
  bI (fX0_moveJuice v [.inr (.inr (2, pg, 0)), .inl x1, .inl x2, .inl x3]) (fun w1 r2 =>
    bI (fX6_finish w1 [.inr (.inr (0, 0, 0)), .inr (.inr (2, pg, 0)), .inl r2]) (fun w3 r4 =>
      some (w3, some (.inl r4))
    )
  ) := rl_eq (eX6_move_2 FX6_move _ v pg x1 x2 x3)
noncomputable def gX6_rack_2 (v : MM) (pg : Nat) (x1 x2 : Int32) : MR := rLim FX6_rack cdX6_rack 2 [(0, .inr (.inr (0, 0, 0))), (1, .inl x1), (2, .inl x2)] [.inr (.inr (2, pg, 0))] v
theorem uX6_rack_2 (v : MM) (pg : Nat) (x1 x2 : Int32) : rLim FX6_rack cdX6_rack 2 [(0, .inr (.inr (0, 0, 0))), (1, .inl x1), (2, .inl x2)] [.inr (.inr (2, pg, 0))] v = gX6_rack_2 v pg x1 x2 := rfl
set_option maxRecDepth 100000 in
theorem qX6_rack (v : MM) (x1 x2 : Int32) : fX6_rack v [.inr (.inr (0, 0, 0)), .inl x1, .inl x2] =
  bN (fX6_draft v [.inr (.inr (0, 0, 0))]) (fun w1 q2 =>
    rLim FX6_rack cdX6_rack 2 [(0, .inr (.inr (0, 0, 0))), (1, .inl x1), (2, .inl x2)] [.inr (.inr q2)] w1
  ) := fn_eq rfl (eX6_rack FX6_rack _ v x1 x2)
set_option maxRecDepth 100000 in
theorem qX6_rack_2 (v : MM) (pg : Nat) (x1 x2 : Int32) : gX6_rack_2 v pg x1 x2 =
  bI (fX0_rackJuice v [.inr (.inr (2, pg, 0)), .inl x1, .inl x2]) (fun w1 r2 =>
    bI (fX6_finish w1 [.inr (.inr (0, 0, 0)), .inr (.inr (2, pg, 0)), .inl r2]) (fun w3 r4 =>
      some (w3, some (.inl r4))
    )
  ) := rl_eq (eX6_rack_2 FX6_rack _ v pg x1 x2)
noncomputable def gX6_clean_2 (v : MM) (pg : Nat) (x1 : Int32) : MR := rLim FX6_clean cdX6_clean 2 [(0, .inr (.inr (0, 0, 0))), (1, .inl x1)] [.inr (.inr (2, pg, 0))] v
theorem uX6_clean_2 (v : MM) (pg : Nat) (x1 : Int32) : rLim FX6_clean cdX6_clean 2 [(0, .inr (.inr (0, 0, 0))), (1, .inl x1)] [.inr (.inr (2, pg, 0))] v = gX6_clean_2 v pg x1 := rfl
set_option maxRecDepth 100000 in
theorem qX6_clean (v : MM) (x1 : Int32) : fX6_clean v [.inr (.inr (0, 0, 0)), .inl x1] =
  bN (fX6_draft v [.inr (.inr (0, 0, 0))]) (fun w1 q2 =>
    rLim FX6_clean cdX6_clean 2 [(0, .inr (.inr (0, 0, 0))), (1, .inl x1)] [.inr (.inr q2)] w1
  ) := fn_eq rfl (eX6_clean FX6_clean _ v x1)
set_option maxRecDepth 100000 in
theorem qX6_clean_2 (v : MM) (pg : Nat) (x1 : Int32) : gX6_clean_2 v pg x1 =
  bI (fX0_cleanTank v [.inr (.inr (2, pg, 0)), .inl x1]) (fun w1 r2 =>
    bI (fX6_finish w1 [.inr (.inr (0, 0, 0)), .inr (.inr (2, pg, 0)), .inl r2]) (fun w3 r4 =>
      some (w3, some (.inl r4))
    )
  ) := rl_eq (eX6_clean_2 FX6_clean _ v pg x1)
noncomputable def gX6_pour_2 (v : MM) (pg : Nat) (x1 : Int32) : MR := rLim FX6_pour cdX6_pour 2 [(0, .inr (.inr (0, 0, 0))), (1, .inl x1)] [.inr (.inr (2, pg, 0))] v
theorem uX6_pour_2 (v : MM) (pg : Nat) (x1 : Int32) : rLim FX6_pour cdX6_pour 2 [(0, .inr (.inr (0, 0, 0))), (1, .inl x1)] [.inr (.inr (2, pg, 0))] v = gX6_pour_2 v pg x1 := rfl
set_option maxRecDepth 100000 in
theorem qX6_pour (v : MM) (x1 : Int32) : fX6_pour v [.inr (.inr (0, 0, 0)), .inl x1] =
  bN (fX6_draft v [.inr (.inr (0, 0, 0))]) (fun w1 q2 =>
    rLim FX6_pour cdX6_pour 2 [(0, .inr (.inr (0, 0, 0))), (1, .inl x1)] [.inr (.inr q2)] w1
  ) := fn_eq rfl (eX6_pour FX6_pour _ v x1)
set_option maxRecDepth 100000 in
theorem qX6_pour_2 (v : MM) (pg : Nat) (x1 : Int32) : gX6_pour_2 v pg x1 =
  bI (fX0_pourJuice v [.inr (.inr (2, pg, 0)), .inl x1]) (fun w1 r2 =>
    bI (fX6_finish w1 [.inr (.inr (0, 0, 0)), .inr (.inr (2, pg, 0)), .inl r2]) (fun w3 r4 =>
      some (w3, some (.inl r4))
    )
  ) := rl_eq (eX6_pour_2 FX6_pour _ v pg x1)
noncomputable def gX6_bottle_2 (v : MM) (pg : Nat) (x1 x2 x3 x4 : Int32) : MR := rLim FX6_bottle cdX6_bottle 2 [(0, .inr (.inr (0, 0, 0))), (1, .inl x1), (2, .inl x2), (3, .inl x3), (4, .inl x4)] [.inr (.inr (2, pg, 0))] v
theorem uX6_bottle_2 (v : MM) (pg : Nat) (x1 x2 x3 x4 : Int32) : rLim FX6_bottle cdX6_bottle 2 [(0, .inr (.inr (0, 0, 0))), (1, .inl x1), (2, .inl x2), (3, .inl x3), (4, .inl x4)] [.inr (.inr (2, pg, 0))] v = gX6_bottle_2 v pg x1 x2 x3 x4 := rfl
set_option maxRecDepth 100000 in
theorem qX6_bottle (v : MM) (x1 x2 x3 x4 : Int32) : fX6_bottle v [.inr (.inr (0, 0, 0)), .inl x1, .inl x2, .inl x3, .inl x4] =
  bN (fX6_draft v [.inr (.inr (0, 0, 0))]) (fun w1 q2 =>
    rLim FX6_bottle cdX6_bottle 2 [(0, .inr (.inr (0, 0, 0))), (1, .inl x1), (2, .inl x2), (3, .inl x3), (4, .inl x4)] [.inr (.inr q2)] w1
  ) := fn_eq rfl (eX6_bottle FX6_bottle _ v x1 x2 x3 x4)
set_option maxRecDepth 100000 in
theorem qX6_bottle_2 (v : MM) (pg : Nat) (x1 x2 x3 x4 : Int32) : gX6_bottle_2 v pg x1 x2 x3 x4 =
  bI (fX0_bottleJuice v [.inr (.inr (2, pg, 0)), .inl x1, .inl x2, .inl x3, .inl x4]) (fun w1 r2 =>
    bI (fX6_finish w1 [.inr (.inr (0, 0, 0)), .inr (.inr (2, pg, 0)), .inl r2]) (fun w3 r4 =>
      some (w3, some (.inl r4))
    )
  ) := rl_eq (eX6_bottle_2 FX6_bottle _ v pg x1 x2 x3 x4)
noncomputable def gX6_day_2 (v : MM) (pg : Nat) : MR := rLim FX6_day cdX6_day 2 [(0, .inr (.inr (0, 0, 0)))] [.inr (.inr (2, pg, 0))] v
theorem uX6_day_2 (v : MM) (pg : Nat) : rLim FX6_day cdX6_day 2 [(0, .inr (.inr (0, 0, 0)))] [.inr (.inr (2, pg, 0))] v = gX6_day_2 v pg := rfl
set_option maxRecDepth 100000 in
theorem qX6_day (v : MM) : fX6_day v [.inr (.inr (0, 0, 0))] =
  bN (fX6_draft v [.inr (.inr (0, 0, 0))]) (fun w1 q2 =>
    rLim FX6_day cdX6_day 2 [(0, .inr (.inr (0, 0, 0)))] [.inr (.inr q2)] w1
  ) := fn_eq rfl (eX6_day FX6_day _ v )
set_option maxRecDepth 100000 in
theorem qX6_day_2 (v : MM) (pg : Nat) : gX6_day_2 v pg =
  bI (fX0_passDay v [.inr (.inr (2, pg, 0))]) (fun w1 r2 =>
    bI (fX6_finish w1 [.inr (.inr (0, 0, 0)), .inr (.inr (2, pg, 0)), .inl r2]) (fun w3 r4 =>
      some (w3, some (.inl r4))
    )
  ) := rl_eq (eX6_day_2 FX6_day _ v pg)
noncomputable def gX6_count_2 (v : MM) (pg : Nat) (x1 : Int32) : MR := rLim FX6_count cdX6_count 2 [(0, .inr (.inr (0, 0, 0))), (1, .inl x1)] [.inr (.inr (2, pg, 0))] v
theorem uX6_count_2 (v : MM) (pg : Nat) (x1 : Int32) : rLim FX6_count cdX6_count 2 [(0, .inr (.inr (0, 0, 0))), (1, .inl x1)] [.inr (.inr (2, pg, 0))] v = gX6_count_2 v pg x1 := rfl
set_option maxRecDepth 100000 in
theorem qX6_count (v : MM) (x1 : Int32) : fX6_count v [.inr (.inr (0, 0, 0)), .inl x1] =
  bN (fX6_books v [.inr (.inr (0, 0, 0))]) (fun w1 q2 =>
    rLim FX6_count cdX6_count 2 [(0, .inr (.inr (0, 0, 0))), (1, .inl x1)] [.inr (.inr q2)] w1
  ) := fn_eq rfl (eX6_count FX6_count _ v x1)
set_option maxRecDepth 100000 in
theorem qX6_count_2 (v : MM) (pg : Nat) (x1 : Int32) : gX6_count_2 v pg x1 =
  if x1 = (0 : Int32) then
    some (v, some (.inl (v.1 pg 42)))
  else if x1 = (1 : Int32) then
    some (v, some (.inl (v.1 pg 59)))
  else if x1 = (2 : Int32) then
    some (v, some (.inl (v.1 pg 102)))
  else if x1 = (3 : Int32) then
    some (v, some (.inl (v.1 pg 103)))
  else if x1 = (4 : Int32) then
    some (v, some (.inl (v.1 12 5)))
  else if x1 = (5 : Int32) then
    some (v, some (.inl (v.1 9 1)))
  else if x1 = (6 : Int32) then
    some (v, some (.inl (v.1 12 4)))
  else if x1 = (7 : Int32) then
    some (v, some (.inl (v.1 pg 18)))
  else if x1 = (8 : Int32) then
    some (v, some (.inl (v.1 pg 19)))
  else if x1 = (9 : Int32) then
    some (v, some (.inl (v.1 pg 20)))
  else if x1 = (10 : Int32) then
    some (v, some (.inl (v.1 pg 21)))
  else
    some (v, some (.inl (-1 : Int32))) := rl_eq (eX6_count_2 FX6_count _ v pg x1)
noncomputable def gX6_lot_2 (v : MM) (pg : Nat) (x1 x2 : Int32) : MR := rLim FX6_lot cdX6_lot 2 [(0, .inr (.inr (0, 0, 0))), (1, .inl x1), (2, .inl x2)] [.inr (.inr (2, pg, 0))] v
theorem uX6_lot_2 (v : MM) (pg : Nat) (x1 x2 : Int32) : rLim FX6_lot cdX6_lot 2 [(0, .inr (.inr (0, 0, 0))), (1, .inl x1), (2, .inl x2)] [.inr (.inr (2, pg, 0))] v = gX6_lot_2 v pg x1 x2 := rfl
set_option maxRecDepth 100000 in
theorem qX6_lot (v : MM) (x1 x2 : Int32) : fX6_lot v [.inr (.inr (0, 0, 0)), .inl x1, .inl x2] =
  bN (fX6_books v [.inr (.inr (0, 0, 0))]) (fun w1 q2 =>
    rLim FX6_lot cdX6_lot 2 [(0, .inr (.inr (0, 0, 0))), (1, .inl x1), (2, .inl x2)] [.inr (.inr q2)] w1
  ) := fn_eq rfl (eX6_lot FX6_lot _ v x1 x2)
set_option maxRecDepth 100000 in
theorem qX6_lot_2 (v : MM) (pg : Nat) (x1 x2 : Int32) : gX6_lot_2 v pg x1 x2 =
  bI (fX0_hasLot v [.inr (.inr (2, pg, 0)), .inl x1]) (fun w1 r2 =>
    if r2 = 0 then
      some (w1, some (.inl (-1 : Int32)))
    else
      bI (fX6_within w1 [.inl x2, .inl (0 : Int32), .inl (1 : Int32)]) (fun w3 r4 =>
        if r4 = 0 then
          some (w3, some (.inl (-1 : Int32)))
        else
          if x2 = 0 then
            if mIn x1 8 then
            some (w3, some (.inl (w3.1 pg (43 + 2 * x1.toNatClampNeg + 0))))
            else none
          else
            if mIn x1 8 then
            some (w3, some (.inl (w3.1 pg (43 + 2 * x1.toNatClampNeg + 1))))
            else none
      )
  ) := rl_eq (eX6_lot_2 FX6_lot _ v pg x1 x2)
noncomputable def gX6_tank_2 (v : MM) (pg : Nat) (x1 x2 : Int32) : MR := rLim FX6_tank cdX6_tank 2 [(0, .inr (.inr (0, 0, 0))), (1, .inl x1), (2, .inl x2)] [.inr (.inr (2, pg, 0))] v
theorem uX6_tank_2 (v : MM) (pg : Nat) (x1 x2 : Int32) : rLim FX6_tank cdX6_tank 2 [(0, .inr (.inr (0, 0, 0))), (1, .inl x1), (2, .inl x2)] [.inr (.inr (2, pg, 0))] v = gX6_tank_2 v pg x1 x2 := rfl
set_option maxRecDepth 100000 in
theorem qX6_tank (v : MM) (x1 x2 : Int32) : fX6_tank v [.inr (.inr (0, 0, 0)), .inl x1, .inl x2] =
  bN (fX6_books v [.inr (.inr (0, 0, 0))]) (fun w1 q2 =>
    rLim FX6_tank cdX6_tank 2 [(0, .inr (.inr (0, 0, 0))), (1, .inl x1), (2, .inl x2)] [.inr (.inr q2)] w1
  ) := fn_eq rfl (eX6_tank FX6_tank _ v x1 x2)
set_option maxRecDepth 100000 in
theorem qX6_tank_2 (v : MM) (pg : Nat) (x1 x2 : Int32) : gX6_tank_2 v pg x1 x2 =
  bI (fX0_hasTank v [.inr (.inr (2, pg, 0)), .inl x1]) (fun w1 r2 =>
    if r2 = 0 then
      some (w1, some (.inl (-1 : Int32)))
    else
      bI (fX6_within w1 [.inl x2, .inl (0 : Int32), .inl (7 : Int32)]) (fun w3 r4 =>
        if r4 = 0 then
          some (w3, some (.inl (-1 : Int32)))
        else
          if mIn x1 6 then
          bI (fX4_property w3 [.inr (.inr (12, pg, x1.toNatClampNeg)), .inl x2]) (fun w5 r6 =>
            some (w5, some (.inl r6))
          )
          else none
      )
  ) := rl_eq (eX6_tank_2 FX6_tank _ v pg x1 x2)
noncomputable def gX6_account_2 (v : MM) (pg : Nat) (x1 : Int32) : MR := rLim FX6_account cdX6_account 2 [(0, .inr (.inr (0, 0, 0))), (1, .inl x1)] [.inr (.inr (2, pg, 0))] v
theorem uX6_account_2 (v : MM) (pg : Nat) (x1 : Int32) : rLim FX6_account cdX6_account 2 [(0, .inr (.inr (0, 0, 0))), (1, .inl x1)] [.inr (.inr (2, pg, 0))] v = gX6_account_2 v pg x1 := rfl
set_option maxRecDepth 100000 in
theorem qX6_account (v : MM) (x1 : Int32) : fX6_account v [.inr (.inr (0, 0, 0)), .inl x1] =
  bN (fX6_books v [.inr (.inr (0, 0, 0))]) (fun w1 q2 =>
    rLim FX6_account cdX6_account 2 [(0, .inr (.inr (0, 0, 0))), (1, .inl x1)] [.inr (.inr q2)] w1
  ) := fn_eq rfl (eX6_account FX6_account _ v x1)
set_option maxRecDepth 100000 in
theorem qX6_account_2 (v : MM) (pg : Nat) (x1 : Int32) : gX6_account_2 v pg x1 =
  bI (fX0_sumOf v [.inr (.inr (2, pg, 0)), .inl x1]) (fun w1 r2 =>
    some (w1, some (.inl r2))
  ) := rl_eq (eX6_account_2 FX6_account _ v pg x1)
noncomputable def gX6_bottles_14 (v : MM) (pg : Nat) (x1 x2 : Int32) : MR := rLim FX6_bottles cdX6_bottles 14 [(0, .inr (.inr (0, 0, 0))), (1, .inl x1), (2, .inl x2)] [.inr (.inr (2, pg, 0))] v
theorem uX6_bottles_14 (v : MM) (pg : Nat) (x1 x2 : Int32) : rLim FX6_bottles cdX6_bottles 14 [(0, .inr (.inr (0, 0, 0))), (1, .inl x1), (2, .inl x2)] [.inr (.inr (2, pg, 0))] v = gX6_bottles_14 v pg x1 x2 := rfl
set_option maxRecDepth 100000 in
theorem qX6_bottles (v : MM) (x1 x2 : Int32) : fX6_bottles v [.inr (.inr (0, 0, 0)), .inl x1, .inl x2] =
  bI (fX6_within v [.inl x1, .inl (0 : Int32), .inl (3 : Int32)]) (fun w1 r2 =>
    if r2 = 0 then
      some (w1, some (.inl (-1 : Int32)))
    else
      bI (fX6_within w1 [.inl x2, .inl (0 : Int32), .inl (10 : Int32)]) (fun w3 r4 =>
        if r4 = 0 then
          some (w3, some (.inl (-1 : Int32)))
        else
          bN (fX6_books w3 [.inr (.inr (0, 0, 0))]) (fun w5 q6 =>
            rLim FX6_bottles cdX6_bottles 14 [(0, .inr (.inr (0, 0, 0))), (1, .inl x1), (2, .inl x2)] [.inr (.inr q6)] w5
          )
      )
  ) := fn_eq rfl (eX6_bottles FX6_bottles _ v x1 x2)
set_option maxRecDepth 100000 in
theorem qX6_bottles_14 (v : MM) (pg : Nat) (x1 x2 : Int32) : gX6_bottles_14 v pg x1 x2 =
  if mIn x1 4 then
  if mIn x2 11 then
  some (v, some (.inl (v.1 pg (if x2.toNatClampNeg = 0 then 151 + x1.toNatClampNeg else 110 + 10 * x1.toNatClampNeg + x2.toNatClampNeg))))
  else none
  else none := rl_eq (eX6_bottles_14 FX6_bottles _ v pg x1 x2)
set_option maxRecDepth 100000 in
theorem qX6_undo (v : MM) : fX6_undo v [.inr (.inr (0, 0, 0))] =
  if 0 < (v.1 12 4) then
    let w1 : MM := mUp v (12, 3) ((((v.1 12 3) + (8 : Int32)) - (1 : Int32)) - (((v.1 12 3) + (8 : Int32)) - (1 : Int32)) / (8 : Int32) * (8 : Int32))
    let w2 : MM := mUp w1 (12, 4) ((w1.1 12 4) - (1 : Int32))
    some (w2, some (.inl (w2.1 12 4)))
  else
    some (v, some (.inl (-2 : Int32))) := fn_eq rfl (eX6_undo FX6_undo _ v )
