-- CODE of every method but constructors, and its contract (by program: wip/p31/gen/code.py)
def cdX6_draft : List MI := [(8, 0, 0, 0, 0, 0, []), (30, 11, 6, 0, 0, 0, []), (8, 0, 0, 0, 0, 0, []), (40, 237, 0, 1, 0, 0, [(0, 6)]), (36, 0, 0, 0, 0, 0, []), (10, 1, 0, 0, 0, 0, []), (8, 1, 0, 0, 0, 0, []), (8, 0, 0, 0, 0, 0, []), (42, 120, 1, 1, 0, 0, [(0, 6)]), (41, 240, 2, 2, 0, 0, [(0, 0)]), (8, 1, 0, 0, 0, 0, []), (52, 0, 0, 0, 0, 0, [])]
noncomputable def FX6_draft : Nat → MF := fun k => match k with
  | 0 => fX6_nextPage
  | 1 => fX6_books
  | 2 => fX0_copyFrom
  | _ => fun _ _ => none
noncomputable def fX6_draft : MF := mLim 2 FX6_draft cdX6_draft
theorem ckX6_draft : mCk 6 2 2 cX6_draft cdX6_draft = true := by decide +kernel
def rmX6_draft : Room := { frames := 3, cells := 0, slots := 0, locals := 69 }
theorem caX6_draft {S : MSc} : allC S rmX6_draft 6 FX6_draft (cdX6_draft.filter isCall) := (show MCall S rmX6_draft 6 FX6_draft (40, 237, 0, 1, 0, 0, [(0, 6)]) ∧ MCall S rmX6_draft 6 FX6_draft (42, 120, 1, 1, 0, 0, [(0, 6)]) ∧ MCall S rmX6_draft 6 FX6_draft (41, 240, 2, 2, 0, 0, [(0, 0)]) ∧ True from ⟨⟨yX6_nextPage, cX6_nextPage, 1, _, rmX6_nextPage, 0, ctX6_nextPage, ykX6_nextPage, ⟨rfl, rfl, by decide, by decide⟩, ⟨ml_6_237, yvX6_nextPage, rfl, rfl, by decide⟩⟩, ⟨yX6_books, cX6_books, 1, _, rmX6_books, 0, ctX6_books, ykX6_books, ⟨rfl, rfl, by decide, by decide⟩, ⟨ml_6_120, yvX6_books, rfl, rfl, by decide⟩⟩, ⟨yX0_copyFrom, cX0_copyFrom, 3, _, rmX0_copyFrom, 1, ctX0_copyFrom, ykX0_copyFrom, ⟨rfl, rfl, by decide, by decide⟩, ⟨ml_6_240, yvX0_copyFrom, rfl, rfl, by decide⟩⟩, trivial⟩)
theorem ctX6_draft {S : MSc} : MCt S yX6_draft cX6_draft 2 (some (.object "CiderShop$Books")) rmX6_draft fX6_draft := mct_of (o := 6) (rk := 2) (by decide +kernel) rfl ckX6_draft ⟨_, rfl⟩ ⟨rfl, rfl⟩ caX6_draft (no38 (by decide +kernel)) (by decide +kernel) mLim_ex
def cdX6_finish : List MI := [(6, 2, 0, 0, 0, 0, []), (24, 18, 2, 0, 0, 0, []), (8, 0, 0, 0, 0, 0, []), (8, 0, 0, 0, 0, 0, []), (40, 237, 0, 1, 0, 0, [(0, 6)]), (31, 29, 6, 3, 0, 0, []), (8, 0, 0, 0, 0, 0, []), (8, 0, 0, 0, 0, 0, []), (30, 33, 6, 4, 0, 0, []), (0, 0, 0, 0, 1, 0, []), (12, 0, 0, 0, 0, 0, []), (1, 0, 0, 0, 6, 0, []), (40, 228, 1, 2, 0, 0, []), (31, 33, 6, 4, 0, 0, []), (8, 0, 0, 0, 0, 0, []), (0, 0, 0, 0, 0, 0, []), (31, 36, 6, 5, 0, 0, []), (26, 25, 0, 0, 0, 0, []), (6, 2, 0, 0, 0, 0, []), (1, 0, 0, 0, (-2), 0, []), (25, 25, 1, 0, 0, 0, []), (8, 0, 0, 0, 0, 0, []), (8, 1, 0, 0, 0, 0, []), (30, 243, 0, 8, 0, 0, []), (31, 36, 6, 5, 0, 0, []), (6, 2, 0, 0, 0, 0, []), (50, 0, 0, 0, 0, 0, [])]
noncomputable def FX6_finish : Nat → MF := fun k => match k with
  | 0 => fX6_nextPage
  | 1 => fJ9_min_7cf53
  | _ => fun _ _ => none
noncomputable def fX6_finish : MF := mLim 3 FX6_finish cdX6_finish
theorem ckX6_finish : mCk 6 3 0 cX6_finish cdX6_finish = true := by decide +kernel
def rmX6_finish : Room := { frames := 1, cells := 0, slots := 0, locals := 21 }
theorem caX6_finish {S : MSc} : allC S rmX6_finish 6 FX6_finish (cdX6_finish.filter isCall) := (show MCall S rmX6_finish 6 FX6_finish (40, 237, 0, 1, 0, 0, [(0, 6)]) ∧ MCall S rmX6_finish 6 FX6_finish (40, 228, 1, 2, 0, 0, []) ∧ True from ⟨⟨yX6_nextPage, cX6_nextPage, 1, _, rmX6_nextPage, 0, ctX6_nextPage, ykX6_nextPage, ⟨rfl, rfl, by decide, by decide⟩, ⟨ml_6_237, yvX6_nextPage, rfl, rfl, by decide⟩⟩, ⟨yJ9_min_7cf53, cJ9_min_7cf53, 2, _, rmJ9_min_7cf53, 2, ctJ9_min_7cf53, ykJ9_min_7cf53, ⟨rfl, rfl, by decide, by decide⟩, ⟨Or.inl ml_6_228, ysJ9_min_7cf53, rfl⟩⟩, trivial⟩)
theorem ctX6_finish {S : MSc} : MCt S yX6_finish cX6_finish 3 (some .int) rmX6_finish fX6_finish := mct_of (o := 6) (rk := 0) (by decide +kernel) rfl ckX6_finish rfl ⟨rfl, rfl⟩ caX6_finish (no38 (by decide +kernel)) (by decide +kernel) mLim_ex
def cdX6_setVariety : List MI := [(8, 0, 0, 0, 0, 0, []), (42, 40, 0, 1, 0, 0, [(0, 6)]), (10, 5, 0, 1, 0, 0, []), (8, 0, 0, 0, 0, 0, []), (8, 5, 0, 1, 0, 0, []), (8, 5, 0, 1, 0, 0, []), (6, 1, 0, 0, 0, 0, []), (6, 2, 0, 0, 0, 0, []), (6, 3, 0, 0, 0, 0, []), (6, 4, 0, 1, 0, 0, []), (40, 44, 1, 5, 0, 0, [(0, 0)]), (40, 48, 2, 3, 0, 0, [(0, 6)]), (50, 0, 0, 0, 0, 0, [])]
noncomputable def FX6_setVariety : Nat → MF := fun k => match k with
  | 0 => fX6_draft
  | 1 => fX0_changeVariety
  | 2 => fX6_finish
  | _ => fun _ _ => none
noncomputable def fX6_setVariety : MF := mLim 6 FX6_setVariety cdX6_setVariety
theorem ckX6_setVariety : mCk 6 6 0 cX6_setVariety cdX6_setVariety = true := by decide +kernel
def rmX6_setVariety : Room := { frames := 4, cells := 0, slots := 0, locals := 90 }
theorem caX6_setVariety {S : MSc} : allC S rmX6_setVariety 6 FX6_setVariety (cdX6_setVariety.filter isCall) := (show MCall S rmX6_setVariety 6 FX6_setVariety (42, 40, 0, 1, 0, 0, [(0, 6)]) ∧ MCall S rmX6_setVariety 6 FX6_setVariety (40, 44, 1, 5, 0, 0, [(0, 0)]) ∧ MCall S rmX6_setVariety 6 FX6_setVariety (40, 48, 2, 3, 0, 0, [(0, 6)]) ∧ True from ⟨⟨yX6_draft, cX6_draft, 2, _, rmX6_draft, 0, ctX6_draft, ykX6_draft, ⟨rfl, rfl, by decide, by decide⟩, ⟨ml_6_40, yvX6_draft, rfl, rfl, by decide⟩⟩, ⟨yX0_changeVariety, cX0_changeVariety, 7, _, rmX0_changeVariety, 4, ctX0_changeVariety, ykX0_changeVariety, ⟨rfl, rfl, by decide, by decide⟩, ⟨ml_6_44, yvX0_changeVariety, rfl, rfl, by decide⟩⟩, ⟨yX6_finish, cX6_finish, 3, _, rmX6_finish, 2, ctX6_finish, ykX6_finish, ⟨rfl, rfl, by decide, by decide⟩, ⟨ml_6_48, yvX6_finish, rfl, rfl, by decide⟩⟩, trivial⟩)
theorem ctX6_setVariety {S : MSc} : MCt S yX6_setVariety cX6_setVariety 6 (some .int) rmX6_setVariety fX6_setVariety := mct_of (o := 6) (rk := 0) (by decide +kernel) rfl ckX6_setVariety rfl ⟨rfl, rfl⟩ caX6_setVariety (no38 (by decide +kernel)) (by decide +kernel) mLim_ex
def cdX6_setRates : List MI := [(8, 0, 0, 0, 0, 0, []), (42, 40, 0, 1, 0, 0, [(0, 6)]), (10, 5, 0, 1, 0, 0, []), (8, 0, 0, 0, 0, 0, []), (8, 5, 0, 1, 0, 0, []), (8, 5, 0, 1, 0, 0, []), (6, 1, 0, 0, 0, 0, []), (6, 2, 0, 0, 0, 0, []), (6, 3, 0, 0, 0, 0, []), (6, 4, 0, 1, 0, 0, []), (40, 52, 1, 5, 0, 0, [(0, 0)]), (40, 48, 2, 3, 0, 0, [(0, 6)]), (50, 0, 0, 0, 0, 0, [])]
noncomputable def FX6_setRates : Nat → MF := fun k => match k with
  | 0 => fX6_draft
  | 1 => fX0_changeRates
  | 2 => fX6_finish
  | _ => fun _ _ => none
noncomputable def fX6_setRates : MF := mLim 6 FX6_setRates cdX6_setRates
theorem ckX6_setRates : mCk 6 6 0 cX6_setRates cdX6_setRates = true := by decide +kernel
def rmX6_setRates : Room := { frames := 4, cells := 0, slots := 0, locals := 90 }
theorem caX6_setRates {S : MSc} : allC S rmX6_setRates 6 FX6_setRates (cdX6_setRates.filter isCall) := (show MCall S rmX6_setRates 6 FX6_setRates (42, 40, 0, 1, 0, 0, [(0, 6)]) ∧ MCall S rmX6_setRates 6 FX6_setRates (40, 52, 1, 5, 0, 0, [(0, 0)]) ∧ MCall S rmX6_setRates 6 FX6_setRates (40, 48, 2, 3, 0, 0, [(0, 6)]) ∧ True from ⟨⟨yX6_draft, cX6_draft, 2, _, rmX6_draft, 0, ctX6_draft, ykX6_draft, ⟨rfl, rfl, by decide, by decide⟩, ⟨ml_6_40, yvX6_draft, rfl, rfl, by decide⟩⟩, ⟨yX0_changeRates, cX0_changeRates, 6, _, rmX0_changeRates, 4, ctX0_changeRates, ykX0_changeRates, ⟨rfl, rfl, by decide, by decide⟩, ⟨ml_6_52, yvX0_changeRates, rfl, rfl, by decide⟩⟩, ⟨yX6_finish, cX6_finish, 3, _, rmX6_finish, 2, ctX6_finish, ykX6_finish, ⟨rfl, rfl, by decide, by decide⟩, ⟨ml_6_48, yvX6_finish, rfl, rfl, by decide⟩⟩, trivial⟩)
theorem ctX6_setRates {S : MSc} : MCt S yX6_setRates cX6_setRates 6 (some .int) rmX6_setRates fX6_setRates := mct_of (o := 6) (rk := 0) (by decide +kernel) rfl ckX6_setRates rfl ⟨rfl, rfl⟩ caX6_setRates (no38 (by decide +kernel)) (by decide +kernel) mLim_ex
def cdX6_setLabel : List MI := [(8, 0, 0, 0, 0, 0, []), (42, 40, 0, 1, 0, 0, [(0, 6)]), (10, 7, 0, 1, 0, 0, []), (8, 0, 0, 0, 0, 0, []), (8, 7, 0, 1, 0, 0, []), (8, 7, 0, 1, 0, 0, []), (6, 1, 0, 0, 0, 0, []), (6, 2, 0, 0, 0, 0, []), (6, 3, 0, 0, 0, 0, []), (6, 4, 0, 1, 0, 0, []), (6, 5, 0, 1, 0, 0, []), (6, 6, 0, 1, 0, 0, []), (40, 55, 1, 7, 0, 0, [(0, 0)]), (40, 48, 2, 3, 0, 0, [(0, 6)]), (50, 0, 0, 0, 0, 0, [])]
noncomputable def FX6_setLabel : Nat → MF := fun k => match k with
  | 0 => fX6_draft
  | 1 => fX0_changeLabel
  | 2 => fX6_finish
  | _ => fun _ _ => none
noncomputable def fX6_setLabel : MF := mLim 8 FX6_setLabel cdX6_setLabel
theorem ckX6_setLabel : mCk 6 8 0 cX6_setLabel cdX6_setLabel = true := by decide +kernel
def rmX6_setLabel : Room := { frames := 4, cells := 0, slots := 0, locals := 90 }
theorem caX6_setLabel {S : MSc} : allC S rmX6_setLabel 6 FX6_setLabel (cdX6_setLabel.filter isCall) := (show MCall S rmX6_setLabel 6 FX6_setLabel (42, 40, 0, 1, 0, 0, [(0, 6)]) ∧ MCall S rmX6_setLabel 6 FX6_setLabel (40, 55, 1, 7, 0, 0, [(0, 0)]) ∧ MCall S rmX6_setLabel 6 FX6_setLabel (40, 48, 2, 3, 0, 0, [(0, 6)]) ∧ True from ⟨⟨yX6_draft, cX6_draft, 2, _, rmX6_draft, 0, ctX6_draft, ykX6_draft, ⟨rfl, rfl, by decide, by decide⟩, ⟨ml_6_40, yvX6_draft, rfl, rfl, by decide⟩⟩, ⟨yX0_changeLabel, cX0_changeLabel, 7, _, rmX0_changeLabel, 6, ctX0_changeLabel, ykX0_changeLabel, ⟨rfl, rfl, by decide, by decide⟩, ⟨ml_6_55, yvX0_changeLabel, rfl, rfl, by decide⟩⟩, ⟨yX6_finish, cX6_finish, 3, _, rmX6_finish, 2, ctX6_finish, ykX6_finish, ⟨rfl, rfl, by decide, by decide⟩, ⟨ml_6_48, yvX6_finish, rfl, rfl, by decide⟩⟩, trivial⟩)
theorem ctX6_setLabel {S : MSc} : MCt S yX6_setLabel cX6_setLabel 8 (some .int) rmX6_setLabel fX6_setLabel := mct_of (o := 6) (rk := 0) (by decide +kernel) rfl ckX6_setLabel rfl ⟨rfl, rfl⟩ caX6_setLabel (no38 (by decide +kernel)) (by decide +kernel) mLim_ex
def cdX6_buy : List MI := [(8, 0, 0, 0, 0, 0, []), (42, 40, 0, 1, 0, 0, [(0, 6)]), (10, 3, 0, 0, 0, 0, []), (8, 0, 0, 0, 0, 0, []), (8, 3, 0, 0, 0, 0, []), (8, 3, 0, 0, 0, 0, []), (6, 1, 0, 0, 0, 0, []), (6, 2, 0, 0, 0, 0, []), (40, 59, 1, 3, 0, 0, [(0, 0)]), (40, 48, 2, 3, 0, 0, [(0, 6)]), (50, 0, 0, 0, 0, 0, [])]
noncomputable def FX6_buy : Nat → MF := fun k => match k with
  | 0 => fX6_draft
  | 1 => fX0_buyLot
  | 2 => fX6_finish
  | _ => fun _ _ => none
noncomputable def fX6_buy : MF := mLim 4 FX6_buy cdX6_buy
theorem ckX6_buy : mCk 6 4 0 cX6_buy cdX6_buy = true := by decide +kernel
def rmX6_buy : Room := { frames := 4, cells := 0, slots := 0, locals := 90 }
theorem caX6_buy {S : MSc} : allC S rmX6_buy 6 FX6_buy (cdX6_buy.filter isCall) := (show MCall S rmX6_buy 6 FX6_buy (42, 40, 0, 1, 0, 0, [(0, 6)]) ∧ MCall S rmX6_buy 6 FX6_buy (40, 59, 1, 3, 0, 0, [(0, 0)]) ∧ MCall S rmX6_buy 6 FX6_buy (40, 48, 2, 3, 0, 0, [(0, 6)]) ∧ True from ⟨⟨yX6_draft, cX6_draft, 2, _, rmX6_draft, 0, ctX6_draft, ykX6_draft, ⟨rfl, rfl, by decide, by decide⟩, ⟨ml_6_40, yvX6_draft, rfl, rfl, by decide⟩⟩, ⟨yX0_buyLot, cX0_buyLot, 3, _, rmX0_buyLot, 2, ctX0_buyLot, ykX0_buyLot, ⟨rfl, rfl, by decide, by decide⟩, ⟨ml_6_59, yvX0_buyLot, rfl, rfl, by decide⟩⟩, ⟨yX6_finish, cX6_finish, 3, _, rmX6_finish, 2, ctX6_finish, ykX6_finish, ⟨rfl, rfl, by decide, by decide⟩, ⟨ml_6_48, yvX6_finish, rfl, rfl, by decide⟩⟩, trivial⟩)
theorem ctX6_buy {S : MSc} : MCt S yX6_buy cX6_buy 4 (some .int) rmX6_buy fX6_buy := mct_of (o := 6) (rk := 0) (by decide +kernel) rfl ckX6_buy rfl ⟨rfl, rfl⟩ caX6_buy (no38 (by decide +kernel)) (by decide +kernel) mLim_ex
def cdX6_addTank : List MI := [(8, 0, 0, 0, 0, 0, []), (42, 40, 0, 1, 0, 0, [(0, 6)]), (10, 2, 0, 0, 0, 0, []), (8, 0, 0, 0, 0, 0, []), (8, 2, 0, 0, 0, 0, []), (8, 2, 0, 0, 0, 0, []), (6, 1, 0, 0, 0, 0, []), (40, 63, 1, 2, 0, 0, [(0, 0)]), (40, 48, 2, 3, 0, 0, [(0, 6)]), (50, 0, 0, 0, 0, 0, [])]
noncomputable def FX6_addTank : Nat → MF := fun k => match k with
  | 0 => fX6_draft
  | 1 => fX0_openTank
  | 2 => fX6_finish
  | _ => fun _ _ => none
noncomputable def fX6_addTank : MF := mLim 3 FX6_addTank cdX6_addTank
theorem ckX6_addTank : mCk 6 3 0 cX6_addTank cdX6_addTank = true := by decide +kernel
def rmX6_addTank : Room := { frames := 4, cells := 0, slots := 0, locals := 90 }
theorem caX6_addTank {S : MSc} : allC S rmX6_addTank 6 FX6_addTank (cdX6_addTank.filter isCall) := (show MCall S rmX6_addTank 6 FX6_addTank (42, 40, 0, 1, 0, 0, [(0, 6)]) ∧ MCall S rmX6_addTank 6 FX6_addTank (40, 63, 1, 2, 0, 0, [(0, 0)]) ∧ MCall S rmX6_addTank 6 FX6_addTank (40, 48, 2, 3, 0, 0, [(0, 6)]) ∧ True from ⟨⟨yX6_draft, cX6_draft, 2, _, rmX6_draft, 0, ctX6_draft, ykX6_draft, ⟨rfl, rfl, by decide, by decide⟩, ⟨ml_6_40, yvX6_draft, rfl, rfl, by decide⟩⟩, ⟨yX0_openTank, cX0_openTank, 2, _, rmX0_openTank, 1, ctX0_openTank, ykX0_openTank, ⟨rfl, rfl, by decide, by decide⟩, ⟨ml_6_63, yvX0_openTank, rfl, rfl, by decide⟩⟩, ⟨yX6_finish, cX6_finish, 3, _, rmX6_finish, 2, ctX6_finish, ykX6_finish, ⟨rfl, rfl, by decide, by decide⟩, ⟨ml_6_48, yvX6_finish, rfl, rfl, by decide⟩⟩, trivial⟩)
theorem ctX6_addTank {S : MSc} : MCt S yX6_addTank cX6_addTank 3 (some .int) rmX6_addTank fX6_addTank := mct_of (o := 6) (rk := 0) (by decide +kernel) rfl ckX6_addTank rfl ⟨rfl, rfl⟩ caX6_addTank (no38 (by decide +kernel)) (by decide +kernel) mLim_ex
def cdX6_press : List MI := [(8, 0, 0, 0, 0, 0, []), (42, 40, 0, 1, 0, 0, [(0, 6)]), (10, 4, 0, 1, 0, 0, []), (8, 0, 0, 0, 0, 0, []), (8, 4, 0, 1, 0, 0, []), (8, 4, 0, 1, 0, 0, []), (6, 1, 0, 0, 0, 0, []), (6, 2, 0, 0, 0, 0, []), (6, 3, 0, 0, 0, 0, []), (40, 67, 1, 4, 0, 0, [(0, 0)]), (40, 48, 2, 3, 0, 0, [(0, 6)]), (50, 0, 0, 0, 0, 0, [])]
noncomputable def FX6_press : Nat → MF := fun k => match k with
  | 0 => fX6_draft
  | 1 => fX0_pressLot
  | 2 => fX6_finish
  | _ => fun _ _ => none
noncomputable def fX6_press : MF := mLim 5 FX6_press cdX6_press
theorem ckX6_press : mCk 6 5 0 cX6_press cdX6_press = true := by decide +kernel
def rmX6_press : Room := { frames := 4, cells := 0, slots := 0, locals := 90 }
theorem caX6_press {S : MSc} : allC S rmX6_press 6 FX6_press (cdX6_press.filter isCall) := (show MCall S rmX6_press 6 FX6_press (42, 40, 0, 1, 0, 0, [(0, 6)]) ∧ MCall S rmX6_press 6 FX6_press (40, 67, 1, 4, 0, 0, [(0, 0)]) ∧ MCall S rmX6_press 6 FX6_press (40, 48, 2, 3, 0, 0, [(0, 6)]) ∧ True from ⟨⟨yX6_draft, cX6_draft, 2, _, rmX6_draft, 0, ctX6_draft, ykX6_draft, ⟨rfl, rfl, by decide, by decide⟩, ⟨ml_6_40, yvX6_draft, rfl, rfl, by decide⟩⟩, ⟨yX0_pressLot, cX0_pressLot, 7, _, rmX0_pressLot, 3, ctX0_pressLot, ykX0_pressLot, ⟨rfl, rfl, by decide, by decide⟩, ⟨ml_6_67, yvX0_pressLot, rfl, rfl, by decide⟩⟩, ⟨yX6_finish, cX6_finish, 3, _, rmX6_finish, 2, ctX6_finish, ykX6_finish, ⟨rfl, rfl, by decide, by decide⟩, ⟨ml_6_48, yvX6_finish, rfl, rfl, by decide⟩⟩, trivial⟩)
theorem ctX6_press {S : MSc} : MCt S yX6_press cX6_press 5 (some .int) rmX6_press fX6_press := mct_of (o := 6) (rk := 0) (by decide +kernel) rfl ckX6_press rfl ⟨rfl, rfl⟩ caX6_press (no38 (by decide +kernel)) (by decide +kernel) mLim_ex
def cdX6_wet : List MI := [(8, 0, 0, 0, 0, 0, []), (42, 40, 0, 1, 0, 0, [(0, 6)]), (10, 3, 0, 0, 0, 0, []), (8, 0, 0, 0, 0, 0, []), (8, 3, 0, 0, 0, 0, []), (8, 3, 0, 0, 0, 0, []), (6, 1, 0, 0, 0, 0, []), (6, 2, 0, 0, 0, 0, []), (40, 71, 1, 3, 0, 0, [(0, 0)]), (40, 48, 2, 3, 0, 0, [(0, 6)]), (50, 0, 0, 0, 0, 0, [])]
noncomputable def FX6_wet : Nat → MF := fun k => match k with
  | 0 => fX6_draft
  | 1 => fX0_wetHeap
  | 2 => fX6_finish
  | _ => fun _ _ => none
noncomputable def fX6_wet : MF := mLim 4 FX6_wet cdX6_wet
theorem ckX6_wet : mCk 6 4 0 cX6_wet cdX6_wet = true := by decide +kernel
def rmX6_wet : Room := { frames := 4, cells := 0, slots := 0, locals := 90 }
theorem caX6_wet {S : MSc} : allC S rmX6_wet 6 FX6_wet (cdX6_wet.filter isCall) := (show MCall S rmX6_wet 6 FX6_wet (42, 40, 0, 1, 0, 0, [(0, 6)]) ∧ MCall S rmX6_wet 6 FX6_wet (40, 71, 1, 3, 0, 0, [(0, 0)]) ∧ MCall S rmX6_wet 6 FX6_wet (40, 48, 2, 3, 0, 0, [(0, 6)]) ∧ True from ⟨⟨yX6_draft, cX6_draft, 2, _, rmX6_draft, 0, ctX6_draft, ykX6_draft, ⟨rfl, rfl, by decide, by decide⟩, ⟨ml_6_40, yvX6_draft, rfl, rfl, by decide⟩⟩, ⟨yX0_wetHeap, cX0_wetHeap, 4, _, rmX0_wetHeap, 2, ctX0_wetHeap, ykX0_wetHeap, ⟨rfl, rfl, by decide, by decide⟩, ⟨ml_6_71, yvX0_wetHeap, rfl, rfl, by decide⟩⟩, ⟨yX6_finish, cX6_finish, 3, _, rmX6_finish, 2, ctX6_finish, ykX6_finish, ⟨rfl, rfl, by decide, by decide⟩, ⟨ml_6_48, yvX6_finish, rfl, rfl, by decide⟩⟩, trivial⟩)
theorem ctX6_wet {S : MSc} : MCt S yX6_wet cX6_wet 4 (some .int) rmX6_wet fX6_wet := mct_of (o := 6) (rk := 0) (by decide +kernel) rfl ckX6_wet rfl ⟨rfl, rfl⟩ caX6_wet (no38 (by decide +kernel)) (by decide +kernel) mLim_ex
def cdX6_sellPomace : List MI := [(8, 0, 0, 0, 0, 0, []), (42, 40, 0, 1, 0, 0, [(0, 6)]), (10, 1, 0, 0, 0, 0, []), (8, 0, 0, 0, 0, 0, []), (8, 1, 0, 0, 0, 0, []), (8, 1, 0, 0, 0, 0, []), (40, 74, 1, 1, 0, 0, [(0, 0)]), (40, 48, 2, 3, 0, 0, [(0, 6)]), (50, 0, 0, 0, 0, 0, [])]
noncomputable def FX6_sellPomace : Nat → MF := fun k => match k with
  | 0 => fX6_draft
  | 1 => fX0_sellHeap
  | 2 => fX6_finish
  | _ => fun _ _ => none
noncomputable def fX6_sellPomace : MF := mLim 2 FX6_sellPomace cdX6_sellPomace
theorem ckX6_sellPomace : mCk 6 2 0 cX6_sellPomace cdX6_sellPomace = true := by decide +kernel
def rmX6_sellPomace : Room := { frames := 4, cells := 0, slots := 0, locals := 90 }
theorem caX6_sellPomace {S : MSc} : allC S rmX6_sellPomace 6 FX6_sellPomace (cdX6_sellPomace.filter isCall) := (show MCall S rmX6_sellPomace 6 FX6_sellPomace (42, 40, 0, 1, 0, 0, [(0, 6)]) ∧ MCall S rmX6_sellPomace 6 FX6_sellPomace (40, 74, 1, 1, 0, 0, [(0, 0)]) ∧ MCall S rmX6_sellPomace 6 FX6_sellPomace (40, 48, 2, 3, 0, 0, [(0, 6)]) ∧ True from ⟨⟨yX6_draft, cX6_draft, 2, _, rmX6_draft, 0, ctX6_draft, ykX6_draft, ⟨rfl, rfl, by decide, by decide⟩, ⟨ml_6_40, yvX6_draft, rfl, rfl, by decide⟩⟩, ⟨yX0_sellHeap, cX0_sellHeap, 2, _, rmX0_sellHeap, 0, ctX0_sellHeap, ykX0_sellHeap, ⟨rfl, rfl, by decide, by decide⟩, ⟨ml_6_74, yvX0_sellHeap, rfl, rfl, by decide⟩⟩, ⟨yX6_finish, cX6_finish, 3, _, rmX6_finish, 2, ctX6_finish, ykX6_finish, ⟨rfl, rfl, by decide, by decide⟩, ⟨ml_6_48, yvX6_finish, rfl, rfl, by decide⟩⟩, trivial⟩)
theorem ctX6_sellPomace {S : MSc} : MCt S yX6_sellPomace cX6_sellPomace 2 (some .int) rmX6_sellPomace fX6_sellPomace := mct_of (o := 6) (rk := 0) (by decide +kernel) rfl ckX6_sellPomace rfl ⟨rfl, rfl⟩ caX6_sellPomace (no38 (by decide +kernel)) (by decide +kernel) mLim_ex
def cdX6_move : List MI := [(8, 0, 0, 0, 0, 0, []), (42, 40, 0, 1, 0, 0, [(0, 6)]), (10, 4, 0, 1, 0, 0, []), (8, 0, 0, 0, 0, 0, []), (8, 4, 0, 1, 0, 0, []), (8, 4, 0, 1, 0, 0, []), (6, 1, 0, 0, 0, 0, []), (6, 2, 0, 0, 0, 0, []), (6, 3, 0, 0, 0, 0, []), (40, 78, 1, 4, 0, 0, [(0, 0)]), (40, 48, 2, 3, 0, 0, [(0, 6)]), (50, 0, 0, 0, 0, 0, [])]
noncomputable def FX6_move : Nat → MF := fun k => match k with
  | 0 => fX6_draft
  | 1 => fX0_moveJuice
  | 2 => fX6_finish
  | _ => fun _ _ => none
noncomputable def fX6_move : MF := mLim 5 FX6_move cdX6_move
theorem ckX6_move : mCk 6 5 0 cX6_move cdX6_move = true := by decide +kernel
def rmX6_move : Room := { frames := 4, cells := 0, slots := 0, locals := 90 }
theorem caX6_move {S : MSc} : allC S rmX6_move 6 FX6_move (cdX6_move.filter isCall) := (show MCall S rmX6_move 6 FX6_move (42, 40, 0, 1, 0, 0, [(0, 6)]) ∧ MCall S rmX6_move 6 FX6_move (40, 78, 1, 4, 0, 0, [(0, 0)]) ∧ MCall S rmX6_move 6 FX6_move (40, 48, 2, 3, 0, 0, [(0, 6)]) ∧ True from ⟨⟨yX6_draft, cX6_draft, 2, _, rmX6_draft, 0, ctX6_draft, ykX6_draft, ⟨rfl, rfl, by decide, by decide⟩, ⟨ml_6_40, yvX6_draft, rfl, rfl, by decide⟩⟩, ⟨yX0_moveJuice, cX0_moveJuice, 5, _, rmX0_moveJuice, 3, ctX0_moveJuice, ykX0_moveJuice, ⟨rfl, rfl, by decide, by decide⟩, ⟨ml_6_78, yvX0_moveJuice, rfl, rfl, by decide⟩⟩, ⟨yX6_finish, cX6_finish, 3, _, rmX6_finish, 2, ctX6_finish, ykX6_finish, ⟨rfl, rfl, by decide, by decide⟩, ⟨ml_6_48, yvX6_finish, rfl, rfl, by decide⟩⟩, trivial⟩)
theorem ctX6_move {S : MSc} : MCt S yX6_move cX6_move 5 (some .int) rmX6_move fX6_move := mct_of (o := 6) (rk := 0) (by decide +kernel) rfl ckX6_move rfl ⟨rfl, rfl⟩ caX6_move (no38 (by decide +kernel)) (by decide +kernel) mLim_ex
def cdX6_rack : List MI := [(8, 0, 0, 0, 0, 0, []), (42, 40, 0, 1, 0, 0, [(0, 6)]), (10, 3, 0, 0, 0, 0, []), (8, 0, 0, 0, 0, 0, []), (8, 3, 0, 0, 0, 0, []), (8, 3, 0, 0, 0, 0, []), (6, 1, 0, 0, 0, 0, []), (6, 2, 0, 0, 0, 0, []), (40, 81, 1, 3, 0, 0, [(0, 0)]), (40, 48, 2, 3, 0, 0, [(0, 6)]), (50, 0, 0, 0, 0, 0, [])]
noncomputable def FX6_rack : Nat → MF := fun k => match k with
  | 0 => fX6_draft
  | 1 => fX0_rackJuice
  | 2 => fX6_finish
  | _ => fun _ _ => none
noncomputable def fX6_rack : MF := mLim 4 FX6_rack cdX6_rack
theorem ckX6_rack : mCk 6 4 0 cX6_rack cdX6_rack = true := by decide +kernel
def rmX6_rack : Room := { frames := 4, cells := 0, slots := 0, locals := 90 }
theorem caX6_rack {S : MSc} : allC S rmX6_rack 6 FX6_rack (cdX6_rack.filter isCall) := (show MCall S rmX6_rack 6 FX6_rack (42, 40, 0, 1, 0, 0, [(0, 6)]) ∧ MCall S rmX6_rack 6 FX6_rack (40, 81, 1, 3, 0, 0, [(0, 0)]) ∧ MCall S rmX6_rack 6 FX6_rack (40, 48, 2, 3, 0, 0, [(0, 6)]) ∧ True from ⟨⟨yX6_draft, cX6_draft, 2, _, rmX6_draft, 0, ctX6_draft, ykX6_draft, ⟨rfl, rfl, by decide, by decide⟩, ⟨ml_6_40, yvX6_draft, rfl, rfl, by decide⟩⟩, ⟨yX0_rackJuice, cX0_rackJuice, 4, _, rmX0_rackJuice, 2, ctX0_rackJuice, ykX0_rackJuice, ⟨rfl, rfl, by decide, by decide⟩, ⟨ml_6_81, yvX0_rackJuice, rfl, rfl, by decide⟩⟩, ⟨yX6_finish, cX6_finish, 3, _, rmX6_finish, 2, ctX6_finish, ykX6_finish, ⟨rfl, rfl, by decide, by decide⟩, ⟨ml_6_48, yvX6_finish, rfl, rfl, by decide⟩⟩, trivial⟩)
theorem ctX6_rack {S : MSc} : MCt S yX6_rack cX6_rack 4 (some .int) rmX6_rack fX6_rack := mct_of (o := 6) (rk := 0) (by decide +kernel) rfl ckX6_rack rfl ⟨rfl, rfl⟩ caX6_rack (no38 (by decide +kernel)) (by decide +kernel) mLim_ex
def cdX6_clean : List MI := [(8, 0, 0, 0, 0, 0, []), (42, 40, 0, 1, 0, 0, [(0, 6)]), (10, 2, 0, 0, 0, 0, []), (8, 0, 0, 0, 0, 0, []), (8, 2, 0, 0, 0, 0, []), (8, 2, 0, 0, 0, 0, []), (6, 1, 0, 0, 0, 0, []), (40, 84, 1, 2, 0, 0, [(0, 0)]), (40, 48, 2, 3, 0, 0, [(0, 6)]), (50, 0, 0, 0, 0, 0, [])]
noncomputable def FX6_clean : Nat → MF := fun k => match k with
  | 0 => fX6_draft
  | 1 => fX0_cleanTank
  | 2 => fX6_finish
  | _ => fun _ _ => none
noncomputable def fX6_clean : MF := mLim 3 FX6_clean cdX6_clean
theorem ckX6_clean : mCk 6 3 0 cX6_clean cdX6_clean = true := by decide +kernel
def rmX6_clean : Room := { frames := 4, cells := 0, slots := 0, locals := 90 }
theorem caX6_clean {S : MSc} : allC S rmX6_clean 6 FX6_clean (cdX6_clean.filter isCall) := (show MCall S rmX6_clean 6 FX6_clean (42, 40, 0, 1, 0, 0, [(0, 6)]) ∧ MCall S rmX6_clean 6 FX6_clean (40, 84, 1, 2, 0, 0, [(0, 0)]) ∧ MCall S rmX6_clean 6 FX6_clean (40, 48, 2, 3, 0, 0, [(0, 6)]) ∧ True from ⟨⟨yX6_draft, cX6_draft, 2, _, rmX6_draft, 0, ctX6_draft, ykX6_draft, ⟨rfl, rfl, by decide, by decide⟩, ⟨ml_6_40, yvX6_draft, rfl, rfl, by decide⟩⟩, ⟨yX0_cleanTank, cX0_cleanTank, 3, _, rmX0_cleanTank, 1, ctX0_cleanTank, ykX0_cleanTank, ⟨rfl, rfl, by decide, by decide⟩, ⟨ml_6_84, yvX0_cleanTank, rfl, rfl, by decide⟩⟩, ⟨yX6_finish, cX6_finish, 3, _, rmX6_finish, 2, ctX6_finish, ykX6_finish, ⟨rfl, rfl, by decide, by decide⟩, ⟨ml_6_48, yvX6_finish, rfl, rfl, by decide⟩⟩, trivial⟩)
theorem ctX6_clean {S : MSc} : MCt S yX6_clean cX6_clean 3 (some .int) rmX6_clean fX6_clean := mct_of (o := 6) (rk := 0) (by decide +kernel) rfl ckX6_clean rfl ⟨rfl, rfl⟩ caX6_clean (no38 (by decide +kernel)) (by decide +kernel) mLim_ex
def cdX6_pour : List MI := [(8, 0, 0, 0, 0, 0, []), (42, 40, 0, 1, 0, 0, [(0, 6)]), (10, 2, 0, 0, 0, 0, []), (8, 0, 0, 0, 0, 0, []), (8, 2, 0, 0, 0, 0, []), (8, 2, 0, 0, 0, 0, []), (6, 1, 0, 0, 0, 0, []), (40, 87, 1, 2, 0, 0, [(0, 0)]), (40, 48, 2, 3, 0, 0, [(0, 6)]), (50, 0, 0, 0, 0, 0, [])]
noncomputable def FX6_pour : Nat → MF := fun k => match k with
  | 0 => fX6_draft
  | 1 => fX0_pourJuice
  | 2 => fX6_finish
  | _ => fun _ _ => none
noncomputable def fX6_pour : MF := mLim 3 FX6_pour cdX6_pour
theorem ckX6_pour : mCk 6 3 0 cX6_pour cdX6_pour = true := by decide +kernel
def rmX6_pour : Room := { frames := 4, cells := 0, slots := 0, locals := 90 }
theorem caX6_pour {S : MSc} : allC S rmX6_pour 6 FX6_pour (cdX6_pour.filter isCall) := (show MCall S rmX6_pour 6 FX6_pour (42, 40, 0, 1, 0, 0, [(0, 6)]) ∧ MCall S rmX6_pour 6 FX6_pour (40, 87, 1, 2, 0, 0, [(0, 0)]) ∧ MCall S rmX6_pour 6 FX6_pour (40, 48, 2, 3, 0, 0, [(0, 6)]) ∧ True from ⟨⟨yX6_draft, cX6_draft, 2, _, rmX6_draft, 0, ctX6_draft, ykX6_draft, ⟨rfl, rfl, by decide, by decide⟩, ⟨ml_6_40, yvX6_draft, rfl, rfl, by decide⟩⟩, ⟨yX0_pourJuice, cX0_pourJuice, 3, _, rmX0_pourJuice, 1, ctX0_pourJuice, ykX0_pourJuice, ⟨rfl, rfl, by decide, by decide⟩, ⟨ml_6_87, yvX0_pourJuice, rfl, rfl, by decide⟩⟩, ⟨yX6_finish, cX6_finish, 3, _, rmX6_finish, 2, ctX6_finish, ykX6_finish, ⟨rfl, rfl, by decide, by decide⟩, ⟨ml_6_48, yvX6_finish, rfl, rfl, by decide⟩⟩, trivial⟩)
theorem ctX6_pour {S : MSc} : MCt S yX6_pour cX6_pour 3 (some .int) rmX6_pour fX6_pour := mct_of (o := 6) (rk := 0) (by decide +kernel) rfl ckX6_pour rfl ⟨rfl, rfl⟩ caX6_pour (no38 (by decide +kernel)) (by decide +kernel) mLim_ex
def cdX6_bottle : List MI := [(8, 0, 0, 0, 0, 0, []), (42, 40, 0, 1, 0, 0, [(0, 6)]), (10, 5, 0, 1, 0, 0, []), (8, 0, 0, 0, 0, 0, []), (8, 5, 0, 1, 0, 0, []), (8, 5, 0, 1, 0, 0, []), (6, 1, 0, 0, 0, 0, []), (6, 2, 0, 0, 0, 0, []), (6, 3, 0, 0, 0, 0, []), (6, 4, 0, 1, 0, 0, []), (40, 90, 1, 5, 0, 0, [(0, 0)]), (40, 48, 2, 3, 0, 0, [(0, 6)]), (50, 0, 0, 0, 0, 0, [])]
noncomputable def FX6_bottle : Nat → MF := fun k => match k with
  | 0 => fX6_draft
  | 1 => fX0_bottleJuice
  | 2 => fX6_finish
  | _ => fun _ _ => none
noncomputable def fX6_bottle : MF := mLim 6 FX6_bottle cdX6_bottle
theorem ckX6_bottle : mCk 6 6 0 cX6_bottle cdX6_bottle = true := by decide +kernel
def rmX6_bottle : Room := { frames := 4, cells := 0, slots := 0, locals := 94 }
theorem caX6_bottle {S : MSc} : allC S rmX6_bottle 6 FX6_bottle (cdX6_bottle.filter isCall) := (show MCall S rmX6_bottle 6 FX6_bottle (42, 40, 0, 1, 0, 0, [(0, 6)]) ∧ MCall S rmX6_bottle 6 FX6_bottle (40, 90, 1, 5, 0, 0, [(0, 0)]) ∧ MCall S rmX6_bottle 6 FX6_bottle (40, 48, 2, 3, 0, 0, [(0, 6)]) ∧ True from ⟨⟨yX6_draft, cX6_draft, 2, _, rmX6_draft, 0, ctX6_draft, ykX6_draft, ⟨rfl, rfl, by decide, by decide⟩, ⟨ml_6_40, yvX6_draft, rfl, rfl, by decide⟩⟩, ⟨yX0_bottleJuice, cX0_bottleJuice, 7, _, rmX0_bottleJuice, 4, ctX0_bottleJuice, ykX0_bottleJuice, ⟨rfl, rfl, by decide, by decide⟩, ⟨ml_6_90, yvX0_bottleJuice, rfl, rfl, by decide⟩⟩, ⟨yX6_finish, cX6_finish, 3, _, rmX6_finish, 2, ctX6_finish, ykX6_finish, ⟨rfl, rfl, by decide, by decide⟩, ⟨ml_6_48, yvX6_finish, rfl, rfl, by decide⟩⟩, trivial⟩)
theorem ctX6_bottle {S : MSc} : MCt S yX6_bottle cX6_bottle 6 (some .int) rmX6_bottle fX6_bottle := mct_of (o := 6) (rk := 0) (by decide +kernel) rfl ckX6_bottle rfl ⟨rfl, rfl⟩ caX6_bottle (no38 (by decide +kernel)) (by decide +kernel) mLim_ex
def cdX6_day : List MI := [(8, 0, 0, 0, 0, 0, []), (42, 40, 0, 1, 0, 0, [(0, 6)]), (10, 1, 0, 0, 0, 0, []), (8, 0, 0, 0, 0, 0, []), (8, 1, 0, 0, 0, 0, []), (8, 1, 0, 0, 0, 0, []), (40, 93, 1, 1, 0, 0, [(0, 0)]), (40, 48, 2, 3, 0, 0, [(0, 6)]), (50, 0, 0, 0, 0, 0, [])]
noncomputable def FX6_day : Nat → MF := fun k => match k with
  | 0 => fX6_draft
  | 1 => fX0_passDay
  | 2 => fX6_finish
  | _ => fun _ _ => none
noncomputable def fX6_day : MF := mLim 2 FX6_day cdX6_day
theorem ckX6_day : mCk 6 2 0 cX6_day cdX6_day = true := by decide +kernel
def rmX6_day : Room := { frames := 4, cells := 0, slots := 0, locals := 90 }
theorem caX6_day {S : MSc} : allC S rmX6_day 6 FX6_day (cdX6_day.filter isCall) := (show MCall S rmX6_day 6 FX6_day (42, 40, 0, 1, 0, 0, [(0, 6)]) ∧ MCall S rmX6_day 6 FX6_day (40, 93, 1, 1, 0, 0, [(0, 0)]) ∧ MCall S rmX6_day 6 FX6_day (40, 48, 2, 3, 0, 0, [(0, 6)]) ∧ True from ⟨⟨yX6_draft, cX6_draft, 2, _, rmX6_draft, 0, ctX6_draft, ykX6_draft, ⟨rfl, rfl, by decide, by decide⟩, ⟨ml_6_40, yvX6_draft, rfl, rfl, by decide⟩⟩, ⟨yX0_passDay, cX0_passDay, 3, _, rmX0_passDay, 0, ctX0_passDay, ykX0_passDay, ⟨rfl, rfl, by decide, by decide⟩, ⟨ml_6_93, yvX0_passDay, rfl, rfl, by decide⟩⟩, ⟨yX6_finish, cX6_finish, 3, _, rmX6_finish, 2, ctX6_finish, ykX6_finish, ⟨rfl, rfl, by decide, by decide⟩, ⟨ml_6_48, yvX6_finish, rfl, rfl, by decide⟩⟩, trivial⟩)
theorem ctX6_day {S : MSc} : MCt S yX6_day cX6_day 2 (some .int) rmX6_day fX6_day := mct_of (o := 6) (rk := 0) (by decide +kernel) rfl ckX6_day rfl ⟨rfl, rfl⟩ caX6_day (no38 (by decide +kernel)) (by decide +kernel) mLim_ex
def cdX6_count : List MI := [(8, 0, 0, 0, 0, 0, []), (42, 120, 0, 1, 0, 0, [(0, 6)]), (10, 2, 0, 0, 0, 0, []), (6, 1, 0, 0, 0, 0, []), (27, 39, 58, 0, 0, 0, [(0, 5), (1, 8), (2, 11), (3, 14), (4, 17), (5, 20), (6, 24), (7, 27), (8, 30), (9, 33), (10, 36)]), (8, 2, 0, 0, 0, 0, []), (30, 123, 0, 4, 0, 0, []), (50, 0, 0, 0, 0, 0, []), (8, 2, 0, 0, 0, 0, []), (30, 126, 0, 5, 0, 0, []), (50, 0, 0, 0, 0, 0, []), (8, 2, 0, 0, 0, 0, []), (30, 129, 0, 6, 0, 0, []), (50, 0, 0, 0, 0, 0, []), (8, 2, 0, 0, 0, 0, []), (30, 132, 0, 7, 0, 0, []), (50, 0, 0, 0, 0, 0, []), (8, 0, 0, 0, 0, 0, []), (30, 36, 6, 5, 0, 0, []), (50, 0, 0, 0, 0, 0, []), (8, 0, 0, 0, 0, 0, []), (30, 25, 6, 2, 0, 0, []), (30, 135, 3, 1, 0, 0, []), (50, 0, 0, 0, 0, 0, []), (8, 0, 0, 0, 0, 0, []), (30, 33, 6, 4, 0, 0, []), (50, 0, 0, 0, 0, 0, []), (8, 2, 0, 0, 0, 0, []), (30, 138, 0, 0, 0, 0, []), (50, 0, 0, 0, 0, 0, []), (8, 2, 0, 0, 0, 0, []), (30, 141, 0, 1, 0, 0, []), (50, 0, 0, 0, 0, 0, []), (8, 2, 0, 0, 0, 0, []), (30, 144, 0, 2, 0, 0, []), (50, 0, 0, 0, 0, 0, []), (8, 2, 0, 0, 0, 0, []), (30, 147, 0, 3, 0, 0, []), (50, 0, 0, 0, 0, 0, []), (0, 0, 0, 0, (-1), 0, []), (50, 0, 0, 0, 0, 0, [])]
noncomputable def FX6_count : Nat → MF := fun k => match k with
  | 0 => fX6_books
  | _ => fun _ _ => none
noncomputable def fX6_count : MF := mLim 3 FX6_count cdX6_count
theorem ckX6_count : mCk 6 3 0 cX6_count cdX6_count = true := by decide +kernel
def rmX6_count : Room := { frames := 1, cells := 0, slots := 0, locals := 20 }
theorem caX6_count {S : MSc} : allC S rmX6_count 6 FX6_count (cdX6_count.filter isCall) := (show MCall S rmX6_count 6 FX6_count (42, 120, 0, 1, 0, 0, [(0, 6)]) ∧ True from ⟨⟨yX6_books, cX6_books, 1, _, rmX6_books, 0, ctX6_books, ykX6_books, ⟨rfl, rfl, by decide, by decide⟩, ⟨ml_6_120, yvX6_books, rfl, rfl, by decide⟩⟩, trivial⟩)
theorem ctX6_count {S : MSc} : MCt S yX6_count cX6_count 3 (some .int) rmX6_count fX6_count := mct_of (o := 6) (rk := 0) (by decide +kernel) rfl ckX6_count rfl ⟨rfl, rfl⟩ caX6_count (no38 (by decide +kernel)) (by decide +kernel) mLim_ex
def cdX6_lot : List MI := [(8, 0, 0, 0, 0, 0, []), (42, 120, 0, 1, 0, 0, [(0, 6)]), (10, 3, 0, 0, 0, 0, []), (8, 3, 0, 0, 0, 0, []), (6, 1, 0, 0, 0, 0, []), (40, 150, 1, 2, 0, 0, [(0, 0)]), (24, 12, 0, 0, 0, 0, []), (6, 2, 0, 0, 0, 0, []), (0, 0, 0, 0, 0, 0, []), (0, 0, 0, 0, 1, 0, []), (40, 96, 2, 3, 0, 0, []), (24, 14, 1, 0, 0, 0, []), (0, 0, 0, 0, (-1), 0, []), (50, 0, 0, 0, 0, 0, []), (6, 2, 0, 0, 0, 0, []), (24, 22, 1, 0, 0, 0, []), (8, 3, 0, 0, 0, 0, []), (30, 154, 0, 11, 0, 0, []), (6, 1, 0, 0, 0, 0, []), (36, 0, 0, 0, 0, 0, []), (30, 158, 2, 0, 0, 0, []), (26, 27, 0, 0, 0, 0, []), (8, 3, 0, 0, 0, 0, []), (30, 154, 0, 11, 0, 0, []), (6, 1, 0, 0, 0, 0, []), (36, 0, 0, 0, 0, 0, []), (30, 163, 2, 1, 0, 0, []), (50, 0, 0, 0, 0, 0, [])]
noncomputable def FX6_lot : Nat → MF := fun k => match k with
  | 0 => fX6_books
  | 1 => fX0_hasLot
  | 2 => fX6_within
  | _ => fun _ _ => none
noncomputable def fX6_lot : MF := mLim 4 FX6_lot cdX6_lot
theorem ckX6_lot : mCk 6 4 0 cX6_lot cdX6_lot = true := by decide +kernel
def rmX6_lot : Room := { frames := 2, cells := 0, slots := 0, locals := 43 }
theorem caX6_lot {S : MSc} : allC S rmX6_lot 6 FX6_lot (cdX6_lot.filter isCall) := (show MCall S rmX6_lot 6 FX6_lot (42, 120, 0, 1, 0, 0, [(0, 6)]) ∧ MCall S rmX6_lot 6 FX6_lot (40, 150, 1, 2, 0, 0, [(0, 0)]) ∧ MCall S rmX6_lot 6 FX6_lot (40, 96, 2, 3, 0, 0, []) ∧ True from ⟨⟨yX6_books, cX6_books, 1, _, rmX6_books, 0, ctX6_books, ykX6_books, ⟨rfl, rfl, by decide, by decide⟩, ⟨ml_6_120, yvX6_books, rfl, rfl, by decide⟩⟩, ⟨yX0_hasLot, cX0_hasLot, 2, _, rmX0_hasLot, 1, ctX0_hasLot, ykX0_hasLot, ⟨rfl, rfl, by decide, by decide⟩, ⟨ml_6_150, yvX0_hasLot, rfl, rfl, by decide⟩⟩, ⟨yX6_within, cX6_within, 3, _, rmX6_within, 3, ctX6_within, ykX6_within, ⟨rfl, rfl, by decide, by decide⟩, ⟨Or.inl ml_6_96, ysX6_within, rfl⟩⟩, trivial⟩)
theorem ctX6_lot {S : MSc} : MCt S yX6_lot cX6_lot 4 (some .int) rmX6_lot fX6_lot := mct_of (o := 6) (rk := 0) (by decide +kernel) rfl ckX6_lot rfl ⟨rfl, rfl⟩ caX6_lot (no38 (by decide +kernel)) (by decide +kernel) mLim_ex
def cdX6_tank : List MI := [(8, 0, 0, 0, 0, 0, []), (42, 120, 0, 1, 0, 0, [(0, 6)]), (10, 3, 0, 0, 0, 0, []), (8, 3, 0, 0, 0, 0, []), (6, 1, 0, 0, 0, 0, []), (40, 175, 1, 2, 0, 0, [(0, 0)]), (24, 12, 0, 0, 0, 0, []), (6, 2, 0, 0, 0, 0, []), (0, 0, 0, 0, 0, 0, []), (1, 0, 0, 0, 7, 0, []), (40, 96, 2, 3, 0, 0, []), (24, 14, 1, 0, 0, 0, []), (0, 0, 0, 0, (-1), 0, []), (50, 0, 0, 0, 0, 0, []), (8, 3, 0, 0, 0, 0, []), (30, 178, 0, 12, 0, 0, []), (6, 1, 0, 0, 0, 0, []), (36, 0, 0, 0, 0, 0, []), (6, 2, 0, 0, 0, 0, []), (40, 182, 3, 2, 0, 0, [(0, 4)]), (50, 0, 0, 0, 0, 0, [])]
noncomputable def FX6_tank : Nat → MF := fun k => match k with
  | 0 => fX6_books
  | 1 => fX0_hasTank
  | 2 => fX6_within
  | 3 => fX4_property
  | _ => fun _ _ => none
noncomputable def fX6_tank : MF := mLim 4 FX6_tank cdX6_tank
theorem ckX6_tank : mCk 6 4 0 cX6_tank cdX6_tank = true := by decide +kernel
def rmX6_tank : Room := { frames := 2, cells := 0, slots := 0, locals := 43 }
theorem caX6_tank {S : MSc} : allC S rmX6_tank 6 FX6_tank (cdX6_tank.filter isCall) := (show MCall S rmX6_tank 6 FX6_tank (42, 120, 0, 1, 0, 0, [(0, 6)]) ∧ MCall S rmX6_tank 6 FX6_tank (40, 175, 1, 2, 0, 0, [(0, 0)]) ∧ MCall S rmX6_tank 6 FX6_tank (40, 96, 2, 3, 0, 0, []) ∧ MCall S rmX6_tank 6 FX6_tank (40, 182, 3, 2, 0, 0, [(0, 4)]) ∧ True from ⟨⟨yX6_books, cX6_books, 1, _, rmX6_books, 0, ctX6_books, ykX6_books, ⟨rfl, rfl, by decide, by decide⟩, ⟨ml_6_120, yvX6_books, rfl, rfl, by decide⟩⟩, ⟨yX0_hasTank, cX0_hasTank, 2, _, rmX0_hasTank, 1, ctX0_hasTank, ykX0_hasTank, ⟨rfl, rfl, by decide, by decide⟩, ⟨ml_6_175, yvX0_hasTank, rfl, rfl, by decide⟩⟩, ⟨yX6_within, cX6_within, 3, _, rmX6_within, 3, ctX6_within, ykX6_within, ⟨rfl, rfl, by decide, by decide⟩, ⟨Or.inl ml_6_96, ysX6_within, rfl⟩⟩, ⟨yX4_property, cX4_property, 2, _, rmX4_property, 1, ctX4_property, ykX4_property, ⟨rfl, rfl, by decide, by decide⟩, ⟨ml_6_182, yvX4_property, rfl, rfl, by decide⟩⟩, trivial⟩)
theorem ctX6_tank {S : MSc} : MCt S yX6_tank cX6_tank 4 (some .int) rmX6_tank fX6_tank := mct_of (o := 6) (rk := 0) (by decide +kernel) rfl ckX6_tank rfl ⟨rfl, rfl⟩ caX6_tank (no38 (by decide +kernel)) (by decide +kernel) mLim_ex
def cdX6_account : List MI := [(8, 0, 0, 0, 0, 0, []), (42, 120, 0, 1, 0, 0, [(0, 6)]), (6, 1, 0, 0, 0, 0, []), (40, 211, 1, 2, 0, 0, [(0, 0)]), (50, 0, 0, 0, 0, 0, [])]
noncomputable def FX6_account : Nat → MF := fun k => match k with
  | 0 => fX6_books
  | 1 => fX0_sumOf
  | _ => fun _ _ => none
noncomputable def fX6_account : MF := mLim 2 FX6_account cdX6_account
theorem ckX6_account : mCk 6 2 0 cX6_account cdX6_account = true := by decide +kernel
def rmX6_account : Room := { frames := 2, cells := 0, slots := 0, locals := 43 }
theorem caX6_account {S : MSc} : allC S rmX6_account 6 FX6_account (cdX6_account.filter isCall) := (show MCall S rmX6_account 6 FX6_account (42, 120, 0, 1, 0, 0, [(0, 6)]) ∧ MCall S rmX6_account 6 FX6_account (40, 211, 1, 2, 0, 0, [(0, 0)]) ∧ True from ⟨⟨yX6_books, cX6_books, 1, _, rmX6_books, 0, ctX6_books, ykX6_books, ⟨rfl, rfl, by decide, by decide⟩, ⟨ml_6_120, yvX6_books, rfl, rfl, by decide⟩⟩, ⟨yX0_sumOf, cX0_sumOf, 2, _, rmX0_sumOf, 1, ctX0_sumOf, ykX0_sumOf, ⟨rfl, rfl, by decide, by decide⟩, ⟨ml_6_211, yvX0_sumOf, rfl, rfl, by decide⟩⟩, trivial⟩)
theorem ctX6_account {S : MSc} : MCt S yX6_account cX6_account 2 (some .int) rmX6_account fX6_account := mct_of (o := 6) (rk := 0) (by decide +kernel) rfl ckX6_account rfl ⟨rfl, rfl⟩ caX6_account (no38 (by decide +kernel)) (by decide +kernel) mLim_ex
def cdX6_bottles : List MI := [(6, 1, 0, 0, 0, 0, []), (0, 0, 0, 0, 0, 0, []), (0, 0, 0, 0, 3, 0, []), (40, 96, 0, 3, 0, 0, []), (24, 10, 0, 0, 0, 0, []), (6, 2, 0, 0, 0, 0, []), (0, 0, 0, 0, 0, 0, []), (1, 0, 0, 0, 10, 0, []), (40, 96, 0, 3, 0, 0, []), (24, 12, 1, 0, 0, 0, []), (0, 0, 0, 0, (-1), 0, []), (50, 0, 0, 0, 0, 0, []), (8, 0, 0, 0, 0, 0, []), (42, 120, 1, 1, 0, 0, [(0, 6)]), (30, 201, 0, 10, 0, 0, []), (6, 1, 0, 0, 0, 0, []), (36, 0, 0, 0, 0, 0, []), (30, 214, 1, 5, 0, 0, []), (6, 2, 0, 0, 0, 0, []), (34, 0, 100, 0, 0, 0, []), (50, 0, 0, 0, 0, 0, [])]
noncomputable def FX6_bottles : Nat → MF := fun k => match k with
  | 0 => fX6_within
  | 1 => fX6_books
  | _ => fun _ _ => none
noncomputable def fX6_bottles : MF := mLim 3 FX6_bottles cdX6_bottles
theorem ckX6_bottles : mCk 6 3 0 cX6_bottles cdX6_bottles = true := by decide +kernel
def rmX6_bottles : Room := { frames := 1, cells := 0, slots := 0, locals := 22 }
theorem caX6_bottles {S : MSc} : allC S rmX6_bottles 6 FX6_bottles (cdX6_bottles.filter isCall) := (show MCall S rmX6_bottles 6 FX6_bottles (40, 96, 0, 3, 0, 0, []) ∧ MCall S rmX6_bottles 6 FX6_bottles (40, 96, 0, 3, 0, 0, []) ∧ MCall S rmX6_bottles 6 FX6_bottles (42, 120, 1, 1, 0, 0, [(0, 6)]) ∧ True from ⟨⟨yX6_within, cX6_within, 3, _, rmX6_within, 3, ctX6_within, ykX6_within, ⟨rfl, rfl, by decide, by decide⟩, ⟨Or.inl ml_6_96, ysX6_within, rfl⟩⟩, ⟨yX6_within, cX6_within, 3, _, rmX6_within, 3, ctX6_within, ykX6_within, ⟨rfl, rfl, by decide, by decide⟩, ⟨Or.inl ml_6_96, ysX6_within, rfl⟩⟩, ⟨yX6_books, cX6_books, 1, _, rmX6_books, 0, ctX6_books, ykX6_books, ⟨rfl, rfl, by decide, by decide⟩, ⟨ml_6_120, yvX6_books, rfl, rfl, by decide⟩⟩, trivial⟩)
theorem ctX6_bottles {S : MSc} : MCt S yX6_bottles cX6_bottles 3 (some .int) rmX6_bottles fX6_bottles := mct_of (o := 6) (rk := 0) (by decide +kernel) rfl ckX6_bottles rfl ⟨rfl, rfl⟩ caX6_bottles (no38 (by decide +kernel)) (by decide +kernel) mLim_ex
def cdX6_undo : List MI := [(8, 0, 0, 0, 0, 0, []), (30, 33, 6, 4, 0, 0, []), (24, 5, 4, 0, 0, 0, []), (1, 0, 0, 0, (-2), 0, []), (50, 0, 0, 0, 0, 0, []), (8, 0, 0, 0, 0, 0, []), (8, 0, 0, 0, 0, 0, []), (30, 29, 6, 3, 0, 0, []), (1, 0, 0, 0, 8, 0, []), (12, 0, 0, 0, 0, 0, []), (0, 0, 0, 0, 1, 0, []), (12, 0, 1, 0, 0, 0, []), (1, 0, 0, 0, 8, 0, []), (14, 0, 0, 0, 0, 0, []), (31, 29, 6, 3, 0, 0, []), (8, 0, 0, 0, 0, 0, []), (21, 0, 0, 0, 0, 0, []), (30, 33, 6, 4, 0, 0, []), (0, 0, 0, 0, 1, 0, []), (12, 0, 1, 0, 0, 0, []), (31, 33, 6, 4, 0, 0, []), (8, 0, 0, 0, 0, 0, []), (30, 33, 6, 4, 0, 0, []), (50, 0, 0, 0, 0, 0, [])]
noncomputable def FX6_undo : Nat → MF := fun k => match k with
  | _ => fun _ _ => none
noncomputable def fX6_undo : MF := mLim 1 FX6_undo cdX6_undo
theorem ckX6_undo : mCk 6 1 0 cX6_undo cdX6_undo = true := by decide +kernel
def rmX6_undo : Room := { frames := 0, cells := 0, slots := 0, locals := 0 }
theorem caX6_undo {S : MSc} : allC S rmX6_undo 6 FX6_undo (cdX6_undo.filter isCall) := (show True from trivial)
theorem ctX6_undo {S : MSc} : MCt S yX6_undo cX6_undo 1 (some .int) rmX6_undo fX6_undo := mct_of (o := 6) (rk := 0) (by decide +kernel) rfl ckX6_undo rfl ⟨rfl, rfl⟩ caX6_undo (no38 (by decide +kernel)) (by decide +kernel) mLim_ex
def cdL_cell : List MI := [(6, 1, 0, 0, 0, 0, []), (8, 0, 0, 0, 0, 0, []), (56, 0, 0, 0, 0, 0, []), (25, 8, 3, 0, 0, 0, []), (8, 0, 0, 0, 0, 0, []), (6, 1, 0, 0, 0, 0, []), (55, 0, 0, 0, 0, 0, []), (26, 17, 0, 0, 0, 0, []), (2, 0, 0, 0, 7919, 0, []), (6, 1, 0, 0, 0, 0, []), (0, 0, 0, 0, 3, 0, []), (12, 0, 0, 0, 0, 0, []), (12, 0, 2, 0, 0, 0, []), (6, 1, 0, 0, 0, 0, []), (1, 0, 0, 0, 11, 0, []), (12, 0, 0, 0, 0, 0, []), (12, 0, 2, 0, 0, 0, []), (50, 0, 0, 0, 0, 0, [])]
noncomputable def FL_cell (S : MSc) : Nat → MF := fun k => match k with
  | 98 => fun v _ => some (v, some (.inl (Int32.ofNat S.1)))
  | 99 => fun v as => match as with
    | [.inl k] => if mIn k S.1 then some (v, some (.inl (S.2 k.toNatClampNeg))) else none
    | _ => none
  | _ => fun _ _ => none
noncomputable def fL_cell (S : MSc) : MF := mLim 2 (FL_cell S) cdL_cell
theorem f99_inv {S : MSc} {k : Int32} {v : MM} {r : MM × Option MV} (h : FL_cell S 99 v [.inl k] = some r) : vp_in k S.1 ∧ r.2 = some (.inl (S.2 k.toNatClampNeg)) := by
  have h : (if mIn k S.1 then some (v, some (.inl (S.2 k.toNatClampNeg))) else none) = some r := h
  by_cases c : mIn k S.1
  · rw [if_pos c] at h
    exact ⟨mIn_vp c, by rw [← Option.some.inj h]⟩
  · rw [if_neg c] at h
    cases h
theorem f98_inv {S : MSc} {v : MM} {r : MM × Option MV} (h : FL_cell S 98 v [] = some r) : r.2 = some (.inl (Int32.ofNat S.1)) := by
  have h : some (v, some (.inl (Int32.ofNat S.1))) = some r := h
  rw [← Option.some.inj h]
theorem ckL_cell : mCk 8 2 0 cL_cell cdL_cell = true := by decide +kernel
def rmL_cell : Room := { frames := 0, cells := 0, slots := 0, locals := 0 }
theorem caL_cell {S : MSc} : allC S rmL_cell 8 (FL_cell S) (cdL_cell.filter isCall) := trivial
theorem ctL_cell {S : MSc} : MCt S yL_cell cL_cell 2 (some .int) rmL_cell (fL_cell S) := mct_ofS (o := 8) (rk := 0) (by decide +kernel) rfl ckL_cell rfl ⟨rfl, rfl⟩ caL_cell (no38 (by decide +kernel)) (fun _ => ⟨fun k v r h => f99_inv h, fun v r h => f98_inv h⟩) mLim_ex
def cdL_low : List MI := [(6, 0, 0, 0, 0, 0, []), (5, 7, 0, 0, 2147483647, 0, []), (12, 0, 3, 0, 0, 0, []), (6, 1, 0, 0, 0, 0, []), (14, 0, 0, 0, 0, 0, []), (50, 0, 0, 0, 0, 0, [])]
noncomputable def FL_low : Nat → MF := fun k => match k with
  | _ => fun _ _ => none
noncomputable def fL_low : MF := mLim 2 FL_low cdL_low
theorem ckL_low : mCk 8 2 0 cL_low cdL_low = true := by decide +kernel
def rmL_low : Room := { frames := 0, cells := 0, slots := 0, locals := 0 }
theorem caL_low {S : MSc} : allC S rmL_low 8 FL_low (cdL_low.filter isCall) := (show True from trivial)
theorem ctL_low {S : MSc} : MCt S yL_low cL_low 2 (some .int) rmL_low fL_low := mct_of (o := 8) (rk := 0) (by decide +kernel) rfl ckL_low rfl ⟨rfl, rfl⟩ caL_low (no38 (by decide +kernel)) (by decide +kernel) mLim_ex
def cdL_tale : List MI := [(4, 8, 0, 0, 0, 3, []), (44, 1, 0, 0, 0, 0, []), (0, 0, 0, 0, 0, 0, []), (9, 3, 0, 0, 0, 0, []), (6, 3, 0, 0, 0, 0, []), (1, 0, 0, 0, 11, 0, []), (25, 33, 3, 0, 0, 0, []), (7, 1, 0, 0, 0, 0, []), (4, 10, 0, 0, 0, 31, []), (16, 0, 2, 0, 0, 0, []), (8, 0, 0, 0, 0, 0, []), (6, 3, 0, 0, 0, 0, []), (40, 12, 0, 2, 0, 0, [(0, 6)]), (18, 0, 0, 0, 0, 0, []), (16, 0, 0, 0, 0, 0, []), (6, 3, 0, 0, 0, 0, []), (0, 0, 0, 0, 4, 0, []), (25, 21, 0, 0, 0, 0, []), (6, 3, 0, 0, 0, 0, []), (1, 0, 0, 0, 6, 0, []), (25, 23, 1, 0, 0, 0, []), (3, 0, 0, 0, 0, 0, []), (26, 29, 0, 0, 0, 0, []), (4, 18, 0, 0, 0, 7, []), (8, 0, 0, 0, 0, 0, []), (6, 3, 0, 0, 0, 0, []), (40, 20, 1, 2, 0, 0, [(0, 6)]), (18, 0, 0, 0, 0, 0, []), (16, 0, 2, 0, 0, 0, []), (16, 0, 0, 0, 0, 0, []), (44, 1, 0, 0, 0, 0, []), (11, 3, 0, 0, 1, 0, []), (26, 4, 0, 0, 0, 0, []), (0, 0, 0, 0, 0, 0, []), (9, 3, 0, 0, 0, 0, []), (6, 3, 0, 0, 0, 0, []), (1, 0, 0, 0, 6, 0, []), (25, 57, 3, 0, 0, 0, []), (0, 0, 0, 0, 0, 0, []), (9, 4, 0, 1, 0, 0, []), (6, 4, 0, 1, 0, 0, []), (1, 0, 0, 0, 8, 0, []), (25, 55, 3, 0, 0, 0, []), (7, 1, 0, 0, 0, 0, []), (4, 23, 0, 0, 0, 37, []), (16, 0, 2, 0, 0, 0, []), (8, 0, 0, 0, 0, 0, []), (6, 3, 0, 0, 0, 0, []), (6, 4, 0, 1, 0, 0, []), (40, 25, 2, 3, 0, 0, [(0, 6)]), (18, 0, 0, 0, 0, 0, []), (16, 0, 0, 0, 0, 0, []), (44, 1, 0, 0, 0, 0, []), (11, 4, 0, 0, 1, 0, []), (26, 40, 0, 0, 0, 0, []), (11, 3, 0, 0, 1, 0, []), (26, 35, 0, 0, 0, 0, []), (0, 0, 0, 0, 0, 0, []), (9, 3, 0, 0, 0, 0, []), (6, 3, 0, 0, 0, 0, []), (1, 0, 0, 0, 8, 0, []), (25, 82, 3, 0, 0, 0, []), (7, 1, 0, 0, 0, 0, []), (4, 29, 0, 0, 0, 41, []), (16, 0, 2, 0, 0, 0, []), (8, 0, 0, 0, 0, 0, []), (6, 3, 0, 0, 0, 0, []), (0, 0, 0, 0, 0, 0, []), (40, 31, 3, 3, 0, 0, [(0, 6)]), (18, 0, 0, 0, 0, 0, []), (16, 0, 0, 0, 0, 0, []), (4, 34, 0, 0, 0, 11, []), (8, 0, 0, 0, 0, 0, []), (6, 3, 0, 0, 0, 0, []), (0, 0, 0, 0, 1, 0, []), (40, 31, 3, 3, 0, 0, [(0, 6)]), (18, 0, 0, 0, 0, 0, []), (16, 0, 2, 0, 0, 0, []), (16, 0, 0, 0, 0, 0, []), (44, 1, 0, 0, 0, 0, []), (11, 3, 0, 0, 1, 0, []), (26, 59, 0, 0, 0, 0, []), (0, 0, 0, 0, 0, 0, []), (9, 3, 0, 0, 0, 0, []), (6, 3, 0, 0, 0, 0, []), (0, 0, 0, 0, 4, 0, []), (25, 109, 3, 0, 0, 0, []), (7, 1, 0, 0, 0, 0, []), (4, 36, 0, 0, 0, 43, []), (16, 0, 2, 0, 0, 0, []), (8, 0, 0, 0, 0, 0, []), (6, 3, 0, 0, 0, 0, []), (0, 0, 0, 0, 0, 0, []), (40, 38, 4, 3, 0, 0, [(0, 6)]), (18, 0, 0, 0, 0, 0, []), (16, 0, 0, 0, 0, 0, []), (4, 8, 0, 0, 0, 3, []), (8, 0, 0, 0, 0, 0, []), (6, 3, 0, 0, 0, 0, []), (0, 0, 0, 0, 1, 0, []), (6, 3, 0, 0, 0, 0, []), (12, 0, 0, 0, 0, 0, []), (40, 38, 4, 3, 0, 0, [(0, 6)]), (18, 0, 0, 0, 0, 0, []), (16, 0, 2, 0, 0, 0, []), (16, 0, 0, 0, 0, 0, []), (44, 1, 0, 0, 0, 0, []), (11, 3, 0, 0, 1, 0, []), (26, 84, 0, 0, 0, 0, []), (7, 1, 0, 0, 0, 0, []), (54, 0, 0, 0, 0, 0, [])]
noncomputable def FL_tale : Nat → MF := fun k => match k with
  | 0 => fX6_account
  | 1 => fX6_count
  | 2 => fX6_tank
  | 3 => fX6_lot
  | 4 => fX6_bottles
  | _ => fun _ _ => none
noncomputable def fL_tale : MF := mLim 5 FL_tale cdL_tale
theorem ckL_tale : mCk 8 5 4 cL_tale cdL_tale = true := by decide +kernel
def rmL_tale : Room := { frames := 3, cells := 0, slots := 0, locals := 66 }
theorem caL_tale {S : MSc} : allC S rmL_tale 8 FL_tale (cdL_tale.filter isCall) := (show MCall S rmL_tale 8 FL_tale (40, 12, 0, 2, 0, 0, [(0, 6)]) ∧ MCall S rmL_tale 8 FL_tale (40, 20, 1, 2, 0, 0, [(0, 6)]) ∧ MCall S rmL_tale 8 FL_tale (40, 25, 2, 3, 0, 0, [(0, 6)]) ∧ MCall S rmL_tale 8 FL_tale (40, 31, 3, 3, 0, 0, [(0, 6)]) ∧ MCall S rmL_tale 8 FL_tale (40, 31, 3, 3, 0, 0, [(0, 6)]) ∧ MCall S rmL_tale 8 FL_tale (40, 38, 4, 3, 0, 0, [(0, 6)]) ∧ MCall S rmL_tale 8 FL_tale (40, 38, 4, 3, 0, 0, [(0, 6)]) ∧ True from ⟨⟨yX6_account, cX6_account, 2, _, rmX6_account, 1, ctX6_account, ykX6_account, ⟨rfl, rfl, by decide, by decide⟩, ⟨ml_8_12, yvX6_account, rfl, rfl, by decide⟩⟩, ⟨yX6_count, cX6_count, 3, _, rmX6_count, 1, ctX6_count, ykX6_count, ⟨rfl, rfl, by decide, by decide⟩, ⟨ml_8_20, yvX6_count, rfl, rfl, by decide⟩⟩, ⟨yX6_tank, cX6_tank, 4, _, rmX6_tank, 2, ctX6_tank, ykX6_tank, ⟨rfl, rfl, by decide, by decide⟩, ⟨ml_8_25, yvX6_tank, rfl, rfl, by decide⟩⟩, ⟨yX6_lot, cX6_lot, 4, _, rmX6_lot, 2, ctX6_lot, ykX6_lot, ⟨rfl, rfl, by decide, by decide⟩, ⟨ml_8_31, yvX6_lot, rfl, rfl, by decide⟩⟩, ⟨yX6_lot, cX6_lot, 4, _, rmX6_lot, 2, ctX6_lot, ykX6_lot, ⟨rfl, rfl, by decide, by decide⟩, ⟨ml_8_31, yvX6_lot, rfl, rfl, by decide⟩⟩, ⟨yX6_bottles, cX6_bottles, 3, _, rmX6_bottles, 2, ctX6_bottles, ykX6_bottles, ⟨rfl, rfl, by decide, by decide⟩, ⟨ml_8_38, yvX6_bottles, rfl, rfl, by decide⟩⟩, ⟨yX6_bottles, cX6_bottles, 3, _, rmX6_bottles, 2, ctX6_bottles, ykX6_bottles, ⟨rfl, rfl, by decide, by decide⟩, ⟨ml_8_38, yvX6_bottles, rfl, rfl, by decide⟩⟩, trivial⟩)
theorem ctL_tale {S : MSc} : MCt S yL_tale cL_tale 5 (some .long) rmL_tale fL_tale := mct_of (o := 8) (rk := 4) (by decide +kernel) rfl ckL_tale rfl ⟨rfl, rfl⟩ caL_tale (no38 (by decide +kernel)) (by decide +kernel) mLim_ex
def cdL_does : List MI := [(6, 1, 0, 0, 0, 0, []), (0, 0, 0, 0, 4, 0, []), (12, 0, 4, 0, 0, 0, []), (0, 0, 0, 0, 4, 0, []), (40, 41, 0, 2, 0, 0, []), (9, 2, 0, 0, 0, 0, []), (6, 1, 0, 0, 0, 0, []), (1, 0, 0, 0, 6, 0, []), (12, 0, 4, 0, 0, 0, []), (0, 0, 0, 0, 4, 0, []), (40, 41, 0, 2, 0, 0, []), (9, 3, 0, 0, 0, 0, []), (6, 1, 0, 0, 0, 0, []), (1, 0, 0, 0, 15, 0, []), (12, 0, 3, 0, 0, 0, []), (27, 190, 67, 0, 0, 0, [(0, 16), (1, 41), (2, 64), (3, 77), (4, 85), (5, 85), (6, 85), (7, 101), (8, 110), (9, 131), (10, 136), (11, 140), (12, 167)]), (8, 0, 0, 0, 0, 0, []), (6, 1, 0, 0, 0, 0, []), (0, 0, 0, 0, 4, 0, []), (12, 0, 4, 0, 0, 0, []), (1, 0, 0, 0, 6, 0, []), (40, 41, 0, 2, 0, 0, []), (2, 0, 0, 0, 300, 0, []), (6, 1, 0, 0, 0, 0, []), (1, 0, 0, 0, 7, 0, []), (12, 0, 4, 0, 0, 0, []), (2, 0, 0, 0, 501, 0, []), (40, 41, 0, 2, 0, 0, []), (12, 0, 0, 0, 0, 0, []), (6, 1, 0, 0, 0, 0, []), (1, 0, 0, 0, 16, 0, []), (12, 0, 4, 0, 0, 0, []), (2, 0, 0, 0, 201, 0, []), (40, 41, 0, 2, 0, 0, []), (6, 1, 0, 0, 0, 0, []), (1, 0, 0, 0, 24, 0, []), (12, 0, 4, 0, 0, 0, []), (1, 0, 0, 0, 101, 0, []), (40, 41, 0, 2, 0, 0, []), (40, 46, 1, 5, 0, 0, [(0, 6)]), (50, 0, 0, 0, 0, 0, []), (8, 0, 0, 0, 0, 0, []), (6, 1, 0, 0, 0, 0, []), (0, 0, 0, 0, 4, 0, []), (12, 0, 4, 0, 0, 0, []), (1, 0, 0, 0, 21, 0, []), (40, 41, 0, 2, 0, 0, []), (6, 1, 0, 0, 0, 0, []), (1, 0, 0, 0, 9, 0, []), (12, 0, 4, 0, 0, 0, []), (1, 0, 0, 0, 101, 0, []), (40, 41, 0, 2, 0, 0, []), (6, 1, 0, 0, 0, 0, []), (1, 0, 0, 0, 16, 0, []), (12, 0, 4, 0, 0, 0, []), (2, 0, 0, 0, 501, 0, []), (40, 41, 0, 2, 0, 0, []), (6, 1, 0, 0, 0, 0, []), (1, 0, 0, 0, 25, 0, []), (12, 0, 4, 0, 0, 0, []), (1, 0, 0, 0, 100, 0, []), (40, 41, 0, 2, 0, 0, []), (40, 50, 2, 5, 0, 0, [(0, 6)]), (50, 0, 0, 0, 0, 0, []), (8, 0, 0, 0, 0, 0, []), (6, 1, 0, 0, 0, 0, []), (0, 0, 0, 0, 4, 0, []), (12, 0, 4, 0, 0, 0, []), (1, 0, 0, 0, 7, 0, []), (40, 41, 0, 2, 0, 0, []), (6, 1, 0, 0, 0, 0, []), (1, 0, 0, 0, 7, 0, []), (12, 0, 4, 0, 0, 0, []), (2, 0, 0, 0, 3000, 0, []), (40, 41, 0, 2, 0, 0, []), (40, 53, 3, 3, 0, 0, [(0, 6)]), (50, 0, 0, 0, 0, 0, []), (8, 0, 0, 0, 0, 0, []), (6, 1, 0, 0, 0, 0, []), (0, 0, 0, 0, 4, 0, []), (12, 0, 4, 0, 0, 0, []), (2, 0, 0, 0, 2000, 0, []), (40, 41, 0, 2, 0, 0, []), (40, 56, 4, 2, 0, 0, [(0, 6)]), (50, 0, 0, 0, 0, 0, []), (8, 0, 0, 0, 0, 0, []), (6, 1, 0, 0, 0, 0, []), (1, 0, 0, 0, 8, 0, []), (12, 0, 4, 0, 0, 0, []), (0, 0, 0, 0, 3, 0, []), (40, 41, 0, 2, 0, 0, []), (0, 0, 0, 0, 1, 0, []), (6, 1, 0, 0, 0, 0, []), (1, 0, 0, 0, 10, 0, []), (12, 0, 4, 0, 0, 0, []), (2, 0, 0, 0, 900, 0, []), (40, 41, 0, 2, 0, 0, []), (12, 0, 0, 0, 0, 0, []), (6, 2, 0, 0, 0, 0, []), (40, 59, 5, 4, 0, 0, [(0, 6)]), (50, 0, 0, 0, 0, 0, []), (8, 0, 0, 0, 0, 0, []), (6, 1, 0, 0, 0, 0, []), (1, 0, 0, 0, 8, 0, []), (12, 0, 4, 0, 0, 0, []), (2, 0, 0, 0, 500, 0, []), (40, 41, 0, 2, 0, 0, []), (6, 2, 0, 0, 0, 0, []), (40, 63, 6, 3, 0, 0, [(0, 6)]), (50, 0, 0, 0, 0, 0, []), (6, 1, 0, 0, 0, 0, []), (1, 0, 0, 0, 20, 0, []), (12, 0, 4, 0, 0, 0, []), (0, 0, 0, 0, 3, 0, []), (12, 0, 3, 0, 0, 0, []), (24, 119, 1, 0, 0, 0, []), (8, 0, 0, 0, 0, 0, []), (40, 66, 7, 1, 0, 0, [(0, 6)]), (26, 130, 0, 0, 0, 0, []), (8, 0, 0, 0, 0, 0, []), (6, 2, 0, 0, 0, 0, []), (0, 0, 0, 0, 1, 0, []), (6, 1, 0, 0, 0, 0, []), (1, 0, 0, 0, 8, 0, []), (12, 0, 4, 0, 0, 0, []), (2, 0, 0, 0, 300, 0, []), (40, 41, 0, 2, 0, 0, []), (12, 0, 0, 0, 0, 0, []), (6, 3, 0, 0, 0, 0, []), (40, 70, 8, 4, 0, 0, [(0, 6)]), (50, 0, 0, 0, 0, 0, []), (8, 0, 0, 0, 0, 0, []), (6, 2, 0, 0, 0, 0, []), (6, 3, 0, 0, 0, 0, []), (40, 73, 9, 3, 0, 0, [(0, 6)]), (50, 0, 0, 0, 0, 0, []), (8, 0, 0, 0, 0, 0, []), (6, 2, 0, 0, 0, 0, []), (40, 76, 10, 2, 0, 0, [(0, 6)]), (50, 0, 0, 0, 0, 0, []), (6, 1, 0, 0, 0, 0, []), (1, 0, 0, 0, 20, 0, []), (12, 0, 4, 0, 0, 0, []), (0, 0, 0, 0, 1, 0, []), (12, 0, 3, 0, 0, 0, []), (24, 150, 1, 0, 0, 0, []), (8, 0, 0, 0, 0, 0, []), (6, 2, 0, 0, 0, 0, []), (40, 79, 11, 2, 0, 0, [(0, 6)]), (26, 166, 0, 0, 0, 0, []), (8, 0, 0, 0, 0, 0, []), (6, 1, 0, 0, 0, 0, []), (0, 0, 0, 0, 4, 0, []), (12, 0, 4, 0, 0, 0, []), (0, 0, 0, 0, 4, 0, []), (40, 41, 0, 2, 0, 0, []), (0, 0, 0, 0, 0, 0, []), (2, 0, 0, 0, 1000, 0, []), (0, 0, 0, 0, 0, 0, []), (2, 0, 0, 0, 1000, 0, []), (6, 1, 0, 0, 0, 0, []), (1, 0, 0, 0, 8, 0, []), (12, 0, 4, 0, 0, 0, []), (2, 0, 0, 0, 200, 0, []), (40, 41, 0, 2, 0, 0, []), (40, 82, 12, 7, 0, 0, [(0, 6)]), (50, 0, 0, 0, 0, 0, []), (8, 0, 0, 0, 0, 0, []), (6, 2, 0, 0, 0, 0, []), (6, 1, 0, 0, 0, 0, []), (1, 0, 0, 0, 6, 0, []), (12, 0, 4, 0, 0, 0, []), (0, 0, 0, 0, 4, 0, []), (40, 41, 0, 2, 0, 0, []), (0, 0, 0, 0, 1, 0, []), (6, 1, 0, 0, 0, 0, []), (1, 0, 0, 0, 8, 0, []), (12, 0, 4, 0, 0, 0, []), (1, 0, 0, 0, 10, 0, []), (40, 41, 0, 2, 0, 0, []), (12, 0, 0, 0, 0, 0, []), (0, 0, 0, 0, 1, 0, []), (6, 1, 0, 0, 0, 0, []), (1, 0, 0, 0, 12, 0, []), (12, 0, 4, 0, 0, 0, []), (1, 0, 0, 0, 30, 0, []), (40, 41, 0, 2, 0, 0, []), (12, 0, 0, 0, 0, 0, []), (40, 86, 13, 5, 0, 0, [(0, 6)]), (50, 0, 0, 0, 0, 0, []), (8, 0, 0, 0, 0, 0, []), (40, 89, 14, 1, 0, 0, [(0, 6)]), (50, 0, 0, 0, 0, 0, [])]
noncomputable def FL_does : Nat → MF := fun k => match k with
  | 0 => fL_low
  | 1 => fX6_setVariety
  | 2 => fX6_setRates
  | 3 => fX6_buy
  | 4 => fX6_addTank
  | 5 => fX6_press
  | 6 => fX6_wet
  | 7 => fX6_sellPomace
  | 8 => fX6_move
  | 9 => fX6_rack
  | 10 => fX6_clean
  | 11 => fX6_pour
  | 12 => fX6_setLabel
  | 13 => fX6_bottle
  | 14 => fX6_day
  | _ => fun _ _ => none
noncomputable def fL_does : MF := mLim 4 FL_does cdL_does
theorem ckL_does : mCk 8 4 0 cL_does cdL_does = true := by decide +kernel
def rmL_does : Room := { frames := 5, cells := 0, slots := 0, locals := 119 }
theorem caL_does {S : MSc} : allC S rmL_does 8 FL_does (cdL_does.filter isCall) := (show MCall S rmL_does 8 FL_does (40, 41, 0, 2, 0, 0, []) ∧ MCall S rmL_does 8 FL_does (40, 41, 0, 2, 0, 0, []) ∧ MCall S rmL_does 8 FL_does (40, 41, 0, 2, 0, 0, []) ∧ MCall S rmL_does 8 FL_does (40, 41, 0, 2, 0, 0, []) ∧ MCall S rmL_does 8 FL_does (40, 41, 0, 2, 0, 0, []) ∧ MCall S rmL_does 8 FL_does (40, 41, 0, 2, 0, 0, []) ∧ MCall S rmL_does 8 FL_does (40, 46, 1, 5, 0, 0, [(0, 6)]) ∧ MCall S rmL_does 8 FL_does (40, 41, 0, 2, 0, 0, []) ∧ MCall S rmL_does 8 FL_does (40, 41, 0, 2, 0, 0, []) ∧ MCall S rmL_does 8 FL_does (40, 41, 0, 2, 0, 0, []) ∧ MCall S rmL_does 8 FL_does (40, 41, 0, 2, 0, 0, []) ∧ MCall S rmL_does 8 FL_does (40, 50, 2, 5, 0, 0, [(0, 6)]) ∧ MCall S rmL_does 8 FL_does (40, 41, 0, 2, 0, 0, []) ∧ MCall S rmL_does 8 FL_does (40, 41, 0, 2, 0, 0, []) ∧ MCall S rmL_does 8 FL_does (40, 53, 3, 3, 0, 0, [(0, 6)]) ∧ MCall S rmL_does 8 FL_does (40, 41, 0, 2, 0, 0, []) ∧ MCall S rmL_does 8 FL_does (40, 56, 4, 2, 0, 0, [(0, 6)]) ∧ MCall S rmL_does 8 FL_does (40, 41, 0, 2, 0, 0, []) ∧ MCall S rmL_does 8 FL_does (40, 41, 0, 2, 0, 0, []) ∧ MCall S rmL_does 8 FL_does (40, 59, 5, 4, 0, 0, [(0, 6)]) ∧ MCall S rmL_does 8 FL_does (40, 41, 0, 2, 0, 0, []) ∧ MCall S rmL_does 8 FL_does (40, 63, 6, 3, 0, 0, [(0, 6)]) ∧ MCall S rmL_does 8 FL_does (40, 66, 7, 1, 0, 0, [(0, 6)]) ∧ MCall S rmL_does 8 FL_does (40, 41, 0, 2, 0, 0, []) ∧ MCall S rmL_does 8 FL_does (40, 70, 8, 4, 0, 0, [(0, 6)]) ∧ MCall S rmL_does 8 FL_does (40, 73, 9, 3, 0, 0, [(0, 6)]) ∧ MCall S rmL_does 8 FL_does (40, 76, 10, 2, 0, 0, [(0, 6)]) ∧ MCall S rmL_does 8 FL_does (40, 79, 11, 2, 0, 0, [(0, 6)]) ∧ MCall S rmL_does 8 FL_does (40, 41, 0, 2, 0, 0, []) ∧ MCall S rmL_does 8 FL_does (40, 41, 0, 2, 0, 0, []) ∧ MCall S rmL_does 8 FL_does (40, 82, 12, 7, 0, 0, [(0, 6)]) ∧ MCall S rmL_does 8 FL_does (40, 41, 0, 2, 0, 0, []) ∧ MCall S rmL_does 8 FL_does (40, 41, 0, 2, 0, 0, []) ∧ MCall S rmL_does 8 FL_does (40, 41, 0, 2, 0, 0, []) ∧ MCall S rmL_does 8 FL_does (40, 86, 13, 5, 0, 0, [(0, 6)]) ∧ MCall S rmL_does 8 FL_does (40, 89, 14, 1, 0, 0, [(0, 6)]) ∧ True from ⟨⟨yL_low, cL_low, 2, _, rmL_low, 2, ctL_low, ykL_low, ⟨rfl, rfl, by decide, by decide⟩, ⟨Or.inl ml_8_41, ysL_low, rfl⟩⟩, ⟨yL_low, cL_low, 2, _, rmL_low, 2, ctL_low, ykL_low, ⟨rfl, rfl, by decide, by decide⟩, ⟨Or.inl ml_8_41, ysL_low, rfl⟩⟩, ⟨yL_low, cL_low, 2, _, rmL_low, 2, ctL_low, ykL_low, ⟨rfl, rfl, by decide, by decide⟩, ⟨Or.inl ml_8_41, ysL_low, rfl⟩⟩, ⟨yL_low, cL_low, 2, _, rmL_low, 2, ctL_low, ykL_low, ⟨rfl, rfl, by decide, by decide⟩, ⟨Or.inl ml_8_41, ysL_low, rfl⟩⟩, ⟨yL_low, cL_low, 2, _, rmL_low, 2, ctL_low, ykL_low, ⟨rfl, rfl, by decide, by decide⟩, ⟨Or.inl ml_8_41, ysL_low, rfl⟩⟩, ⟨yL_low, cL_low, 2, _, rmL_low, 2, ctL_low, ykL_low, ⟨rfl, rfl, by decide, by decide⟩, ⟨Or.inl ml_8_41, ysL_low, rfl⟩⟩, ⟨yX6_setVariety, cX6_setVariety, 6, _, rmX6_setVariety, 4, ctX6_setVariety, ykX6_setVariety, ⟨rfl, rfl, by decide, by decide⟩, ⟨ml_8_46, yvX6_setVariety, rfl, rfl, by decide⟩⟩, ⟨yL_low, cL_low, 2, _, rmL_low, 2, ctL_low, ykL_low, ⟨rfl, rfl, by decide, by decide⟩, ⟨Or.inl ml_8_41, ysL_low, rfl⟩⟩, ⟨yL_low, cL_low, 2, _, rmL_low, 2, ctL_low, ykL_low, ⟨rfl, rfl, by decide, by decide⟩, ⟨Or.inl ml_8_41, ysL_low, rfl⟩⟩, ⟨yL_low, cL_low, 2, _, rmL_low, 2, ctL_low, ykL_low, ⟨rfl, rfl, by decide, by decide⟩, ⟨Or.inl ml_8_41, ysL_low, rfl⟩⟩, ⟨yL_low, cL_low, 2, _, rmL_low, 2, ctL_low, ykL_low, ⟨rfl, rfl, by decide, by decide⟩, ⟨Or.inl ml_8_41, ysL_low, rfl⟩⟩, ⟨yX6_setRates, cX6_setRates, 6, _, rmX6_setRates, 4, ctX6_setRates, ykX6_setRates, ⟨rfl, rfl, by decide, by decide⟩, ⟨ml_8_50, yvX6_setRates, rfl, rfl, by decide⟩⟩, ⟨yL_low, cL_low, 2, _, rmL_low, 2, ctL_low, ykL_low, ⟨rfl, rfl, by decide, by decide⟩, ⟨Or.inl ml_8_41, ysL_low, rfl⟩⟩, ⟨yL_low, cL_low, 2, _, rmL_low, 2, ctL_low, ykL_low, ⟨rfl, rfl, by decide, by decide⟩, ⟨Or.inl ml_8_41, ysL_low, rfl⟩⟩, ⟨yX6_buy, cX6_buy, 4, _, rmX6_buy, 2, ctX6_buy, ykX6_buy, ⟨rfl, rfl, by decide, by decide⟩, ⟨ml_8_53, yvX6_buy, rfl, rfl, by decide⟩⟩, ⟨yL_low, cL_low, 2, _, rmL_low, 2, ctL_low, ykL_low, ⟨rfl, rfl, by decide, by decide⟩, ⟨Or.inl ml_8_41, ysL_low, rfl⟩⟩, ⟨yX6_addTank, cX6_addTank, 3, _, rmX6_addTank, 1, ctX6_addTank, ykX6_addTank, ⟨rfl, rfl, by decide, by decide⟩, ⟨ml_8_56, yvX6_addTank, rfl, rfl, by decide⟩⟩, ⟨yL_low, cL_low, 2, _, rmL_low, 2, ctL_low, ykL_low, ⟨rfl, rfl, by decide, by decide⟩, ⟨Or.inl ml_8_41, ysL_low, rfl⟩⟩, ⟨yL_low, cL_low, 2, _, rmL_low, 2, ctL_low, ykL_low, ⟨rfl, rfl, by decide, by decide⟩, ⟨Or.inl ml_8_41, ysL_low, rfl⟩⟩, ⟨yX6_press, cX6_press, 5, _, rmX6_press, 3, ctX6_press, ykX6_press, ⟨rfl, rfl, by decide, by decide⟩, ⟨ml_8_59, yvX6_press, rfl, rfl, by decide⟩⟩, ⟨yL_low, cL_low, 2, _, rmL_low, 2, ctL_low, ykL_low, ⟨rfl, rfl, by decide, by decide⟩, ⟨Or.inl ml_8_41, ysL_low, rfl⟩⟩, ⟨yX6_wet, cX6_wet, 4, _, rmX6_wet, 2, ctX6_wet, ykX6_wet, ⟨rfl, rfl, by decide, by decide⟩, ⟨ml_8_63, yvX6_wet, rfl, rfl, by decide⟩⟩, ⟨yX6_sellPomace, cX6_sellPomace, 2, _, rmX6_sellPomace, 0, ctX6_sellPomace, ykX6_sellPomace, ⟨rfl, rfl, by decide, by decide⟩, ⟨ml_8_66, yvX6_sellPomace, rfl, rfl, by decide⟩⟩, ⟨yL_low, cL_low, 2, _, rmL_low, 2, ctL_low, ykL_low, ⟨rfl, rfl, by decide, by decide⟩, ⟨Or.inl ml_8_41, ysL_low, rfl⟩⟩, ⟨yX6_move, cX6_move, 5, _, rmX6_move, 3, ctX6_move, ykX6_move, ⟨rfl, rfl, by decide, by decide⟩, ⟨ml_8_70, yvX6_move, rfl, rfl, by decide⟩⟩, ⟨yX6_rack, cX6_rack, 4, _, rmX6_rack, 2, ctX6_rack, ykX6_rack, ⟨rfl, rfl, by decide, by decide⟩, ⟨ml_8_73, yvX6_rack, rfl, rfl, by decide⟩⟩, ⟨yX6_clean, cX6_clean, 3, _, rmX6_clean, 1, ctX6_clean, ykX6_clean, ⟨rfl, rfl, by decide, by decide⟩, ⟨ml_8_76, yvX6_clean, rfl, rfl, by decide⟩⟩, ⟨yX6_pour, cX6_pour, 3, _, rmX6_pour, 1, ctX6_pour, ykX6_pour, ⟨rfl, rfl, by decide, by decide⟩, ⟨ml_8_79, yvX6_pour, rfl, rfl, by decide⟩⟩, ⟨yL_low, cL_low, 2, _, rmL_low, 2, ctL_low, ykL_low, ⟨rfl, rfl, by decide, by decide⟩, ⟨Or.inl ml_8_41, ysL_low, rfl⟩⟩, ⟨yL_low, cL_low, 2, _, rmL_low, 2, ctL_low, ykL_low, ⟨rfl, rfl, by decide, by decide⟩, ⟨Or.inl ml_8_41, ysL_low, rfl⟩⟩, ⟨yX6_setLabel, cX6_setLabel, 8, _, rmX6_setLabel, 6, ctX6_setLabel, ykX6_setLabel, ⟨rfl, rfl, by decide, by decide⟩, ⟨ml_8_82, yvX6_setLabel, rfl, rfl, by decide⟩⟩, ⟨yL_low, cL_low, 2, _, rmL_low, 2, ctL_low, ykL_low, ⟨rfl, rfl, by decide, by decide⟩, ⟨Or.inl ml_8_41, ysL_low, rfl⟩⟩, ⟨yL_low, cL_low, 2, _, rmL_low, 2, ctL_low, ykL_low, ⟨rfl, rfl, by decide, by decide⟩, ⟨Or.inl ml_8_41, ysL_low, rfl⟩⟩, ⟨yL_low, cL_low, 2, _, rmL_low, 2, ctL_low, ykL_low, ⟨rfl, rfl, by decide, by decide⟩, ⟨Or.inl ml_8_41, ysL_low, rfl⟩⟩, ⟨yX6_bottle, cX6_bottle, 6, _, rmX6_bottle, 4, ctX6_bottle, ykX6_bottle, ⟨rfl, rfl, by decide, by decide⟩, ⟨ml_8_86, yvX6_bottle, rfl, rfl, by decide⟩⟩, ⟨yX6_day, cX6_day, 2, _, rmX6_day, 0, ctX6_day, ykX6_day, ⟨rfl, rfl, by decide, by decide⟩, ⟨ml_8_89, yvX6_day, rfl, rfl, by decide⟩⟩, trivial⟩)
theorem ctL_does {S : MSc} : MCt S yL_does cL_does 4 (some .int) rmL_does fL_does := mct_of (o := 8) (rk := 0) (by decide +kernel) rfl ckL_does rfl ⟨rfl, rfl⟩ caL_does (no38 (by decide +kernel)) (by decide +kernel) mLim_ex
