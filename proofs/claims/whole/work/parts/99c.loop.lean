-- THE LAW'S LOOP
section
variable {L i n : Nat} {xs : Nat → Int32} {v : MM}
theorem f98 (L : Nat) (xs : Nat → Int32) (v : MM) : FL L xs 98 v [] = some (v, some (I (nI L))) := rfl
theorem f99 (v : MM) {k : Nat} (hk : k < L) (hL : L ≤ 3584) : FL L xs 99 v [I (nI k)] = some (v, some (I (xs k))) := by
  refine (if_pos (mIn_nI hk (by omega))).trans ?_
  rw [nI_clamp (show k < 2 ^ 31 by omega)]
theorem yc_setVariety (hb : Bd n v) (hn : n ≤ 1000) (hi : i + 7 ≤ L) (hL : L ≤ 3584) : ∃ v', gL_30 L xs v (nI i) = gL_756 L xs v' (nI i) ∧ Bd (n + 1) v' := by
  obtain ⟨r, v1, v2, e1, e2, h2⟩ := z_setVariety hb hn (xs (i + 1)) (xs (i + 2)) (xs (i + 3)) (xs (i + 4))
  have e2 : fX7_setVariety v1 [MO, I (xs (i + 1)), I (xs (i + 2)), I (xs (i + 3)), I (xs (i + 4))] = some (v2, some (I r)) := e2
  refine ⟨v2, (qL_30 L xs v (nI i)).trans ?_, h2⟩
  simp only [show nI i + (1 : Int32) = nI (i + 1) from i_add i 1, show nI i + (2 : Int32) = nI (i + 2) from i_add i 2, show nI i + (3 : Int32) = nI (i + 3) from i_add i 3, show nI i + (4 : Int32) = nI (i + 4) from i_add i 4]
  exact (bI_eq (f99 v (show i + 1 < L by omega) hL)).trans ((bI_eq (f99 v (show i + 2 < L by omega) hL)).trans ((bI_eq (f99 v (show i + 3 < L by omega) hL)).trans ((bI_eq (f99 v (show i + 4 < L by omega) hL)).trans ((bI_eq e1).trans ((bI_eq (f99 v1 (show i + 1 < L by omega) hL)).trans ((bI_eq (f99 v1 (show i + 2 < L by omega) hL)).trans ((bI_eq (f99 v1 (show i + 3 < L by omega) hL)).trans ((bI_eq (f99 v1 (show i + 4 < L by omega) hL)).trans ((bI_eq e2).trans (if_pos rfl))))))))))
theorem yc_setRates (hb : Bd n v) (hn : n ≤ 1000) (hi : i + 7 ≤ L) (hL : L ≤ 3584) : ∃ v', gL_77 L xs v (nI i) = gL_756 L xs v' (nI i) ∧ Bd (n + 1) v' := by
  obtain ⟨r, v1, v2, e1, e2, h2⟩ := z_setRates hb hn (xs (i + 1)) (xs (i + 2)) (xs (i + 3)) (xs (i + 4))
  have e2 : fX7_setRates v1 [MO, I (xs (i + 1)), I (xs (i + 2)), I (xs (i + 3)), I (xs (i + 4))] = some (v2, some (I r)) := e2
  refine ⟨v2, (qL_77 L xs v (nI i)).trans ?_, h2⟩
  simp only [show nI i + (1 : Int32) = nI (i + 1) from i_add i 1, show nI i + (2 : Int32) = nI (i + 2) from i_add i 2, show nI i + (3 : Int32) = nI (i + 3) from i_add i 3, show nI i + (4 : Int32) = nI (i + 4) from i_add i 4]
  exact (bI_eq (f99 v (show i + 1 < L by omega) hL)).trans ((bI_eq (f99 v (show i + 2 < L by omega) hL)).trans ((bI_eq (f99 v (show i + 3 < L by omega) hL)).trans ((bI_eq (f99 v (show i + 4 < L by omega) hL)).trans ((bI_eq e1).trans ((bI_eq (f99 v1 (show i + 1 < L by omega) hL)).trans ((bI_eq (f99 v1 (show i + 2 < L by omega) hL)).trans ((bI_eq (f99 v1 (show i + 3 < L by omega) hL)).trans ((bI_eq (f99 v1 (show i + 4 < L by omega) hL)).trans ((bI_eq e2).trans (if_pos rfl))))))))))
theorem yc_setLabel (hb : Bd n v) (hn : n ≤ 1000) (hi : i + 7 ≤ L) (hL : L ≤ 3584) : ∃ v', gL_124 L xs v (nI i) = gL_756 L xs v' (nI i) ∧ Bd (n + 1) v' := by
  obtain ⟨r, v1, v2, e1, e2, h2⟩ := z_setLabel hb hn (xs (i + 1)) (xs (i + 2)) (xs (i + 3)) (xs (i + 4)) (xs (i + 5)) (xs (i + 6))
  have e2 : fX7_setLabel v1 [MO, I (xs (i + 1)), I (xs (i + 2)), I (xs (i + 3)), I (xs (i + 4)), I (xs (i + 5)), I (xs (i + 6))] = some (v2, some (I r)) := e2
  refine ⟨v2, (qL_124 L xs v (nI i)).trans ?_, h2⟩
  simp only [show nI i + (1 : Int32) = nI (i + 1) from i_add i 1, show nI i + (2 : Int32) = nI (i + 2) from i_add i 2, show nI i + (3 : Int32) = nI (i + 3) from i_add i 3, show nI i + (4 : Int32) = nI (i + 4) from i_add i 4, show nI i + (5 : Int32) = nI (i + 5) from i_add i 5, show nI i + (6 : Int32) = nI (i + 6) from i_add i 6]
  exact (bI_eq (f99 v (show i + 1 < L by omega) hL)).trans ((bI_eq (f99 v (show i + 2 < L by omega) hL)).trans ((bI_eq (f99 v (show i + 3 < L by omega) hL)).trans ((bI_eq (f99 v (show i + 4 < L by omega) hL)).trans ((bI_eq (f99 v (show i + 5 < L by omega) hL)).trans ((bI_eq (f99 v (show i + 6 < L by omega) hL)).trans ((bI_eq e1).trans ((bI_eq (f99 v1 (show i + 1 < L by omega) hL)).trans ((bI_eq (f99 v1 (show i + 2 < L by omega) hL)).trans ((bI_eq (f99 v1 (show i + 3 < L by omega) hL)).trans ((bI_eq (f99 v1 (show i + 4 < L by omega) hL)).trans ((bI_eq (f99 v1 (show i + 5 < L by omega) hL)).trans ((bI_eq (f99 v1 (show i + 6 < L by omega) hL)).trans ((bI_eq e2).trans (if_pos rfl))))))))))))))
theorem yc_buy (hb : Bd n v) (hn : n ≤ 1000) (hi : i + 7 ≤ L) (hL : L ≤ 3584) : ∃ v', gL_191 L xs v (nI i) = gL_756 L xs v' (nI i) ∧ Bd (n + 1) v' := by
  obtain ⟨r, v1, v2, e1, e2, h2⟩ := z_buy hb hn (xs (i + 1)) (xs (i + 2))
  have e2 : fX7_buy v1 [MO, I (xs (i + 1)), I (xs (i + 2))] = some (v2, some (I r)) := e2
  refine ⟨v2, (qL_191 L xs v (nI i)).trans ?_, h2⟩
  simp only [show nI i + (1 : Int32) = nI (i + 1) from i_add i 1, show nI i + (2 : Int32) = nI (i + 2) from i_add i 2]
  exact (bI_eq (f99 v (show i + 1 < L by omega) hL)).trans ((bI_eq (f99 v (show i + 2 < L by omega) hL)).trans ((bI_eq e1).trans ((bI_eq (f99 v1 (show i + 1 < L by omega) hL)).trans ((bI_eq (f99 v1 (show i + 2 < L by omega) hL)).trans ((bI_eq e2).trans (if_pos rfl))))))
theorem yc_addTank (hb : Bd n v) (hn : n ≤ 1000) (hi : i + 7 ≤ L) (hL : L ≤ 3584) : ∃ v', gL_218 L xs v (nI i) = gL_756 L xs v' (nI i) ∧ Bd (n + 1) v' := by
  obtain ⟨r, v1, v2, e1, e2, h2⟩ := z_addTank hb hn (xs (i + 1))
  have e2 : fX7_addTank v1 [MO, I (xs (i + 1))] = some (v2, some (I r)) := e2
  refine ⟨v2, (qL_218 L xs v (nI i)).trans ?_, h2⟩
  simp only [show nI i + (1 : Int32) = nI (i + 1) from i_add i 1]
  exact (bI_eq (f99 v (show i + 1 < L by omega) hL)).trans ((bI_eq e1).trans ((bI_eq (f99 v1 (show i + 1 < L by omega) hL)).trans ((bI_eq e2).trans (if_pos rfl))))
theorem yc_press (hb : Bd n v) (hn : n ≤ 1000) (hi : i + 7 ≤ L) (hL : L ≤ 3584) : ∃ v', gL_235 L xs v (nI i) = gL_756 L xs v' (nI i) ∧ Bd (n + 1) v' := by
  obtain ⟨r, v1, v2, e1, e2, h2⟩ := z_press hb hn (xs (i + 1)) (xs (i + 2)) (xs (i + 3))
  have e2 : fX7_press v1 [MO, I (xs (i + 1)), I (xs (i + 2)), I (xs (i + 3))] = some (v2, some (I r)) := e2
  refine ⟨v2, (qL_235 L xs v (nI i)).trans ?_, h2⟩
  simp only [show nI i + (1 : Int32) = nI (i + 1) from i_add i 1, show nI i + (2 : Int32) = nI (i + 2) from i_add i 2, show nI i + (3 : Int32) = nI (i + 3) from i_add i 3]
  exact (bI_eq (f99 v (show i + 1 < L by omega) hL)).trans ((bI_eq (f99 v (show i + 2 < L by omega) hL)).trans ((bI_eq (f99 v (show i + 3 < L by omega) hL)).trans ((bI_eq e1).trans ((bI_eq (f99 v1 (show i + 1 < L by omega) hL)).trans ((bI_eq (f99 v1 (show i + 2 < L by omega) hL)).trans ((bI_eq (f99 v1 (show i + 3 < L by omega) hL)).trans ((bI_eq e2).trans (if_pos rfl))))))))
theorem yc_wet (hb : Bd n v) (hn : n ≤ 1000) (hi : i + 7 ≤ L) (hL : L ≤ 3584) : ∃ v', gL_272 L xs v (nI i) = gL_756 L xs v' (nI i) ∧ Bd (n + 1) v' := by
  obtain ⟨r, v1, v2, e1, e2, h2⟩ := z_wet hb hn (xs (i + 1)) (xs (i + 2))
  have e2 : fX7_wet v1 [MO, I (xs (i + 1)), I (xs (i + 2))] = some (v2, some (I r)) := e2
  refine ⟨v2, (qL_272 L xs v (nI i)).trans ?_, h2⟩
  simp only [show nI i + (1 : Int32) = nI (i + 1) from i_add i 1, show nI i + (2 : Int32) = nI (i + 2) from i_add i 2]
  exact (bI_eq (f99 v (show i + 1 < L by omega) hL)).trans ((bI_eq (f99 v (show i + 2 < L by omega) hL)).trans ((bI_eq e1).trans ((bI_eq (f99 v1 (show i + 1 < L by omega) hL)).trans ((bI_eq (f99 v1 (show i + 2 < L by omega) hL)).trans ((bI_eq e2).trans (if_pos rfl))))))
theorem yc_sellPomace (hb : Bd n v) (hn : n ≤ 1000) (hi : i + 7 ≤ L) (hL : L ≤ 3584) : ∃ v', gL_299 L xs v (nI i) = gL_756 L xs v' (nI i) ∧ Bd (n + 1) v' := by
  obtain ⟨r, v1, v2, e1, e2, h2⟩ := z_sellPomace hb hn 
  have e2 : fX7_sellPomace v1 [MO] = some (v2, some (I r)) := e2
  refine ⟨v2, (qL_299 L xs v (nI i)).trans ?_, h2⟩
  exact (bI_eq e1).trans ((bI_eq e2).trans (if_pos rfl))
theorem yc_move (hb : Bd n v) (hn : n ≤ 1000) (hi : i + 7 ≤ L) (hL : L ≤ 3584) : ∃ v', gL_306 L xs v (nI i) = gL_756 L xs v' (nI i) ∧ Bd (n + 1) v' := by
  obtain ⟨r, v1, v2, e1, e2, h2⟩ := z_move hb hn (xs (i + 1)) (xs (i + 2)) (xs (i + 3))
  have e2 : fX7_move v1 [MO, I (xs (i + 1)), I (xs (i + 2)), I (xs (i + 3))] = some (v2, some (I r)) := e2
  refine ⟨v2, (qL_306 L xs v (nI i)).trans ?_, h2⟩
  simp only [show nI i + (1 : Int32) = nI (i + 1) from i_add i 1, show nI i + (2 : Int32) = nI (i + 2) from i_add i 2, show nI i + (3 : Int32) = nI (i + 3) from i_add i 3]
  exact (bI_eq (f99 v (show i + 1 < L by omega) hL)).trans ((bI_eq (f99 v (show i + 2 < L by omega) hL)).trans ((bI_eq (f99 v (show i + 3 < L by omega) hL)).trans ((bI_eq e1).trans ((bI_eq (f99 v1 (show i + 1 < L by omega) hL)).trans ((bI_eq (f99 v1 (show i + 2 < L by omega) hL)).trans ((bI_eq (f99 v1 (show i + 3 < L by omega) hL)).trans ((bI_eq e2).trans (if_pos rfl))))))))
theorem yc_rack (hb : Bd n v) (hn : n ≤ 1000) (hi : i + 7 ≤ L) (hL : L ≤ 3584) : ∃ v', gL_343 L xs v (nI i) = gL_756 L xs v' (nI i) ∧ Bd (n + 1) v' := by
  obtain ⟨r, v1, v2, e1, e2, h2⟩ := z_rack hb hn (xs (i + 1)) (xs (i + 2))
  have e2 : fX7_rack v1 [MO, I (xs (i + 1)), I (xs (i + 2))] = some (v2, some (I r)) := e2
  refine ⟨v2, (qL_343 L xs v (nI i)).trans ?_, h2⟩
  simp only [show nI i + (1 : Int32) = nI (i + 1) from i_add i 1, show nI i + (2 : Int32) = nI (i + 2) from i_add i 2]
  exact (bI_eq (f99 v (show i + 1 < L by omega) hL)).trans ((bI_eq (f99 v (show i + 2 < L by omega) hL)).trans ((bI_eq e1).trans ((bI_eq (f99 v1 (show i + 1 < L by omega) hL)).trans ((bI_eq (f99 v1 (show i + 2 < L by omega) hL)).trans ((bI_eq e2).trans (if_pos rfl))))))
theorem yc_clean (hb : Bd n v) (hn : n ≤ 1000) (hi : i + 7 ≤ L) (hL : L ≤ 3584) : ∃ v', gL_370 L xs v (nI i) = gL_756 L xs v' (nI i) ∧ Bd (n + 1) v' := by
  obtain ⟨r, v1, v2, e1, e2, h2⟩ := z_clean hb hn (xs (i + 1))
  have e2 : fX7_clean v1 [MO, I (xs (i + 1))] = some (v2, some (I r)) := e2
  refine ⟨v2, (qL_370 L xs v (nI i)).trans ?_, h2⟩
  simp only [show nI i + (1 : Int32) = nI (i + 1) from i_add i 1]
  exact (bI_eq (f99 v (show i + 1 < L by omega) hL)).trans ((bI_eq e1).trans ((bI_eq (f99 v1 (show i + 1 < L by omega) hL)).trans ((bI_eq e2).trans (if_pos rfl))))
theorem yc_pour (hb : Bd n v) (hn : n ≤ 1000) (hi : i + 7 ≤ L) (hL : L ≤ 3584) : ∃ v', gL_387 L xs v (nI i) = gL_756 L xs v' (nI i) ∧ Bd (n + 1) v' := by
  obtain ⟨r, v1, v2, e1, e2, h2⟩ := z_pour hb hn (xs (i + 1))
  have e2 : fX7_pour v1 [MO, I (xs (i + 1))] = some (v2, some (I r)) := e2
  refine ⟨v2, (qL_387 L xs v (nI i)).trans ?_, h2⟩
  simp only [show nI i + (1 : Int32) = nI (i + 1) from i_add i 1]
  exact (bI_eq (f99 v (show i + 1 < L by omega) hL)).trans ((bI_eq e1).trans ((bI_eq (f99 v1 (show i + 1 < L by omega) hL)).trans ((bI_eq e2).trans (if_pos rfl))))
theorem yc_bottle (hb : Bd n v) (hn : n ≤ 1000) (hi : i + 7 ≤ L) (hL : L ≤ 3584) : ∃ v', gL_404 L xs v (nI i) = gL_756 L xs v' (nI i) ∧ Bd (n + 1) v' := by
  obtain ⟨r, v1, v2, e1, e2, h2⟩ := z_bottle hb hn (xs (i + 1)) (xs (i + 2)) (xs (i + 3)) (xs (i + 4))
  have e2 : fX7_bottle v1 [MO, I (xs (i + 1)), I (xs (i + 2)), I (xs (i + 3)), I (xs (i + 4))] = some (v2, some (I r)) := e2
  refine ⟨v2, (qL_404 L xs v (nI i)).trans ?_, h2⟩
  simp only [show nI i + (1 : Int32) = nI (i + 1) from i_add i 1, show nI i + (2 : Int32) = nI (i + 2) from i_add i 2, show nI i + (3 : Int32) = nI (i + 3) from i_add i 3, show nI i + (4 : Int32) = nI (i + 4) from i_add i 4]
  exact (bI_eq (f99 v (show i + 1 < L by omega) hL)).trans ((bI_eq (f99 v (show i + 2 < L by omega) hL)).trans ((bI_eq (f99 v (show i + 3 < L by omega) hL)).trans ((bI_eq (f99 v (show i + 4 < L by omega) hL)).trans ((bI_eq e1).trans ((bI_eq (f99 v1 (show i + 1 < L by omega) hL)).trans ((bI_eq (f99 v1 (show i + 2 < L by omega) hL)).trans ((bI_eq (f99 v1 (show i + 3 < L by omega) hL)).trans ((bI_eq (f99 v1 (show i + 4 < L by omega) hL)).trans ((bI_eq e2).trans (if_pos rfl))))))))))
theorem yc_day (hb : Bd n v) (hn : n ≤ 1000) (hi : i + 7 ≤ L) (hL : L ≤ 3584) : ∃ v', gL_451 L xs v (nI i) = gL_756 L xs v' (nI i) ∧ Bd (n + 1) v' := by
  obtain ⟨r, v1, v2, e1, e2, h2⟩ := z_day hb hn 
  have e2 : fX7_day v1 [MO] = some (v2, some (I r)) := e2
  refine ⟨v2, (qL_451 L xs v (nI i)).trans ?_, h2⟩
  exact (bI_eq e1).trans ((bI_eq e2).trans (if_pos rfl))
theorem yc_appendCharacter (hb : Bd n v) (hn : n ≤ 1000) (hi : i + 7 ≤ L) (hL : L ≤ 3584) : ∃ v', gL_458 L xs v (nI i) = gL_756 L xs v' (nI i) ∧ Bd (n + 1) v' := by
  obtain ⟨r, v1, v2, e1, e2, h2⟩ := z_appendCharacter hb hn (xs (i + 1))
  have e2 : fX7_appendCharacter v1 [MO, I (xs (i + 1))] = some (v2, some (I r)) := e2
  refine ⟨v2, (qL_458 L xs v (nI i)).trans ?_, h2⟩
  simp only [show nI i + (1 : Int32) = nI (i + 1) from i_add i 1]
  exact (bI_eq (f99 v (show i + 1 < L by omega) hL)).trans ((bI_eq e1).trans ((bI_eq (f99 v1 (show i + 1 < L by omega) hL)).trans ((bI_eq e2).trans (if_pos rfl))))
theorem yc_clearText (hb : Bd n v) (hn : n ≤ 1000) (hi : i + 7 ≤ L) (hL : L ≤ 3584) : ∃ v', gL_475 L xs v (nI i) = gL_756 L xs v' (nI i) ∧ Bd (n + 1) v' := by
  obtain ⟨r, v1, v2, e1, e2, h2⟩ := z_clearText hb hn 
  have e2 : fX7_clearText v1 [MO] = some (v2, some (I r)) := e2
  refine ⟨v2, (qL_475 L xs v (nI i)).trans ?_, h2⟩
  exact (bI_eq e1).trans ((bI_eq e2).trans (if_pos rfl))
theorem yc_runScript (hb : Bd n v) (hn : n ≤ 1000) (hi : i + 7 ≤ L) (hL : L ≤ 3584) : ∃ v', gL_482 L xs v (nI i) = gL_756 L xs v' (nI i) ∧ Bd (n + 1) v' := by
  obtain ⟨r, v1, v2, e1, e2, h2⟩ := z_runScript hb hn 
  have e2 : fX7_runScript v1 [MO] = some (v2, some (I r)) := e2
  refine ⟨v2, (qL_482 L xs v (nI i)).trans ?_, h2⟩
  exact (bI_eq e1).trans ((bI_eq e2).trans (if_pos rfl))
theorem yc_count (hb : Bd n v) (hn : n ≤ 1000) (hi : i + 7 ≤ L) (hL : L ≤ 3584) : ∃ v', gL_489 L xs v (nI i) = gL_756 L xs v' (nI i) ∧ Bd (n + 1) v' := by
  obtain ⟨r, v1, v2, e1, e2, h2⟩ := z_count hb hn (xs (i + 1))
  have e2 : fX7_count v1 [MO, I (xs (i + 1))] = some (v2, some (I r)) := e2
  refine ⟨v2, (qL_489 L xs v (nI i)).trans ?_, h2⟩
  simp only [show nI i + (1 : Int32) = nI (i + 1) from i_add i 1]
  exact (bI_eq (f99 v (show i + 1 < L by omega) hL)).trans ((bI_eq e1).trans ((bI_eq (f99 v1 (show i + 1 < L by omega) hL)).trans ((bI_eq e2).trans (if_pos rfl))))
theorem yc_lot (hb : Bd n v) (hn : n ≤ 1000) (hi : i + 7 ≤ L) (hL : L ≤ 3584) : ∃ v', gL_506 L xs v (nI i) = gL_756 L xs v' (nI i) ∧ Bd (n + 1) v' := by
  obtain ⟨r, v1, v2, e1, e2, h2⟩ := z_lot hb hn (xs (i + 1)) (xs (i + 2))
  have e2 : fX7_lot v1 [MO, I (xs (i + 1)), I (xs (i + 2))] = some (v2, some (I r)) := e2
  refine ⟨v2, (qL_506 L xs v (nI i)).trans ?_, h2⟩
  simp only [show nI i + (1 : Int32) = nI (i + 1) from i_add i 1, show nI i + (2 : Int32) = nI (i + 2) from i_add i 2]
  exact (bI_eq (f99 v (show i + 1 < L by omega) hL)).trans ((bI_eq (f99 v (show i + 2 < L by omega) hL)).trans ((bI_eq e1).trans ((bI_eq (f99 v1 (show i + 1 < L by omega) hL)).trans ((bI_eq (f99 v1 (show i + 2 < L by omega) hL)).trans ((bI_eq e2).trans (if_pos rfl))))))
theorem yc_variety (hb : Bd n v) (hn : n ≤ 1000) (hi : i + 7 ≤ L) (hL : L ≤ 3584) : ∃ v', gL_533 L xs v (nI i) = gL_756 L xs v' (nI i) ∧ Bd (n + 1) v' := by
  obtain ⟨r, v1, v2, e1, e2, h2⟩ := z_variety hb hn (xs (i + 1)) (xs (i + 2))
  have e2 : fX7_variety v1 [MO, I (xs (i + 1)), I (xs (i + 2))] = some (v2, some (I r)) := e2
  refine ⟨v2, (qL_533 L xs v (nI i)).trans ?_, h2⟩
  simp only [show nI i + (1 : Int32) = nI (i + 1) from i_add i 1, show nI i + (2 : Int32) = nI (i + 2) from i_add i 2]
  exact (bI_eq (f99 v (show i + 1 < L by omega) hL)).trans ((bI_eq (f99 v (show i + 2 < L by omega) hL)).trans ((bI_eq e1).trans ((bI_eq (f99 v1 (show i + 1 < L by omega) hL)).trans ((bI_eq (f99 v1 (show i + 2 < L by omega) hL)).trans ((bI_eq e2).trans (if_pos rfl))))))
theorem yc_tank (hb : Bd n v) (hn : n ≤ 1000) (hi : i + 7 ≤ L) (hL : L ≤ 3584) : ∃ v', gL_560 L xs v (nI i) = gL_756 L xs v' (nI i) ∧ Bd (n + 1) v' := by
  obtain ⟨r, v1, v2, e1, e2, h2⟩ := z_tank hb hn (xs (i + 1)) (xs (i + 2))
  have e2 : fX7_tank v1 [MO, I (xs (i + 1)), I (xs (i + 2))] = some (v2, some (I r)) := e2
  refine ⟨v2, (qL_560 L xs v (nI i)).trans ?_, h2⟩
  simp only [show nI i + (1 : Int32) = nI (i + 1) from i_add i 1, show nI i + (2 : Int32) = nI (i + 2) from i_add i 2]
  exact (bI_eq (f99 v (show i + 1 < L by omega) hL)).trans ((bI_eq (f99 v (show i + 2 < L by omega) hL)).trans ((bI_eq e1).trans ((bI_eq (f99 v1 (show i + 1 < L by omega) hL)).trans ((bI_eq (f99 v1 (show i + 2 < L by omega) hL)).trans ((bI_eq e2).trans (if_pos rfl))))))
theorem yc_share (hb : Bd n v) (hn : n ≤ 1000) (hi : i + 7 ≤ L) (hL : L ≤ 3584) : ∃ v', gL_587 L xs v (nI i) = gL_756 L xs v' (nI i) ∧ Bd (n + 1) v' := by
  obtain ⟨r, v1, v2, e1, e2, h2⟩ := z_share hb hn (xs (i + 1)) (xs (i + 2))
  have e2 : fX7_share v1 [MO, I (xs (i + 1)), I (xs (i + 2))] = some (v2, some (I r)) := e2
  refine ⟨v2, (qL_587 L xs v (nI i)).trans ?_, h2⟩
  simp only [show nI i + (1 : Int32) = nI (i + 1) from i_add i 1, show nI i + (2 : Int32) = nI (i + 2) from i_add i 2]
  exact (bI_eq (f99 v (show i + 1 < L by omega) hL)).trans ((bI_eq (f99 v (show i + 2 < L by omega) hL)).trans ((bI_eq e1).trans ((bI_eq (f99 v1 (show i + 1 < L by omega) hL)).trans ((bI_eq (f99 v1 (show i + 2 < L by omega) hL)).trans ((bI_eq e2).trans (if_pos rfl))))))
theorem yc_why (hb : Bd n v) (hn : n ≤ 1000) (hi : i + 7 ≤ L) (hL : L ≤ 3584) : ∃ v', gL_614 L xs v (nI i) = gL_756 L xs v' (nI i) ∧ Bd (n + 1) v' := by
  obtain ⟨r, v1, v2, e1, e2, h2⟩ := z_why hb hn (xs (i + 1)) (xs (i + 2))
  have e2 : fX7_why v1 [MO, I (xs (i + 1)), I (xs (i + 2))] = some (v2, some (I r)) := e2
  refine ⟨v2, (qL_614 L xs v (nI i)).trans ?_, h2⟩
  simp only [show nI i + (1 : Int32) = nI (i + 1) from i_add i 1, show nI i + (2 : Int32) = nI (i + 2) from i_add i 2]
  exact (bI_eq (f99 v (show i + 1 < L by omega) hL)).trans ((bI_eq (f99 v (show i + 2 < L by omega) hL)).trans ((bI_eq e1).trans ((bI_eq (f99 v1 (show i + 1 < L by omega) hL)).trans ((bI_eq (f99 v1 (show i + 2 < L by omega) hL)).trans ((bI_eq e2).trans (if_pos rfl))))))
theorem yc_account (hb : Bd n v) (hn : n ≤ 1000) (hi : i + 7 ≤ L) (hL : L ≤ 3584) : ∃ v', gL_641 L xs v (nI i) = gL_756 L xs v' (nI i) ∧ Bd (n + 1) v' := by
  obtain ⟨r, v1, v2, e1, e2, h2⟩ := z_account hb hn (xs (i + 1))
  have e2 : fX7_account v1 [MO, I (xs (i + 1))] = some (v2, some (I r)) := e2
  refine ⟨v2, (qL_641 L xs v (nI i)).trans ?_, h2⟩
  simp only [show nI i + (1 : Int32) = nI (i + 1) from i_add i 1]
  exact (bI_eq (f99 v (show i + 1 < L by omega) hL)).trans ((bI_eq e1).trans ((bI_eq (f99 v1 (show i + 1 < L by omega) hL)).trans ((bI_eq e2).trans (if_pos rfl))))
theorem yc_bottles (hb : Bd n v) (hn : n ≤ 1000) (hi : i + 7 ≤ L) (hL : L ≤ 3584) : ∃ v', gL_658 L xs v (nI i) = gL_756 L xs v' (nI i) ∧ Bd (n + 1) v' := by
  obtain ⟨r, v1, v2, e1, e2, h2⟩ := z_bottles hb hn (xs (i + 1)) (xs (i + 2))
  have e2 : fX7_bottles v1 [MO, I (xs (i + 1)), I (xs (i + 2))] = some (v2, some (I r)) := e2
  refine ⟨v2, (qL_658 L xs v (nI i)).trans ?_, h2⟩
  simp only [show nI i + (1 : Int32) = nI (i + 1) from i_add i 1, show nI i + (2 : Int32) = nI (i + 2) from i_add i 2]
  exact (bI_eq (f99 v (show i + 1 < L by omega) hL)).trans ((bI_eq (f99 v (show i + 2 < L by omega) hL)).trans ((bI_eq e1).trans ((bI_eq (f99 v1 (show i + 1 < L by omega) hL)).trans ((bI_eq (f99 v1 (show i + 2 < L by omega) hL)).trans ((bI_eq e2).trans (if_pos rfl))))))
theorem yc_daysTo (hb : Bd n v) (hn : n ≤ 1000) (hi : i + 7 ≤ L) (hL : L ≤ 3584) : ∃ v', gL_685 L xs v (nI i) = gL_756 L xs v' (nI i) ∧ Bd (n + 1) v' := by
  obtain ⟨r, v1, v2, e1, e2, h2⟩ := z_daysTo hb hn (xs (i + 1)) (xs (i + 2))
  have e2 : fX7_daysTo v1 [MO, I (xs (i + 1)), I (xs (i + 2))] = some (v2, some (I r)) := e2
  refine ⟨v2, (qL_685 L xs v (nI i)).trans ?_, h2⟩
  simp only [show nI i + (1 : Int32) = nI (i + 1) from i_add i 1, show nI i + (2 : Int32) = nI (i + 2) from i_add i 2]
  exact (bI_eq (f99 v (show i + 1 < L by omega) hL)).trans ((bI_eq (f99 v (show i + 2 < L by omega) hL)).trans ((bI_eq e1).trans ((bI_eq (f99 v1 (show i + 1 < L by omega) hL)).trans ((bI_eq (f99 v1 (show i + 2 < L by omega) hL)).trans ((bI_eq e2).trans (if_pos rfl))))))
theorem yc_blendFor (hb : Bd n v) (hn : n ≤ 1000) (hi : i + 7 ≤ L) (hL : L ≤ 3584) : ∃ v', gL_712 L xs v (nI i) = gL_756 L xs v' (nI i) ∧ Bd (n + 1) v' := by
  obtain ⟨r, v1, v2, e1, e2, h2⟩ := z_blendFor hb hn (xs (i + 1)) (xs (i + 2)) (xs (i + 3))
  have e2 : fX7_blendFor v1 [MO, I (xs (i + 1)), I (xs (i + 2)), I (xs (i + 3))] = some (v2, some (I r)) := e2
  refine ⟨v2, (qL_712 L xs v (nI i)).trans ?_, h2⟩
  simp only [show nI i + (1 : Int32) = nI (i + 1) from i_add i 1, show nI i + (2 : Int32) = nI (i + 2) from i_add i 2, show nI i + (3 : Int32) = nI (i + 3) from i_add i 3]
  exact (bI_eq (f99 v (show i + 1 < L by omega) hL)).trans ((bI_eq (f99 v (show i + 2 < L by omega) hL)).trans ((bI_eq (f99 v (show i + 3 < L by omega) hL)).trans ((bI_eq e1).trans ((bI_eq (f99 v1 (show i + 1 < L by omega) hL)).trans ((bI_eq (f99 v1 (show i + 2 < L by omega) hL)).trans ((bI_eq (f99 v1 (show i + 3 < L by omega) hL)).trans ((bI_eq e2).trans (if_pos rfl))))))))
theorem yc_undo (hb : Bd n v) (hn : n ≤ 1000) (hi : i + 7 ≤ L) (hL : L ≤ 3584) : ∃ v', gL_749 L xs v (nI i) = gL_756 L xs v' (nI i) ∧ Bd (n + 1) v' := by
  obtain ⟨r, v1, v2, e1, e2, h2⟩ := z_undo hb hn 
  have e2 : fX7_undo v1 [MO] = some (v2, some (I r)) := e2
  refine ⟨v2, (qL_749 L xs v (nI i)).trans ?_, h2⟩
  exact (bI_eq e1).trans ((bI_eq e2).trans (if_pos rfl))
theorem law_d (v : MM) : gL_756 L xs v (nI i) = gL_18 L xs v (nI (i + 7)) := (qL_756 L xs v (nI i)).trans (congrArg (gL_18 L xs v) (i_add i 7))
theorem end_lt (h : L < i + 7) (hL : L ≤ 3584) (hi : i ≤ 4000) : nI L - (7 : Int32) < nI i := by
  by_cases c : 7 ≤ L
  · show nI L - nI 7 < nI i
    rw [i_sub c]
    exact ltT rfl rfl (by omega) (by omega)
  · have h0 : nI L - (7 : Int32) < 0 := by
      rcases (show L = 0 ∨ L = 1 ∨ L = 2 ∨ L = 3 ∨ L = 4 ∨ L = 5 ∨ L = 6 by omega) with rfl | rfl | rfl | rfl | rfl | rfl | rfl <;> decide
    exact Int32.lt_of_lt_of_le h0 (nI_pos' (by omega))
theorem law_step (hb : Bd n v) (hn : n ≤ 1000) (hi : i + 7 ≤ L) (hL : L ≤ 3584) : ∃ v', gL_18 L xs v (nI i) = gL_18 L xs v' (nI (i + 7)) ∧ Bd (n + 1) v' := by
  have ng : ¬ nI L - (7 : Int32) < nI i := by
    show ¬ nI L - nI 7 < nI i
    rw [i_sub (show 7 ≤ L by omega)]
    exact ltF rfl rfl (by omega) (by omega)
  have st := (qL_18 L xs v (nI i)).trans ((bI_eq (f98 L xs v)).trans ((if_neg ng).trans (bI_eq (f99 v (show i < L by omega) hL))))
  by_cases k0 : xs i &&& (31 : Int32) = 0
  · obtain ⟨v', e, h⟩ := yc_setVariety (xs := xs) hb hn hi hL
    exact ⟨v', st.trans (Eq.trans (if_pos k0) (e.trans (law_d v'))), h⟩
  by_cases k1 : xs i &&& (31 : Int32) = 1
  · obtain ⟨v', e, h⟩ := yc_setRates (xs := xs) hb hn hi hL
    exact ⟨v', st.trans (Eq.trans ((if_neg k0).trans (if_pos k1)) (e.trans (law_d v'))), h⟩
  by_cases k2 : xs i &&& (31 : Int32) = 2
  · obtain ⟨v', e, h⟩ := yc_setLabel (xs := xs) hb hn hi hL
    exact ⟨v', st.trans (Eq.trans ((if_neg k0).trans ((if_neg k1).trans (if_pos k2))) (e.trans (law_d v'))), h⟩
  by_cases k3 : xs i &&& (31 : Int32) = 3
  · obtain ⟨v', e, h⟩ := yc_buy (xs := xs) hb hn hi hL
    exact ⟨v', st.trans (Eq.trans ((if_neg k0).trans ((if_neg k1).trans ((if_neg k2).trans (if_pos k3)))) (e.trans (law_d v'))), h⟩
  by_cases k4 : xs i &&& (31 : Int32) = 4
  · obtain ⟨v', e, h⟩ := yc_addTank (xs := xs) hb hn hi hL
    exact ⟨v', st.trans (Eq.trans ((if_neg k0).trans ((if_neg k1).trans ((if_neg k2).trans ((if_neg k3).trans (if_pos k4))))) (e.trans (law_d v'))), h⟩
  by_cases k5 : xs i &&& (31 : Int32) = 5
  · obtain ⟨v', e, h⟩ := yc_press (xs := xs) hb hn hi hL
    exact ⟨v', st.trans (Eq.trans ((if_neg k0).trans ((if_neg k1).trans ((if_neg k2).trans ((if_neg k3).trans ((if_neg k4).trans (if_pos k5)))))) (e.trans (law_d v'))), h⟩
  by_cases k6 : xs i &&& (31 : Int32) = 6
  · obtain ⟨v', e, h⟩ := yc_wet (xs := xs) hb hn hi hL
    exact ⟨v', st.trans (Eq.trans ((if_neg k0).trans ((if_neg k1).trans ((if_neg k2).trans ((if_neg k3).trans ((if_neg k4).trans ((if_neg k5).trans (if_pos k6))))))) (e.trans (law_d v'))), h⟩
  by_cases k7 : xs i &&& (31 : Int32) = 7
  · obtain ⟨v', e, h⟩ := yc_sellPomace (xs := xs) hb hn hi hL
    exact ⟨v', st.trans (Eq.trans ((if_neg k0).trans ((if_neg k1).trans ((if_neg k2).trans ((if_neg k3).trans ((if_neg k4).trans ((if_neg k5).trans ((if_neg k6).trans (if_pos k7)))))))) (e.trans (law_d v'))), h⟩
  by_cases k8 : xs i &&& (31 : Int32) = 8
  · obtain ⟨v', e, h⟩ := yc_move (xs := xs) hb hn hi hL
    exact ⟨v', st.trans (Eq.trans ((if_neg k0).trans ((if_neg k1).trans ((if_neg k2).trans ((if_neg k3).trans ((if_neg k4).trans ((if_neg k5).trans ((if_neg k6).trans ((if_neg k7).trans (if_pos k8))))))))) (e.trans (law_d v'))), h⟩
  by_cases k9 : xs i &&& (31 : Int32) = 9
  · obtain ⟨v', e, h⟩ := yc_rack (xs := xs) hb hn hi hL
    exact ⟨v', st.trans (Eq.trans ((if_neg k0).trans ((if_neg k1).trans ((if_neg k2).trans ((if_neg k3).trans ((if_neg k4).trans ((if_neg k5).trans ((if_neg k6).trans ((if_neg k7).trans ((if_neg k8).trans (if_pos k9)))))))))) (e.trans (law_d v'))), h⟩
  by_cases k10 : xs i &&& (31 : Int32) = 10
  · obtain ⟨v', e, h⟩ := yc_clean (xs := xs) hb hn hi hL
    exact ⟨v', st.trans (Eq.trans ((if_neg k0).trans ((if_neg k1).trans ((if_neg k2).trans ((if_neg k3).trans ((if_neg k4).trans ((if_neg k5).trans ((if_neg k6).trans ((if_neg k7).trans ((if_neg k8).trans ((if_neg k9).trans (if_pos k10))))))))))) (e.trans (law_d v'))), h⟩
  by_cases k11 : xs i &&& (31 : Int32) = 11
  · obtain ⟨v', e, h⟩ := yc_pour (xs := xs) hb hn hi hL
    exact ⟨v', st.trans (Eq.trans ((if_neg k0).trans ((if_neg k1).trans ((if_neg k2).trans ((if_neg k3).trans ((if_neg k4).trans ((if_neg k5).trans ((if_neg k6).trans ((if_neg k7).trans ((if_neg k8).trans ((if_neg k9).trans ((if_neg k10).trans (if_pos k11)))))))))))) (e.trans (law_d v'))), h⟩
  by_cases k12 : xs i &&& (31 : Int32) = 12
  · obtain ⟨v', e, h⟩ := yc_bottle (xs := xs) hb hn hi hL
    exact ⟨v', st.trans (Eq.trans ((if_neg k0).trans ((if_neg k1).trans ((if_neg k2).trans ((if_neg k3).trans ((if_neg k4).trans ((if_neg k5).trans ((if_neg k6).trans ((if_neg k7).trans ((if_neg k8).trans ((if_neg k9).trans ((if_neg k10).trans ((if_neg k11).trans (if_pos k12))))))))))))) (e.trans (law_d v'))), h⟩
  by_cases k13 : xs i &&& (31 : Int32) = 13
  · obtain ⟨v', e, h⟩ := yc_day (xs := xs) hb hn hi hL
    exact ⟨v', st.trans (Eq.trans ((if_neg k0).trans ((if_neg k1).trans ((if_neg k2).trans ((if_neg k3).trans ((if_neg k4).trans ((if_neg k5).trans ((if_neg k6).trans ((if_neg k7).trans ((if_neg k8).trans ((if_neg k9).trans ((if_neg k10).trans ((if_neg k11).trans ((if_neg k12).trans (if_pos k13)))))))))))))) (e.trans (law_d v'))), h⟩
  by_cases k14 : xs i &&& (31 : Int32) = 14
  · obtain ⟨v', e, h⟩ := yc_appendCharacter (xs := xs) hb hn hi hL
    exact ⟨v', st.trans (Eq.trans ((if_neg k0).trans ((if_neg k1).trans ((if_neg k2).trans ((if_neg k3).trans ((if_neg k4).trans ((if_neg k5).trans ((if_neg k6).trans ((if_neg k7).trans ((if_neg k8).trans ((if_neg k9).trans ((if_neg k10).trans ((if_neg k11).trans ((if_neg k12).trans ((if_neg k13).trans (if_pos k14))))))))))))))) (e.trans (law_d v'))), h⟩
  by_cases k15 : xs i &&& (31 : Int32) = 15
  · obtain ⟨v', e, h⟩ := yc_clearText (xs := xs) hb hn hi hL
    exact ⟨v', st.trans (Eq.trans ((if_neg k0).trans ((if_neg k1).trans ((if_neg k2).trans ((if_neg k3).trans ((if_neg k4).trans ((if_neg k5).trans ((if_neg k6).trans ((if_neg k7).trans ((if_neg k8).trans ((if_neg k9).trans ((if_neg k10).trans ((if_neg k11).trans ((if_neg k12).trans ((if_neg k13).trans ((if_neg k14).trans (if_pos k15)))))))))))))))) (e.trans (law_d v'))), h⟩
  by_cases k16 : xs i &&& (31 : Int32) = 16
  · obtain ⟨v', e, h⟩ := yc_runScript (xs := xs) hb hn hi hL
    exact ⟨v', st.trans (Eq.trans ((if_neg k0).trans ((if_neg k1).trans ((if_neg k2).trans ((if_neg k3).trans ((if_neg k4).trans ((if_neg k5).trans ((if_neg k6).trans ((if_neg k7).trans ((if_neg k8).trans ((if_neg k9).trans ((if_neg k10).trans ((if_neg k11).trans ((if_neg k12).trans ((if_neg k13).trans ((if_neg k14).trans ((if_neg k15).trans (if_pos k16))))))))))))))))) (e.trans (law_d v'))), h⟩
  by_cases k17 : xs i &&& (31 : Int32) = 17
  · obtain ⟨v', e, h⟩ := yc_count (xs := xs) hb hn hi hL
    exact ⟨v', st.trans (Eq.trans ((if_neg k0).trans ((if_neg k1).trans ((if_neg k2).trans ((if_neg k3).trans ((if_neg k4).trans ((if_neg k5).trans ((if_neg k6).trans ((if_neg k7).trans ((if_neg k8).trans ((if_neg k9).trans ((if_neg k10).trans ((if_neg k11).trans ((if_neg k12).trans ((if_neg k13).trans ((if_neg k14).trans ((if_neg k15).trans ((if_neg k16).trans (if_pos k17)))))))))))))))))) (e.trans (law_d v'))), h⟩
  by_cases k18 : xs i &&& (31 : Int32) = 18
  · obtain ⟨v', e, h⟩ := yc_lot (xs := xs) hb hn hi hL
    exact ⟨v', st.trans (Eq.trans ((if_neg k0).trans ((if_neg k1).trans ((if_neg k2).trans ((if_neg k3).trans ((if_neg k4).trans ((if_neg k5).trans ((if_neg k6).trans ((if_neg k7).trans ((if_neg k8).trans ((if_neg k9).trans ((if_neg k10).trans ((if_neg k11).trans ((if_neg k12).trans ((if_neg k13).trans ((if_neg k14).trans ((if_neg k15).trans ((if_neg k16).trans ((if_neg k17).trans (if_pos k18))))))))))))))))))) (e.trans (law_d v'))), h⟩
  by_cases k19 : xs i &&& (31 : Int32) = 19
  · obtain ⟨v', e, h⟩ := yc_variety (xs := xs) hb hn hi hL
    exact ⟨v', st.trans (Eq.trans ((if_neg k0).trans ((if_neg k1).trans ((if_neg k2).trans ((if_neg k3).trans ((if_neg k4).trans ((if_neg k5).trans ((if_neg k6).trans ((if_neg k7).trans ((if_neg k8).trans ((if_neg k9).trans ((if_neg k10).trans ((if_neg k11).trans ((if_neg k12).trans ((if_neg k13).trans ((if_neg k14).trans ((if_neg k15).trans ((if_neg k16).trans ((if_neg k17).trans ((if_neg k18).trans (if_pos k19)))))))))))))))))))) (e.trans (law_d v'))), h⟩
  by_cases k20 : xs i &&& (31 : Int32) = 20
  · obtain ⟨v', e, h⟩ := yc_tank (xs := xs) hb hn hi hL
    exact ⟨v', st.trans (Eq.trans ((if_neg k0).trans ((if_neg k1).trans ((if_neg k2).trans ((if_neg k3).trans ((if_neg k4).trans ((if_neg k5).trans ((if_neg k6).trans ((if_neg k7).trans ((if_neg k8).trans ((if_neg k9).trans ((if_neg k10).trans ((if_neg k11).trans ((if_neg k12).trans ((if_neg k13).trans ((if_neg k14).trans ((if_neg k15).trans ((if_neg k16).trans ((if_neg k17).trans ((if_neg k18).trans ((if_neg k19).trans (if_pos k20))))))))))))))))))))) (e.trans (law_d v'))), h⟩
  by_cases k21 : xs i &&& (31 : Int32) = 21
  · obtain ⟨v', e, h⟩ := yc_share (xs := xs) hb hn hi hL
    exact ⟨v', st.trans (Eq.trans ((if_neg k0).trans ((if_neg k1).trans ((if_neg k2).trans ((if_neg k3).trans ((if_neg k4).trans ((if_neg k5).trans ((if_neg k6).trans ((if_neg k7).trans ((if_neg k8).trans ((if_neg k9).trans ((if_neg k10).trans ((if_neg k11).trans ((if_neg k12).trans ((if_neg k13).trans ((if_neg k14).trans ((if_neg k15).trans ((if_neg k16).trans ((if_neg k17).trans ((if_neg k18).trans ((if_neg k19).trans ((if_neg k20).trans (if_pos k21)))))))))))))))))))))) (e.trans (law_d v'))), h⟩
  by_cases k22 : xs i &&& (31 : Int32) = 22
  · obtain ⟨v', e, h⟩ := yc_why (xs := xs) hb hn hi hL
    exact ⟨v', st.trans (Eq.trans ((if_neg k0).trans ((if_neg k1).trans ((if_neg k2).trans ((if_neg k3).trans ((if_neg k4).trans ((if_neg k5).trans ((if_neg k6).trans ((if_neg k7).trans ((if_neg k8).trans ((if_neg k9).trans ((if_neg k10).trans ((if_neg k11).trans ((if_neg k12).trans ((if_neg k13).trans ((if_neg k14).trans ((if_neg k15).trans ((if_neg k16).trans ((if_neg k17).trans ((if_neg k18).trans ((if_neg k19).trans ((if_neg k20).trans ((if_neg k21).trans (if_pos k22))))))))))))))))))))))) (e.trans (law_d v'))), h⟩
  by_cases k23 : xs i &&& (31 : Int32) = 23
  · obtain ⟨v', e, h⟩ := yc_account (xs := xs) hb hn hi hL
    exact ⟨v', st.trans (Eq.trans ((if_neg k0).trans ((if_neg k1).trans ((if_neg k2).trans ((if_neg k3).trans ((if_neg k4).trans ((if_neg k5).trans ((if_neg k6).trans ((if_neg k7).trans ((if_neg k8).trans ((if_neg k9).trans ((if_neg k10).trans ((if_neg k11).trans ((if_neg k12).trans ((if_neg k13).trans ((if_neg k14).trans ((if_neg k15).trans ((if_neg k16).trans ((if_neg k17).trans ((if_neg k18).trans ((if_neg k19).trans ((if_neg k20).trans ((if_neg k21).trans ((if_neg k22).trans (if_pos k23)))))))))))))))))))))))) (e.trans (law_d v'))), h⟩
  by_cases k24 : xs i &&& (31 : Int32) = 24
  · obtain ⟨v', e, h⟩ := yc_bottles (xs := xs) hb hn hi hL
    exact ⟨v', st.trans (Eq.trans ((if_neg k0).trans ((if_neg k1).trans ((if_neg k2).trans ((if_neg k3).trans ((if_neg k4).trans ((if_neg k5).trans ((if_neg k6).trans ((if_neg k7).trans ((if_neg k8).trans ((if_neg k9).trans ((if_neg k10).trans ((if_neg k11).trans ((if_neg k12).trans ((if_neg k13).trans ((if_neg k14).trans ((if_neg k15).trans ((if_neg k16).trans ((if_neg k17).trans ((if_neg k18).trans ((if_neg k19).trans ((if_neg k20).trans ((if_neg k21).trans ((if_neg k22).trans ((if_neg k23).trans (if_pos k24))))))))))))))))))))))))) (e.trans (law_d v'))), h⟩
  by_cases k25 : xs i &&& (31 : Int32) = 25
  · obtain ⟨v', e, h⟩ := yc_daysTo (xs := xs) hb hn hi hL
    exact ⟨v', st.trans (Eq.trans ((if_neg k0).trans ((if_neg k1).trans ((if_neg k2).trans ((if_neg k3).trans ((if_neg k4).trans ((if_neg k5).trans ((if_neg k6).trans ((if_neg k7).trans ((if_neg k8).trans ((if_neg k9).trans ((if_neg k10).trans ((if_neg k11).trans ((if_neg k12).trans ((if_neg k13).trans ((if_neg k14).trans ((if_neg k15).trans ((if_neg k16).trans ((if_neg k17).trans ((if_neg k18).trans ((if_neg k19).trans ((if_neg k20).trans ((if_neg k21).trans ((if_neg k22).trans ((if_neg k23).trans ((if_neg k24).trans (if_pos k25)))))))))))))))))))))))))) (e.trans (law_d v'))), h⟩
  by_cases k26 : xs i &&& (31 : Int32) = 26
  · obtain ⟨v', e, h⟩ := yc_blendFor (xs := xs) hb hn hi hL
    exact ⟨v', st.trans (Eq.trans ((if_neg k0).trans ((if_neg k1).trans ((if_neg k2).trans ((if_neg k3).trans ((if_neg k4).trans ((if_neg k5).trans ((if_neg k6).trans ((if_neg k7).trans ((if_neg k8).trans ((if_neg k9).trans ((if_neg k10).trans ((if_neg k11).trans ((if_neg k12).trans ((if_neg k13).trans ((if_neg k14).trans ((if_neg k15).trans ((if_neg k16).trans ((if_neg k17).trans ((if_neg k18).trans ((if_neg k19).trans ((if_neg k20).trans ((if_neg k21).trans ((if_neg k22).trans ((if_neg k23).trans ((if_neg k24).trans ((if_neg k25).trans (if_pos k26))))))))))))))))))))))))))) (e.trans (law_d v'))), h⟩
  by_cases k27 : xs i &&& (31 : Int32) = 27
  · obtain ⟨v', e, h⟩ := yc_undo (xs := xs) hb hn hi hL
    exact ⟨v', st.trans (Eq.trans ((if_neg k0).trans ((if_neg k1).trans ((if_neg k2).trans ((if_neg k3).trans ((if_neg k4).trans ((if_neg k5).trans ((if_neg k6).trans ((if_neg k7).trans ((if_neg k8).trans ((if_neg k9).trans ((if_neg k10).trans ((if_neg k11).trans ((if_neg k12).trans ((if_neg k13).trans ((if_neg k14).trans ((if_neg k15).trans ((if_neg k16).trans ((if_neg k17).trans ((if_neg k18).trans ((if_neg k19).trans ((if_neg k20).trans ((if_neg k21).trans ((if_neg k22).trans ((if_neg k23).trans ((if_neg k24).trans ((if_neg k25).trans ((if_neg k26).trans (if_pos k27)))))))))))))))))))))))))))) (e.trans (law_d v'))), h⟩
  exact ⟨v, st.trans (Eq.trans ((if_neg k0).trans ((if_neg k1).trans ((if_neg k2).trans ((if_neg k3).trans ((if_neg k4).trans ((if_neg k5).trans ((if_neg k6).trans ((if_neg k7).trans ((if_neg k8).trans ((if_neg k9).trans ((if_neg k10).trans ((if_neg k11).trans ((if_neg k12).trans ((if_neg k13).trans ((if_neg k14).trans ((if_neg k15).trans ((if_neg k16).trans ((if_neg k17).trans ((if_neg k18).trans ((if_neg k19).trans ((if_neg k20).trans ((if_neg k21).trans ((if_neg k22).trans ((if_neg k23).trans ((if_neg k24).trans ((if_neg k25).trans ((if_neg k26).trans (if_neg k27)))))))))))))))))))))))))))) (law_d v)), hb.up⟩
theorem law_loop (hL : L ≤ 3584) : ∀ m i n (v : MM), L ≤ i + m → i ≤ 4000 → 7 * n ≤ i → Bd n v → ∃ v', gL_18 L xs v (nI i) = some (v', some (I 1))
  | 0, i, n, v, hm, hi, hn, hb => ⟨v, (qL_18 L xs v (nI i)).trans ((bI_eq (f98 L xs v)).trans (if_pos (end_lt (by omega) hL hi)))⟩
  | m + 1, i, n, v, hm, hi, hn, hb => by
    by_cases c : i + 7 ≤ L
    · obtain ⟨v1, e1, h1⟩ := law_step (xs := xs) hb (by omega) c hL
      obtain ⟨v2, e2⟩ := law_loop hL m (i + 7) (n + 1) v1 (by omega) (by omega) (by omega) h1
      exact ⟨v2, e1.trans e2⟩
    · exact ⟨v, (qL_18 L xs v (nI i)).trans ((bI_eq (f98 L xs v)).trans (if_pos (end_lt (by omega) hL hi)))⟩
end
