-- EVERY CALL, from between two calls to between the next two
section
variable {n : Nat} {v : MM}
theorem z_setVariety (h : Bd n v) (hn : n ≤ 1000) (x1 x2 x3 x4 : Int32) : Cl n (fX6_setVariety v [SH, I x1, I x2, I x3, I x4]) (fun w => fX7_setVariety w [MO, I x1, I x2, I x3, I x4]) := by
  obtain ⟨B, p, c, a, T, L, h, ht, hb⟩ := h
  exact (k_setVariety h x1 x2 x3 x4).to9.cl ht hb
theorem z_setRates (h : Bd n v) (hn : n ≤ 1000) (x1 x2 x3 x4 : Int32) : Cl n (fX6_setRates v [SH, I x1, I x2, I x3, I x4]) (fun w => fX7_setRates w [MO, I x1, I x2, I x3, I x4]) := by
  obtain ⟨B, p, c, a, T, L, h, ht, hb⟩ := h
  exact (k_setRates h x1 x2 x3 x4).to9.cl ht hb
theorem z_setLabel (h : Bd n v) (hn : n ≤ 1000) (x1 x2 x3 x4 x5 x6 : Int32) : Cl n (fX6_setLabel v [SH, I x1, I x2, I x3, I x4, I x5, I x6]) (fun w => fX7_setLabel w [MO, I x1, I x2, I x3, I x4, I x5, I x6]) := by
  obtain ⟨B, p, c, a, T, L, h, ht, hb⟩ := h
  exact (k_setLabel h x1 x2 x3 x4 x5 x6).to9.cl ht hb
theorem z_buy (h : Bd n v) (hn : n ≤ 1000) (x1 x2 : Int32) : Cl n (fX6_buy v [SH, I x1, I x2]) (fun w => fX7_buy w [MO, I x1, I x2]) := by
  obtain ⟨B, p, c, a, T, L, h, ht, hb⟩ := h
  exact (k_buy h x1 x2).to9.cl ht hb
theorem z_addTank (h : Bd n v) (hn : n ≤ 1000) (x1 : Int32) : Cl n (fX6_addTank v [SH, I x1]) (fun w => fX7_addTank w [MO, I x1]) := by
  obtain ⟨B, p, c, a, T, L, h, ht, hb⟩ := h
  exact (k_addTank h x1).to9.cl ht hb
theorem z_press (h : Bd n v) (hn : n ≤ 1000) (x1 x2 x3 : Int32) : Cl n (fX6_press v [SH, I x1, I x2, I x3]) (fun w => fX7_press w [MO, I x1, I x2, I x3]) := by
  obtain ⟨B, p, c, a, T, L, h, ht, hb⟩ := h
  exact (k_press h (by omega) x1 x2 x3).to9.cl ht hb
theorem z_wet (h : Bd n v) (hn : n ≤ 1000) (x1 x2 : Int32) : Cl n (fX6_wet v [SH, I x1, I x2]) (fun w => fX7_wet w [MO, I x1, I x2]) := by
  obtain ⟨B, p, c, a, T, L, h, ht, hb⟩ := h
  exact (k_wet h (by omega) x1 x2).to9.cl ht hb
theorem z_sellPomace (h : Bd n v) (hn : n ≤ 1000) : Cl n (fX6_sellPomace v [SH]) (fun w => fX7_sellPomace w [MO]) := by
  obtain ⟨B, p, c, a, T, L, h, ht, hb⟩ := h
  exact (k_sellPomace h (by omega)).to9.cl ht hb
theorem z_move (h : Bd n v) (hn : n ≤ 1000) (x1 x2 x3 : Int32) : Cl n (fX6_move v [SH, I x1, I x2, I x3]) (fun w => fX7_move w [MO, I x1, I x2, I x3]) := by
  obtain ⟨B, p, c, a, T, L, h, ht, hb⟩ := h
  exact (k_move h (by omega) x1 x2 x3).to9.cl ht hb
theorem z_rack (h : Bd n v) (hn : n ≤ 1000) (x1 x2 : Int32) : Cl n (fX6_rack v [SH, I x1, I x2]) (fun w => fX7_rack w [MO, I x1, I x2]) := by
  obtain ⟨B, p, c, a, T, L, h, ht, hb⟩ := h
  exact (k_rack h (by omega) x1 x2).to9.cl ht hb
theorem z_clean (h : Bd n v) (hn : n ≤ 1000) (x1 : Int32) : Cl n (fX6_clean v [SH, I x1]) (fun w => fX7_clean w [MO, I x1]) := by
  obtain ⟨B, p, c, a, T, L, h, ht, hb⟩ := h
  exact (k_clean h (by omega) x1).to9.cl ht hb
theorem z_pour (h : Bd n v) (hn : n ≤ 1000) (x1 : Int32) : Cl n (fX6_pour v [SH, I x1]) (fun w => fX7_pour w [MO, I x1]) := by
  obtain ⟨B, p, c, a, T, L, h, ht, hb⟩ := h
  exact (k_pour h (by omega) x1).to9.cl ht hb
theorem z_bottle (h : Bd n v) (hn : n ≤ 1000) (x1 x2 x3 x4 : Int32) : Cl n (fX6_bottle v [SH, I x1, I x2, I x3, I x4]) (fun w => fX7_bottle w [MO, I x1, I x2, I x3, I x4]) := by
  obtain ⟨B, p, c, a, T, L, h, ht, hb⟩ := h
  exact (k_bottle h (by omega) x1 x2 x3 x4).to9.cl ht hb
theorem z_day (h : Bd n v) (hn : n ≤ 1000) : Cl n (fX6_day v [SH]) (fun w => fX7_day w [MO]) := by
  obtain ⟨B, p, c, a, T, L, h, ht, hb⟩ := h
  exact (k_day h (by omega)).to9.cl ht hb
theorem z_lot (h : Bd n v) (hn : n ≤ 1000) (x1 x2 : Int32) : Cl n (fX6_lot v [SH, I x1, I x2]) (fun w => fX7_lot w [MO, I x1, I x2]) := by
  obtain ⟨B, p, c, a, T, L, h, ht, hb⟩ := h
  exact (k_lot h x1 x2).to9.cl ht hb
theorem z_variety (h : Bd n v) (hn : n ≤ 1000) (x1 x2 : Int32) : Cl n (fX6_variety v [SH, I x1, I x2]) (fun w => fX7_variety w [MO, I x1, I x2]) := by
  obtain ⟨B, p, c, a, T, L, h, ht, hb⟩ := h
  exact (k_variety h x1 x2).to9.cl ht hb
theorem z_tank (h : Bd n v) (hn : n ≤ 1000) (x1 x2 : Int32) : Cl n (fX6_tank v [SH, I x1, I x2]) (fun w => fX7_tank w [MO, I x1, I x2]) := by
  obtain ⟨B, p, c, a, T, L, h, ht, hb⟩ := h
  exact (k_tank h x1 x2).to9.cl ht hb
theorem z_share (h : Bd n v) (hn : n ≤ 1000) (x1 x2 : Int32) : Cl n (fX6_share v [SH, I x1, I x2]) (fun w => fX7_share w [MO, I x1, I x2]) := by
  obtain ⟨B, p, c, a, T, L, h, ht, hb⟩ := h
  exact (k_share h (by omega) x1 x2).to9.cl ht hb
theorem z_why (h : Bd n v) (hn : n ≤ 1000) (x1 x2 : Int32) : Cl n (fX6_why v [SH, I x1, I x2]) (fun w => fX7_why w [MO, I x1, I x2]) := by
  obtain ⟨B, p, c, a, T, L, h, ht, hb⟩ := h
  exact (k_why h (by omega) x1 x2).to9.cl ht hb
theorem z_account (h : Bd n v) (hn : n ≤ 1000) (x1 : Int32) : Cl n (fX6_account v [SH, I x1]) (fun w => fX7_account w [MO, I x1]) := by
  obtain ⟨B, p, c, a, T, L, h, ht, hb⟩ := h
  exact (k_account h x1).to9.cl ht hb
theorem z_bottles (h : Bd n v) (hn : n ≤ 1000) (x1 x2 : Int32) : Cl n (fX6_bottles v [SH, I x1, I x2]) (fun w => fX7_bottles w [MO, I x1, I x2]) := by
  obtain ⟨B, p, c, a, T, L, h, ht, hb⟩ := h
  exact (k_bottles h x1 x2).to9.cl ht hb
theorem z_daysTo (h : Bd n v) (hn : n ≤ 1000) (x1 x2 : Int32) : Cl n (fX6_daysTo v [SH, I x1, I x2]) (fun w => fX7_daysTo w [MO, I x1, I x2]) := by
  obtain ⟨B, p, c, a, T, L, h, ht, hb⟩ := h
  exact (k_daysTo h (by omega) x1 x2).cl ht hb
theorem z_blendFor (h : Bd n v) (hn : n ≤ 1000) (x1 x2 x3 : Int32) : Cl n (fX6_blendFor v [SH, I x1, I x2, I x3]) (fun w => fX7_blendFor w [MO, I x1, I x2, I x3]) := by
  obtain ⟨B, p, c, a, T, L, h, ht, hb⟩ := h
  exact (k_blendFor h (by omega) x1 x2 x3).cl ht hb
theorem z_undo (h : Bd n v) (hn : n ≤ 1000) : Cl n (fX6_undo v [SH]) (fun w => fX7_undo w [MO]) := by
  obtain ⟨B, p, c, a, T, L, h, ht, hb⟩ := h
  exact (k_undo h).to9.cl ht hb
theorem z_count (h : Bd n v) (hn : n ≤ 1000) (x1 : Int32) : Cl n (fX6_count v [SH, I x1]) (fun w => fX7_count w [MO, I x1]) := by
  obtain ⟨B, p, c, a, T, L, h, ht, hb⟩ := h
  exact (k_count h (ht.2.1.trans ht.2.2.1.symm) x1).to9.cl ht hb
theorem z_appendCharacter (h : Bd n v) (hn : n ≤ 1000) (x1 : Int32) : Cl n (fX6_appendCharacter v [SH, I x1]) (fun w => fX7_appendCharacter w [MO, I x1]) := by
  obtain ⟨B, p, c, a, T, L, h, ht, hb⟩ := h
  exact k_append h ht hb x1
theorem z_clearText (h : Bd n v) (hn : n ≤ 1000) : Cl n (fX6_clearText v [SH]) (fun w => fX7_clearText w [MO]) := by
  obtain ⟨B, p, c, a, T, L, h, ht, hb⟩ := h
  exact k_clear h ht hb
theorem z_runScript (h : Bd n v) (hn : n ≤ 1000) : Cl n (fX6_runScript v [SH]) (fun w => fX7_runScript w [MO]) := by
  obtain ⟨B, p, c, a, T, L, h, ht, hb⟩ := h
  exact k_script h ht hb hn
theorem Bd.up (h : Bd n v) : Bd (n + 1) v := by
  obtain ⟨B, p, c, a, T, L, h, ht, hb⟩ := h
  exact ⟨B, p, c, a, T, L, h, ht, by omega⟩
end
