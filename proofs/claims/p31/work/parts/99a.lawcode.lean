-- THE LAW: its code is the class file's; its calls
set_option maxRecDepth 100000 in
theorem ckL_8 : ckR 8 12 1 code cdL_law 8 20 = true := by decide +kernel
set_option maxRecDepth 100000 in
theorem ckL_28 : ckR 8 12 1 code cdL_law 28 20 = true := by decide +kernel
set_option maxRecDepth 100000 in
theorem ckL_48 : ckR 8 12 1 code cdL_law 48 20 = true := by decide +kernel
set_option maxRecDepth 100000 in
theorem ckL_68 : ckR 8 12 1 code cdL_law 68 20 = true := by decide +kernel
set_option maxRecDepth 100000 in
theorem ckL_88 : ckR 8 12 1 code cdL_law 88 20 = true := by decide +kernel
set_option maxRecDepth 100000 in
theorem ckL_108 : ckR 8 12 1 code cdL_law 108 20 = true := by decide +kernel
set_option maxRecDepth 100000 in
theorem ckL_128 : ckR 8 12 1 code cdL_law 128 20 = true := by decide +kernel
set_option maxRecDepth 100000 in
theorem ckL_148 : ckR 8 12 1 code cdL_law 148 20 = true := by decide +kernel
set_option maxRecDepth 100000 in
theorem ckL_168 : ckR 8 12 1 code cdL_law 168 20 = true := by decide +kernel
set_option maxRecDepth 100000 in
theorem ckL_188 : ckR 8 12 1 code cdL_law 188 20 = true := by decide +kernel
set_option maxRecDepth 100000 in
theorem ckL_208 : ckR 8 12 1 code cdL_law 208 4 = true := by decide +kernel
theorem ck8 : (List.range 8).all (fun i => match nth cdL_law i with
  | some m => Nat.beq m.1 200
  | none => true) = true := by decide +kernel
theorem ckL_all : CkP 8 12 1 code cdL_law := by
  intro i m hi hne
  have hlen : cdL_law.length = 212 := by decide +kernel
  have hl := (nth_lt hi).1
  rw [hlen] at hl
  by_cases h8 : i < 8
  · have h := List.all_eq_true.mp ck8 i (List.mem_range.mpr h8)
    rw [hi] at h
    exact absurd (Nat.eq_of_beq_eq_true h) hne
  by_cases h28 : i < 28
  · exact ckR_at ckL_8 hi hne (by omega) (by omega)
  by_cases h48 : i < 48
  · exact ckR_at ckL_28 hi hne (by omega) (by omega)
  by_cases h68 : i < 68
  · exact ckR_at ckL_48 hi hne (by omega) (by omega)
  by_cases h88 : i < 88
  · exact ckR_at ckL_68 hi hne (by omega) (by omega)
  by_cases h108 : i < 108
  · exact ckR_at ckL_88 hi hne (by omega) (by omega)
  by_cases h128 : i < 128
  · exact ckR_at ckL_108 hi hne (by omega) (by omega)
  by_cases h148 : i < 148
  · exact ckR_at ckL_128 hi hne (by omega) (by omega)
  by_cases h168 : i < 168
  · exact ckR_at ckL_148 hi hne (by omega) (by omega)
  by_cases h188 : i < 188
  · exact ckR_at ckL_168 hi hne (by omega) (by omega)
  by_cases h208 : i < 208
  · exact ckR_at ckL_188 hi hne (by omega) (by omega)
  exact ckR_at ckL_208 hi hne (by omega) (by omega)
theorem no38L : ¬ ∃ i a b d x y tb, nth cdL_law i = some (38, a, b, d, x, y, tb) := fun h => no38 (P := False) (by decide +kernel) h
theorem mcL_0 {S : MSc} : MCall S room_1 8 (FL_law S) (40, 93, 0, 2, 0, 0, []) := ⟨yL_cell, cL_cell, 2, _, rmL_cell, 2, ctL_cell, ykL_cell, ⟨rfl, rfl, by decide, by decide⟩, ⟨Or.inl ml_8_93, ysL_cell, rfl⟩⟩
theorem mcL_1 {S : MSc} : MCall S room_1 8 (FL_law S) (43, 97, 1, 1, 0, 0, []) := ⟨yL_tale, cL_tale, 5, _, rmL_tale, 1, ctL_tale, ykL_tale, ⟨rfl, rfl, by decide, by decide⟩, ⟨Or.inl ml_8_97, ysL_tale, rfl⟩⟩
theorem mcL_2 {S : MSc} : MCall S room_1 8 (FL_law S) (40, 20, 2, 2, 0, 0, [(0, 6)]) := ⟨yX6_count, cX6_count, 3, _, rmX6_count, 1, ctX6_count, ykX6_count, ⟨rfl, rfl, by decide, by decide⟩, ⟨ml_8_20, yvX6_count, rfl, rfl, by decide⟩⟩
theorem mcL_3 {S : MSc} : MCall S room_1 8 (FL_law S) (40, 101, 3, 2, 0, 0, []) := ⟨yL_does, cL_does, 4, _, rmL_does, 2, ctL_does, ykL_does, ⟨rfl, rfl, by decide, by decide⟩, ⟨Or.inl ml_8_101, ysL_does, rfl⟩⟩
theorem mcL_4 {S : MSc} : MCall S room_1 8 (FL_law S) (40, 105, 4, 1, 0, 0, [(0, 6)]) := ⟨yX6_undo, cX6_undo, 1, _, rmX6_undo, 0, ctX6_undo, ykX6_undo, ⟨rfl, rfl, by decide, by decide⟩, ⟨ml_8_105, yvX6_undo, rfl, rfl, by decide⟩⟩
theorem mcL_5 {S : MSc} : MCall S room_1 8 (FL_law S) (40, 12, 5, 2, 0, 0, [(0, 6)]) := ⟨yX6_account, cX6_account, 2, _, rmX6_account, 1, ctX6_account, ykX6_account, ⟨rfl, rfl, by decide, by decide⟩, ⟨ml_8_12, yvX6_account, rfl, rfl, by decide⟩⟩
theorem mcL_6 {S : MSc} : MCall S room_1 8 (FL_law S) (40, 25, 6, 3, 0, 0, [(0, 6)]) := ⟨yX6_tank, cX6_tank, 4, _, rmX6_tank, 2, ctX6_tank, ykX6_tank, ⟨rfl, rfl, by decide, by decide⟩, ⟨ml_8_25, yvX6_tank, rfl, rfl, by decide⟩⟩
theorem caL_law {S : MSc} : allC S room_1 8 (FL_law S) (cdL_law.filter isCall) := (show MCall S room_1 8 (FL_law S) (40, 93, 0, 2, 0, 0, []) ∧ MCall S room_1 8 (FL_law S) (43, 97, 1, 1, 0, 0, []) ∧ MCall S room_1 8 (FL_law S) (40, 20, 2, 2, 0, 0, [(0, 6)]) ∧ MCall S room_1 8 (FL_law S) (40, 101, 3, 2, 0, 0, []) ∧ MCall S room_1 8 (FL_law S) (43, 97, 1, 1, 0, 0, []) ∧ MCall S room_1 8 (FL_law S) (40, 20, 2, 2, 0, 0, [(0, 6)]) ∧ MCall S room_1 8 (FL_law S) (40, 20, 2, 2, 0, 0, [(0, 6)]) ∧ MCall S room_1 8 (FL_law S) (40, 20, 2, 2, 0, 0, [(0, 6)]) ∧ MCall S room_1 8 (FL_law S) (40, 105, 4, 1, 0, 0, [(0, 6)]) ∧ MCall S room_1 8 (FL_law S) (43, 97, 1, 1, 0, 0, []) ∧ MCall S room_1 8 (FL_law S) (40, 20, 2, 2, 0, 0, [(0, 6)]) ∧ MCall S room_1 8 (FL_law S) (40, 20, 2, 2, 0, 0, [(0, 6)]) ∧ MCall S room_1 8 (FL_law S) (40, 12, 5, 2, 0, 0, [(0, 6)]) ∧ MCall S room_1 8 (FL_law S) (40, 12, 5, 2, 0, 0, [(0, 6)]) ∧ MCall S room_1 8 (FL_law S) (40, 12, 5, 2, 0, 0, [(0, 6)]) ∧ MCall S room_1 8 (FL_law S) (40, 12, 5, 2, 0, 0, [(0, 6)]) ∧ MCall S room_1 8 (FL_law S) (40, 20, 2, 2, 0, 0, [(0, 6)]) ∧ MCall S room_1 8 (FL_law S) (40, 20, 2, 2, 0, 0, [(0, 6)]) ∧ MCall S room_1 8 (FL_law S) (40, 25, 6, 3, 0, 0, [(0, 6)]) ∧ MCall S room_1 8 (FL_law S) (40, 25, 6, 3, 0, 0, [(0, 6)]) ∧ MCall S room_1 8 (FL_law S) (40, 25, 6, 3, 0, 0, [(0, 6)]) ∧ MCall S room_1 8 (FL_law S) (40, 25, 6, 3, 0, 0, [(0, 6)]) ∧ MCall S room_1 8 (FL_law S) (40, 25, 6, 3, 0, 0, [(0, 6)]) ∧ MCall S room_1 8 (FL_law S) (40, 25, 6, 3, 0, 0, [(0, 6)]) ∧ MCall S room_1 8 (FL_law S) (40, 25, 6, 3, 0, 0, [(0, 6)]) ∧ MCall S room_1 8 (FL_law S) (40, 105, 4, 1, 0, 0, [(0, 6)]) ∧ True from ⟨mcL_0, mcL_1, mcL_2, mcL_3, mcL_1, mcL_2, mcL_2, mcL_2, mcL_4, mcL_1, mcL_2, mcL_2, mcL_5, mcL_5, mcL_5, mcL_5, mcL_2, mcL_2, mcL_6, mcL_6, mcL_6, mcL_6, mcL_6, mcL_6, mcL_6, mcL_4, trivial⟩)
