-- DONE in the model: the state before is saved
section
theorem m_doneN (u : MM) {r : Int32} (h : r < 0) : fX7_done u [MO, I r] = some (u, some (I r)) := (qX7_done u r).trans (if_pos h)
theorem m_doneY {c : Nat} (u : MM) {r : Int32} (h : ¬ r < 0) (hc : c ≤ 6) (hp : u.1 13 2 = nI c) : ∃ u', fX7_done u [MO, I r] = some (u', some (I r)) ∧ u'.1 13 2 = nI (min (c + 1) 6) ∧ u'.1 13 4 = 0 ∧ (∀ o, o ≠ 2 → o ≠ 4 → u'.1 13 o = u.1 13 o) ∧ (∀ r, r ≠ 13 → r ≠ 14 → r ≠ 15 → r ≠ 16 → u'.1 r = u.1 r) ∧ u'.2 = u.2 ∧ (∀ q, q < 151 → u'.1 14 q = u.1 14 q) ∧ (∀ q, q < 151 → u'.1 15 (151 * min c 5 + q) = u.1 16 q) ∧ ∀ q, q < 151 * min c 5 → u'.1 15 q = u.1 15 (if c = 6 then q + 151 else q) := by
  obtain ⟨u1, e1, x1, y1, z1⟩ := m_exchanges u
  have r13 := y1 13 (by decide) (by decide)
  have r15 := y1 15 (by decide) (by decide)
  obtain ⟨u2, e2, p2, p4, po, pr, pl, ps, pq⟩ := m_edits (c := c) u1 hc ((congrFun r13 2).trans hp)
  obtain ⟨u3, e3, x3, y3, z3⟩ := m_exchanges u2
  have s13 := y3 13 (by decide) (by decide)
  have s15 := y3 15 (by decide) (by decide)
  have t14 := pr 14 (by decide) (by decide)
  have t16 := pr 16 (by decide) (by decide)
  refine ⟨u3, (qX7_done u r).trans ((if_neg h).trans ((bV_eq e1).trans ((bV_eq e2).trans (bV_eq e3)))), ?_, ?_, fun o h2 h4 => ?_, fun r a b c' d => ?_, z3.trans (pl.trans z1), fun q hq => ?_, fun q hq => ?_, fun q hq => ?_⟩
  · rw [s13]
    exact p2
  · rw [s13]
    exact p4
  · rw [s13, po o h2 h4, r13]
  · exact (y3 r b d).trans ((pr r a c').trans (y1 r b d))
  · rw [(x3 q hq).1, t16]
    exact (x1 q hq).2
  · rw [s15, ps q hq]
    exact (x1 q hq).1
  · rw [s15, pq q hq, r15]
end
