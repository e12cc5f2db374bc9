-- THE CALLS day, bottle
section
variable {B p c : Nat} {a : Nat → Nat} {v : MM}
theorem k_day (h : Rel B v p c a) (hB : B ≤ 1100) : Same B v (fX6_day v [SH]) (fun w => fX7_day w [MO]) := by
  have hw := h.2.2.2.2.2.2.2.2.1
  have hd := hw.2.2.2.2.2.2.1.1
  obtain ⟨r, w, v1, v2, p', c', a', e1, e2, e3, h2, ho⟩ := call_ed (C := fun w => fX0_passDay w [nm 2 ((p + 1) % 8) 0]) (M := fun u => fX7_day u [MO]) h (fun w u hv hu => by
    obtain ⟨w', e, h1, f1⟩ := s_day hv hw hB
    refine Or.inr (Or.inr ⟨a 103 + 1, aDay a, w', by omega, e, h1, f1, hw.day, fun u1 hu1 h14 => ?_⟩)
    obtain ⟨u', e', h3, f3⟩ := m_day h14 hw hB
    exact ⟨u', (qX7_day u).trans ((bV_eq hu1).trans (bI_eq e')), h3, f3⟩)
  exact ⟨r, v1, v2, p', c', a', (qX6_day v).trans ((bN_eq e1).trans ((uX6_day_2 w _).trans ((qX6_day_2 w _).trans e2))), e3, h2, ho⟩
theorem k_bottle (h : Rel B v p c a) (hB : B ≤ 1100) (x1 x2 x3 x4 : Int32) : Same B v (fX6_bottle v [SH, I x1, I x2, I x3, I x4]) (fun w => fX7_bottle w [MO, I x1, I x2, I x3, I x4]) := by
  have hw := h.2.2.2.2.2.2.2.2.1
  obtain ⟨r, w, v1, v2, p', c', a', e1, e2, e3, h2, ho⟩ := call_ed (C := fun w => fX0_bottleJuice w [nm 2 ((p + 1) % 8) 0, I x1, I x2, I x3, I x4]) (M := fun u => fX7_bottle u [MO, I x1, I x2, I x3, I x4]) h (fun w u hv hu => by
    rcases r_fill hv hu hw hB x1 x2 x3 x4 with ⟨e, e'⟩ | ⟨y, e, e'⟩ | ⟨n, a', v', hn, e, h1, f1, hw', ht, -, e'⟩
    · exact Or.inl ⟨-1, by decide, by decide, e, (qX7_bottle u _ _ _ _).trans (bI_eq (e' 1))⟩
    · exact Or.inr (Or.inl ⟨y, e, (qX7_bottle u _ _ _ _).trans (bI_eq (e' 1))⟩)
    · refine Or.inr (Or.inr ⟨n, a', v', hn, e, h1, f1, hw', fun u1 hu1 h14 => ?_⟩)
      obtain ⟨u', e2, h3, f3⟩ := ht u1 h14
      exact ⟨u', (qX7_bottle u _ _ _ _).trans (bI_eq ((e' 1 (by decide) u1 hu1).trans e2)), h3, f3⟩)
  exact ⟨r, v1, v2, p', c', a', (qX6_bottle v _ _ _ _).trans ((bN_eq e1).trans ((uX6_bottle_2 w _ _ _ _ _).trans ((qX6_bottle_2 w _ _ _ _ _).trans e2))), e3, h2, ho⟩
end
