-- THE CALL undo
section
variable {B p c : Nat} {a : Nat → Nat} {v : MM}
theorem back_page (p : Nat) (h8 : p < 8) : ((nI p + (8 : Int32)) - (1 : Int32)) - ((nI p + (8 : Int32)) - (1 : Int32)) / (8 : Int32) * (8 : Int32) = nI ((p + 7) % 8) := by
  have hc : p = 0 ∨ p = 1 ∨ p = 2 ∨ p = 3 ∨ p = 4 ∨ p = 5 ∨ p = 6 ∨ p = 7 := by omega
  rcases hc with rfl | rfl | rfl | rfl | rfl | rfl | rfl | rfl <;> rfl
theorem k_undo (h : Rel B v p c a) : Same B v (fX6_undo v [SH]) (fun w => fX7_undo w [MO]) := by
  have hR := h
  obtain ⟨g1, g2, g3, g4, g5, g6, g7, g8, g9, g10⟩ := h
  by_cases z : c = 0
  · subst z
    refine ⟨-2, v, v, p, 0, a, (qX6_undo v).trans (if_neg (by rw [g4]; decide)), m_undo0 v g5, hR.keep rfl rfl rfl g6 g8 (fun _ _ _ => rfl) rfl, fun _ _ _ _ _ _ _ => rfl, fun _ _ _ => rfl, rfl⟩
  · have hs : nI c - (1 : Int32) = nI (c - 1) := i_sub (b := 1) (by omega)
    have w4 : (mUp v (12, 3) (nI ((p + 7) % 8))).1 12 4 = nI c := (mUp_o _ 12 3 4 _ (by decide)).trans g4
    obtain ⟨v1, hv1⟩ : ∃ v1, v1 = mUp (mUp v (12, 3) (nI ((p + 7) % 8))) (12, 4) (nI (c - 1)) := ⟨_, rfl⟩
    have f1 : Fr 12 v v1 := by
      rw [hv1]
      exact (Fr.up 12 3 v _).tr (Fr.up 12 4 _ _)
    have x4 : v1.1 12 4 = nI (c - 1) := by
      rw [hv1]
      exact mUp_s _ _ _ _
    have x3 : v1.1 12 3 = nI ((p + 7) % 8) := by
      rw [hv1]
      exact (mUp_o _ 12 4 3 _ (by decide)).trans (mUp_s _ _ _ _)
    have x5 : v1.1 12 5 = v.1 12 5 := by
      rw [hv1]
      exact (mUp_o _ 12 4 5 _ (by decide)).trans (mUp_o _ 12 3 5 _ (by decide))
    obtain ⟨u, eu, u2, uo, ur, ul, uq⟩ := m_undo (c := c) v1 (by omega) g2 ((congrFun (f1.1 13 (by decide)) 2).trans g5)
    have e12 : u.1 12 = v1.1 12 := ur 12 (by decide) (by decide)
    have er : ∀ r, r ≠ 12 → r ≠ 13 → r ≠ 14 → u.1 r = v.1 r := fun r a1 a2 a3 => (ur r a2 a3).trans (f1.1 r a1)
    obtain ⟨b, b1, b2, b3⟩ := g10 (c - 1) (by omega)
    have ep : (p + 8 - c + (c - 1)) % 8 = (p + 7) % 8 := by omega
    rw [ep] at b1
    refine ⟨nI (c - 1), v1, u, (p + 7) % 8, c - 1, b, (qX6_undo v).trans ((if_pos (ltT (m := 0) rfl g4 (by omega) (by omega))).trans ?_), eu, ⟨by omega, by omega, by rw [e12]; exact x3, by rw [e12]; exact x4, u2, ?_, b1.row (er _ (by omega) (by omega) (by omega)), fun q hq => ?_, b3.mono, fun q hq => ?_⟩, fun r a0 a1 a2 a3 a4 a5 => er r a1 a2 a3, fun o a1 a2 => (uo o a1).trans (congrFun (f1.1 13 (by decide)) o), ul.trans f1.2⟩
    · simp only [g3, back_page p g1, w4, hs, mUp_s]
      rw [hv1]
    · rw [e12, x5, uo 4 (by decide), g6]
      exact (congrFun (f1.1 13 (by decide)) 4).symm
    · rw [uq q hq, f1.1 15 (by decide)]
      exact b2 q hq
    · obtain ⟨d, d1, d2, d3⟩ := g10 q (by omega)
      have eq : ((p + 7) % 8 + 8 - (c - 1) + q) % 8 = (p + 8 - c + q) % 8 := by omega
      rw [eq]
      refine ⟨d, d1.row (er _ (by omega) (by omega) (by omega)), fun k hk => ?_, d3.mono⟩
      rw [er 15 (by decide) (by decide) (by decide)]
      exact d2 k hk
end
