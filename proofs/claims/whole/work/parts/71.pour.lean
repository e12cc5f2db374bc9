-- THE CALL pour
section
variable {B p c : Nat} {a : Nat → Nat} {v u : MM}
theorem m_pour1 {b : Nat → Nat} {t q : Nat} (h : St 151 u 14 b) (ht : t < 6) (hq : q = 1 ∨ q = 2 ∨ q = 3 ∨ q = 4 ∨ q = 6) (y : Int32) : ∃ u', gX7_pour_21 u (nI q) y (nI t) = gX7_pour_21 u' (nI q + 1) y (nI t) ∧ St 151 u' 14 (au b (60 + 7 * t + q) 0) ∧ Fr 14 u u' := by
  have h1 := h.adn (o := 60 + 7 * t + q) (n := b (60 + 7 * t + q)) (by omega) rfl (Nat.le_refl _)
  rw [Nat.sub_self] at h1
  refine ⟨_, (qX7_pour_21 u _ _ _).trans ?_, h1, Fr.up 14 _ u _⟩
  refine (if_neg (by rcases hq with rfl | rfl | rfl | rfl | rfl <;> decide)).trans ?_
  refine (if_neg (by rcases hq with rfl | rfl | rfl | rfl | rfl <;> decide)).trans ?_
  refine (bI_eq (m_of h t q (by omega))).trans ?_
  exact bV_eq (m_adds _ t q (by omega) _)
theorem m_pour5 {b : Nat → Nat} {t : Nat} (h : St 151 u 14 b) (ht : t < 6) (y : Int32) : ∃ u', gX7_pour_21 u (nI 5) y (nI t) = gX7_pour_21 u' (nI 5 + 1) y (nI t) ∧ St 151 u' 14 b ∧ Fr 14 u u' := by
  have h1 := (h.add (o := 60 + 7 * t + 5) 0 (by omega) rfl).cong (b := b) (fun k _ => au_same rfl k)
  refine ⟨_, (qX7_pour_21 u _ _ _).trans ?_, h1, Fr.up 14 _ u _⟩
  refine (if_neg (by decide)).trans ?_
  refine (if_pos (by decide)).trans ?_
  exact bV_eq (m_adds _ t 5 (by omega) _)
end
