-- A PAGE IS COPIED, whole
section
variable {v w : MM} {i i1 : Nat} {P : Nat → Prop}
theorem Cp.cpy (h : Cp v i i1 P w) (ne : i1 ≠ i) (q : MN) (hq : ∀ r o, mIs q r o = true → r = i) : Cp v i i1 (fun o => mIs q i o = true ∨ P o) (mCpy w i1 q) := by
  have e1 : w.1 i1 = v.1 i1 := h.2.1 i1 ne
  refine ⟨fun o ho => ?_, h.2.tr ⟨fun r hr => ?_, rfl⟩⟩
  · show (if mIs q i o = true then w.1 i1 o else w.1 i o) = v.1 i1 o
    by_cases c : mIs q i o = true
    · rw [if_pos c, e1]
    · rw [if_neg c]
      rcases ho with h2 | h2
      · exact absurd h2 c
      · exact h.1 o h2
  · funext o
    show (if mIs q r o = true then w.1 i1 o else w.1 r o) = w.1 r o
    exact if_neg (fun z => hr (hq r o z))
theorem c_var (h : Cp v i i1 P w) (ne : i1 ≠ i) (j : Nat) : ∃ w', fX5_copyFrom w [nm 8 i j, nm 8 i1 j] = some (w', none) ∧ Cp v i i1 (fun o => (3 * j ≤ o ∧ o < 3 * j + 3) ∨ P o) w' := by
  refine ⟨_, qX5_copyFrom w i j i1 j, (((h.up ne _).up ne _).up ne _).im (fun o ho => ?_)⟩
  rcases ho with h2 | h2
  · have : o = 3 * j + 2 ∨ o = 3 * j + 1 ∨ o = 3 * j + 0 := by omega
    rcases this with e | e | e
    · exact Or.inl e
    · exact Or.inr (Or.inl e)
    · exact Or.inr (Or.inr (Or.inl e))
  · exact Or.inr (Or.inr (Or.inr h2))
theorem c_lot (h : Cp v i i1 P w) (ne : i1 ≠ i) (j : Nat) : ∃ w', fX2_copyFrom w [nm 11 i j, nm 11 i1 j] = some (w', none) ∧ Cp v i i1 (fun o => (43 + 2 * j ≤ o ∧ o < 43 + 2 * j + 2) ∨ P o) w' := by
  refine ⟨_, qX2_copyFrom w i j i1 j, ((h.up ne _).up ne _).im (fun o ho => ?_)⟩
  rcases ho with h2 | h2
  · have : o = 43 + 2 * j + 1 ∨ o = 43 + 2 * j + 0 := by omega
    rcases this with e | e
    · exact Or.inl e
    · exact Or.inr (Or.inl e)
  · exact Or.inr (Or.inr h2)
theorem c_tank (h : Cp v i i1 P w) (ne : i1 ≠ i) (j : Nat) : ∃ w', fX4_copyFrom w [nm 12 i j, nm 12 i1 j] = some (w', none) ∧ Cp v i i1 (fun o => (60 + 7 * j ≤ o ∧ o < 60 + 7 * j + 7) ∨ P o) w' := by
  refine ⟨_, qX4_copyFrom w i j i1 j, (((((((h.up ne _).up ne _).up ne _).up ne _).up ne _).up ne _).up ne _).im (fun o ho => ?_)⟩
  rcases ho with h2 | h2
  · have : o = 60 + 7 * j + 6 ∨ o = 60 + 7 * j + 5 ∨ o = 60 + 7 * j + 4 ∨ o = 60 + 7 * j + 3 ∨ o = 60 + 7 * j + 2 ∨ o = 60 + 7 * j + 1 ∨ o = 60 + 7 * j + 0 := by omega
    rcases this with e | e | e | e | e | e | e
    · exact Or.inl e
    · exact Or.inr (Or.inl e)
    · exact Or.inr (Or.inr (Or.inl e))
    · exact Or.inr (Or.inr (Or.inr (Or.inl e)))
    · exact Or.inr (Or.inr (Or.inr (Or.inr (Or.inl e))))
    · exact Or.inr (Or.inr (Or.inr (Or.inr (Or.inr (Or.inl e)))))
    · exact Or.inr (Or.inr (Or.inr (Or.inr (Or.inr (Or.inr (Or.inl e))))))
  · exact Or.inr (Or.inr (Or.inr (Or.inr (Or.inr (Or.inr (Or.inr h2))))))
theorem c_label (h : Cp v i i1 P w) (ne : i1 ≠ i) (j : Nat) (hj : j < 4) : ∃ w', fX1_copyFrom w [nm 9 i j, nm 9 i1 j] = some (w', none) ∧ Cp v i i1 (fun o => (22 + 5 * j ≤ o ∧ o < 22 + 5 * j + 5) ∨ (o = 151 + j ∨ (111 + 10 * j ≤ o ∧ o < 121 + 10 * j)) ∨ P o) w' := by
  refine ⟨_, qX1_copyFrom w i j i1 hj, ((((((h.up ne _).up ne _).up ne _).up ne _).up ne _).cpy ne (10, i, j) (fun r o z => (of_decide_eq_true z).1)).im (fun o ho => ?_)⟩
  rcases ho with h2 | h2 | h2
  · have : o = 22 + 5 * j + 4 ∨ o = 22 + 5 * j + 3 ∨ o = 22 + 5 * j + 2 ∨ o = 22 + 5 * j + 1 ∨ o = 22 + 5 * j + 0 := by omega
    rcases this with e | e | e | e | e
    · exact Or.inr (Or.inl e)
    · exact Or.inr (Or.inr (Or.inl e))
    · exact Or.inr (Or.inr (Or.inr (Or.inl e)))
    · exact Or.inr (Or.inr (Or.inr (Or.inr (Or.inl e))))
    · exact Or.inr (Or.inr (Or.inr (Or.inr (Or.inr (Or.inl e)))))
  · exact Or.inl (decide_eq_true ⟨rfl, h2⟩)
  · exact Or.inr (Or.inr (Or.inr (Or.inr (Or.inr (Or.inr h2)))))
end
