-- A PAGE IS COPIED
section
/-- the cells P of page i are those of page i1, as they were -/
def Cp (v : MM) (i i1 : Nat) (P : Nat → Prop) (w : MM) : Prop := (∀ o, P o → w.1 i o = v.1 i1 o) ∧ Fr i v w
theorem Cp.up {v w : MM} {i i1 : Nat} {P : Nat → Prop} (h : Cp v i i1 P w) (ne : i1 ≠ i) (k : Nat) : Cp v i i1 (fun o => o = k ∨ P o) (mUp w (i, k) (w.1 i1 k)) := by
  refine ⟨fun o ho => ?_, h.2.tr (Fr.up i k w _)⟩
  have e1 : w.1 i1 = v.1 i1 := h.2.1 i1 ne
  by_cases c : o = k
  · rw [c, mUp_s, e1]
  · rw [mUp_o _ _ _ _ _ c]
    rcases ho with h2 | h2
    · exact absurd h2 c
    · exact h.1 o h2
theorem Cp.st {v w w' : MM} {i i1 : Nat} {P Q : Nat → Prop} (h : Cp v i i1 P w) (ne : i1 ≠ i) (g : Cp w i i1 Q w') (k : ∀ o, P o → ¬ Q o → w'.1 i o = w.1 i o) : Cp v i i1 (fun o => Q o ∨ P o) w' := by
  refine ⟨fun o ho => ?_, h.2.tr g.2⟩
  by_cases c : Q o
  · rw [g.1 o c, h.2.1 i1 ne]
  · rcases ho with h2 | h2
    · exact absurd h2 c
    · rw [k o h2 c]
      exact h.1 o h2
theorem Cp.im {v w : MM} {i i1 : Nat} {P Q : Nat → Prop} (h : Cp v i i1 P w) (e : ∀ o, Q o → P o) : Cp v i i1 Q w := ⟨fun o ho => h.1 o (e o ho), h.2⟩
theorem Cp.zero (v : MM) (i i1 : Nat) : Cp v i i1 (fun _ => False) v := ⟨fun _ h => h.elim, Fr.rf i v⟩
end
