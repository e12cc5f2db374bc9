-- A PAGE IS COPIED, the loops
section
variable {v : MM} {i i1 : Nat}
theorem c_34 (ne : i1 ≠ i) : ∀ d k (w : MM) (P : Nat → Prop), d + k = 6 → Cp v i i1 P w → ∃ w', gX0_copyFrom_34 w i i1 (nI k) = gX0_copyFrom_50 w' i i1 0 ∧ Cp v i i1 (fun o => (3 * k ≤ o ∧ o < 18) ∨ P o) w'
  | 0, k, w, P, e, h => by
    have e : k = 6 := by omega
    subst e
    refine ⟨w, (qX0_copyFrom_34 w i i1 _).trans (if_neg (by decide)), h.im (fun o ho => ?_)⟩
    rcases ho with h2 | h2
    · omega
    · exact h2
  | d + 1, k, w, P, e, h => by
    have hk : k < 6 := by omega
    obtain ⟨w1, e1, h1⟩ := c_var h ne k
    obtain ⟨w2, e2, h2⟩ := c_34 ne d (k + 1) w1 _ (by omega) h1
    refine ⟨w2, (qX0_copyFrom_34 w i i1 _).trans ?_, h2.im (fun o ho => ?_)⟩
    · refine (if_pos (ltT (n := 6) rfl rfl hk (by omega))).trans ?_
      refine (if_pos (mIn_nI hk (by omega))).trans ?_
      refine (if_pos (mIn_nI hk (by omega))).trans ?_
      rw [nI_clamp (show k < 2 ^ 31 by omega), show nI k + (1 : Int32) = nI (k + 1) from i_add k 1]
      exact (bV_eq e1).trans e2
    · by_cases c : P o
      · exact Or.inr (Or.inr c)
      · have z : (3 * k ≤ o ∧ o < 18) := by
          rcases ho with h3 | h3
          · exact h3
          · exact absurd h3 c
        have z2 : (3 * (k + 1) ≤ o ∧ o < 18) ∨ (3 * k ≤ o ∧ o < 3 * k + 3) := by omega
        rcases z2 with z2 | z2
        · exact Or.inl z2
        · exact Or.inr (Or.inl z2)
theorem c_50 (ne : i1 ≠ i) : ∀ d k (w : MM) (P : Nat → Prop), d + k = 4 → Cp v i i1 P w → ∃ w', gX0_copyFrom_50 w i i1 (nI k) = gX0_copyFrom_66 w' i i1 0 ∧ Cp v i i1 (fun o => ((22 + 5 * k ≤ o ∧ o < 42) ∨ (151 + k ≤ o ∧ o < 155) ∨ (111 + 10 * k ≤ o ∧ o < 151)) ∨ P o) w'
  | 0, k, w, P, e, h => by
    have e : k = 4 := by omega
    subst e
    refine ⟨w, (qX0_copyFrom_50 w i i1 _).trans (if_neg (by decide)), h.im (fun o ho => ?_)⟩
    rcases ho with h2 | h2
    · omega
    · exact h2
  | d + 1, k, w, P, e, h => by
    have hk : k < 4 := by omega
    obtain ⟨w1, e1, h1⟩ := c_label h ne k hk
    obtain ⟨w2, e2, h2⟩ := c_50 ne d (k + 1) w1 _ (by omega) h1
    refine ⟨w2, (qX0_copyFrom_50 w i i1 _).trans ?_, h2.im (fun o ho => ?_)⟩
    · refine (if_pos (ltT (n := 4) rfl rfl hk (by omega))).trans ?_
      refine (if_pos (mIn_nI hk (by omega))).trans ?_
      refine (if_pos (mIn_nI hk (by omega))).trans ?_
      rw [nI_clamp (show k < 2 ^ 31 by omega), show nI k + (1 : Int32) = nI (k + 1) from i_add k 1]
      exact (bV_eq e1).trans e2
    · by_cases c : P o
      · exact Or.inr (Or.inr (Or.inr c))
      · have z : ((22 + 5 * k ≤ o ∧ o < 42) ∨ (151 + k ≤ o ∧ o < 155) ∨ (111 + 10 * k ≤ o ∧ o < 151)) := by
          rcases ho with h3 | h3
          · exact h3
          · exact absurd h3 c
        have z2 : ((22 + 5 * (k + 1) ≤ o ∧ o < 42) ∨ (151 + (k + 1) ≤ o ∧ o < 155) ∨ (111 + 10 * (k + 1) ≤ o ∧ o < 151)) ∨ (22 + 5 * k ≤ o ∧ o < 22 + 5 * k + 5) ∨ (o = 151 + k ∨ (111 + 10 * k ≤ o ∧ o < 121 + 10 * k)) := by omega
        rcases z2 with z2 | z2 | z2
        · exact Or.inl z2
        · exact Or.inr (Or.inl z2)
        · exact Or.inr (Or.inr (Or.inl z2))
theorem c_66 (ne : i1 ≠ i) : ∀ d k (w : MM) (P : Nat → Prop), d + k = 8 → Cp v i i1 P w → ∃ w', gX0_copyFrom_66 w i i1 (nI k) = gX0_copyFrom_82 w' i i1 0 ∧ Cp v i i1 (fun o => (43 + 2 * k ≤ o ∧ o < 59) ∨ P o) w'
  | 0, k, w, P, e, h => by
    have e : k = 8 := by omega
    subst e
    refine ⟨w, (qX0_copyFrom_66 w i i1 _).trans (if_neg (by decide)), h.im (fun o ho => ?_)⟩
    rcases ho with h2 | h2
    · omega
    · exact h2
  | d + 1, k, w, P, e, h => by
    have hk : k < 8 := by omega
    obtain ⟨w1, e1, h1⟩ := c_lot h ne k
    obtain ⟨w2, e2, h2⟩ := c_66 ne d (k + 1) w1 _ (by omega) h1
    refine ⟨w2, (qX0_copyFrom_66 w i i1 _).trans ?_, h2.im (fun o ho => ?_)⟩
    · refine (if_pos (ltT (n := 8) rfl rfl hk (by omega))).trans ?_
      refine (if_pos (mIn_nI hk (by omega))).trans ?_
      refine (if_pos (mIn_nI hk (by omega))).trans ?_
      rw [nI_clamp (show k < 2 ^ 31 by omega), show nI k + (1 : Int32) = nI (k + 1) from i_add k 1]
      exact (bV_eq e1).trans e2
    · by_cases c : P o
      · exact Or.inr (Or.inr c)
      · have z : (43 + 2 * k ≤ o ∧ o < 59) := by
          rcases ho with h3 | h3
          · exact h3
          · exact absurd h3 c
        have z2 : (43 + 2 * (k + 1) ≤ o ∧ o < 59) ∨ (43 + 2 * k ≤ o ∧ o < 43 + 2 * k + 2) := by omega
        rcases z2 with z2 | z2
        · exact Or.inl z2
        · exact Or.inr (Or.inl z2)
theorem c_82 (ne : i1 ≠ i) : ∀ d k (w : MM) (P : Nat → Prop), d + k = 6 → Cp v i i1 P w → ∃ w', gX0_copyFrom_82 w i i1 (nI k) = some (w', none) ∧ Cp v i i1 (fun o => ((60 + 7 * k ≤ o ∧ o < 102) ∨ (104 ≤ o ∧ o < 111)) ∨ P o) w'
  | 0, k, w, P, e, h => by
    have e : k = 6 := by omega
    subst e
    refine ⟨_, (qX0_copyFrom_82 w i i1 _).trans (if_neg (by decide)), (h.cpy ne (7, i, 0) (fun r o z => (of_decide_eq_true z).1)).im (fun o ho => ?_)⟩
    rcases ho with h2 | h2
    · exact Or.inl (decide_eq_true ⟨rfl, by omega⟩)
    · exact Or.inr h2
  | d + 1, k, w, P, e, h => by
    have hk : k < 6 := by omega
    obtain ⟨w1, e1, h1⟩ := c_tank h ne k
    obtain ⟨w2, e2, h2⟩ := c_82 ne d (k + 1) w1 _ (by omega) h1
    refine ⟨w2, (qX0_copyFrom_82 w i i1 _).trans ?_, h2.im (fun o ho => ?_)⟩
    · refine (if_pos (ltT (n := 6) rfl rfl hk (by omega))).trans ?_
      refine (if_pos (mIn_nI hk (by omega))).trans ?_
      refine (if_pos (mIn_nI hk (by omega))).trans ?_
      rw [nI_clamp (show k < 2 ^ 31 by omega), show nI k + (1 : Int32) = nI (k + 1) from i_add k 1]
      exact (bV_eq e1).trans e2
    · by_cases c : P o
      · exact Or.inr (Or.inr c)
      · have z : ((60 + 7 * k ≤ o ∧ o < 102) ∨ (104 ≤ o ∧ o < 111)) := by
          rcases ho with h3 | h3
          · exact h3
          · exact absurd h3 c
        have z2 : ((60 + 7 * (k + 1) ≤ o ∧ o < 102) ∨ (104 ≤ o ∧ o < 111)) ∨ (60 + 7 * k ≤ o ∧ o < 60 + 7 * k + 7) := by omega
        rcases z2 with z2 | z2
        · exact Or.inl z2
        · exact Or.inr (Or.inl z2)
theorem s_copy (v : MM) (ne : i1 ≠ i) : ∃ v', fX0_copyFrom v [nm 2 i 0, nm 2 i1 0] = some (v', none) ∧ (∀ o, o < 155 → v'.1 i o = v.1 i1 o) ∧ Fr i v v' := by
  have h := ((((((((Cp.zero v i i1).up ne 18).up ne 19).up ne 20).up ne 21).up ne 42).up ne 59).up ne 102).up ne 103
  obtain ⟨w1, e1, h1⟩ := c_34 ne 6 0 _ _ rfl h
  obtain ⟨w2, e2, h2⟩ := c_50 ne 4 0 _ _ rfl h1
  obtain ⟨w3, e3, h3⟩ := c_66 ne 8 0 _ _ rfl h2
  obtain ⟨w4, e4, h4⟩ := c_82 ne 6 0 _ _ rfl h3
  refine ⟨w4, (qX0_copyFrom v i i1).trans (e1.trans (e2.trans (e3.trans e4))), fun o ho => h4.1 o ?_, h4.2⟩
  omega
end
