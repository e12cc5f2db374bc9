-- GETTERS: share, why, bottles
section
variable {B p c : Nat} {a : Nat → Nat} {v u : MM} {i j : Nat}
theorem k_share (h : Rel B v p c a) (hB : B ≤ 1100) (x1 x2 : Int32) : Same B v (fX6_share v [SH, I x1, I x2]) (fun w => fX7_share w [MO, I x1, I x2]) := by
  have hR := h
  obtain ⟨g1, g2, g3, g4, g5, g6, hv, hu, hw, -⟩ := h
  have st : ∀ r, gX6_share_2 v p x1 x2 = some (v, some (I r)) → fX7_share v [MO, I x1, I x2] = some (v, some (I r)) → Same B v (fX6_share v [SH, I x1, I x2]) (fun w => fX7_share w [MO, I x1, I x2]) := fun r e e' => Same.of hR r ((qX6_share v _ _).trans ((bN_eq (s_books g3 g1)).trans ((uX6_share_2 v p _ _).trans e))) e'
  by_cases c1 : mIn x1 (a 59)
  · by_cases c2 : 0 ≤ x2 ∧ x2 ≤ 3
    · obtain ⟨j, hj, hj31, rfl⟩ := mIn_ex c1
      obtain ⟨n, hn, rfl⟩ := inM (M := 3) (by omega) c2.1 c2.2
      have h6 : a 59 ≤ 6 := hw.2.2.2.1.1
      have qj := nI_clamp hj31
      have hs := hw.tk_le hB (show j < 6 by omega)
      have s1 := hs 1 (by omega)
      have k1 := hv (60 + 7 * j + 1) (by omega)
      have m1 := m_of hu j 1 (by omega)
      by_cases z : a (60 + 7 * j + 1) = 0
      · rw [z] at k1 m1
        have k0 : v.1 p (60 + 7 * j + 1) = 0 := k1
        refine st (-9) ((qX6_share_2 v p _ _).trans ?_) ((qX7_share v _ _).trans ?_)
        · refine (bI_eq (s_tT hv hw c1)).trans ((if_neg (by decide)).trans ((bI_eq (s_wT c2)).trans ((if_neg (by decide)).trans ?_)))
          simp only [qj, k0]
          refine (if_pos (mIn_nI (by omega) (by omega))).trans ?_
          rcases (show n = 0 ∨ n = 1 ∨ n = 2 ∨ n = 3 by omega) with rfl | rfl | rfl | rfl
          · exact (if_pos rfl).trans (bI_eq s_pert0)
          · exact (if_neg (by decide)).trans ((if_pos rfl).trans (bI_eq s_pert0))
          · exact (if_neg (by decide)).trans ((if_neg (by decide)).trans ((if_pos rfl).trans (bI_eq s_pert0)))
          · exact (if_neg (by decide)).trans ((if_neg (by decide)).trans ((if_neg (by decide)).trans (bI_eq s_pert0)))
        · refine (bI_eq (m_tT hu hw c1)).trans ((if_neg (by decide)).trans ((bI_eq (m_inT c2)).trans ((if_neg (by decide)).trans ?_)))
          exact (bI_eq m1).trans (if_pos rfl)
      · obtain ⟨f, hf⟩ : ∃ f, f = if n = 3 then 6 else 2 + n := ⟨_, rfl⟩
        have f7 : f < 7 := by
          rw [hf]
          split <;> omega
        have sf := hs f f7
        refine st (nI (a (60 + 7 * j + f) * 1000 / a (60 + 7 * j + 1))) ((qX6_share_2 v p _ _).trans ?_) ((qX7_share v _ _).trans ?_)
        · refine (bI_eq (s_tT hv hw c1)).trans ((if_neg (by decide)).trans ((bI_eq (s_wT c2)).trans ((if_neg (by decide)).trans ?_)))
          simp only [qj, k1]
          refine (if_pos (mIn_nI (by omega) (by omega))).trans ?_
          have kf := hv (60 + 7 * j + f) (by omega)
          have sp := s_pert (v := v) (show a (60 + 7 * j + f) < 2 ^ 31 by omega) (Nat.pos_of_ne_zero z) (by omega)
          rw [← kf] at sp
          rcases (show n = 0 ∨ n = 1 ∨ n = 2 ∨ n = 3 by omega) with rfl | rfl | rfl | rfl
          · obtain rfl : f = 2 := hf
            exact (if_pos rfl).trans (bI_eq sp)
          · obtain rfl : f = 3 := hf
            exact (if_neg (by decide)).trans ((if_pos rfl).trans (bI_eq sp))
          · obtain rfl : f = 4 := hf
            exact (if_neg (by decide)).trans ((if_neg (by decide)).trans ((if_pos rfl).trans (bI_eq sp)))
          · obtain rfl : f = 6 := hf
            exact (if_neg (by decide)).trans ((if_neg (by decide)).trans ((if_neg (by decide)).trans (bI_eq sp)))
        · refine (bI_eq (m_tT hu hw c1)).trans ((if_neg (by decide)).trans ((bI_eq (m_inT c2)).trans ((if_neg (by decide)).trans ?_)))
          refine (bI_eq m1).trans ((if_neg (eqF (n := 0) rfl rfl z (by omega) (by omega))).trans ?_)
          have pf := m_portion hu (show j < 6 by omega) f7 (Nat.pos_of_ne_zero z) (by omega) (by omega)
          by_cases e : n = 3
          · rw [if_pos e] at hf
            subst hf
            exact (if_pos (eqT (n := 3) rfl rfl e)).trans (bI_eq pf)
          · rw [if_neg e] at hf
            subst hf
            refine (if_neg (eqF (n := 3) rfl rfl e (by omega) (by omega))).trans ?_
            rw [show (2 : Int32) + nI n = nI (2 + n) from i_add 2 n]
            exact bI_eq pf
    · exact st (-1) ((qX6_share_2 v p _ _).trans ((bI_eq (s_tT hv hw c1)).trans ((if_neg (by decide)).trans ((bI_eq (s_wF c2)).trans (if_pos rfl))))) ((qX7_share v _ _).trans ((bI_eq (m_tT hu hw c1)).trans ((if_neg (by decide)).trans ((bI_eq (m_inF c2)).trans (if_pos rfl)))))
  · exact st (-1) ((qX6_share_2 v p _ _).trans ((bI_eq (s_tF hv hw c1)).trans (if_pos rfl))) ((qX7_share v _ _).trans ((bI_eq (m_tF hu hw c1)).trans (if_pos rfl)))
theorem k_why (h : Rel B v p c a) (hB : B ≤ 1100) (x1 x2 : Int32) : Same B v (fX6_why v [SH, I x1, I x2]) (fun w => fX7_why w [MO, I x1, I x2]) := by
  have hR := h
  obtain ⟨g1, g2, g3, g4, g5, g6, hv, hu, hw, -⟩ := h
  have st : ∀ r, gX6_why_2 v p x1 x2 = some (v, some (I r)) → fX7_why v [MO, I x1, I x2] = some (v, some (I r)) → Same B v (fX6_why v [SH, I x1, I x2]) (fun w => fX7_why w [MO, I x1, I x2]) := fun r e e' => Same.of hR r ((qX6_why v _ _).trans ((bN_eq (s_books g3 g1)).trans ((uX6_why_2 v p _ _).trans e))) e'
  by_cases c1 : mIn x1 (a 59)
  · by_cases c2 : 0 ≤ x2 ∧ x2 ≤ 3
    · obtain ⟨t, ht, ht31, rfl⟩ := mIn_ex c1
      obtain ⟨j, hj, rfl⟩ := inM (M := 3) (by omega) c2.1 c2.2
      have h6 : a 59 ≤ 6 := hw.2.2.2.1.1
      have ht6 : t < 6 := by omega
      have qt := nI_clamp ht31
      have qj : (nI j).toNatClampNeg = j := nI_clamp (by omega)
      have hT : ∀ f, f < 7 → a (60 + 7 * t + f) ≤ 2000000 := fun f hf => by
        have := hw.tk_le hB ht6 f hf
        omega
      have ag := s_against hv (Or.inr hv) hw.1 (show j < 4 by omega) ht6 (Or.inr hv) hT
      have fg := m_forbids hu hw.1 (show j < 4 by omega) ht6 hT
      refine st (nI (fb a j (a (60 + 7 * t + 1)) (a (60 + 7 * t + 2)) (a (60 + 7 * t + 3)) (a (60 + 7 * t + 4)))) ((qX6_why_2 v p _ _).trans ?_) ((qX7_why v _ _).trans ?_)
      · refine (bI_eq (s_tT hv hw c1)).trans ((if_neg (by decide)).trans ((bI_eq (s_wT c2)).trans ((if_neg (by decide)).trans ?_)))
        simp only [qt, qj]
        exact (if_pos (mIn_nI (by omega) (by omega))).trans ((if_pos (mIn_nI (by omega) (by omega))).trans (bI_eq ag))
      · refine (bI_eq (m_tT hu hw c1)).trans ((if_neg (by decide)).trans ((bI_eq (m_inT c2)).trans ((if_neg (by decide)).trans ?_)))
        exact bI_eq fg
    · exact st (-1) ((qX6_why_2 v p _ _).trans ((bI_eq (s_tT hv hw c1)).trans ((if_neg (by decide)).trans ((bI_eq (s_wF c2)).trans (if_pos rfl))))) ((qX7_why v _ _).trans ((bI_eq (m_tT hu hw c1)).trans ((if_neg (by decide)).trans ((bI_eq (m_inF c2)).trans (if_pos rfl)))))
  · exact st (-1) ((qX6_why_2 v p _ _).trans ((bI_eq (s_tF hv hw c1)).trans (if_pos rfl))) ((qX7_why v _ _).trans ((bI_eq (m_tF hu hw c1)).trans (if_pos rfl)))
theorem k_bottles (h : Rel B v p c a) (x1 x2 : Int32) : Same B v (fX6_bottles v [SH, I x1, I x2]) (fun w => fX7_bottles w [MO, I x1, I x2]) := by
  have hR := h
  obtain ⟨g1, g2, g3, g4, g5, g6, hv, hu, hw, -⟩ := h
  by_cases c1 : 0 ≤ x1 ∧ x1 ≤ 3
  · by_cases c2 : 0 ≤ x2 ∧ x2 ≤ 10
    · obtain ⟨j, hj, rfl⟩ := inM (M := 3) (by omega) c1.1 c1.2
      obtain ⟨n, hn, rfl⟩ := inM (M := 10) (by omega) c2.1 c2.2
      have qj : (nI j).toNatClampNeg = j := nI_clamp (by omega)
      have qn : (nI n).toNatClampNeg = n := nI_clamp (by omega)
      refine Same.of hR (nI (a (if n = 0 then 151 + j else 110 + 10 * j + n))) ((qX6_bottles v _ _).trans ?_) ((qX7_bottles v _ _).trans ?_)
      · refine (bI_eq (s_wT c1)).trans ((if_neg (by decide)).trans ((bI_eq (s_wT c2)).trans ((if_neg (by decide)).trans ?_)))
        refine (bN_eq (s_books g3 g1)).trans ((uX6_bottles_14 v p _ _).trans ((qX6_bottles_14 v p _ _).trans ?_))
        simp only [qj, qn]
        exact (if_pos (mIn_nI (by omega) (by omega))).trans ((if_pos (mIn_nI (by omega) (by omega))).trans (ans (hv _ (by split <;> omega))))
      · refine (bI_eq (m_inT c1)).trans ((if_neg (by decide)).trans ((bI_eq (m_inT c2)).trans ((if_neg (by decide)).trans ?_)))
        by_cases e : n = 0
        · rw [if_pos e, (hw.2.2.2.2.2.2.2 j (by omega)).2]
          exact (if_pos (eqT (n := 0) rfl rfl e)).trans (bI_eq (m_bottled hu (by omega)))
        · rw [if_neg e]
          refine (if_neg (eqF (n := 0) rfl rfl e (by omega) (by omega))).trans ?_
          have ix : (111 : Int32) + (10 : Int32) * nI j + nI n - (1 : Int32) = nI (110 + 10 * j + n) := (congrArg (fun z => z - (1 : Int32)) (ix_o j n)).trans ((i_sub (b := 1) (by omega)).trans (congrArg nI (by omega)))
          have q := nI_clamp (show 110 + 10 * j + n < 2 ^ 31 by omega)
          simp only [ix, q]
          exact (if_pos (mIn_nI (by omega) (by omega))).trans (ans (hu _ (by omega)))
    · exact Same.of hR (-1) ((qX6_bottles v _ _).trans ((bI_eq (s_wT c1)).trans ((if_neg (by decide)).trans ((bI_eq (s_wF c2)).trans (if_pos rfl))))) ((qX7_bottles v _ _).trans ((bI_eq (m_inT c1)).trans ((if_neg (by decide)).trans ((bI_eq (m_inF c2)).trans (if_pos rfl)))))
  · exact Same.of hR (-1) ((qX6_bottles v _ _).trans ((bI_eq (s_wF c1)).trans (if_pos rfl))) ((qX7_bottles v _ _).trans ((bI_eq (m_inF c1)).trans (if_pos rfl)))
end
