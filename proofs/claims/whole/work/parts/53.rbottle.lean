-- BOTTLE: both answers
section
variable {B : Nat} {v u : MM} {i : Nat} {a : Nat → Nat}
abbrev fbt (a : Nat → Nat) (j t : Nat) : Nat := fb a j (a (60 + 7 * t + 1)) (a (60 + 7 * t + 2)) (a (60 + 7 * t + 3)) (a (60 + 7 * t + 4))
theorem s_against {i1 : Nat} {a1 : Nat → Nat} (hv : St 155 v i a) (hv1 : St 67 v i1 a1 ∨ St 155 v i1 a1) (hL : ∀ k, k < 42 → a k ≤ 1000) {j t : Nat} (hj : j < 4) (ht : t < 6) (ht1 : t = 0 ∨ St 155 v i1 a1) (hT : ∀ f, f < 7 → a1 (60 + 7 * t + f) ≤ 2000000) : fX1_reasonAgainst v [nm 9 i j, nm 12 i1 t] = some (v, some (I (nI (fb a j (a1 (60 + 7 * t + 1)) (a1 (60 + 7 * t + 2)) (a1 (60 + 7 * t + 3)) (a1 (60 + 7 * t + 4)))))) := by
  have rd : ∀ f, f < 7 → v.1 i1 (60 + 7 * t + f) = nI (a1 (60 + 7 * t + f)) := by
    intro f hf
    rcases ht1 with e | h
    · rcases hv1 with h | h
      · exact h _ (by omega)
      · exact h _ (by omega)
    · exact h _ (by omega)
  refine (qX1_reasonAgainst v i j i1 t).trans ?_
  rw [rd 1 (by omega), rd 2 (by omega), rd 3 (by omega), rd 4 (by omega)]
  have b1 := hT 1 (by omega)
  exact bI_eq (s_rj hv hL hj (by omega) (hT 2 (by omega)) (hT 3 (by omega)) (hT 4 (by omega)))
theorem r_fill (hv : St 155 v i a) (hu : St 151 u 14 a) (hw : Wf B a) (hB : B ≤ 1100) (x1 x2 x3 x4 : Int32) :
    (fX0_bottleJuice v [nm 2 i 0, I x1, I x2, I x3, I x4] = some (v, some (I (-1))) ∧ ∀ x5, fX7_fillsBottles u [MO, I x1, I x2, I x3, I x4, I x5] = some (u, some (I (-1)))) ∨
    (∃ y, fX0_bottleJuice v [nm 2 i 0, I x1, I x2, I x3, I x4] = some (mUp v (i, 155) y, some (I (-2))) ∧ ∀ x5, fX7_fillsBottles u [MO, I x1, I x2, I x3, I x4, I x5] = some (mUp u (13, 4) y, some (I (-2)))) ∨
    (∃ n a' v', n < 2 ^ 31 ∧ fX0_bottleJuice v [nm 2 i 0, I x1, I x2, I x3, I x4] = some (v', some (I (nI n))) ∧ St 155 v' i a' ∧ Fr i v v' ∧ Wf (B + 1) a' ∧ (∀ w, St 151 w 14 a → ∃ w', fTail w x1 x2 x3 x4 = some (w', some (I (nI n))) ∧ St 151 w' 14 a' ∧ Fr 14 w w') ∧ fX7_fillsBottles u [MO, I x1, I x2, I x3, I x4, I 0] = fTail u x1 x2 x3 x4 ∧ ∀ x5, x5 ≠ 0 → ∀ u1, fX7_edits u [MO] = some (u1, none) → fX7_fillsBottles u [MO, I x1, I x2, I x3, I x4, I x5] = fTail u1 x1 x2 x3 x4) := by
  by_cases c1 : mIn x1 (a 59)
  · by_cases c2 : 0 ≤ x2 ∧ x2 ≤ 3
    · by_cases c3 : 1 ≤ x3 ∧ x3 ≤ 10
      · by_cases c4 : 1 ≤ x4 ∧ x4 ≤ 5000
        · obtain ⟨t, ht, ht31, rfl⟩ := mIn_ex c1
          obtain ⟨j, hj, rfl⟩ := inM (M := 3) (by omega) c2.1 c2.2
          obtain ⟨s, hs, rfl⟩ := inM (M := 10) (by omega) (Int32.le_trans (by decide) c3.1) c3.2
          obtain ⟨c, hc, rfl⟩ := inM (M := 5000) (by omega) (Int32.le_trans (by decide) c4.1) c4.2
          have s1 : 1 ≤ s := (i_le (a := 1) (by omega) (by omega)).mp c3.1
          have c1' : 1 ≤ c := (i_le (a := 1) (by omega) (by omega)).mp c4.1
          have w4 := hw.2.2.2.1
          have ht6 : t < 6 := by omega
          obtain ⟨⟨t0, t1, t4, tz⟩, -⟩ := w4.2 t ht6
          have kf := hv (60 + 7 * t + 1) (by omega)
          have hT : ∀ f, f < 7 → a (60 + 7 * t + f) ≤ 2000000 := fun f hf => by
            have := hw.tk_le hB ht6 f hf
            omega
          have ag := s_against hv (Or.inr hv) hw.1 (show j < 4 by omega) ht6 (Or.inr hv) hT
          have fg := m_forbids hu hw.1 (show j < 4 by omega) ht6 hT
          obtain ⟨y, hy⟩ : ∃ y, y = fb a j (a (60 + 7 * t + 1)) (a (60 + 7 * t + 2)) (a (60 + 7 * t + 3)) (a (60 + 7 * t + 4)) := ⟨_, rfl⟩
          have y6 : y ≤ 6 := by
            rw [hy]
            exact fb_le a j _ _ _ _
          rw [← hy] at ag fg
          have hm : s * c ≤ 10 * 5000 := Nat.mul_le_mul hs hc
          have qj : (nI j).toNatClampNeg = j := nI_clamp (by omega)
          by_cases d : y = 0
          · rw [d] at ag fg
            by_cases e : a (60 + 7 * t + 1) < s * c
            · refine Or.inr (Or.inl ⟨7, (qX0_bottleJuice v i _ _ _ _).trans ?_, fun x5 => (qX7_fillsBottles u _ _ _ _ _).trans ?_⟩)
              · simp only [nI_clamp ht31, qj]
                refine (bI_eq (s_tT hv hw c1)).trans ((if_neg (by decide)).trans ?_)
                refine (bI_eq (s_wT c2)).trans ((if_neg (by decide)).trans ?_)
                refine (bI_eq (s_wT c3)).trans ((if_neg (by decide)).trans ?_)
                refine (bI_eq (s_wT c4)).trans ((if_neg (by decide)).trans ?_)
                refine (if_pos (mIn_nI (by omega) (by omega))).trans ?_
                refine (if_pos (mIn_nI ht6 (by omega))).trans ?_
                refine (bI_eq ag).trans ((if_pos rfl).trans ?_)
                refine (if_pos (mIn_nI ht6 (by omega))).trans ?_
                refine (if_pos (ltT kf (pk_mul s c) e (by omega))).trans ?_
                exact bI_eq (s_refuse _ _ _)
              · refine (bI_eq (m_tT hu hw c1)).trans ((if_neg (by decide)).trans ?_)
                refine (bI_eq (m_inT c2)).trans ((if_neg (by decide)).trans ?_)
                refine (bI_eq (m_inT c3)).trans ((if_neg (by decide)).trans ?_)
                refine (bI_eq (m_inT c4)).trans ((if_neg (by decide)).trans ?_)
                refine (bI_eq fg).trans ((if_pos rfl).trans ?_)
                refine (bI_eq (m_of hu t 1 (by omega))).trans ?_
                refine (if_pos (ltT rfl (pk_mul s c) e (by omega))).trans ?_
                refine (if_pos (by decide)).trans ?_
                exact bI_eq (m_refuses _ _)
            · have hn : s * c ≤ a (60 + 7 * t + 1) := by omega
              obtain ⟨b1, b2⟩ := hw.bot ht (show j < 4 by omega) ⟨s1, hs⟩ ⟨c1', hc⟩ hn
              have b3 := (b1.2.2.2.2.2.2.2 j (by omega)).1
              rw [b2] at b3
              obtain ⟨v1, e1, h1, f1⟩ := s_drop hv (by omega) (hw.sml hB ht6) hn
              obtain ⟨v2, e2, h2, f2⟩ := s_addB (c := c) h1 (show j < 4 by omega) ⟨s1, hs⟩
              have h3 := h2.add (o := 109) (m := a 109) (s * c) (by omega) (by rw [au_n (by omega), au_n (by omega)]; exact aDrop_out (by omega))
              rw [aDrop_out (by omega), aDrop_out (by omega)] at h3
              refine Or.inr (Or.inr ⟨a (151 + j) + c, aBot a t j s c, _, by omega, (qX0_bottleJuice v i _ _ _ _).trans ?_, h3, (f1.tr f2).tr (Fr.up i _ _ _), b1, fun w h => m_tail h hw hB ht (by omega) ⟨s1, hs⟩ ⟨c1', hc⟩ hn, (qX7_fillsBottles u _ _ _ _ _).trans ?_, fun x5 hx u1 hu1 => (qX7_fillsBottles u _ _ _ _ _).trans ?_⟩)
              · simp only [nI_clamp ht31, qj]
                refine (bI_eq (s_tT hv hw c1)).trans ((if_neg (by decide)).trans ?_)
                refine (bI_eq (s_wT c2)).trans ((if_neg (by decide)).trans ?_)
                refine (bI_eq (s_wT c3)).trans ((if_neg (by decide)).trans ?_)
                refine (bI_eq (s_wT c4)).trans ((if_neg (by decide)).trans ?_)
                refine (if_pos (mIn_nI (by omega) (by omega))).trans ?_
                refine (if_pos (mIn_nI ht6 (by omega))).trans ?_
                refine (bI_eq ag).trans ((if_pos rfl).trans ?_)
                refine (if_pos (mIn_nI ht6 (by omega))).trans ?_
                refine (if_neg (ltF kf (pk_mul s c) hn (by omega))).trans ?_
                refine (if_pos (mIn_nI ht6 (by omega))).trans ?_
                simp only [pk_mul]
                refine (bV_eq e1).trans ?_
                refine (if_pos (mIn_nI (by omega) (by omega))).trans ?_
                refine (bV_eq e2).trans ?_
                refine (if_pos (by decide)).trans ?_
                refine (if_pos (by decide)).trans ?_
                refine (if_pos (mIn_nI (by omega) (by omega))).trans ?_
                refine (if_pos (by decide)).trans ?_
                have r := h3.rd (o := 151 + j) (m := a (151 + j) + c) (by omega) b2
                exact congrArg (fun z => some (_, some (I z))) r
              · refine (bI_eq (m_tT hu hw c1)).trans ((if_neg (by decide)).trans ?_)
                refine (bI_eq (m_inT c2)).trans ((if_neg (by decide)).trans ?_)
                refine (bI_eq (m_inT c3)).trans ((if_neg (by decide)).trans ?_)
                refine (bI_eq (m_inT c4)).trans ((if_neg (by decide)).trans ?_)
                refine (bI_eq fg).trans ((if_pos rfl).trans ?_)
                refine (bI_eq (m_of hu t 1 (by omega))).trans ?_
                refine (if_neg (ltF rfl (pk_mul s c) hn (by omega))).trans ?_
                refine (if_neg (by decide)).trans ?_
                exact if_pos rfl
              · refine (bI_eq (m_tT hu hw c1)).trans ((if_neg (by decide)).trans ?_)
                refine (bI_eq (m_inT c2)).trans ((if_neg (by decide)).trans ?_)
                refine (bI_eq (m_inT c3)).trans ((if_neg (by decide)).trans ?_)
                refine (bI_eq (m_inT c4)).trans ((if_neg (by decide)).trans ?_)
                refine (bI_eq fg).trans ((if_pos rfl).trans ?_)
                refine (bI_eq (m_of hu t 1 (by omega))).trans ?_
                refine (if_neg (ltF rfl (pk_mul s c) hn (by omega))).trans ?_
                refine (if_neg (by decide)).trans ?_
                refine (if_neg hx).trans ?_
                exact bV_eq hu1
          · refine Or.inr (Or.inl ⟨nI y, (qX0_bottleJuice v i _ _ _ _).trans ?_, fun x5 => (qX7_fillsBottles u _ _ _ _ _).trans ?_⟩)
            · simp only [nI_clamp ht31, qj]
              refine (bI_eq (s_tT hv hw c1)).trans ((if_neg (by decide)).trans ?_)
              refine (bI_eq (s_wT c2)).trans ((if_neg (by decide)).trans ?_)
              refine (bI_eq (s_wT c3)).trans ((if_neg (by decide)).trans ?_)
              refine (bI_eq (s_wT c4)).trans ((if_neg (by decide)).trans ?_)
              refine (if_pos (mIn_nI (by omega) (by omega))).trans ?_
              refine (if_pos (mIn_nI ht6 (by omega))).trans ?_
              refine (bI_eq ag).trans ((if_neg (eqF rfl (n := 0) rfl d (by omega) (by omega))).trans ?_)
              exact bI_eq (s_refuse _ _ _)
            · refine (bI_eq (m_tT hu hw c1)).trans ((if_neg (by decide)).trans ?_)
              refine (bI_eq (m_inT c2)).trans ((if_neg (by decide)).trans ?_)
              refine (bI_eq (m_inT c3)).trans ((if_neg (by decide)).trans ?_)
              refine (bI_eq (m_inT c4)).trans ((if_neg (by decide)).trans ?_)
              refine (bI_eq fg).trans ((if_neg (eqF rfl (n := 0) rfl d (by omega) (by omega))).trans ?_)
              refine (if_pos (ltT (m := 0) rfl rfl (by omega) (by omega))).trans ?_
              exact bI_eq (m_refuses _ _)
        · refine Or.inl ⟨(qX0_bottleJuice v i _ _ _ _).trans ?_, fun x5 => (qX7_fillsBottles u _ _ _ _ _).trans ?_⟩
          · refine (bI_eq (s_tT hv hw c1)).trans ((if_neg (by decide)).trans ?_)
            refine (bI_eq (s_wT c2)).trans ((if_neg (by decide)).trans ?_)
            refine (bI_eq (s_wT c3)).trans ((if_neg (by decide)).trans ?_)
            exact (bI_eq (s_wF c4)).trans (if_pos rfl)
          · refine (bI_eq (m_tT hu hw c1)).trans ((if_neg (by decide)).trans ?_)
            refine (bI_eq (m_inT c2)).trans ((if_neg (by decide)).trans ?_)
            refine (bI_eq (m_inT c3)).trans ((if_neg (by decide)).trans ?_)
            exact (bI_eq (m_inF c4)).trans (if_pos rfl)
      · refine Or.inl ⟨(qX0_bottleJuice v i _ _ _ _).trans ?_, fun x5 => (qX7_fillsBottles u _ _ _ _ _).trans ?_⟩
        · refine (bI_eq (s_tT hv hw c1)).trans ((if_neg (by decide)).trans ?_)
          refine (bI_eq (s_wT c2)).trans ((if_neg (by decide)).trans ?_)
          exact (bI_eq (s_wF c3)).trans (if_pos rfl)
        · refine (bI_eq (m_tT hu hw c1)).trans ((if_neg (by decide)).trans ?_)
          refine (bI_eq (m_inT c2)).trans ((if_neg (by decide)).trans ?_)
          exact (bI_eq (m_inF c3)).trans (if_pos rfl)
    · refine Or.inl ⟨(qX0_bottleJuice v i _ _ _ _).trans ?_, fun x5 => (qX7_fillsBottles u _ _ _ _ _).trans ?_⟩
      · refine (bI_eq (s_tT hv hw c1)).trans ((if_neg (by decide)).trans ?_)
        exact (bI_eq (s_wF c2)).trans (if_pos rfl)
      · refine (bI_eq (m_tT hu hw c1)).trans ((if_neg (by decide)).trans ?_)
        exact (bI_eq (m_inF c2)).trans (if_pos rfl)
  · refine Or.inl ⟨(qX0_bottleJuice v i _ _ _ _).trans ?_, fun x5 => (qX7_fillsBottles u _ _ _ _ _).trans ?_⟩
    · exact (bI_eq (s_tF hv hw c1)).trans (if_pos rfl)
    · exact (bI_eq (m_tF hu hw c1)).trans (if_pos rfl)
theorem r_bottle (hv : St 155 v i a) (hu : St 151 u 14 a) (hw : Wf B a) (hB : B ≤ 1100) (x1 x2 x3 x4 : Int32) : Two B (fX0_bottleJuice v [nm 2 i 0, I x1, I x2, I x3, I x4]) (fX7_fillsBottles u [MO, I x1, I x2, I x3, I x4, I 0]) v u i a := by
  rcases r_fill hv hu hw hB x1 x2 x3 x4 with ⟨e, e'⟩ | ⟨y, e, e'⟩ | ⟨n, a', v', hn, e, h1, f1, hw', ht, e', -⟩
  · exact Two.no (-1) hv hu hw (by decide) e (e' 0)
  · exact Two.ref y hv hu hw e (e' 0)
  · obtain ⟨u', e2, h2, f2⟩ := ht u hu
    exact Two.ok hn e (e'.trans e2) h1 h2 f1 f2 hw'
end
