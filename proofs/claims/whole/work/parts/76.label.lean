-- THE CALL setLabel
section
variable {B p c : Nat} {a : Nat → Nat} {v u : MM}
def aLab (a : Nat → Nat) (j n1 n2 n3 n4 n5 : Nat) : Nat → Nat := au (au (au (au (au a (22 + 5 * j + 0) n1) (22 + 5 * j + 1) n2) (22 + 5 * j + 2) n3) (22 + 5 * j + 3) n4) (22 + 5 * j + 4) n5
theorem Wf.label (hw : Wf B a) {j n1 n2 n3 n4 n5 : Nat} (hj : j < 4) (h1 : n1 ≤ 1000) (h2 : n2 ≤ 1000) (h3 : n3 ≤ 1000) (h4 : n4 ≤ 1000) (h5 : n5 ≤ 1000) : Wf (B + 1) (aLab a j n1 n2 n3 n4 n5) := by
  have out : ∀ q, ¬ (22 + 5 * j ≤ q ∧ q < 22 + 5 * j + 5) → aLab a j n1 n2 n3 n4 n5 q = a q := fun q hq => (au_n (by omega)).trans ((au_n (by omega)).trans ((au_n (by omega)).trans ((au_n (by omega)).trans (au_n (by omega)))))
  have e0 : aLab a j n1 n2 n3 n4 n5 (22 + 5 * j + 0) = n1 := (au_n (by omega)).trans ((au_n (by omega)).trans ((au_n (by omega)).trans ((au_n (by omega)).trans (au_s _ _ _))))
  have e1 : aLab a j n1 n2 n3 n4 n5 (22 + 5 * j + 1) = n2 := (au_n (by omega)).trans ((au_n (by omega)).trans ((au_n (by omega)).trans (au_s _ _ _)))
  have e2 : aLab a j n1 n2 n3 n4 n5 (22 + 5 * j + 2) = n3 := (au_n (by omega)).trans ((au_n (by omega)).trans (au_s _ _ _))
  have e3 : aLab a j n1 n2 n3 n4 n5 (22 + 5 * j + 3) = n4 := (au_n (by omega)).trans (au_s _ _ _)
  have e4 : aLab a j n1 n2 n3 n4 n5 (22 + 5 * j + 4) = n5 := au_s _ _ _
  refine hw.low (fun q hq => ?_) (fun q hq => ?_) (by rw [out 20 (by omega)]; exact hw.2.2.2.2.2.2.1.2) (fun q hq => out q (by omega))
  · by_cases i : 22 + 5 * j ≤ q ∧ q < 22 + 5 * j + 5
    · have hc : q = 22 + 5 * j + 0 ∨ q = 22 + 5 * j + 1 ∨ q = 22 + 5 * j + 2 ∨ q = 22 + 5 * j + 3 ∨ q = 22 + 5 * j + 4 := by omega
      rcases hc with e | e | e | e | e <;> rw [e] <;> omega
    · rw [out q i]
      exact hw.1 q hq
  · rw [out _ (by omega), out _ (by omega), out _ (by omega)]
    exact hw.2.1 q hq
theorem s_change {N i j : Nat} (hv : St 155 v i a) (hw : Wf B a) (hj : j < 4) {n1 n2 n3 n4 n5 : Nat} (h1 : n1 ≤ 1000) (h2 : n2 ≤ 1000) (h3 : n3 ≤ 1000) (h4 : n4 ≤ 1000) (h5 : n5 ≤ 1000) : fX1_change v [nm 9 i j, I (nI n1), I (nI n2), I (nI n3), I (nI n4), I (nI n5)] = some (mUp (mUp (mUp (mUp (mUp v (i, 22 + 5 * j + 0) (nI n1)) (i, 22 + 5 * j + 1) (nI n2)) (i, 22 + 5 * j + 2) (nI n3)) (i, 22 + 5 * j + 3) (nI n4)) (i, 22 + 5 * j + 4) (nI n5), some (I (nI (if a (22 + 5 * j + 0) = n1 ∧ a (22 + 5 * j + 1) = n2 ∧ a (22 + 5 * j + 2) = n3 ∧ a (22 + 5 * j + 3) = n4 ∧ a (22 + 5 * j + 4) = n5 then 0 else 1)))) := by
  have k1 := hv (22 + 5 * j + 0) (by omega)
  have k2 := hv (22 + 5 * j + 1) (by omega)
  have k3 := hv (22 + 5 * j + 2) (by omega)
  have k4 := hv (22 + 5 * j + 3) (by omega)
  have k5 := hv (22 + 5 * j + 4) (by omega)
  have l1 := hw.1 (22 + 5 * j + 0) (by omega)
  have l2 := hw.1 (22 + 5 * j + 1) (by omega)
  have l3 := hw.1 (22 + 5 * j + 2) (by omega)
  have l4 := hw.1 (22 + 5 * j + 3) (by omega)
  have l5 := hw.1 (22 + 5 * j + 4) (by omega)
  refine (qX1_change v i j _ _ _ _ _).trans ?_
  by_cases d1 : a (22 + 5 * j + 0) = n1
  · refine (if_pos (eqT k1 rfl d1)).trans ?_
    by_cases d2 : a (22 + 5 * j + 1) = n2
    · refine (if_pos (eqT k2 rfl d2)).trans ?_
      by_cases d3 : a (22 + 5 * j + 2) = n3
      · refine (if_pos (eqT k3 rfl d3)).trans ?_
        by_cases d4 : a (22 + 5 * j + 3) = n4
        · refine (if_pos (eqT k4 rfl d4)).trans ?_
          by_cases d5 : a (22 + 5 * j + 4) = n5
          · refine (if_pos (eqT k5 rfl d5)).trans ((if_neg (by decide)).trans ?_)
            rw [if_pos ⟨d1, d2, d3, d4, d5⟩]
            rfl
          · refine (if_neg (eqF k5 rfl d5 (by omega) (by omega))).trans ((if_pos rfl).trans ?_)
            rw [if_neg (fun z => d5 z.2.2.2.2)]
            rfl
        · refine (if_neg (eqF k4 rfl d4 (by omega) (by omega))).trans ((if_pos rfl).trans ?_)
          rw [if_neg (fun z => d4 z.2.2.2.1)]
          rfl
      · refine (if_neg (eqF k3 rfl d3 (by omega) (by omega))).trans ((if_pos rfl).trans ?_)
        rw [if_neg (fun z => d3 z.2.2.1)]
        rfl
    · refine (if_neg (eqF k2 rfl d2 (by omega) (by omega))).trans ((if_pos rfl).trans ?_)
      rw [if_neg (fun z => d2 z.2.1)]
      rfl
  · refine (if_neg (eqF k1 rfl d1 (by omega) (by omega))).trans ((if_pos rfl).trans ?_)
    rw [if_neg (fun z => d1 z.1)]
    rfl
theorem k_setLabel (h : Rel B v p c a) (x1 x2 x3 x4 x5 x6 : Int32) : Same B v (fX6_setLabel v [SH, I x1, I x2, I x3, I x4, I x5, I x6]) (fun w => fX7_setLabel w [MO, I x1, I x2, I x3, I x4, I x5, I x6]) := by
  have hw := h.2.2.2.2.2.2.2.2.1
  obtain ⟨r, w, v1, v2, p', c', a', e1, e2, e3, h2, ho⟩ := call_ed (C := fun w => fX0_changeLabel w [nm 2 ((p + 1) % 8) 0, I x1, I x2, I x3, I x4, I x5, I x6]) (M := fun u => fX7_setLabel u [MO, I x1, I x2, I x3, I x4, I x5, I x6]) h (fun w u hv hu => by
    by_cases c1 : 0 ≤ x1 ∧ x1 ≤ 3
    · by_cases c2 : 0 ≤ x2 ∧ x2 ≤ 1000
      · by_cases c3 : x2 ≤ x3 ∧ x3 ≤ 1000
        · by_cases c4 : 0 ≤ x4 ∧ x4 ≤ 1000
          · by_cases c5 : x4 ≤ x5 ∧ x5 ≤ 1000
            · by_cases c6 : 0 ≤ x6 ∧ x6 ≤ 1000
              · obtain ⟨j, yj, rfl⟩ := inM (M := 3) (by omega) c1.1 c1.2
                obtain ⟨n1, y1, rfl⟩ := inM (M := 1000) (by omega) c2.1 c2.2
                obtain ⟨n2, y2, rfl⟩ := inM (M := 1000) (by omega) (Int32.le_trans c2.1 c3.1) c3.2
                obtain ⟨n3, y3, rfl⟩ := inM (M := 1000) (by omega) c4.1 c4.2
                obtain ⟨n4, y4, rfl⟩ := inM (M := 1000) (by omega) (Int32.le_trans c4.1 c5.1) c5.2
                obtain ⟨n5, y5, rfl⟩ := inM (M := 1000) (by omega) c6.1 c6.2
                have hj : j < 4 := by omega
                have l1 := hw.1 (22 + 5 * j + 0) (by omega)
                have l2 := hw.1 (22 + 5 * j + 1) (by omega)
                have l3 := hw.1 (22 + 5 * j + 2) (by omega)
                have l4 := hw.1 (22 + 5 * j + 3) (by omega)
                have l5 := hw.1 (22 + 5 * j + 4) (by omega)
                have qj : (nI j).toNatClampNeg = j := nI_clamp (by omega)
                have g5 := ((((hv.up (o := 22 + 5 * j + 0) (x := nI n1) (n := n1) rfl).up (o := 22 + 5 * j + 1) (x := nI n2) (n := n2) rfl).up (o := 22 + 5 * j + 2) (x := nI n3) (n := n3) rfl).up (o := 22 + 5 * j + 3) (x := nI n4) (n := n4) rfl).up (o := 22 + 5 * j + 4) (x := nI n5) (n := n5) rfl
                refine Or.inr (Or.inr ⟨if a (22 + 5 * j + 0) = n1 ∧ a (22 + 5 * j + 1) = n2 ∧ a (22 + 5 * j + 2) = n3 ∧ a (22 + 5 * j + 3) = n4 ∧ a (22 + 5 * j + 4) = n5 then 0 else 1, aLab a j n1 n2 n3 n4 n5, _, by split <;> omega, (qX0_changeLabel w _ _ _ _ _ _ _).trans ?_, g5, ((((Fr.up _ _ _ _).tr (Fr.up _ _ _ _)).tr (Fr.up _ _ _ _)).tr (Fr.up _ _ _ _)).tr (Fr.up _ _ _ _), hw.label hj y1 y2 y3 y4 y5, fun u1 hu1 h14 => ?_⟩)
                · simp only [qj]
                  refine (bI_eq (s_wT c1)).trans ((if_neg (by decide)).trans ?_)
                  refine (bI_eq (s_wT c2)).trans ((if_neg (by decide)).trans ?_)
                  refine (bI_eq (s_wT c3)).trans ((if_neg (by decide)).trans ?_)
                  refine (bI_eq (s_wT c4)).trans ((if_neg (by decide)).trans ?_)
                  refine (bI_eq (s_wT c5)).trans ((if_neg (by decide)).trans ?_)
                  refine (bI_eq (s_wT c6)).trans ((if_neg (by decide)).trans ?_)
                  refine (if_pos (mIn_nI (by omega) (by omega))).trans ?_
                  exact bI_eq (s_change (N := 0) hv hw hj y1 y2 y3 y4 y5)
                · have m1 := h14.up (o := 22 + 5 * j + 0) (x := nI n1) (n := n1) rfl
                  have m2 := m1.up (o := 22 + 5 * j + 1) (x := nI n2) (n := n2) rfl
                  have m3 := m2.up (o := 22 + 5 * j + 2) (x := nI n3) (n := n3) rfl
                  have m4 := m3.up (o := 22 + 5 * j + 3) (x := nI n4) (n := n4) rfl
                  have m5 := m4.up (o := 22 + 5 * j + 4) (x := nI n5) (n := n5) rfl
                  refine ⟨_, (qX7_setLabel u _ _ _ _ _ _).trans ?_, m5, ((((Fr.up _ _ _ _).tr (Fr.up _ _ _ _)).tr (Fr.up _ _ _ _)).tr (Fr.up _ _ _ _)).tr (Fr.up _ _ _ _)⟩
                  simp only [ix_b, ix_b1, ix_b2, ix_b3, ix_b4]
                  refine (bI_eq (m_inT c1)).trans ((if_neg (by decide)).trans ?_)
                  refine (bI_eq (m_inT c2)).trans ((if_neg (by decide)).trans ?_)
                  refine (bI_eq (m_inT c3)).trans ((if_neg (by decide)).trans ?_)
                  refine (bI_eq (m_inT c4)).trans ((if_neg (by decide)).trans ?_)
                  refine (bI_eq (m_inT c5)).trans ((if_neg (by decide)).trans ?_)
                  refine (bI_eq (m_inT c6)).trans ((if_neg (by decide)).trans ((if_neg (by decide)).trans ?_))
                  refine (bV_eq hu1).trans ?_
                  refine (bI_eq (m_ch (k := 22 + 5 * j + 0) h14 (by omega) (by omega) (by omega))).trans ?_
                  refine (bI_eq (m_ch (k := 22 + 5 * j + 1) m1 (by omega) (by rw [au_n (by omega)]; omega) (by omega))).trans ?_
                  refine (bI_eq (m_ch (k := 22 + 5 * j + 2) m2 (by omega) (by rw [au_n (by omega), au_n (by omega)]; omega) (by omega))).trans ?_
                  refine (bI_eq (m_ch (k := 22 + 5 * j + 3) m3 (by omega) (by rw [au_n (by omega), au_n (by omega), au_n (by omega)]; omega) (by omega))).trans ?_
                  refine (bI_eq (m_ch (k := 22 + 5 * j + 4) m4 (by omega) (by rw [au_n (by omega), au_n (by omega), au_n (by omega), au_n (by omega)]; omega) (by omega))).trans ?_
                  refine (chg5 _ _ _ _ _ (fun z => some (_, some (I z)))).trans ?_
                  have q1 : au a (22 + 5 * j + 0) n1 (22 + 5 * j + 1) = a (22 + 5 * j + 1) := au_n (by omega)
                  have q2 : au (au a (22 + 5 * j + 0) n1) (22 + 5 * j + 1) n2 (22 + 5 * j + 2) = a (22 + 5 * j + 2) := (au_n (by omega)).trans (au_n (by omega))
                  have q3 : au (au (au a (22 + 5 * j + 0) n1) (22 + 5 * j + 1) n2) (22 + 5 * j + 2) n3 (22 + 5 * j + 3) = a (22 + 5 * j + 3) := (au_n (by omega)).trans ((au_n (by omega)).trans (au_n (by omega)))
                  have q4 : au (au (au (au a (22 + 5 * j + 0) n1) (22 + 5 * j + 1) n2) (22 + 5 * j + 2) n3) (22 + 5 * j + 3) n4 (22 + 5 * j + 4) = a (22 + 5 * j + 4) := (au_n (by omega)).trans ((au_n (by omega)).trans ((au_n (by omega)).trans (au_n (by omega))))
                  rw [q1, q2, q3, q4]
              · exact Or.inl ⟨-1, by decide, by decide, (qX0_changeLabel w _ _ _ _ _ _ _).trans ((bI_eq (s_wT c1)).trans ((if_neg (by decide)).trans ((bI_eq (s_wT c2)).trans ((if_neg (by decide)).trans ((bI_eq (s_wT c3)).trans ((if_neg (by decide)).trans ((bI_eq (s_wT c4)).trans ((if_neg (by decide)).trans ((bI_eq (s_wT c5)).trans ((if_neg (by decide)).trans ((bI_eq (s_wF c6)).trans (if_pos rfl)))))))))))), (qX7_setLabel u _ _ _ _ _ _).trans ((bI_eq (m_inT c1)).trans ((if_neg (by decide)).trans ((bI_eq (m_inT c2)).trans ((if_neg (by decide)).trans ((bI_eq (m_inT c3)).trans ((if_neg (by decide)).trans ((bI_eq (m_inT c4)).trans ((if_neg (by decide)).trans ((bI_eq (m_inT c5)).trans ((if_neg (by decide)).trans ((bI_eq (m_inF c6)).trans ((if_pos rfl).trans (if_pos rfl)))))))))))))⟩
            · exact Or.inl ⟨-1, by decide, by decide, (qX0_changeLabel w _ _ _ _ _ _ _).trans ((bI_eq (s_wT c1)).trans ((if_neg (by decide)).trans ((bI_eq (s_wT c2)).trans ((if_neg (by decide)).trans ((bI_eq (s_wT c3)).trans ((if_neg (by decide)).trans ((bI_eq (s_wT c4)).trans ((if_neg (by decide)).trans ((bI_eq (s_wF c5)).trans (if_pos rfl)))))))))), (qX7_setLabel u _ _ _ _ _ _).trans ((bI_eq (m_inT c1)).trans ((if_neg (by decide)).trans ((bI_eq (m_inT c2)).trans ((if_neg (by decide)).trans ((bI_eq (m_inT c3)).trans ((if_neg (by decide)).trans ((bI_eq (m_inT c4)).trans ((if_neg (by decide)).trans ((bI_eq (m_inF c5)).trans ((if_pos rfl).trans (if_pos rfl)))))))))))⟩
          · exact Or.inl ⟨-1, by decide, by decide, (qX0_changeLabel w _ _ _ _ _ _ _).trans ((bI_eq (s_wT c1)).trans ((if_neg (by decide)).trans ((bI_eq (s_wT c2)).trans ((if_neg (by decide)).trans ((bI_eq (s_wT c3)).trans ((if_neg (by decide)).trans ((bI_eq (s_wF c4)).trans (if_pos rfl)))))))), (qX7_setLabel u _ _ _ _ _ _).trans ((bI_eq (m_inT c1)).trans ((if_neg (by decide)).trans ((bI_eq (m_inT c2)).trans ((if_neg (by decide)).trans ((bI_eq (m_inT c3)).trans ((if_neg (by decide)).trans ((bI_eq (m_inF c4)).trans ((if_pos rfl).trans (if_pos rfl)))))))))⟩
        · exact Or.inl ⟨-1, by decide, by decide, (qX0_changeLabel w _ _ _ _ _ _ _).trans ((bI_eq (s_wT c1)).trans ((if_neg (by decide)).trans ((bI_eq (s_wT c2)).trans ((if_neg (by decide)).trans ((bI_eq (s_wF c3)).trans (if_pos rfl)))))), (qX7_setLabel u _ _ _ _ _ _).trans ((bI_eq (m_inT c1)).trans ((if_neg (by decide)).trans ((bI_eq (m_inT c2)).trans ((if_neg (by decide)).trans ((bI_eq (m_inF c3)).trans ((if_pos rfl).trans (if_pos rfl)))))))⟩
      · exact Or.inl ⟨-1, by decide, by decide, (qX0_changeLabel w _ _ _ _ _ _ _).trans ((bI_eq (s_wT c1)).trans ((if_neg (by decide)).trans ((bI_eq (s_wF c2)).trans (if_pos rfl)))), (qX7_setLabel u _ _ _ _ _ _).trans ((bI_eq (m_inT c1)).trans ((if_neg (by decide)).trans ((bI_eq (m_inF c2)).trans ((if_pos rfl).trans (if_pos rfl)))))⟩
    · exact Or.inl ⟨-1, by decide, by decide, (qX0_changeLabel w _ _ _ _ _ _ _).trans ((bI_eq (s_wF c1)).trans (if_pos rfl)), (qX7_setLabel u _ _ _ _ _ _).trans ((bI_eq (m_inF c1)).trans ((if_pos rfl).trans (if_pos rfl)))⟩)
  exact ⟨r, v1, v2, p', c', a', (qX6_setLabel v _ _ _ _ _ _).trans ((bN_eq e1).trans ((uX6_setLabel_2 w _ _ _ _ _ _ _).trans ((qX6_setLabel_2 w _ _ _ _ _ _ _).trans e2))), e3, h2, ho⟩
end
