-- THE CALL setVariety
section
variable {B p c : Nat} {a : Nat → Nat} {v u : MM}
theorem Wf.low (hw : Wf B a) {b : Nat → Nat} (h1 : ∀ k, k < 42 → b k ≤ 1000) (h2 : ∀ k, k < 6 → b (3 * k + 0) ≤ 800 ∧ b (3 * k + 1) ≤ 200 ∧ b (3 * k + 2) ≤ 100) (h20 : b 20 ≤ 500) (e : ∀ k, 42 ≤ k → b k = a k) : Wf (B + 1) b := by
  obtain ⟨-, -, h3, h4, h5, h6, h7, h8⟩ := hw.mono
  have ot : ∀ j, j < 6 → ∀ f, f < 7 → b (60 + 7 * j + f) = a (60 + 7 * j + f) := fun j hj f hf => e _ (by omega)
  have l : ∀ k, lot b k = lot a k := fun k => e _ (by omega)
  refine ⟨h1, h2, ⟨by rw [e 42 (by omega)]; exact h3.1, fun k hk => ?_⟩, ⟨by rw [e 59 (by omega)]; exact h4.1, fun j hj => ?_⟩, ?_, by rw [e 102 (by omega)]; exact h6, ⟨by rw [e 103 (by omega)]; exact h7.1, h20⟩, fun j hj => ?_⟩
  · rw [e 42 (by omega), e _ (by omega), l]
    exact h3.2 k hk
  · obtain ⟨f1, f2⟩ := h4.2 j hj
    rw [e 59 (by omega)]
    exact ⟨f1.cg (ot j hj), fun z f hf => (ot j hj f hf).trans (f2 z f hf)⟩
  · have s1 : sm (sug b) 6 = sm (sug a) 6 := sm_cg (fun j hj => sug_cg (ot j hj))
    have s2 : sm (lot b) 8 = sm (lot a) 8 := sm_cg (fun j hj => l j)
    rw [s1, s2, e 42 (by omega)]
    exact h5
  · obtain ⟨f1, f2⟩ := h8 j hj
    rw [e _ (by omega)]
    exact ⟨f1, f2.trans (sm_cg (fun k hk => e _ (by omega))).symm⟩
def aVar (a : Nat → Nat) (k y s z : Nat) : Nat → Nat := au (au (au a (3 * k + 0) y) (3 * k + 1) s) (3 * k + 2) z
theorem Wf.vary (hw : Wf B a) {k y s z : Nat} (hk : k < 6) (hy : y ≤ 800) (hs : s ≤ 200) (hz : z ≤ 100) : Wf (B + 1) (aVar a k y s z) := by
  have out : ∀ q, ¬ (3 * k ≤ q ∧ q < 3 * k + 3) → aVar a k y s z q = a q := fun q hq => (au_n (by omega)).trans ((au_n (by omega)).trans (au_n (by omega)))
  have e0 : aVar a k y s z (3 * k + 0) = y := (au_n (by omega)).trans ((au_n (by omega)).trans (au_s _ _ _))
  have e1 : aVar a k y s z (3 * k + 1) = s := (au_n (by omega)).trans (au_s _ _ _)
  have e2 : aVar a k y s z (3 * k + 2) = z := au_s _ _ _
  refine hw.low (fun q hq => ?_) (fun q hq => ?_) (by rw [out 20 (by omega)]; exact hw.2.2.2.2.2.2.1.2) (fun q hq => out q (by omega))
  · by_cases i : 3 * k ≤ q ∧ q < 3 * k + 3
    · have hc : q = 3 * k + 0 ∨ q = 3 * k + 1 ∨ q = 3 * k + 2 := by omega
      rcases hc with e | e | e <;> rw [e] <;> omega
    · rw [out q i]
      exact hw.1 q hq
  · by_cases i : q = k
    · rw [i, e0, e1, e2]
      exact ⟨hy, hs, hz⟩
    · rw [out _ (by omega), out _ (by omega), out _ (by omega)]
      exact hw.2.1 q hq
theorem k_setVariety (h : Rel B v p c a) (x1 x2 x3 x4 : Int32) : Same B v (fX6_setVariety v [SH, I x1, I x2, I x3, I x4]) (fun w => fX7_setVariety w [MO, I x1, I x2, I x3, I x4]) := by
  have hw := h.2.2.2.2.2.2.2.2.1
  obtain ⟨r, w, v1, v2, p', c', a', e1, e2, e3, h2, ho⟩ := call_ed (C := fun w => fX0_changeVariety w [nm 2 ((p + 1) % 8) 0, I x1, I x2, I x3, I x4]) (M := fun u => fX7_setVariety u [MO, I x1, I x2, I x3, I x4]) h (fun w u hv hu => by
    by_cases c1 : 0 ≤ x1 ∧ x1 ≤ 5
    · by_cases c2 : 300 ≤ x2 ∧ x2 ≤ 800
      · by_cases c3 : 0 ≤ x3 ∧ x3 ≤ 200
        · by_cases c4 : 0 ≤ x4 ∧ x4 ≤ 100
          · obtain ⟨k, hk, rfl⟩ := inM (M := 5) (by omega) c1.1 c1.2
            obtain ⟨y, hy, rfl⟩ := inM (M := 800) (by omega) (Int32.le_trans (by decide) c2.1) c2.2
            obtain ⟨s, hs, rfl⟩ := inM (M := 200) (by omega) c3.1 c3.2
            obtain ⟨z, hz, rfl⟩ := inM (M := 100) (by omega) c4.1 c4.2
            have qk : (nI k).toNatClampNeg = k := nI_clamp (by omega)
            have k0 := hv (3 * k + 0) (by omega)
            have q0 : (nI (3 * k + 0)).toNatClampNeg = 3 * k + 0 := nI_clamp (by omega)
            have q1 : (nI (3 * k + 1)).toNatClampNeg = 3 * k + 1 := nI_clamp (by omega)
            have q2 : (nI (3 * k + 2)).toNatClampNeg = 3 * k + 2 := nI_clamp (by omega)
            have g3 := ((hv.up (o := 3 * k + 0) (x := nI y) (n := y) rfl).up (o := 3 * k + 1) (x := nI s) (n := s) rfl).up (o := 3 * k + 2) (x := nI z) (n := z) rfl
            have hb := hw.1 (3 * k + 0) (by omega)
            refine Or.inr (Or.inr ⟨a (3 * k + 0), aVar a k y s z, _, by omega, (qX0_changeVariety w _ _ _ _ _).trans ?_, g3, ((Fr.up _ _ _ _).tr (Fr.up _ _ _ _)).tr (Fr.up _ _ _ _), hw.vary (by omega) hy hs hz, fun u1 hu1 h14 => ?_⟩)
            · simp only [qk]
              refine (bI_eq (s_wT c1)).trans ((if_neg (by decide)).trans ?_)
              refine (bI_eq (s_wT c2)).trans ((if_neg (by decide)).trans ?_)
              refine (bI_eq (s_wT c3)).trans ((if_neg (by decide)).trans ?_)
              refine (bI_eq (s_wT c4)).trans ((if_neg (by decide)).trans ?_)
              refine (if_pos (mIn_nI (by omega) (by omega))).trans ?_
              exact congrArg (fun z => some (_, some (I z))) k0
            · have m0 := h14 (3 * k + 0) (by omega)
              have n3 := ((h14.up (o := 3 * k + 0) (x := nI y) (n := y) rfl).up (o := 3 * k + 1) (x := nI s) (n := s) rfl).up (o := 3 * k + 2) (x := nI z) (n := z) rfl
              refine ⟨_, (qX7_setVariety u _ _ _ _).trans ?_, n3, ((Fr.up _ _ _ _).tr (Fr.up _ _ _ _)).tr (Fr.up _ _ _ _)⟩
              simp only [ix_v, ix_v1, ix_v2, q0, q1, q2]
              refine (bI_eq (m_inT c1)).trans ((if_neg (by decide)).trans ?_)
              refine (bI_eq (m_inT c2)).trans ((if_neg (by decide)).trans ?_)
              refine (bI_eq (m_inT c3)).trans ((if_neg (by decide)).trans ?_)
              refine (bI_eq (m_inT c4)).trans ((if_neg (by decide)).trans ?_)
              refine (bV_eq hu1).trans ?_
              refine (if_pos (mIn_nI (by omega) (by omega))).trans ((if_pos (mIn_nI (by omega) (by omega))).trans ((if_pos (mIn_nI (by omega) (by omega))).trans ((if_pos (mIn_nI (by omega) (by omega))).trans ?_)))
              exact congrArg (fun z => some (_, some (I z))) m0
          · exact Or.inl ⟨-1, by decide, by decide, (qX0_changeVariety w _ _ _ _ _).trans ((bI_eq (s_wT c1)).trans ((if_neg (by decide)).trans ((bI_eq (s_wT c2)).trans ((if_neg (by decide)).trans ((bI_eq (s_wT c3)).trans ((if_neg (by decide)).trans ((bI_eq (s_wF c4)).trans (if_pos rfl)))))))), (qX7_setVariety u _ _ _ _).trans ((bI_eq (m_inT c1)).trans ((if_neg (by decide)).trans ((bI_eq (m_inT c2)).trans ((if_neg (by decide)).trans ((bI_eq (m_inT c3)).trans ((if_neg (by decide)).trans ((bI_eq (m_inF c4)).trans (if_pos rfl))))))))⟩
        · exact Or.inl ⟨-1, by decide, by decide, (qX0_changeVariety w _ _ _ _ _).trans ((bI_eq (s_wT c1)).trans ((if_neg (by decide)).trans ((bI_eq (s_wT c2)).trans ((if_neg (by decide)).trans ((bI_eq (s_wF c3)).trans (if_pos rfl)))))), (qX7_setVariety u _ _ _ _).trans ((bI_eq (m_inT c1)).trans ((if_neg (by decide)).trans ((bI_eq (m_inT c2)).trans ((if_neg (by decide)).trans ((bI_eq (m_inF c3)).trans (if_pos rfl))))))⟩
      · exact Or.inl ⟨-1, by decide, by decide, (qX0_changeVariety w _ _ _ _ _).trans ((bI_eq (s_wT c1)).trans ((if_neg (by decide)).trans ((bI_eq (s_wF c2)).trans (if_pos rfl)))), (qX7_setVariety u _ _ _ _).trans ((bI_eq (m_inT c1)).trans ((if_neg (by decide)).trans ((bI_eq (m_inF c2)).trans (if_pos rfl))))⟩
    · exact Or.inl ⟨-1, by decide, by decide, (qX0_changeVariety w _ _ _ _ _).trans ((bI_eq (s_wF c1)).trans (if_pos rfl)), (qX7_setVariety u _ _ _ _).trans ((bI_eq (m_inF c1)).trans (if_pos rfl))⟩)
  exact ⟨r, v1, v2, p', c', a', (qX6_setVariety v _ _ _ _).trans ((bN_eq e1).trans ((uX6_setVariety_2 w _ _ _ _ _).trans ((qX6_setVariety_2 w _ _ _ _ _).trans e2))), e3, h2, ho⟩
end
