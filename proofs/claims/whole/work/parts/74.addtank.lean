-- THE CALL addTank
section
variable {B p c : Nat} {a : Nat → Nat} {v u : MM}
def aTank (a : Nat → Nat) (r : Nat) : Nat → Nat := au (au a (60 + 7 * a 59 + 0) r) 59 (a 59 + 1)
theorem Wf.tank (hw : Wf B a) {r : Nat} (hr : r ≤ 5000) (h6 : a 59 < 6) : Wf (B + 1) (aTank a r) := by
  obtain ⟨h1, h2, h3, h4, h5, h6', h7, h8⟩ := hw.mono
  have out : ∀ k, k ≠ 59 → k ≠ 60 + 7 * a 59 + 0 → aTank a r k = a k := fun k z1 z2 => (au_n z1).trans (au_n z2)
  have e59 : aTank a r 59 = a 59 + 1 := au_s _ _ _
  have er : aTank a r (60 + 7 * a 59 + 0) = r := (au_n (by omega)).trans (au_s _ _ _)
  have sg : ∀ j, j < 6 → sug (aTank a r) j = sug a j := fun j hj => by
    unfold sug
    rw [out _ (by omega) (by omega), out _ (by omega) (by omega), out _ (by omega) (by omega)]
  have l : ∀ k, k < 8 → lot (aTank a r) k = lot a k := fun k hk => out _ (by omega) (by omega)
  refine ⟨fun k hk => by rw [out k (by omega) (by omega)]; exact h1 k hk, fun k hk => ?_, ⟨by rw [out 42 (by omega) (by omega)]; exact h3.1, fun k hk => ?_⟩, ⟨by omega, fun j hj => ?_⟩, ?_, by rw [out 102 (by omega) (by omega)]; exact h6', ⟨by rw [out 103 (by omega) (by omega)]; exact h7.1, by rw [out 20 (by omega) (by omega)]; exact h7.2⟩, fun j hj => ?_⟩
  · rw [out _ (by omega) (by omega), out _ (by omega) (by omega), out _ (by omega) (by omega)]
    exact h2 k hk
  · rw [out 42 (by omega) (by omega), out _ (by omega) (by omega), l k hk]
    exact h3.2 k hk
  · obtain ⟨f1, f2⟩ := h4.2 j hj
    rw [e59]
    by_cases z : j = a 59
    · have z0 := f2 (by omega)
      refine ⟨?_, fun z => by omega⟩
      have y1 := z0 1 (by omega)
      have y2 := z0 2 (by omega)
      have y3 := z0 3 (by omega)
      have y4 := z0 4 (by omega)
      have y5 := z0 5 (by omega)
      have y6 := z0 6 (by omega)
      unfold WT
      rw [out (60 + 7 * j + 1) (by omega) (by omega), out (60 + 7 * j + 2) (by omega) (by omega), out (60 + 7 * j + 3) (by omega) (by omega), out (60 + 7 * j + 4) (by omega) (by omega), out (60 + 7 * j + 5) (by omega) (by omega), out (60 + 7 * j + 6) (by omega) (by omega), y1, y2, y3, y4, y5, y6, z, er]
      omega
    · exact ⟨f1.cg (fun f hf => out _ (by omega) (by omega)), fun y f hf => (out _ (by omega) (by omega)).trans (f2 (by omega) f hf)⟩
  · have s1 : sm (sug (aTank a r)) 6 = sm (sug a) 6 := sm_cg sg
    have s2 : sm (lot (aTank a r)) 8 = sm (lot a) 8 := sm_cg l
    rw [s1, s2, out 42 (by omega) (by omega)]
    exact h5
  · obtain ⟨f1, f2⟩ := h8 j hj
    rw [out _ (by omega) (by omega)]
    exact ⟨f1, f2.trans (sm_cg (fun k hk => out _ (by omega) (by omega))).symm⟩
theorem m_at : ∀ d j (u : MM) (b : Nat → Nat), d + j = 7 → 1 ≤ j → St 151 u 14 b → b 59 < 6 → (∀ f, 1 ≤ f → f < 7 → b (60 + 7 * b 59 + f) = 0) → ∀ y : Int32, ∃ u', gX7_addTank_19 u (nI j) y = some (u', some (I (nI (b 59)))) ∧ St 151 u' 14 (au b 59 (b 59 + 1)) ∧ Fr 14 u u'
  | 0, j, u, b, e, h1, hu, h6, hz, y => by
    have ej : j = 7 := by omega
    subst ej
    have g := hu.add (o := 59) (m := b 59) 1 (by omega) rfl
    have r := g.rd (o := 59) (m := b 59 + 1) (by omega) (au_s _ _ _)
    refine ⟨_, (qX7_addTank_19 u _ _).trans ((if_neg (by decide)).trans ((if_pos (by decide)).trans ((if_pos (by decide)).trans ((if_pos (by decide)).trans ?_)))), g, Fr.up _ _ _ _⟩
    exact congrArg (fun z => some (_, some (I z))) ((congrArg (fun z => z - (1 : Int32)) r).trans (i_sub (a := b 59 + 1) (b := 1) (by omega)))
  | d + 1, j, u, b, e, h1, hu, h6, hz, y => by
    have u59 : u.1 14 ((59 : Int32).toNatClampNeg) = nI (b 59) := hu 59 (by omega)
    have q : (nI (60 + 7 * b 59 + j)).toNatClampNeg = 60 + 7 * b 59 + j := nI_clamp (by omega)
    have g := (hu.up (o := 60 + 7 * b 59 + j) (x := 0) (n := 0) rfl).cong (fun k _ => au_same (hz j h1 (by omega)).symm k)
    obtain ⟨u', e1, s1, f1⟩ := m_at d (j + 1) _ b (by omega) (by omega) g h6 hz y
    refine ⟨u', (qX7_addTank_19 u _ _).trans ((if_pos (ltT (n := 7) rfl rfl (by omega) (by omega))).trans ((if_pos (by decide)).trans ((if_neg (eqF (n := 0) rfl rfl (by omega) (by omega) (by omega))).trans ?_))), s1, (Fr.up _ _ _ _).tr f1⟩
    simp only [u59, ix_tk, q]
    exact (if_pos (mIn_nI (by omega) (by omega))).trans ((congrArg (fun z => gX7_addTank_19 _ z y) (i_add j 1)).trans e1)
theorem k_addTank (h : Rel B v p c a) (x1 : Int32) : Same B v (fX6_addTank v [SH, I x1]) (fun w => fX7_addTank w [MO, I x1]) := by
  have hw := h.2.2.2.2.2.2.2.2.1
  have h59 := hw.2.2.2.1.1
  obtain ⟨r, w, v1, v2, p', c', a', e1, e2, e3, h2, ho⟩ := call_ed (C := fun w => fX0_openTank w [nm 2 ((p + 1) % 8) 0, I x1]) (M := fun u => fX7_addTank u [MO, I x1]) h (fun w u hv hu => by
    by_cases c1 : 1 ≤ x1 ∧ x1 ≤ 5000
    · have k59 := hv 59 (by omega)
      have u59 : u.1 14 ((59 : Int32).toNatClampNeg) = nI (a 59) := hu 59 (by omega)
      by_cases d : a 59 = 6
      · refine Or.inl ⟨-3, by decide, by decide, (qX0_openTank w _ _).trans ?_, (qX7_addTank u _).trans ?_⟩
        · refine (bI_eq (s_wT c1)).trans ((if_neg (by decide)).trans ?_)
          refine (bI_eq (s_wF ?_)).trans (if_pos rfl)
          rw [k59, d]
          decide
        · refine (bI_eq (m_inT c1)).trans ((if_neg (by decide)).trans ?_)
          exact (if_pos (by decide)).trans (if_pos (eqT u59 (n := 6) rfl d))
      · obtain ⟨r, hr, rfl⟩ := inM (M := 5000) (by omega) (Int32.le_trans (by decide) c1.1) c1.2
        have q59 : (nI (a 59)).toNatClampNeg = a 59 := nI_clamp (by omega)
        have g1 := hv.up (o := 60 + 7 * a 59 + 0) (x := nI r) (n := r) rfl
        have g2 := g1.add (o := 59) (m := a 59) 1 (by omega) (au_n (by omega))
        have r2 := g2.rd (o := 59) (m := a 59 + 1) (by omega) (au_s _ _ _)
        have z0 := (hw.2.2.2.1.2 (a 59) (by omega)).2 (Nat.le_refl _)
        refine Or.inr (Or.inr ⟨a 59, aTank a r, _, by omega, (qX0_openTank w _ _).trans ?_, g2, (Fr.up _ _ _ _).tr (Fr.up _ _ _ _), hw.tank hr (by omega), fun u1 hu1 h14 => ?_⟩)
        · refine (bI_eq (s_wT c1)).trans ((if_neg (by decide)).trans ?_)
          refine (bI_eq (s_wT ?_)).trans ((if_neg (by decide)).trans ?_)
          · rw [k59]
            exact ⟨(i_le (a := 0) (by omega) (by omega)).mpr (by omega), (i_le (b := 5) (by omega) (by omega)).mpr (by omega)⟩
          · simp only [k59, q59]
            refine (if_pos (mIn_nI (by omega) (by omega))).trans ?_
            exact congrArg (fun z => some (_, some (I z))) ((congrArg (fun z => z - (1 : Int32)) r2).trans (i_sub (a := a 59 + 1) (b := 1) (by omega)))
        · have m59 : u1.1 14 ((59 : Int32).toNatClampNeg) = nI (a 59) := h14 59 (by omega)
          have q0 : (nI (60 + 7 * a 59 + 0)).toNatClampNeg = 60 + 7 * a 59 + 0 := nI_clamp (by omega)
          have n1 := h14.up (o := 60 + 7 * a 59 + 0) (x := nI r) (n := r) rfl
          have b59 : au a (60 + 7 * a 59 + 0) r 59 = a 59 := au_n (by omega)
          obtain ⟨u', e1, s1, f1⟩ := m_at 6 1 _ _ rfl (by omega) n1 (by rw [b59]; omega) (fun f y1 y2 => by rw [b59]; exact (au_n (by omega)).trans (z0 f y2)) (nI r)
          rw [b59] at e1 s1
          refine ⟨u', (qX7_addTank u _).trans ?_, s1, (Fr.up _ _ _ _).tr f1⟩
          refine (bI_eq (m_inT c1)).trans ((if_neg (by decide)).trans ?_)
          refine (if_pos (by decide)).trans ((if_neg (eqF u59 (n := 6) rfl d (by omega) (by omega))).trans ((bV_eq hu1).trans ?_))
          refine (qX7_addTank_19 u1 _ _).trans ((if_pos (by decide)).trans ((if_pos (by decide)).trans ((if_pos rfl).trans ?_)))
          have ix : (60 : Int32) + (7 : Int32) * nI (a 59) + (0 : Int32) = nI (60 + 7 * a 59 + 0) := ix_tk (a 59) 0
          simp only [m59, ix, q0]
          exact (if_pos (mIn_nI (by omega) (by omega))).trans e1
    · exact Or.inl ⟨-1, by decide, by decide, (qX0_openTank w _ _).trans ((bI_eq (s_wF c1)).trans (if_pos rfl)), (qX7_addTank u _).trans ((bI_eq (m_inF c1)).trans (if_pos rfl))⟩)
  exact ⟨r, v1, v2, p', c', a', (qX6_addTank v _).trans ((bN_eq e1).trans ((uX6_addTank_2 w _ _).trans ((qX6_addTank_2 w _ _).trans e2))), e3, h2, ho⟩
end
