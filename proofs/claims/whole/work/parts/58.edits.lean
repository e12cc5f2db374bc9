-- SAVING, EXCHANGING, UNDOING in the model
section
theorem mUp_o (v : MM) (r o o' : Nat) (x : Int32) (h : o' ≠ o) : (mUp v (r, o) x).1 r o' = v.1 r o' := if_neg (fun z => h z.2)
theorem m_exc2 : ∀ d k (u : MM) (y : Int32), d + k = 151 → ∃ u', gX7_exchanges_2_2 u (nI k) y = some (u', none) ∧ (∀ q, k ≤ q → q < 151 → u'.1 14 q = u.1 16 q ∧ u'.1 16 q = u.1 14 q) ∧ (∀ q, q < k → u'.1 14 q = u.1 14 q ∧ u'.1 16 q = u.1 16 q) ∧ (∀ r, r ≠ 14 → r ≠ 16 → u'.1 r = u.1 r) ∧ u'.2 = u.2
  | 0, k, u, y, e => by
    have e : k = 151 := by omega
    subst e
    exact ⟨u, (qX7_exchanges_2_2 u _ _).trans (if_neg (by decide)), fun q h1 h2 => by omega, fun q h => ⟨rfl, rfl⟩, fun _ _ _ => rfl, rfl⟩
  | d + 1, k, u, y, e => by
    obtain ⟨u', e', h1, h2, h3, h4⟩ := m_exc2 d (k + 1) (mUp (mUp u (14, k) (u.1 16 k)) (16, k) (u.1 14 k)) (u.1 14 k) (by omega)
    have qk : (nI k).toNatClampNeg = k := nI_clamp (by omega)
    have w14 : ∀ q, q ≠ k → (mUp (mUp u (14, k) (u.1 16 k)) (16, k) (u.1 14 k)).1 14 q = u.1 14 q := fun q hq => (congrFun ((Fr.up 16 k (mUp u (14, k) (u.1 16 k)) (u.1 14 k)).1 14 (by decide)) q).trans (if_neg (fun z => hq z.2))
    have w16 : ∀ q, q ≠ k → (mUp (mUp u (14, k) (u.1 16 k)) (16, k) (u.1 14 k)).1 16 q = u.1 16 q := fun q hq => (if_neg (fun z => hq z.2)).trans (congrFun ((Fr.up 14 k u (u.1 16 k)).1 16 (by decide)) q)
    have s14 : (mUp (mUp u (14, k) (u.1 16 k)) (16, k) (u.1 14 k)).1 14 k = u.1 16 k := (congrFun ((Fr.up 16 k (mUp u (14, k) (u.1 16 k)) (u.1 14 k)).1 14 (by decide)) k).trans (mUp_s _ _ _ _)
    have s16 : (mUp (mUp u (14, k) (u.1 16 k)) (16, k) (u.1 14 k)).1 16 k = u.1 14 k := mUp_s _ _ _ _
    refine ⟨u', (qX7_exchanges_2_2 u _ _).trans ?_, fun q x y => ?_, fun q x => ?_, fun r x y => ?_, h4⟩
    · simp only [qk]
      refine (if_pos (ltT (n := 151) rfl rfl (by omega) (by omega))).trans ?_
      refine (if_pos (mIn_nI (by omega) (by omega))).trans ?_
      refine (if_pos (mIn_nI (by omega) (by omega))).trans ?_
      refine (if_pos (mIn_nI (by omega) (by omega))).trans ?_
      refine (if_pos (mIn_nI (by omega) (by omega))).trans ?_
      rw [show nI k + (1 : Int32) = nI (k + 1) from i_add k 1]
      exact e'
    · by_cases c : q = k
      · obtain ⟨g1, g2⟩ := h2 q (by omega)
        rw [g1, g2, c]
        exact ⟨s14, s16⟩
      · obtain ⟨g1, g2⟩ := h1 q (by omega) y
        rw [g1, g2]
        exact ⟨w16 q c, w14 q c⟩
    · obtain ⟨g1, g2⟩ := h2 q (by omega)
      rw [g1, g2]
      exact ⟨w14 q (by omega), w16 q (by omega)⟩
    · exact (h3 r x y).trans (((Fr.up 16 k (mUp u (14, k) (u.1 16 k)) (u.1 14 k)).1 r y).trans ((Fr.up 14 k u (u.1 16 k)).1 r x))
theorem m_exchanges (u : MM) : ∃ u', fX7_exchanges u [MO] = some (u', none) ∧ (∀ q, q < 151 → u'.1 14 q = u.1 16 q ∧ u'.1 16 q = u.1 14 q) ∧ (∀ r, r ≠ 14 → r ≠ 16 → u'.1 r = u.1 r) ∧ u'.2 = u.2 := by
  obtain ⟨u', e, h1, -, h3, h4⟩ := m_exc2 151 0 u 0 rfl
  refine ⟨u', (qX7_exchanges u).trans ?_, fun q h => h1 q (by omega) h, h3, h4⟩
  exact ((qX7_exchanges_2 u _).trans (qX7_exchanges_2_2 u _ 0).symm).trans e
theorem m_edits {c : Nat} (u : MM) (hc : c ≤ 6) (hp : u.1 13 2 = nI c) : ∃ u', fX7_edits u [MO] = some (u', none) ∧ u'.1 13 2 = nI (min (c + 1) 6) ∧ u'.1 13 4 = 0 ∧ (∀ o, o ≠ 2 → o ≠ 4 → u'.1 13 o = u.1 13 o) ∧ (∀ r, r ≠ 13 → r ≠ 15 → u'.1 r = u.1 r) ∧ u'.2 = u.2 ∧ (∀ q, q < 151 → u'.1 15 (151 * min c 5 + q) = u.1 14 q) ∧ ∀ q, q < 151 * min c 5 → u'.1 15 q = u.1 15 (if c = 6 then q + 151 else q) := by
  have fin : ∀ (w w' : MM) (c' : Nat), c' ≤ 5 → Fr 15 w w' → (mUp (mUp w' (13, 2) (nI (c' + 1))) (13, 4) 0).1 13 2 = nI (c' + 1) ∧ (mUp (mUp w' (13, 2) (nI (c' + 1))) (13, 4) 0).1 13 4 = 0 ∧ (∀ o, o ≠ 2 → o ≠ 4 → (mUp (mUp w' (13, 2) (nI (c' + 1))) (13, 4) 0).1 13 o = w.1 13 o) ∧ (∀ r, r ≠ 13 → (mUp (mUp w' (13, 2) (nI (c' + 1))) (13, 4) 0).1 r = w'.1 r) := by
    intro w w' c' hc' f
    refine ⟨?_, mUp_s _ _ _ _, fun o h2 h4 => ?_, fun r hr => ?_⟩
    · exact (mUp_o _ 13 4 2 _ (by decide)).trans (mUp_s _ _ _ _)
    · exact (if_neg (fun z => h4 z.2)).trans ((if_neg (fun z => h2 z.2)).trans (congrFun (f.1 13 (by decide)) o))
    · exact ((Fr.up 13 4 (mUp w' (13, 2) (nI (c' + 1))) 0).1 r hr).trans ((Fr.up 13 2 w' (nI (c' + 1))).1 r hr)
  by_cases z : c = 6
  · obtain ⟨w, e1, g1, g2, fw⟩ := m_shift 755 0 u rfl (by rw [hp, z])
    obtain ⟨u', e2, k1, k2, fu⟩ := m_save (c := 5) (by omega) 151 0 (mUp w (13, 2) (nI 5)) rfl (mUp_s _ _ _ _)
    obtain ⟨t1, t2, t3, t4⟩ := fin (mUp w (13, 2) (nI 5)) u' 5 (by omega) fu
    have m1 : min (c + 1) 6 = 5 + 1 := by omega
    have m2 : min c 5 = 5 := by omega
    rw [m1, m2]
    have w15 : ∀ q, (mUp w (13, 2) (nI 5)).1 15 q = w.1 15 q := fun q => congrFun ((Fr.up 13 2 w (nI 5)).1 15 (by decide)) q
    refine ⟨_, (qX7_edits u).trans ((if_pos (by rw [hp, z]; rfl)).trans (e1.trans e2)), t1, t2, fun o h2 h4 => ?_, fun r h3 h5 => ?_, ?_, fun q hq => ?_, fun q hq => ?_⟩
    · exact (t3 o h2 h4).trans ((if_neg (fun z => h2 z.2)).trans (congrFun (fw.1 13 (by decide)) o))
    · exact (t4 r h3).trans ((fu.1 r h5).trans (((Fr.up 13 2 w (nI 5)).1 r h3).trans (fw.1 r h5)))
    · exact fu.2.trans fw.2
    · rw [t4 15 (by decide), k1 q (by omega) hq]
      exact (congrFun ((Fr.up 13 2 w (nI 5)).1 14 (by decide)) q).trans (congrFun (fw.1 14 (by decide)) q)
    · rw [t4 15 (by decide), k2 q (by omega), w15, g1 q (by omega) (by omega), if_pos z]
  · obtain ⟨u', e2, k1, k2, fu⟩ := m_save (c := c) (by omega) 151 0 u rfl hp
    obtain ⟨t1, t2, t3, t4⟩ := fin u u' c (by omega) fu
    have m1 : min (c + 1) 6 = c + 1 := by omega
    have m2 : min c 5 = c := by omega
    rw [m1, m2]
    refine ⟨_, (qX7_edits u).trans ((if_neg (eqF hp (n := 6) rfl z (by omega) (by omega))).trans e2), t1, t2, t3, fun r h3 h5 => ?_, ?_, fun q hq => ?_, fun q hq => ?_⟩
    · exact (t4 r h3).trans (fu.1 r h5)
    · exact fu.2
    · rw [t4 15 (by decide), k1 q (by omega) hq]
    · rw [t4 15 (by decide), k2 q (by omega), if_neg z]
theorem m_undo {c : Nat} (u : MM) (hc : 0 < c) (hc6 : c ≤ 6) (hp : u.1 13 2 = nI c) : ∃ u', fX7_undo u [MO] = some (u', some (I (nI (c - 1)))) ∧ u'.1 13 2 = nI (c - 1) ∧ (∀ o, o ≠ 2 → u'.1 13 o = u.1 13 o) ∧ (∀ r, r ≠ 13 → r ≠ 14 → u'.1 r = u.1 r) ∧ u'.2 = u.2 ∧ ∀ q, q < 151 → u'.1 14 q = u.1 15 (151 * (c - 1) + q) := by
  have hs : nI c - (1 : Int32) = nI (c - 1) := i_sub (b := 1) hc
  obtain ⟨u', e, h1, -, f⟩ := m_und2 (c := c - 1) (by omega) 151 0 (mUp u (13, 2) (nI (c - 1))) rfl (mUp_s _ _ _ _)
  refine ⟨u', (qX7_undo u).trans ?_, ?_, fun o ho => ?_, fun r h3 h4 => ?_, f.2, fun q hq => ?_⟩
  · simp only [hp, hs]
    exact (if_neg (eqF rfl (n := 0) rfl (by omega) (by omega) (by omega))).trans e
  · exact (congrFun (f.1 13 (by decide)) 2).trans (mUp_s _ _ _ _)
  · exact (congrFun (f.1 13 (by decide)) o).trans (if_neg (fun z => ho z.2))
  · exact (f.1 r h4).trans ((Fr.up 13 2 u _).1 r h3)
  · exact (h1 q (by omega) hq).trans (congrFun ((Fr.up 13 2 u _).1 15 (by decide)) _)
theorem m_undo0 (u : MM) (hp : u.1 13 2 = nI 0) : fX7_undo u [MO] = some (u, some (I (-2))) := (qX7_undo u).trans (if_pos (by rw [hp]; rfl))
end
