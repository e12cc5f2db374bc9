-- THE MODEL'S COPIES
section
theorem m_keeps2 : ∀ d k (u : MM), d + k = 151 → ∃ u', gX7_keeps_2 u (nI k) = some (u', none) ∧ (∀ q, k ≤ q → q < 151 → u'.1 16 q = u.1 14 q) ∧ (∀ q, q < k → u'.1 16 q = u.1 16 q) ∧ Fr 16 u u'
  | 0, k, u, e => by
    have e : k = 151 := by omega
    subst e
    exact ⟨u, (qX7_keeps_2 u _).trans (if_neg (by decide)), fun q h1 h2 => by omega, fun q h => rfl, Fr.rf 16 u⟩
  | d + 1, k, u, e => by
    obtain ⟨u', e', h1, h2, f⟩ := m_keeps2 d (k + 1) (mUp u (16, k) (u.1 14 k)) (by omega)
    have qk : (nI k).toNatClampNeg = k := nI_clamp (by omega)
    refine ⟨u', (qX7_keeps_2 u _).trans ?_, fun q x y => ?_, fun q x => ?_, (Fr.up 16 k u _).tr f⟩
    · simp only [qk]
      refine (if_pos (ltT (n := 151) rfl rfl (by omega) (by omega))).trans ?_
      refine (if_pos (mIn_nI (by omega) (by omega))).trans ?_
      refine (if_pos (mIn_nI (by omega) (by omega))).trans ?_
      rw [show nI k + (1 : Int32) = nI (k + 1) from i_add k 1]
      exact e'
    · by_cases c : q = k
      · rw [h2 q (by omega), c]
        exact mUp_s _ _ _ _
      · rw [h1 q (by omega) y]
        exact congrFun ((Fr.up 16 k u (u.1 14 k)).1 14 (by decide)) q
    · rw [h2 q (by omega)]
      exact if_neg (fun z => by have := z.2; omega)
theorem m_keeps (u : MM) : ∃ u', fX7_keeps u [MO] = some (u', none) ∧ (∀ q, q < 151 → u'.1 16 q = u.1 14 q) ∧ Fr 16 u u' := by
  obtain ⟨u', e, h1, -, f⟩ := m_keeps2 151 0 u rfl
  exact ⟨u', (qX7_keeps u).trans e, fun q h => h1 q (by omega) h, f⟩
theorem m_restores2 : ∀ d k (u : MM), d + k = 151 → ∃ u', gX7_restores_2 u (nI k) = some (u', none) ∧ (∀ q, k ≤ q → q < 151 → u'.1 14 q = u.1 16 q) ∧ (∀ q, q < k → u'.1 14 q = u.1 14 q) ∧ Fr 14 u u'
  | 0, k, u, e => by
    have e : k = 151 := by omega
    subst e
    exact ⟨u, (qX7_restores_2 u _).trans (if_neg (by decide)), fun q h1 h2 => by omega, fun q h => rfl, Fr.rf 14 u⟩
  | d + 1, k, u, e => by
    obtain ⟨u', e', h1, h2, f⟩ := m_restores2 d (k + 1) (mUp u (14, k) (u.1 16 k)) (by omega)
    have qk : (nI k).toNatClampNeg = k := nI_clamp (by omega)
    refine ⟨u', (qX7_restores_2 u _).trans ?_, fun q x y => ?_, fun q x => ?_, (Fr.up 14 k u _).tr f⟩
    · simp only [qk]
      refine (if_pos (ltT (n := 151) rfl rfl (by omega) (by omega))).trans ?_
      refine (if_pos (mIn_nI (by omega) (by omega))).trans ?_
      refine (if_pos (mIn_nI (by omega) (by omega))).trans ?_
      rw [show nI k + (1 : Int32) = nI (k + 1) from i_add k 1]
      exact e'
    · by_cases c : q = k
      · rw [h2 q (by omega), c]
        exact mUp_s _ _ _ _
      · rw [h1 q (by omega) y]
        exact congrFun ((Fr.up 14 k u (u.1 16 k)).1 16 (by decide)) q
    · rw [h2 q (by omega)]
      exact if_neg (fun z => by have := z.2; omega)
theorem m_restores (u : MM) : ∃ u', fX7_restores u [MO] = some (u', none) ∧ (∀ q, q < 151 → u'.1 14 q = u.1 16 q) ∧ Fr 14 u u' := by
  obtain ⟨u', e, h1, -, f⟩ := m_restores2 151 0 u rfl
  exact ⟨u', (qX7_restores u).trans e, fun q h => h1 q (by omega) h, f⟩
theorem m_und2 {c : Nat} (hc : c ≤ 5) : ∀ d k (u : MM), d + k = 151 → u.1 13 2 = nI c → ∃ u', gX7_undo_13 u (nI k) = some (u', some (I (nI c))) ∧ (∀ q, k ≤ q → q < 151 → u'.1 14 q = u.1 15 (151 * c + q)) ∧ (∀ q, q < k → u'.1 14 q = u.1 14 q) ∧ Fr 14 u u'
  | 0, k, u, e, hp => by
    have e : k = 151 := by omega
    subst e
    refine ⟨u, (qX7_undo_13 u _).trans ((if_neg (by decide)).trans ?_), fun q h1 h2 => by omega, fun q h => rfl, Fr.rf 14 u⟩
    rw [hp]
  | d + 1, k, u, e, hp => by
    obtain ⟨u', e', h1, h2, f⟩ := m_und2 hc d (k + 1) (mUp u (14, k) (u.1 15 (151 * c + k))) (by omega) ((congrFun ((Fr.up 14 k u _).1 13 (by decide)) 2).trans hp)
    have qk : (nI k).toNatClampNeg = k := nI_clamp (by omega)
    have ix : (151 : Int32) * nI c + nI k = nI (151 * c + k) := by
      rw [show (151 : Int32) = nI 151 from rfl, pk_mul, i_add]
    have qx : (nI (151 * c + k)).toNatClampNeg = 151 * c + k := nI_clamp (by omega)
    refine ⟨u', (qX7_undo_13 u _).trans ?_, fun q x y => ?_, fun q x => ?_, (Fr.up 14 k u _).tr f⟩
    · simp only [hp, ix, qk, qx]
      refine (if_pos (ltT (n := 151) rfl rfl (by omega) (by omega))).trans ?_
      refine (if_pos (mIn_nI (by omega) (by omega))).trans ?_
      refine (if_pos (mIn_nI (by omega) (by omega))).trans ?_
      rw [show nI k + (1 : Int32) = nI (k + 1) from i_add k 1]
      exact e'
    · by_cases z : q = k
      · rw [h2 q (by omega), z]
        exact mUp_s _ _ _ _
      · rw [h1 q (by omega) y]
        exact congrFun ((Fr.up 14 k u _).1 15 (by decide)) _
    · rw [h2 q (by omega)]
      exact if_neg (fun z => by have := z.2; omega)
theorem m_shift : ∀ d k (u : MM), d + k = 755 → u.1 13 2 = nI 6 → ∃ u', gX7_edits_6 u (nI k) = gX7_edits_29 (mUp u' (13, 2) (nI 5)) 0 ∧ (∀ q, k ≤ q → q < 755 → u'.1 15 q = u.1 15 (q + 151)) ∧ (∀ q, q < k → u'.1 15 q = u.1 15 q) ∧ Fr 15 u u'
  | 0, k, u, e, hp => by
    have e : k = 755 := by omega
    subst e
    refine ⟨u, (qX7_edits_6 u _).trans ((if_neg (by decide)).trans ?_), fun q h1 h2 => by omega, fun q h => rfl, Fr.rf 15 u⟩
    rw [hp]
    rfl
  | d + 1, k, u, e, hp => by
    obtain ⟨u', e', h1, h2, f⟩ := m_shift d (k + 1) (mUp u (15, k) (u.1 15 (k + 151))) (by omega) ((congrFun ((Fr.up 15 k u _).1 13 (by decide)) 2).trans hp)
    have qk : (nI k).toNatClampNeg = k := nI_clamp (by omega)
    have ix : nI k + (151 : Int32) = nI (k + 151) := i_add k 151
    have qx : (nI (k + 151)).toNatClampNeg = k + 151 := nI_clamp (by omega)
    refine ⟨u', (qX7_edits_6 u _).trans ?_, fun q x y => ?_, fun q x => ?_, (Fr.up 15 k u _).tr f⟩
    · simp only [ix, qk, qx]
      refine (if_pos (ltT (n := 755) rfl rfl (by omega) (by omega))).trans ?_
      refine (if_pos (mIn_nI (by omega) (by omega))).trans ?_
      refine (if_pos (mIn_nI (by omega) (by omega))).trans ?_
      rw [show nI k + (1 : Int32) = nI (k + 1) from i_add k 1]
      exact e'
    · by_cases z : q = k
      · rw [h2 q (by omega), z]
        exact mUp_s _ _ _ _
      · rw [h1 q (by omega) y]
        exact if_neg (fun z => by have := z.2; omega)
    · rw [h2 q (by omega)]
      exact if_neg (fun z => by have := z.2; omega)
theorem m_save {c : Nat} (hc : c ≤ 5) : ∀ d k (u : MM), d + k = 151 → u.1 13 2 = nI c → ∃ u', gX7_edits_29 u (nI k) = some (mUp (mUp u' (13, 2) (nI (c + 1))) (13, 4) 0, none) ∧ (∀ q, k ≤ q → q < 151 → u'.1 15 (151 * c + q) = u.1 14 q) ∧ (∀ q, q < 151 * c + k → u'.1 15 q = u.1 15 q) ∧ Fr 15 u u'
  | 0, k, u, e, hp => by
    have e : k = 151 := by omega
    subst e
    refine ⟨u, (qX7_edits_29 u _).trans ((if_neg (by decide)).trans ?_), fun q h1 h2 => by omega, fun q h => rfl, Fr.rf 15 u⟩
    rw [hp, show nI c + (1 : Int32) = nI (c + 1) from i_add c 1]
  | d + 1, k, u, e, hp => by
    obtain ⟨u', e', h1, h2, f⟩ := m_save hc d (k + 1) (mUp u (15, 151 * c + k) (u.1 14 k)) (by omega) ((congrFun ((Fr.up 15 _ u _).1 13 (by decide)) 2).trans hp)
    have qk : (nI k).toNatClampNeg = k := nI_clamp (by omega)
    have ix : (151 : Int32) * nI c + nI k = nI (151 * c + k) := by
      rw [show (151 : Int32) = nI 151 from rfl, pk_mul, i_add]
    have qx : (nI (151 * c + k)).toNatClampNeg = 151 * c + k := nI_clamp (by omega)
    refine ⟨u', (qX7_edits_29 u _).trans ?_, fun q x y => ?_, fun q x => ?_, (Fr.up 15 _ u _).tr f⟩
    · simp only [hp, ix, qk, qx]
      refine (if_pos (ltT (n := 151) rfl rfl (by omega) (by omega))).trans ?_
      refine (if_pos (mIn_nI (by omega) (by omega))).trans ?_
      refine (if_pos (mIn_nI (by omega) (by omega))).trans ?_
      rw [show nI k + (1 : Int32) = nI (k + 1) from i_add k 1]
      exact e'
    · by_cases z : q = k
      · rw [h2 _ (by omega), z]
        exact mUp_s _ _ _ _
      · rw [h1 q (by omega) y]
        exact congrFun ((Fr.up 15 _ u _).1 14 (by decide)) q
    · rw [h2 q (by omega)]
      exact if_neg (fun z => by have := z.2; omega)
end
