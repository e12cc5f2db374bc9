-- THE MODEL'S DAY
section
variable {B : Nat} {v u : MM} {i : Nat} {a : Nat → Nat}
theorem m_works {b : Nat → Nat} {t : Nat} (h : St 151 u 14 b) (ht : t < 6) (hr : b 20 ≤ 1000) (hs : b 21 ≤ 1000) (hm : ∀ f, f < 7 → b (60 + 7 * t + f) ≤ 325000) (h41 : b (60 + 7 * t + 4) ≤ b (60 + 7 * t + 1)) : ∃ u', fX7_works u [MO, I (nI t)] = some (u', none) ∧ St 151 u' 14 (aWork b t) ∧ Fr 14 u u' := by
  have d4 : b (60 + 7 * t + 4) * b 20 / 1000 ≤ b (60 + 7 * t + 4) := div_th hr
  have d2 : b (60 + 7 * t + 2) * b 21 / 1000 ≤ b (60 + 7 * t + 2) := div_th hs
  have m4 := hm 4 (by omega)
  have m2 := hm 2 (by omega)
  have p4 : b (60 + 7 * t + 4) * b 20 ≤ 325000 * 1000 := Nat.mul_le_mul m4 hr
  have p2 : b (60 + 7 * t + 2) * b 21 ≤ 325000 * 1000 := Nat.mul_le_mul m2 hs
  have h1 := h.adn (o := 60 + 7 * t + 4) (n := b (60 + 7 * t + 4) * b 20 / 1000) (by omega) rfl d4
  have h2 := h1.adn (o := 60 + 7 * t + 1) (m := b (60 + 7 * t + 1)) (n := b (60 + 7 * t + 4) * b 20 / 1000) (by omega) (au_n (by omega)) (by omega)
  have h3 := h2.add (o := 60 + 7 * t + 5) (m := b (60 + 7 * t + 5)) (b (60 + 7 * t + 4) * b 20 / 1000) (by omega) (by rw [au_n (by omega), au_n (by omega)])
  have o2 := m_of h3 t 2 (by omega)
  rw [au_n (by omega), au_n (by omega), au_n (by omega)] at o2
  have k21 := h3.rd (o := 21) (m := b 21) (by omega) (by rw [au_n (by omega), au_n (by omega), au_n (by omega)])
  have h4 := h3.adn (o := 60 + 7 * t + 2) (m := b (60 + 7 * t + 2)) (n := b (60 + 7 * t + 2) * b 21 / 1000) (by omega) (by rw [au_n (by omega), au_n (by omega), au_n (by omega)]) d2
  have h5 := h4.add (o := 60 + 7 * t + 6) (m := b (60 + 7 * t + 6)) (b (60 + 7 * t + 2) * b 21 / 1000) (by omega) (by rw [au_n (by omega), au_n (by omega), au_n (by omega), au_n (by omega)])
  refine ⟨_, (qX7_works u _).trans ?_, h5, ((((Fr.up 14 _ u _).tr (Fr.up 14 _ _ _)).tr (Fr.up 14 _ _ _)).tr (Fr.up 14 _ _ _)).tr (Fr.up 14 _ _ _)⟩
  refine (bI_eq (m_of h t 4 (by omega))).trans ?_
  refine (if_pos (by decide)).trans ?_
  have k20 : u.1 14 ((20 : Int32).toNatClampNeg) = nI (b 20) := h 20 (by omega)
  simp only [k20, i_th (X := b (60 + 7 * t + 4)) (M := b 20) (by omega)]
  refine (bV_eq (m_adds _ t 4 (by omega) _)).trans ?_
  refine (bV_eq (m_adds _ t 1 (by omega) _)).trans ?_
  refine (bV_eq (m_adds _ t 5 (by omega) _)).trans ?_
  refine (bI_eq o2).trans ?_
  refine (if_pos (by decide)).trans ?_
  rw [show (21 : Int32).toNatClampNeg = 21 from rfl, k21, i_th (X := b (60 + 7 * t + 2)) (M := b 21) (by omega)]
  refine (bV_eq (m_adds _ t 2 (by omega) _)).trans ?_
  exact bV_eq (m_adds _ t 6 (by omega) _)
theorem m_dry0 {b : Nat → Nat} (h : St 151 u 14 b) (hb : DR a b) (hw : Wf B a) {k : Nat} (hk : k < a 42) : ∃ u', gX7_days_2 u (nI k) = gX7_days_2_2 u' (nI k + 1) (nI (b (43 + 2 * k + 1) * b 18 / 1000)) ∧ St 151 u' 14 (aDry b k) ∧ Fr 14 u u' := by
  have k8 : k < 8 := by have := hw.2.2.1.1; omega
  have l1 := (hb.2.2.1 k k8).2
  have l2 := (hw.2.2.1.2 k k8).2.1
  unfold lot at l1 l2
  have c42 : u.1 14 ((42 : Int32).toNatClampNeg) = nI (a 42) := by
    rw [← hb.2.1]
    exact h 42 (by omega)
  have a42 := hw.2.2.1.1
  have r18 : b 18 ≤ 1000 := by rw [hb.1 18 (by omega)]; exact hw.1 18 (by omega)
  have p : b (43 + 2 * k + 1) * b 18 ≤ 20000 * 1000 := Nat.mul_le_mul (by omega) r18
  have h1 := h.sub (o := 43 + 2 * k + 1) (n := b (43 + 2 * k + 1) * b 18 / 1000) (by omega) rfl (div_th r18)
  have h2 := h1.add (o := 106) (m := b 106) (b (43 + 2 * k + 1) * b 18 / 1000) (by omega) (au_n (by omega))
  have k18 : u.1 14 ((18 : Int32).toNatClampNeg) = nI (b 18) := h 18 (by omega)
  have kl := h (43 + 2 * k + 1) (by omega)
  have q1 : (nI (43 + 2 * k + 1)).toNatClampNeg = 43 + 2 * k + 1 := nI_clamp (by omega)
  have qm : nI (b (43 + 2 * k + 1)) * nI (b 18) / (1000 : Int32) = nI (b (43 + 2 * k + 1) * b 18 / 1000) := i_th (by omega)
  rw [kl] at h1 h2
  refine ⟨_, (qX7_days_2 u _).trans ?_, h2, (Fr.up 14 _ u _).tr (Fr.up 14 _ _ _)⟩
  simp only [ix_l, ix_l1, q1, k18, kl, qm]
  refine (if_pos (by decide)).trans ?_
  refine (if_pos (ltT rfl c42 hk (by omega))).trans ?_
  refine (if_pos (mIn_nI (by omega) (by omega))).trans ?_
  refine (if_pos (by decide)).trans ?_
  refine (if_pos (mIn_nI (by omega) (by omega))).trans ?_
  refine (if_pos (mIn_nI (by omega) (by omega))).trans ?_
  refine (if_pos (by decide)).trans ?_
  exact if_pos (by decide)
theorem m_dry1 {b : Nat → Nat} (h : St 151 u 14 b) (hb : DR a b) (hw : Wf B a) {k : Nat} (hk : k < a 42) (y : Int32) : ∃ u', gX7_days_2_2 u (nI k) y = gX7_days_2_2 u' (nI k + 1) (nI (b (43 + 2 * k + 1) * b 18 / 1000)) ∧ St 151 u' 14 (aDry b k) ∧ Fr 14 u u' := by
  have k8 : k < 8 := by have := hw.2.2.1.1; omega
  have l1 := (hb.2.2.1 k k8).2
  have l2 := (hw.2.2.1.2 k k8).2.1
  unfold lot at l1 l2
  have c42 : u.1 14 ((42 : Int32).toNatClampNeg) = nI (a 42) := by
    rw [← hb.2.1]
    exact h 42 (by omega)
  have a42 := hw.2.2.1.1
  have r18 : b 18 ≤ 1000 := by rw [hb.1 18 (by omega)]; exact hw.1 18 (by omega)
  have p : b (43 + 2 * k + 1) * b 18 ≤ 20000 * 1000 := Nat.mul_le_mul (by omega) r18
  have h1 := h.sub (o := 43 + 2 * k + 1) (n := b (43 + 2 * k + 1) * b 18 / 1000) (by omega) rfl (div_th r18)
  have h2 := h1.add (o := 106) (m := b 106) (b (43 + 2 * k + 1) * b 18 / 1000) (by omega) (au_n (by omega))
  have k18 : u.1 14 ((18 : Int32).toNatClampNeg) = nI (b 18) := h 18 (by omega)
  have kl := h (43 + 2 * k + 1) (by omega)
  have q1 : (nI (43 + 2 * k + 1)).toNatClampNeg = 43 + 2 * k + 1 := nI_clamp (by omega)
  have qm : nI (b (43 + 2 * k + 1)) * nI (b 18) / (1000 : Int32) = nI (b (43 + 2 * k + 1) * b 18 / 1000) := i_th (by omega)
  rw [kl] at h1 h2
  refine ⟨_, (qX7_days_2_2 u _ _).trans ?_, h2, (Fr.up 14 _ u _).tr (Fr.up 14 _ _ _)⟩
  simp only [ix_l, ix_l1, q1, k18, kl, qm]
  refine (if_pos (by decide)).trans ?_
  refine (if_pos (ltT rfl c42 hk (by omega))).trans ?_
  refine (if_pos (mIn_nI (by omega) (by omega))).trans ?_
  refine (if_pos (by decide)).trans ?_
  refine (if_pos (mIn_nI (by omega) (by omega))).trans ?_
  refine (if_pos (mIn_nI (by omega) (by omega))).trans ?_
  refine (if_pos (by decide)).trans ?_
  exact if_pos (by decide)
theorem m_wrks0 {b : Nat → Nat} (hw : Wf B a) (hB : B ≤ 1100) (hb : DR a b) : ∀ d k (u : MM), d + k = a 59 → St 151 u 14 (wrks b k) → ∃ u', gX7_days_52 u (nI k) = some (mUp u' (14, 103) (u'.1 14 103 + 1), some (I (nI (a 103 + 1)))) ∧ St 151 u' 14 (wrks b (a 59)) ∧ Fr 14 u u'
  | 0, k, u, e, h => by
    have w59 := hw.2.2.2.1.1
    have e : k = a 59 := by omega
    subst e
    have dr := wrks_DR hw hb (a 59) w59
    have c59 : u.1 14 ((59 : Int32).toNatClampNeg) = nI (a 59) := by
      rw [← dr.2.2.2.1]
      exact h 59 (by omega)
    refine ⟨u, (qX7_days_52 u _).trans ?_, h, Fr.rf 14 u⟩
    refine (if_pos (by decide)).trans ?_
    refine (if_neg (ltF rfl c59 (Nat.le_refl _) (by omega))).trans ?_
    refine (if_pos (by decide)).trans ?_
    refine (if_pos (by decide)).trans ?_
    refine (if_pos (by decide)).trans ?_
    have g := dr.2.2.2.2.2.2.1
    have k3 := (h.add (o := 103) (m := a 103) 1 (by omega) g).rd (o := 103) (by omega) (au_s _ _ _)
    exact congrArg (fun z => (some (mUp u (14, 103) (u.1 14 103 + 1), some (I z)) : MR)) k3
  | d + 1, k, u, e, h => by
    have w59 := hw.2.2.2.1.1
    have dr := wrks_DR hw hb k (by omega)
    have k6 : k < 6 := by omega
    have sm1 := dr.small hw hB k6
    have c59 : u.1 14 ((59 : Int32).toNatClampNeg) = nI (a 59) := by
      rw [← dr.2.2.2.1]
      exact h 59 (by omega)
    have r20 : wrks b k 20 ≤ 1000 := by rw [dr.1 20 (by omega)]; exact hw.1 20 (by omega)
    have r21 : wrks b k 21 ≤ 1000 := by rw [dr.1 21 (by omega)]; exact hw.1 21 (by omega)
    obtain ⟨v1, e1, h1, f1⟩ := m_works h k6 r20 r21 sm1 (dr.2.2.2.2.1 k k6).1.2.2.1
    obtain ⟨v2, e2, h2, f2⟩ := m_wrks0 hw hB hb d (k + 1) v1 (by omega) h1
    refine ⟨v2, (qX7_days_52 u _).trans ?_, h2, f1.tr f2⟩
    refine (if_pos (by decide)).trans ?_
    refine (if_pos (ltT rfl c59 (by omega) (by omega))).trans ?_
    refine (bV_eq e1).trans ?_
    rw [show nI k + (1 : Int32) = nI (k + 1) from i_add k 1]
    exact e2
theorem m_wrks1 {b : Nat → Nat} (hw : Wf B a) (hB : B ≤ 1100) (hb : DR a b) : ∀ d k (u : MM) (y : Int32), d + k = a 59 → St 151 u 14 (wrks b k) → ∃ u', gX7_days_52_2 u (nI k) y = some (mUp u' (14, 103) (u'.1 14 103 + 1), some (I (nI (a 103 + 1)))) ∧ St 151 u' 14 (wrks b (a 59)) ∧ Fr 14 u u'
  | 0, k, u, y, e, h => by
    have w59 := hw.2.2.2.1.1
    have e : k = a 59 := by omega
    subst e
    have dr := wrks_DR hw hb (a 59) w59
    have c59 : u.1 14 ((59 : Int32).toNatClampNeg) = nI (a 59) := by
      rw [← dr.2.2.2.1]
      exact h 59 (by omega)
    refine ⟨u, (qX7_days_52_2 u _ _).trans ?_, h, Fr.rf 14 u⟩
    refine (if_pos (by decide)).trans ?_
    refine (if_neg (ltF rfl c59 (Nat.le_refl _) (by omega))).trans ?_
    refine (if_pos (by decide)).trans ?_
    refine (if_pos (by decide)).trans ?_
    refine (if_pos (by decide)).trans ?_
    have g := dr.2.2.2.2.2.2.1
    have k3 := (h.add (o := 103) (m := a 103) 1 (by omega) g).rd (o := 103) (by omega) (au_s _ _ _)
    exact congrArg (fun z => (some (mUp u (14, 103) (u.1 14 103 + 1), some (I z)) : MR)) k3
  | d + 1, k, u, y, e, h => by
    have w59 := hw.2.2.2.1.1
    have dr := wrks_DR hw hb k (by omega)
    have k6 : k < 6 := by omega
    have sm1 := dr.small hw hB k6
    have c59 : u.1 14 ((59 : Int32).toNatClampNeg) = nI (a 59) := by
      rw [← dr.2.2.2.1]
      exact h 59 (by omega)
    have r20 : wrks b k 20 ≤ 1000 := by rw [dr.1 20 (by omega)]; exact hw.1 20 (by omega)
    have r21 : wrks b k 21 ≤ 1000 := by rw [dr.1 21 (by omega)]; exact hw.1 21 (by omega)
    obtain ⟨v1, e1, h1, f1⟩ := m_works h k6 r20 r21 sm1 (dr.2.2.2.2.1 k k6).1.2.2.1
    obtain ⟨v2, e2, h2, f2⟩ := m_wrks1 hw hB hb d (k + 1) v1 y (by omega) h1
    refine ⟨v2, (qX7_days_52_2 u _ _).trans ?_, h2, f1.tr f2⟩
    refine (if_pos (by decide)).trans ?_
    refine (if_pos (ltT rfl c59 (by omega) (by omega))).trans ?_
    refine (bV_eq e1).trans ?_
    rw [show nI k + (1 : Int32) = nI (k + 1) from i_add k 1]
    exact e2
theorem m_drys (hw : Wf B a) : ∀ d k (u : MM) (y : Int32), d + k = a 42 → St 151 u 14 (drys a k) → ∃ u' y', gX7_days_2_2 u (nI k) y = gX7_days_52_2 u' 0 y' ∧ St 151 u' 14 (drys a (a 42)) ∧ Fr 14 u u'
  | 0, k, u, y, e, h => by
    have e : k = a 42 := by omega
    subst e
    have a42 := hw.2.2.1.1
    have c42 : u.1 14 ((42 : Int32).toNatClampNeg) = nI (a 42) := by
      rw [← (drys_DR hw (a 42) a42).2.1]
      exact h 42 (by omega)
    exact ⟨u, y, (qX7_days_2_2 u _ _).trans ((if_pos (by decide)).trans (if_neg (ltF rfl c42 (Nat.le_refl _) (by omega)))), h, Fr.rf 14 u⟩
  | d + 1, k, u, y, e, h => by
    have a42 := hw.2.2.1.1
    obtain ⟨v1, e1, h1, f1⟩ := m_dry1 h (drys_DR hw k (by omega)) hw (show k < a 42 by omega) y
    obtain ⟨v2, y2, e2, h2, f2⟩ := m_drys hw d (k + 1) v1 (nI (drys a k (43 + 2 * k + 1) * drys a k 18 / 1000)) (by omega) h1
    refine ⟨v2, y2, e1.trans (Eq.trans ?_ e2), h2, f1.tr f2⟩
    rw [show nI k + (1 : Int32) = nI (k + 1) from i_add k 1]
theorem aDry_id {b : Nat → Nat} {k : Nat} (h : b (43 + 2 * k + 1) = 0) : aDry b k = b := by
  funext q
  unfold aDry
  rw [h, Nat.zero_mul, Nat.zero_div, Nat.sub_zero, Nat.add_zero]
  by_cases c : q = 106
  · rw [c, au_s]
    rfl
  · rw [au_n c]
    exact au_same h.symm q
theorem aWork_id {b : Nat → Nat} {t : Nat} (h : ∀ f, f < 7 → b (60 + 7 * t + f) = 0) : aWork b t = b := by
  have e1 := h 1 (by omega)
  have e2 := h 2 (by omega)
  have e4 := h 4 (by omega)
  have e5 := h 5 (by omega)
  have e6 := h 6 (by omega)
  funext q
  unfold aWork
  rw [e1, e2, e4, e5, e6, Nat.zero_mul, Nat.zero_div, Nat.zero_mul, Nat.zero_div]
  by_cases c1 : q = 60 + 7 * t + 1
  · rw [c1, au_n (by omega), au_n (by omega), au_n (by omega), au_s, e1]
  · by_cases c2 : q = 60 + 7 * t + 2
    · rw [c2, au_n (by omega), au_s, e2]
    · by_cases c4 : q = 60 + 7 * t + 4
      · rw [c4, au_n (by omega), au_n (by omega), au_n (by omega), au_n (by omega), au_s, e4]
      · by_cases c5 : q = 60 + 7 * t + 5
        · rw [c5, au_n (by omega), au_n (by omega), au_s, e5]
        · by_cases c6 : q = 60 + 7 * t + 6
          · rw [c6, au_s, e6]
          · rw [au_n c6, au_n c2, au_n c5, au_n c1, au_n c4]
theorem drys_end (hw : Wf B a) : ∀ d, a 42 + d ≤ 8 → drys a (a 42 + d) = drys a (a 42)
  | 0, _ => rfl
  | d + 1, h => by
    have dr := drys_DR hw (a 42 + d) (by omega)
    have z1 := (dr.2.2.1 (a 42 + d) (by omega)).2
    have z2 := ((hw.2.2.1.2 (a 42 + d) (by omega)).2.2 (by omega)).2
    have z3 : drys a (a 42 + d) (43 + 2 * (a 42 + d) + 1) = 0 := by
      show lot (drys a (a 42 + d)) (a 42 + d) = 0
      omega
    exact (aDry_id z3).trans (drys_end hw d (by omega))
theorem wrks_end {b : Nat → Nat} (hw : Wf B a) (hb : DR a b) : ∀ d, a 59 + d ≤ 6 → wrks b (a 59 + d) = wrks b (a 59)
  | 0, _ => rfl
  | d + 1, h => by
    have dr := wrks_DR hw hb (a 59 + d) (by omega)
    exact (aWork_id ((dr.2.2.2.2.1 (a 59 + d) (by omega)).2.1 (by omega))).trans (wrks_end hw hb d (by omega))
theorem m_day (hu : St 151 u 14 a) (hw : Wf B a) (hB : B ≤ 1100) : ∃ u', fX7_days u [MO] = some (u', some (I (nI (a 103 + 1)))) ∧ St 151 u' 14 (aDay a) ∧ Fr 14 u u' := by
  have a42 := hw.2.2.1.1
  have a59 := hw.2.2.2.1.1
  have D1 : drys a 8 = drys a (a 42) := by
    have := drys_end hw (8 - a 42) (by omega)
    rw [← this]
    exact congrArg (drys a) (by omega)
  have dr8 := drys_DR hw 8 (by omega)
  have D2 : wrks (drys a 8) 6 = wrks (drys a 8) (a 59) := by
    have := wrks_end hw dr8 (6 - a 59) (by omega)
    rw [← this]
    exact congrArg (wrks (drys a 8)) (by omega)
  have g103 := (wrks_DR hw dr8 6 (by omega)).2.2.2.2.2.2.1
  by_cases z : a 42 = 0
  · have c42 : u.1 14 ((42 : Int32).toNatClampNeg) = nI (a 42) := hu 42 (by omega)
    have h0 : St 151 u 14 (wrks (drys a 8) 0) := by
      rw [D1, z]
      exact hu
    obtain ⟨u3, e3, h3, f3⟩ := m_wrks0 hw hB dr8 (a 59) 0 u (by omega) h0
    rw [← D2] at h3
    refine ⟨_, (qX7_days u).trans ((qX7_days_2 u _).trans ((if_pos (by decide)).trans ((if_neg (ltF (m := 0) rfl c42 (by omega) (by omega))).trans e3))), h3.add 1 (by omega) g103, f3.tr (Fr.up 14 _ _ _)⟩
  · obtain ⟨u1, e1, h1, f1⟩ := m_dry0 (k := 0) hu (DR.rf hw) hw (by omega)
    obtain ⟨u2, y2, e2, h2, f2⟩ := m_drys hw (a 42 - 1) 1 u1 (nI (a (43 + 2 * 0 + 1) * a 18 / 1000)) (by omega) h1
    rw [← D1] at h2
    obtain ⟨u3, e3, h3, f3⟩ := m_wrks1 hw hB dr8 (a 59) 0 u2 y2 (by omega) h2
    rw [← D2] at h3
    exact ⟨_, (qX7_days u).trans (e1.trans (e2.trans e3)), h3.add 1 (by omega) g103, ((f1.tr f2).tr f3).tr (Fr.up 14 _ _ _)⟩
theorem r_day (hv : St 155 v i a) (hu : St 151 u 14 a) (hw : Wf B a) (hB : B ≤ 1100) : Two B (fX0_passDay v [nm 2 i 0]) (fX7_days u [MO]) v u i a := by
  obtain ⟨v', e, h1, f1⟩ := s_day hv hw hB
  obtain ⟨u', e', h2, f2⟩ := m_day hu hw hB
  have := hw.2.2.2.2.2.2.1.1
  exact Two.ok (by omega) e e' h1 h2 f1 f2 hw.day
end
