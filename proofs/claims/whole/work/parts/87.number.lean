-- READING NUMBERS
section
variable {n L k s e m c : Nat} {T : Nat → Nat} {v v' u : MM}
/-- what the class's reading may change -/
def SF (v v' : MM) : Prop := (∀ r, r ≠ 9 → r ≠ 11 → v'.1 r = v.1 r) ∧ (∀ o, o ≠ 2 → o ≠ 3 → v'.1 9 o = v.1 9 o) ∧ v'.2 = v.2
theorem SF.rf (v : MM) : SF v v := ⟨fun _ _ _ => rfl, fun _ _ _ => rfl, rfl⟩
theorem SF.tr {v v' v'' : MM} (h : SF v v') (h' : SF v' v'') : SF v v'' := ⟨fun r a b => (h'.1 r a b).trans (h.1 r a b), fun o a b => (h'.2.1 o a b).trans (h.2.1 o a b), h'.2.2.trans h.2.2⟩
theorem SF.at (v : MM) (x : Int32) : SF v (mUp v (9, 2) x) := ⟨fun r a _ => (Fr.up 9 2 v x).1 r a, fun o a _ => mUp_o v 9 2 o x a, rfl⟩
theorem SF.nx (v : MM) (x : Int32) : SF v (mUp v (9, 3) x) := ⟨fun r a _ => (Fr.up 9 3 v x).1 r a, fun o _ b => mUp_o v 9 3 o x b, rfl⟩
theorem SF.row (v : MM) (q : Nat) (x : Int32) : SF v (mUp v (11, q) x) := ⟨fun r _ b => (Fr.up 11 q v x).1 r b, fun o _ _ => congrFun ((Fr.up 11 q v x).1 9 (by decide)) o, rfl⟩
theorem CT.sf (h : CT v T L) (g : SF v v') : CT v' T L := ⟨h.1, (g.2.1 1 (by decide) (by decide)).trans h.2.1, fun k hk => by rw [g.1 10 (by decide) (by decide)]; exact h.2.2 k hk⟩
/-- what the model's reading may change -/
def RF (u u' : MM) : Prop := (∀ r, r ≠ 13 → r ≠ 18 → u'.1 r = u.1 r) ∧ ∀ o, o ≠ 8 → o ≠ 9 → o ≠ 10 → o ≠ 12 → o ≠ 13 → u'.1 13 o = u.1 13 o
theorem RF.rf (u : MM) : RF u u := ⟨fun _ _ _ => rfl, fun _ _ _ _ _ _ => rfl⟩
theorem RF.tr {u u' u'' : MM} (h : RF u u') (h' : RF u' u'') : RF u u'' := ⟨fun r a b => (h'.1 r a b).trans (h.1 r a b), fun o a b c d e => (h'.2 o a b c d e).trans (h.2 o a b c d e)⟩
theorem GF.rF {u u' : MM} (h : GF u u') : RF u u' := ⟨fun r a _ => h.1 r a, fun o _ a b c d => h.2 o a b c d⟩
theorem RF.up (u : MM) (o : Nat) (x : Int32) (h : o = 8 ∨ o = 9) : RF u (mUp u (13, o) x) := ⟨fun r a _ => (Fr.up 13 o u x).1 r a, fun q a b _ _ _ => mUp_o u 13 o q x (by omega)⟩
theorem RF.row (u : MM) (q : Nat) (x : Int32) : RF u (mUp u (18, q) x) := ⟨fun r _ b => (Fr.up 18 q u x).1 r b, fun o _ _ _ _ _ => congrFun ((Fr.up 18 q u x).1 13 (by decide)) o⟩
theorem MT.rf (h : MT u T L) {u' : MM} (g : RF u u') : MT u' T L := ⟨h.1, (g.2 6 (by decide) (by decide) (by decide) (by decide) (by decide)).trans h.2.1, fun k hk => by rw [g.1 17 (by decide) (by decide)]; exact h.2.2 k hk⟩
def Rw (v u : MM) : Prop := ∀ q, q < 125 → v.1 11 q = u.1 18 q
theorem s_keep (hm : v.1 9 3 = nI m) (hc : m * 5 + c < 125) (x : Int32) : fX3_keep v [SC, I (nI c), I x] = some (mUp v (11, m * 5 + c) x, none) := by
  have ix : v.1 9 3 * (5 : Int32) + nI c = nI (m * 5 + c) := by
    rw [hm]
    exact (congrArg (fun z => z + nI c) (pk_mul m 5)).trans (i_add _ _)
  have q : (nI (m * 5 + c)).toNatClampNeg = m * 5 + c := nI_clamp (by omega)
  refine (qX3_keep v _ _).trans ?_
  simp only [ix, q]
  refine (bI_eq (s_wT ⟨(i_le (a := 0) (by omega) (by omega)).mpr (by omega), (i_le (b := 124) (by omega) (by omega)).mpr (by omega)⟩)).trans ((if_neg (by decide)).trans ?_)
  exact if_pos (mIn_nI hc (by omega))
theorem s_num (h : CT v T L) (hm : v.1 9 3 = nI m) (hc : m * 5 + c < 125) (he : e ≤ L) (hr : ∀ q, s ≤ q → q < e → Rg 48 57 (T q)) (y : Int32) : ∀ d j, s + (j + d) = e → gX3_readNumber_35 v (nI (s + j)) (nI (numb T s j)) y (nI e) (nI c) = some (mUp (mUp v (11, m * 5 + c) (nI (numb T s (e - s)))) (9, 2) (nI e), some (I 1))
  | 0, j, ee => by
    have l := h.1
    have ej : e - s = j := by omega
    rw [ej]
    exact (qX3_readNumber_35 v _ _ _ _ _).trans ((if_neg (ltF rfl rfl (by omega) (by omega))).trans (bV_eq (s_keep hm hc _)))
  | d + 1, j, ee => by
    obtain ⟨h1, h2, h3⟩ := id h
    obtain ⟨r1, r2⟩ := hr (s + j) (by omega) (by omega)
    have q : (nI (s + j)).toNatClampNeg = s + j := nI_clamp (by omega)
    have x := (h3 (s + j) (by omega)).2
    have w : nI (numb T s j) * (10 : Int32) + (v.1 10 (s + j) - (48 : Int32)) = nI (numb T s (j + 1)) := by
      rw [x]
      refine (congrArg (fun z => z + (nI (T (s + j)) - (48 : Int32))) (pk_mul (numb T s j) 10)).trans ?_
      refine (congrArg (fun z => nI (numb T s j * 10) + z) (i_sub (b := 48) r1)).trans ((i_add _ _).trans (congrArg nI ?_))
      show numb T s j * 10 + (T (s + j) - 48) = 10 * numb T s j + (T (s + j) - 48)
      omega
    refine (qX3_readNumber_35 v _ _ _ _ _).trans ((if_pos (ltT rfl rfl (by omega) (by omega))).trans ((if_pos (mIn_nI (by omega) (by omega))).trans ?_))
    simp only [q, w]
    refine (congrArg (fun z => gX3_readNumber_35 v z (nI (numb T s (j + 1))) y (nI e) (nI c)) (i_add (s + j) 1)).trans ?_
    exact s_num h hm hc he hr y d (j + 1) (by omega)
theorem En.self {lo hi : Nat} (h : En lo hi T L s e) (n : s = L ∨ ¬ Rg lo hi (T s)) : e = s := by
  obtain ⟨a, b, c, -⟩ := h
  rcases n with n | n
  · omega
  · exact Nat.le_antisymm (Nat.le_of_not_lt (fun z => n (c s (Nat.le_refl _) z))) a
theorem num_joint (h : CT v T L) (hp : v.1 9 2 = nI k) (hk : k ≤ L) (hm : v.1 9 3 = nI m) (hc : m * 5 + c < 125) :
    (∃ v' s, fX3_readNumber v [SC, I (nI c)] = some (v', some (I 0)) ∧ v'.1 9 2 = nI s ∧ v'.1 9 3 = nI m ∧ v'.1 11 = v.1 11 ∧ SF v v' ∧ ∀ u, MT u T L → u.1 13 9 = nI k → ∃ u', (fX7_goes u [MO] = some (u', some (I 0)) ∨ (fX7_goes u [MO] = some (u', some (I 1)) ∧ u'.1 13 13 = 0)) ∧ u'.1 13 10 = nI s ∧ GF u u') ∨
    (∃ v' e x, k < e ∧ e ≤ L ∧ fX3_readNumber v [SC, I (nI c)] = some (v', some (I 1)) ∧ v'.1 9 2 = nI e ∧ v'.1 9 3 = nI m ∧ v'.1 11 = (mUp v (11, m * 5 + c) x).1 11 ∧ SF v v' ∧ ∀ u, MT u T L → u.1 13 9 = nI k → ∃ u', fX7_goes u [MO] = some (u', some (I 1)) ∧ u'.1 13 13 = 1 ∧ u'.1 13 12 = x ∧ u'.1 13 9 = nI e ∧ GF u u') := by
  obtain ⟨s, hs, es⟩ := s_skip h hp hk
  obtain ⟨h1, h2, h3⟩ := id h
  have sL := hs.2.1
  have ks := hs.1
  have h' := h.at (nI s)
  have p' : (mUp v (9, 2) (nI s)).1 9 2 = nI s := mUp_s _ _ _ _
  have m' : (mUp v (9, 2) (nI s)).1 9 3 = nI m := (mUp_o _ _ _ _ _ (by decide)).trans hm
  have t' : (mUp v (9, 2) (nI s)).1 11 = v.1 11 := (Fr.up 9 2 v (nI s)).1 11 (by decide)
  obtain ⟨e, he, ee⟩ := s_endOf h' p' sL (lo := 48) (hi := 57) (by omega) (by omega)
  have eL := he.2.1
  have se := he.1
  have d' : nI e - (mUp v (9, 2) (nI s)).1 9 2 = nI (e - s) := by rw [p', i_sub se]
  have q : (nI s).toNatClampNeg = s := nI_clamp (by omega)
  have bad : e = s → fX3_readNumber v [SC, I (nI c)] = some (mUp v (9, 2) (nI s), some (I 0)) := fun z => (qX3_readNumber v _).trans ((bV_eq es).trans ((bI_eq ee).trans (if_pos (ltT d' (n := 1) rfl (by omega) (by omega)))))
  by_cases c1 : s = L
  · refine Or.inl ⟨_, s, bad (he.self (Or.inl c1)), p', m', t', SF.at v _, fun u hu hq => ?_⟩
    subst c1
    obtain ⟨u', e1, e2, e3⟩ := m_goes_end hu hq hs
    exact ⟨u', Or.inl e1, e2, e3⟩
  · have sl : s < L := by omega
    by_cases c2 : Rg 48 57 (T s)
    · have s1 : s < e := Nat.lt_of_not_le (fun z => he.2.2.2 (by omega) (by rw [show e = s by omega]; exact c2))
      have x48 : (mUp v (9, 2) (nI s)).1 10 s = nI (T s) := (h'.2.2 s sl).2
      obtain ⟨r1, r2⟩ := id c2
      by_cases c3 : dfl T s e = 1
      · have cc : e - s < 6 ∧ (T s ≠ 48 ∨ e = s + 1) := by
          unfold dfl at c3
          by_cases z : e - s < 6 ∧ (T s ≠ 48 ∨ e = s + 1)
          · exact z
          · rw [if_neg z] at c3
            exact absurd c3 (by decide)
        refine Or.inr ⟨_, e, nI (numb T s (e - s)), by omega, eL, (qX3_readNumber v _).trans ((bV_eq es).trans ((bI_eq ee).trans ((if_neg (ltF d' (n := 1) rfl (by omega) (by omega))).trans ((if_neg (ltF (m := 5) rfl d' (by omega) (by omega))).trans ?_)))), ?_, ?_, ?_, (SF.at v (nI s)).tr ((SF.row _ (m * 5 + c) (nI (numb T s (e - s)))).tr (SF.at _ (nI e))), fun u hu hq => ?_⟩
        · have go : gX3_readNumber_35 (mUp v (9, 2) (nI s)) ((mUp v (9, 2) (nI s)).1 9 2) 0 (nI e - (mUp v (9, 2) (nI s)).1 9 2) (nI e) (nI c) = some (mUp (mUp (mUp v (9, 2) (nI s)) (11, m * 5 + c) (nI (numb T s (e - s)))) (9, 2) (nI e), some (I 1)) := by
            rw [p']
            exact s_num h' m' hc eL he.2.2.1 _ (e - s) 0 (by omega)
          by_cases c4 : 1 < e - s
          · have m0 : mIn ((mUp v (9, 2) (nI s)).1 9 2) 100 := by
              rw [p']
              exact mIn_nI (by omega) (by omega)
            have x0 : ¬ (mUp v (9, 2) (nI s)).1 10 ((mUp v (9, 2) (nI s)).1 9 2).toNatClampNeg = 48 := by
              rw [p', q]
              exact eqF x48 (n := 48) rfl (by omega) (by omega) (by omega)
            exact (if_pos (ltT (m := 1) rfl d' c4 (by omega))).trans ((if_pos m0).trans ((if_neg x0).trans go))
          · exact (if_neg (ltF (m := 1) rfl d' (Nat.not_lt.mp c4) (by omega))).trans go
        · exact mUp_s _ _ _ _
        · exact (mUp_o _ _ _ _ _ (by decide)).trans ((congrFun ((Fr.up 11 _ _ _).1 9 (by decide)) 3).trans m')
        · refine ((Fr.up 9 2 _ (nI e)).1 11 (by decide)).trans ?_
          funext o
          show (if 11 = 11 ∧ o = m * 5 + c then nI (numb T s (e - s)) else (mUp v (9, 2) (nI s)).1 11 o) = (if 11 = 11 ∧ o = m * 5 + c then nI (numb T s (e - s)) else v.1 11 o)
          rw [t']
        · obtain ⟨u', e1, ⟨t1, t2, t3⟩, -, e3, e4⟩ := m_goes_d hu hq hs sl c2 he
          exact ⟨u', e1, t3.trans c3, e3 (by omega), t1, e4⟩
      · have cc : ¬ (e - s < 6 ∧ (T s ≠ 48 ∨ e = s + 1)) := fun z => c3 (if_pos z)
        have c0 : dfl T s e = 0 := if_neg cc
        refine Or.inl ⟨mUp v (9, 2) (nI s), s, (qX3_readNumber v _).trans ((bV_eq es).trans ((bI_eq ee).trans ((if_neg (ltF d' (n := 1) rfl (by omega) (by omega))).trans ?_))), p', m', t', SF.at v _, fun u hu hq => ?_⟩
        · by_cases c6 : 5 < e - s
          · exact if_pos (ltT (m := 5) rfl d' c6 (by omega))
          · have z48 : T s = 48 := by
              by_cases z : T s = 48
              · exact z
              · exact absurd ⟨by omega, Or.inl z⟩ cc
            have z1 : e ≠ s + 1 := fun z => cc ⟨by omega, Or.inr z⟩
            have m0 : mIn ((mUp v (9, 2) (nI s)).1 9 2) 100 := by
              rw [p']
              exact mIn_nI (by omega) (by omega)
            have x0 : (mUp v (9, 2) (nI s)).1 10 ((mUp v (9, 2) (nI s)).1 9 2).toNatClampNeg = 48 := by
              rw [p', q]
              exact eqT x48 (n := 48) rfl z48
            exact (if_neg (ltF (m := 5) rfl d' (Nat.not_lt.mp c6) (by omega))).trans ((if_pos (ltT (m := 1) rfl d' (by omega) (by omega))).trans ((if_pos m0).trans (if_pos x0)))
        · obtain ⟨u', e1, ⟨t1, t2, t3⟩, -, -, e4⟩ := m_goes_d hu hq hs sl c2 he
          exact ⟨u', Or.inr ⟨e1, t3.trans c0⟩, t2, e4⟩
    · refine Or.inl ⟨_, s, bad (he.self (Or.inr c2)), p', m', t', SF.at v _, fun u hu hq => ?_⟩
      by_cases c3 : Rg 97 122 (T s)
      · obtain ⟨e2, he2, -⟩ := s_end h (lo := 97) (hi := 122) (by omega) (by omega) (L - s) s (by omega)
        obtain ⟨u', e1, ⟨t1, t2, t3⟩, -, e4⟩ := m_goes_w hu hq hs sl c3 he2
        exact ⟨u', Or.inr ⟨e1, t3⟩, t2, e4⟩
      · obtain ⟨u', e1, ⟨t1, t2, t3⟩, -, e4⟩ := m_goes_o hu hq hs sl c3 c2
        exact ⟨u', Or.inr ⟨e1, t3⟩, t2, e4⟩
end
