-- THE MODEL'S TOKENS
section
variable {n L k s e : Nat} {T : Nat → Nat} {v v' u : MM}
theorem m_let : ∀ d k (u : MM), d + k = e → MT u T L → u.1 13 9 = nI k → En 97 122 T L k e → ∃ u', gX7_goes_63 u 0 1 = gX7_goes_100 u' (u'.1 13 10) 0 1 ∧ u'.1 13 9 = nI e ∧ G9 u u'
  | 0, k, u, ee, h, hp, he => by
    obtain ⟨h1, h2, h3⟩ := id h
    have ek : k = e := by omega
    subst ek
    refine ⟨u, (qX7_goes_63 u _ _).trans ?_, hp, G9.rf u⟩
    by_cases c : k < L
    · have q : (nI k).toNatClampNeg = k := nI_clamp (by omega)
      have nr := (h3 k c).2.ff (lo := 97) (hi := 122) (by omega) (by omega) (he.2.2.2 c)
      refine (if_pos (ltT hp h2 c (by omega))).trans ((if_neg (by decide)).trans ?_)
      simp only [hp, q]
      exact (if_pos (mIn_nI (by omega) (by omega))).trans ((bI_eq (m_inF nr)).trans ((if_pos rfl).trans (if_pos trivial)))
    · exact if_neg (ltF hp h2 (Nat.not_lt.mp c) (by have := he.2.1; omega))
  | d + 1, k, u, ee, h, hp, he => by
    obtain ⟨h1, h2, h3⟩ := id h
    have l := he.2.1
    have q : (nI k).toNatClampNeg = k := nI_clamp (by omega)
    have nr := (h3 k (by omega)).2.tt (lo := 97) (hi := 122) (by omega) (he.2.2.1 k (Nat.le_refl _) (by omega))
    obtain ⟨u', e', p', g'⟩ := m_let d (k + 1) (mUp u (13, 9) (nI (k + 1))) (by omega) (h.gf (G9.up u _).gf) (mUp_s _ _ _ _) (he.next (by omega))
    refine ⟨u', ((qX7_goes_63 u _ _).trans ((if_pos (ltT hp h2 (by omega) (by omega))).trans ((if_neg (by decide)).trans ?_))).trans e', p', (G9.up u _).tr g'⟩
    simp only [hp, q]
    refine (if_pos (mIn_nI (by omega) (by omega))).trans ((bI_eq (m_inT nr)).trans ((if_neg (by decide)).trans ?_))
    show gX7_goes_63 (mUp u (13, 9) (u.1 13 9 + 1)) 0 1 = _
    rw [hp, show nI k + (1 : Int32) = nI (k + 1) from i_add k 1]
theorem m_dig : ∀ d k (u : MM), d + k = e → MT u T L → u.1 13 9 = nI k → En 48 57 T L k e → ∃ u', gX7_goes_63 u 1 0 = gX7_goes_100 u' (u'.1 13 10) 1 0 ∧ u'.1 13 9 = nI e ∧ G9 u u'
  | 0, k, u, ee, h, hp, he => by
    obtain ⟨h1, h2, h3⟩ := id h
    have ek : k = e := by omega
    subst ek
    refine ⟨u, (qX7_goes_63 u _ _).trans ?_, hp, G9.rf u⟩
    by_cases c : k < L
    · have q : (nI k).toNatClampNeg = k := nI_clamp (by omega)
      have nr := (h3 k c).2.ff (lo := 48) (hi := 57) (by omega) (by omega) (he.2.2.2 c)
      refine (if_pos (ltT hp h2 c (by omega))).trans ((if_pos rfl).trans ((if_neg (by decide)).trans ?_))
      simp only [hp, q]
      exact (if_pos (mIn_nI (by omega) (by omega))).trans ((bI_eq (m_inF nr)).trans (if_pos rfl))
    · exact if_neg (ltF hp h2 (Nat.not_lt.mp c) (by have := he.2.1; omega))
  | d + 1, k, u, ee, h, hp, he => by
    obtain ⟨h1, h2, h3⟩ := id h
    have l := he.2.1
    have q : (nI k).toNatClampNeg = k := nI_clamp (by omega)
    have nr := (h3 k (by omega)).2.tt (lo := 48) (hi := 57) (by omega) (he.2.2.1 k (Nat.le_refl _) (by omega))
    obtain ⟨u', e', p', g'⟩ := m_dig d (k + 1) (mUp u (13, 9) (nI (k + 1))) (by omega) (h.gf (G9.up u _).gf) (mUp_s _ _ _ _) (he.next (by omega))
    refine ⟨u', ((qX7_goes_63 u _ _).trans ((if_pos (ltT hp h2 (by omega) (by omega))).trans ((if_pos rfl).trans ((if_neg (by decide)).trans ?_)))).trans e', p', (G9.up u _).tr g'⟩
    simp only [hp, q]
    refine (if_pos (mIn_nI (by omega) (by omega))).trans ((bI_eq (m_inT nr)).trans ((if_neg (by decide)).trans ?_))
    show gX7_goes_63 (mUp u (13, 9) (u.1 13 9 + 1)) 1 0 = _
    rw [hp, show nI k + (1 : Int32) = nI (k + 1) from i_add k 1]
theorem m_oth (u : MM) : gX7_goes_63 u 0 0 = gX7_goes_100 u (u.1 13 10) 0 0 := by
  refine (qX7_goes_63 u _ _).trans ?_
  by_cases c : u.1 13 9 < u.1 13 6
  · exact (if_pos c).trans ((if_pos rfl).trans (if_pos rfl))
  · exact if_neg c
def wcode (T : Nat → Nat) (s : Nat) : Nat → Nat
  | 0 => 0
  | m + 1 => 27 * wcode T s m + (T (s + m) - 96)
def numb (T : Nat → Nat) (s : Nat) : Nat → Nat
  | 0 => 0
  | m + 1 => 10 * numb T s m + (T (s + m) - 48)
/-- what stands after a token: its end, its begin, the flag -/
def Tk (u : MM) (s e : Nat) (f : Int32) : Prop := u.1 13 9 = nI e ∧ u.1 13 10 = nI s ∧ u.1 13 13 = f
theorem m_code (he : e ≤ L) (h8 : e - s < 8) (hr : ∀ q, s ≤ q → q < e → Rg 97 122 (T q)) : ∀ d m (u : MM), s + (m + d) = e → MT u T L → u.1 13 9 = nI e → u.1 13 10 = nI s → u.2 = lN (wcode T s m) → ∃ u', gX7_goes_100 u (nI (s + m)) 0 1 = some (u', some (I 1)) ∧ Tk u' s e 0 ∧ u'.2 = lN (wcode T s (e - s)) ∧ GF u u'
  | 0, m, u, ee, h, h9, h10, hw => by
    have l := h.1
    refine ⟨mUp u (13, 13) 0, (qX7_goes_100 u _ _ _).trans ((if_neg (ltF rfl h9 (by omega) (by omega))).trans (if_pos rfl)), ⟨(mUp_o _ _ _ _ _ (by decide)).trans h9, (mUp_o _ _ _ _ _ (by decide)).trans h10, mUp_s _ _ _ _⟩, ?_, GF.up u 13 0 (by omega)⟩
    rw [show e - s = m by omega]
    exact hw
  | d + 1, m, u, ee, h, h9, h10, hw => by
    obtain ⟨h1, h2, h3⟩ := id h
    have q : (nI (s + m)).toNatClampNeg = s + m := nI_clamp (by omega)
    have r := hr (s + m) (by omega) (by omega)
    have x : u.1 17 (s + m) = nI (T (s + m)) := (h3 (s + m) (by omega)).2.val (by obtain ⟨r1, r2⟩ := r; omega)
    have w : ((27 : Int64) * u.2 + (u.1 17 (s + m)).toInt64) - (96 : Int64) = lN (wcode T s (m + 1)) := by
      obtain ⟨r1, r2⟩ := r
      rw [hw, x, nI_l (show T (s + m) < 2 ^ 31 by omega)]
      refine (congrArg (fun z => z + lN (T (s + m)) - (96 : Int64)) (lN_mul 27 (wcode T s m))).trans ?_
      refine (congrArg (fun z => z - (96 : Int64)) (lN_add _ _)).trans ((lN_sub (b := 96) (by omega)).trans (congrArg lN ?_))
      show 27 * wcode T s m + T (s + m) - 96 = 27 * wcode T s m + (T (s + m) - 96)
      omega
    obtain ⟨u', e', t', w', g'⟩ := m_code he h8 hr d (m + 1) (mUp (u.1, lN (wcode T s (m + 1))) (13, 12) 0) (by omega) (h.gf ((GF.wd u _).tr (GF.up _ 12 0 (by omega)))) ((mUp_o _ _ _ _ _ (by decide)).trans h9) ((mUp_o _ _ _ _ _ (by decide)).trans h10) rfl
    refine ⟨u', ((qX7_goes_100 u _ _ _).trans ((if_pos (ltT rfl h9 (by omega) (by omega))).trans ((if_pos ?_).trans ((if_neg (by decide)).trans ?_)))).trans e', t', w', ((GF.wd u _).tr (GF.up _ 12 0 (by omega))).tr g'⟩
    · rw [h9, h10, i_sub (by omega)]
      exact ltT (n := 8) rfl rfl h8 (by omega)
    · simp only [q, w]
      refine (if_pos (mIn_nI (by omega) (by omega))).trans ((if_pos trivial).trans ?_)
      rw [show nI (s + m) + (1 : Int32) = nI (s + (m + 1)) from i_add (s + m) 1]
theorem m_codel (u : MM) (h9 : u.1 13 9 = nI e) (h10 : u.1 13 10 = nI s) (h8 : 8 ≤ e - s) (e31 : e ≤ 100) : ∃ u', gX7_goes_100 u (nI s) 0 1 = some (u', some (I 1)) ∧ Tk u' s e 0 ∧ u'.2 = u.2 ∧ GF u u' := by
  refine ⟨mUp u (13, 13) 0, (qX7_goes_100 u _ _ _).trans ((if_pos (ltT rfl h9 (by omega) (by omega))).trans ((if_neg ?_).trans (if_pos rfl))), ⟨(mUp_o _ _ _ _ _ (by decide)).trans h9, (mUp_o _ _ _ _ _ (by decide)).trans h10, mUp_s _ _ _ _⟩, rfl, GF.up u 13 0 (by omega)⟩
  rw [h9, h10, i_sub (by omega)]
  exact ltF (n := 8) rfl rfl h8 (by omega)
def dfl (T : Nat → Nat) (s e : Nat) : Int32 := if e - s < 6 ∧ (T s ≠ 48 ∨ e = s + 1) then 1 else 0
theorem m_tail6 (h : MT u T L) (hs : s < e) (he : e ≤ L) (h9 : u.1 13 9 = nI e) (h10 : u.1 13 10 = nI s) (r : Rg 48 57 (T s)) : (if ((u.1 13 9) - (u.1 13 10)) < (6 : Int32) then (if mIn (u.1 13 10) 100 then (if (u.1 17 ((u.1 13 10).toNatClampNeg)) = (48 : Int32) then (if (u.1 13 9) = ((u.1 13 10) + (1 : Int32)) then (some (mUp u (13, 13) (1 : Int32), some (.inl (1 : Int32))) : MR) else some (mUp u (13, 13) (0 : Int32), some (.inl (1 : Int32)))) else some (mUp u (13, 13) (1 : Int32), some (.inl (1 : Int32)))) else none) else some (mUp u (13, 13) (0 : Int32), some (.inl (1 : Int32)))) = some (mUp u (13, 13) (dfl T s e), some (I 1)) := by
  obtain ⟨h1, h2, h3⟩ := id h
  have q : (nI s).toNatClampNeg = s := nI_clamp (by omega)
  have d : u.1 13 9 - u.1 13 10 = nI (e - s) := by rw [h9, h10, i_sub (by omega)]
  obtain ⟨r1, r2⟩ := r
  have x : u.1 17 s = nI (T s) := (h3 s (by omega)).2.val (by omega)
  by_cases c6 : e - s < 6
  · refine (if_pos (ltT d (n := 6) rfl c6 (by omega))).trans ?_
    have a1 : u.1 13 10 + (1 : Int32) = nI (s + 1) := by
      rw [h10]
      exact i_add s 1
    simp only [h10, q]
    refine (if_pos (mIn_nI (by omega) (by omega))).trans ?_
    by_cases c48 : T s = 48
    · refine (if_pos (eqT x (n := 48) rfl c48)).trans ?_
      by_cases c1 : e = s + 1
      · rw [show dfl T s e = 1 from if_pos ⟨c6, Or.inr c1⟩]
        exact if_pos (by rw [h9, show nI s + (1 : Int32) = nI (s + 1) from i_add s 1, c1])
      · rw [show dfl T s e = 0 from if_neg (fun z => z.2.elim (fun z => z c48) c1)]
        refine if_neg ?_
        rw [show nI s + (1 : Int32) = nI (s + 1) from i_add s 1]
        exact eqF h9 rfl c1 (by omega) (by omega)
    · rw [show dfl T s e = 1 from if_pos ⟨c6, Or.inl c48⟩]
      exact if_neg (eqF x (n := 48) rfl c48 (by omega) (by omega))
  · rw [show dfl T s e = 0 from if_neg (fun z => c6 z.1)]
    exact if_neg (ltF d (n := 6) rfl (Nat.not_lt.mp c6) (by omega))
theorem m_numb (hs : s < e) (he : e ≤ L) (h8 : e - s < 8) (hr : ∀ q, s ≤ q → q < e → Rg 48 57 (T q)) : ∀ d m (u : MM), s + (m + d) = e → MT u T L → u.1 13 9 = nI e → u.1 13 10 = nI s → u.2 = 0 → u.1 13 12 = nI (numb T s m) → ∃ u', gX7_goes_100 u (nI (s + m)) 1 0 = some (u', some (I 1)) ∧ Tk u' s e (dfl T s e) ∧ u'.2 = 0 ∧ u'.1 13 12 = nI (numb T s (e - s)) ∧ GF u u'
  | 0, m, u, ee, h, h9, h10, hw, h12 => by
    have l := h.1
    refine ⟨mUp u (13, 13) (dfl T s e), (qX7_goes_100 u _ _ _).trans ((if_neg (ltF rfl h9 (by omega) (by omega))).trans ((if_neg (by decide)).trans (m_tail6 h hs he h9 h10 (hr s (Nat.le_refl _) hs)))), ⟨(mUp_o _ _ _ _ _ (by decide)).trans h9, (mUp_o _ _ _ _ _ (by decide)).trans h10, mUp_s _ _ _ _⟩, hw, ?_, GF.up u 13 _ (by omega)⟩
    rw [show e - s = m by omega]
    exact (mUp_o _ _ _ _ _ (by decide)).trans h12
  | d + 1, m, u, ee, h, h9, h10, hw, h12 => by
    obtain ⟨h1, h2, h3⟩ := id h
    have q : (nI (s + m)).toNatClampNeg = s + m := nI_clamp (by omega)
    have r := hr (s + m) (by omega) (by omega)
    have x : u.1 17 (s + m) = nI (T (s + m)) := (h3 (s + m) (by omega)).2.val (by obtain ⟨r1, r2⟩ := r; omega)
    have w : ((10 : Int32) * u.1 13 12 + u.1 17 (s + m)) - (48 : Int32) = nI (numb T s (m + 1)) := by
      obtain ⟨r1, r2⟩ := r
      rw [h12, x]
      refine (congrArg (fun z => z + nI (T (s + m)) - (48 : Int32)) (pk_mul 10 (numb T s m))).trans ?_
      refine (congrArg (fun z => z - (48 : Int32)) (i_add _ _)).trans ((i_sub (b := 48) (by omega)).trans (congrArg nI ?_))
      show 10 * numb T s m + T (s + m) - 48 = 10 * numb T s m + (T (s + m) - 48)
      omega
    obtain ⟨u', e', t', w', n', g'⟩ := m_numb hs he h8 hr d (m + 1) (mUp (u.1, (0 : Int64)) (13, 12) (nI (numb T s (m + 1)))) (by omega) (h.gf ((GF.wd u _).tr (GF.up _ 12 _ (by omega)))) ((mUp_o _ _ _ _ _ (by decide)).trans h9) ((mUp_o _ _ _ _ _ (by decide)).trans h10) rfl (mUp_s _ _ _ _)
    refine ⟨u', ((qX7_goes_100 u _ _ _).trans ((if_pos (ltT rfl h9 (by omega) (by omega))).trans ((if_pos ?_).trans ((if_pos rfl).trans ((if_neg (by decide)).trans ?_))))).trans e', t', w', n', ((GF.wd u _).tr (GF.up _ 12 _ (by omega))).tr g'⟩
    · rw [h9, h10, i_sub (by omega)]
      exact ltT (n := 8) rfl rfl h8 (by omega)
    · simp only [q, w]
      refine (if_pos (mIn_nI (by omega) (by omega))).trans ?_
      rw [show nI (s + m) + (1 : Int32) = nI (s + (m + 1)) from i_add (s + m) 1]
theorem m_numl (u : MM) (h : MT u T L) (hs : s < e) (he : e ≤ L) (h9 : u.1 13 9 = nI e) (h10 : u.1 13 10 = nI s) (h8 : 8 ≤ e - s) (r : Rg 48 57 (T s)) : ∃ u', gX7_goes_100 u (nI s) 1 0 = some (u', some (I 1)) ∧ Tk u' s e (dfl T s e) ∧ u'.2 = u.2 ∧ GF u u' := by
  have l := h.1
  refine ⟨mUp u (13, 13) (dfl T s e), (qX7_goes_100 u _ _ _).trans ((if_pos (ltT rfl h9 (by omega) (by omega))).trans ((if_neg ?_).trans ((if_neg (by decide)).trans (m_tail6 h hs he h9 h10 r)))), ⟨(mUp_o _ _ _ _ _ (by decide)).trans h9, (mUp_o _ _ _ _ _ (by decide)).trans h10, mUp_s _ _ _ _⟩, rfl, GF.up u 13 _ (by omega)⟩
  rw [h9, h10, i_sub (by omega)]
  exact ltF (n := 8) rfl rfl h8 (by omega)
theorem m_one (u : MM) (hs : s < 100) (h9 : u.1 13 9 = nI (s + 1)) (h10 : u.1 13 10 = nI s) : ∃ u', gX7_goes_100 u (nI s) 0 0 = some (u', some (I 1)) ∧ Tk u' s (s + 1) 0 ∧ u'.2 = 0 ∧ GF u u' := by
  have w9 : (mUp (u.1, (0 : Int64)) (13, 12) 0).1 13 9 = nI (s + 1) := (mUp_o _ _ _ _ _ (by decide)).trans h9
  have w10 : (mUp (u.1, (0 : Int64)) (13, 12) 0).1 13 10 = nI s := (mUp_o _ _ _ _ _ (by decide)).trans h10
  refine ⟨mUp (mUp (u.1, (0 : Int64)) (13, 12) 0) (13, 13) 0, (qX7_goes_100 u _ _ _).trans ((if_pos (ltT rfl h9 (by omega) (by omega))).trans ((if_pos ?_).trans ((if_pos rfl).trans ((if_pos rfl).trans ?_)))), ⟨(mUp_o _ _ _ _ _ (by decide)).trans w9, (mUp_o _ _ _ _ _ (by decide)).trans w10, mUp_s _ _ _ _⟩, rfl, ((GF.wd u _).tr (GF.up _ 12 0 (by omega))).tr (GF.up _ 13 0 (by omega))⟩
  · rw [h9, h10, i_sub (by omega)]
    exact ltT (n := 8) rfl rfl (by omega) (by omega)
  · refine (congrArg (fun z => gX7_goes_100 (mUp (u.1, (0 : Int64)) (13, 12) 0) z 0 0) (i_add s 1)).trans ?_
    exact (qX7_goes_100 _ _ _ _).trans ((if_neg (ltF rfl w9 (Nat.le_refl _) (by omega))).trans (if_pos rfl))
end
