-- READING THE WHOLE TEXT
section
variable {n L k s e m c : Nat} {T : Nat → Nat} {v v' u : MM}
theorem Kw_self (T : Nat → Nat) (s : Nat) : Kw T s s = 0 := by
  unfold Kw
  rw [Nat.sub_self]
  exact if_pos (by decide)
theorem m_goes_any (h : MT u T L) (hp : u.1 13 9 = nI k) (hk : En 32 32 T L k s) (hs : s < L) (he : En 97 122 T L s e) : ∃ u', fX7_goes u [MO] = some (u', some (I 1)) ∧ u'.2 = lN (Kw T s e) ∧ (s < e → u'.1 13 9 = nI e) ∧ u'.1 13 10 = nI s ∧ GF u u' := by
  by_cases c : Rg 97 122 (T s)
  · obtain ⟨u', e1, ⟨t1, t2, t3⟩, w, g⟩ := m_goes_w h hp hk hs c he
    refine ⟨u', e1, w.trans ?_, fun _ => t1, t2, g⟩
    unfold Kw
    by_cases c8 : e - s < 8
    · rw [if_pos c8, if_pos c8]
    · rw [if_neg c8, if_neg c8]
      rfl
  · obtain rfl := he.self (Or.inr c)
    by_cases c2 : Rg 48 57 (T e)
    · obtain ⟨e2, he2⟩ : ∃ e2, En 48 57 T L e e2 := by
        have : ∀ d k, d + k = L → ∃ e2, En 48 57 T L k e2 := by
          intro d
          induction d with
          | zero => exact fun k ek => ⟨k, Nat.le_refl _, by omega, fun i a b => by omega, fun z => by omega⟩
          | succ d ih =>
            intro k ek
            by_cases c : Rg 48 57 (T k)
            · obtain ⟨e2, h2⟩ := ih (k + 1) (by omega)
              refine ⟨e2, by have := h2.1; omega, h2.2.1, fun i a b => ?_, h2.2.2.2⟩
              by_cases z : i = k
              · rw [z]
                exact c
              · exact h2.2.2.1 i (by omega) b
            · exact ⟨k, Nat.le_refl _, by omega, fun i a b => by omega, fun _ => c⟩
        exact this (L - e) e (by omega)
      obtain ⟨u', e1, ⟨t1, t2, t3⟩, w, -, g⟩ := m_goes_d h hp hk hs c2 he2
      exact ⟨u', e1, w.trans (by rw [Kw_self]; rfl), fun z => absurd z (Nat.lt_irrefl _), t2, g⟩
    · obtain ⟨u', e1, ⟨t1, t2, t3⟩, w, g⟩ := m_goes_o h hp hk hs c c2
      exact ⟨u', e1, w.trans (by rw [Kw_self]; rfl), fun z => absurd z (Nat.lt_irrefl _), t2, g⟩
theorem read_loop : ∀ d j k (v : MM), d + j = 26 → 4 * j ≤ k → k ≤ L → CT v T L → v.1 9 2 = nI k → v.1 9 3 = nI j → ∃ r v' z n, gX3_read_8 v (nI j) = some (v', some (I r)) ∧ SF v v' ∧ ((r = 0 ∧ v'.1 9 2 = nI z) ∨ (r = 1 ∧ v'.1 9 3 = nI n ∧ 4 * n ≤ L)) ∧ ∀ u, MT u T L → u.1 13 9 = nI k → u.1 13 8 = nI j → Rw v u → ∃ u', gX7_reads_6 u = some (u', some (I r)) ∧ (r = 0 → u'.1 13 10 = nI z) ∧ (r = 1 → u'.1 13 8 = nI n) ∧ RF u u' ∧ Rw v' u'
  | 0, j, k, v, ej, jk, kL, h, hp, hm => by
    have := h.1
    omega
  | d + 1, j, k, v, ej, jk, kL, h, hp, hm => by
    obtain ⟨h1, h2, h3⟩ := id h
    have nj : ¬ (25 : Int32) < nI j := ltF (m := 25) rfl rfl (by omega) (by omega)
    obtain ⟨s, hs, es⟩ := s_skip h hp kL
    have ks := hs.1
    have sL := hs.2.1
    have h' := h.at (nI s)
    have p' : (mUp v (9, 2) (nI s)).1 9 2 = nI s := mUp_s _ _ _ _
    have m' : (mUp v (9, 2) (nI s)).1 9 3 = nI j := (mUp_o _ _ _ _ _ (by decide)).trans hm
    have t' : (mUp v (9, 2) (nI s)).1 11 = v.1 11 := (Fr.up 9 2 v (nI s)).1 11 (by decide)
    by_cases c1 : s = L
    · refine ⟨1, mUp v (9, 2) (nI s), 0, j, (qX3_read_8 v _).trans ((if_neg nj).trans ((bV_eq es).trans (if_neg (ltF p' h'.2.1 (by omega) (by omega))))), SF.at v _, Or.inr ⟨rfl, m', by omega⟩, fun u hu h9 h8 hr => ?_⟩
      subst c1
      obtain ⟨u', e1, e2, e3⟩ := m_goes_end hu h9 hs
      refine ⟨u', (qX7_reads_6 u).trans ((bI_eq e1).trans (if_pos rfl)), fun z => absurd z (by decide), fun _ => (e3.2 8 (by decide) (by decide) (by decide) (by decide)).trans h8, e3.rF, fun q hq => ?_⟩
      rw [t', e3.1 18 (by decide)]
      exact hr q hq
    · have sl : s < L := by omega
      obtain ⟨e, he, -⟩ := s_end h' (lo := 97) (hi := 122) (by omega) (by omega) (L - s) s (by omega)
      obtain ⟨r, v2, z, y1, y2, y3, y4, y5, Y⟩ := cmd_joint (show j ≤ 24 by omega) h' p' m' he
      have mgo : ∀ u, MT u T L → u.1 13 9 = nI k → u.1 13 8 = nI j → Rw v u → ∃ u1 u2, fX7_goes u [MO] = some (u1, some (I 1)) ∧ fX7_readsCommand u1 [MO] = some (u2, some (I r)) ∧ (r = 0 → u2.1 13 10 = nI z) ∧ (r = 1 → u2.1 13 9 = nI z ∧ u2.1 13 8 = nI (j + 1)) ∧ RF u u2 ∧ Rw v2 u2 := fun u hu h9 h8 hr => by
        obtain ⟨u1, e1, w1, n1, b1, g1⟩ := m_goes_any hu h9 hs sl he
        obtain ⟨u2, x1, x2, x3, x4, x5⟩ := Y u1 (hu.gf g1) w1 n1 b1 ((g1.2 8 (by decide) (by decide) (by decide) (by decide)).trans h8) (fun q hq => by
          rw [t', g1.1 18 (by decide)]
          exact hr q hq)
        exact ⟨u1, u2, e1, x1, x2, x3, g1.rF.tr x4, x5⟩
      have lt0 : (mUp v (9, 2) (nI s)).1 9 2 < (mUp v (9, 2) (nI s)).1 9 1 := ltT p' h'.2.1 sl (by omega)
      rcases y5 with y5 | ⟨y5, z4, zL⟩
      · subst y5
        refine ⟨0, v2, z, 0, (qX3_read_8 v _).trans ((if_neg nj).trans ((bV_eq es).trans ((if_pos lt0).trans ((bI_eq y1).trans (if_pos rfl))))), (SF.at v _).tr y4, Or.inl ⟨rfl, y2⟩, fun u hu h9 h8 hr => ?_⟩
        obtain ⟨u1, u2, x1, x2, x3, x4, x5, x6⟩ := mgo u hu h9 h8 hr
        exact ⟨u2, (qX7_reads_6 u).trans ((bI_eq x1).trans ((if_neg (by decide)).trans ((bI_eq x2).trans (if_pos rfl)))), x3, fun z => absurd z (by decide), x5, x6⟩
      · subst y5
        have hv2 := (h'.sf y4).sf (SF.nx v2 (nI (j + 1)))
        have t2 : (mUp v2 (9, 3) (nI (j + 1))).1 11 = v2.1 11 := (Fr.up 9 3 v2 _).1 11 (by decide)
        obtain ⟨r, v3, z3, n3, w1, w2, w3, W⟩ := read_loop d (j + 1) z (mUp v2 (9, 3) (nI (j + 1))) (by omega) (by omega) zL hv2 ((mUp_o _ _ _ _ _ (by decide)).trans y2) (mUp_s _ _ _ _)
        refine ⟨r, v3, z3, n3, (qX3_read_8 v _).trans ((if_neg nj).trans ((bV_eq es).trans ((if_pos lt0).trans ((bI_eq y1).trans ((if_neg (by decide)).trans ?_))))), (SF.at v _).tr (y4.tr ((SF.nx v2 _).tr w2)), w3, fun u hu h9 h8 hr => ?_⟩
        · show gX3_read_8 (mUp v2 (9, 3) (v2.1 9 3 + 1)) (nI j + 1) = _
          rw [y3, show nI j + (1 : Int32) = nI (j + 1) from i_add j 1]
          exact w1
        · obtain ⟨u1, u2, x1, x2, x3, x4, x5, x6⟩ := mgo u hu h9 h8 hr
          obtain ⟨p4, p5⟩ := x4 rfl
          obtain ⟨u3, q1, q2, q3, q4, q5⟩ := W u2 (hu.rf x5) p4 p5 (fun q hq => by
            rw [t2]
            exact x6 q hq)
          exact ⟨u3, (qX7_reads_6 u).trans ((bI_eq x1).trans ((if_neg (by decide)).trans ((bI_eq x2).trans ((if_neg (by decide)).trans q1)))), q2, q3, x5.tr q4, q5⟩
theorem read_all (h : CT v T L) : ∃ r v' z n, fX3_read v [SC] = some (v', some (I r)) ∧ SF v v' ∧ ((r = 0 ∧ v'.1 9 2 = nI z) ∨ (r = 1 ∧ v'.1 9 3 = nI n ∧ 4 * n ≤ L)) ∧ ∀ u, MT u T L → Rw v u → ∃ u', fX7_reads u [MO] = some (u', some (I r)) ∧ (r = 0 → u'.1 13 10 = nI z) ∧ (r = 1 → u'.1 13 8 = nI n) ∧ RF u u' ∧ Rw v' u' := by
  have f0 : SF v (mUp (mUp v (9, 2) 0) (9, 3) 0) := (SF.at v 0).tr (SF.nx _ 0)
  obtain ⟨r, v', z, n, y1, y2, y3, Y⟩ := read_loop 26 0 0 (mUp (mUp v (9, 2) 0) (9, 3) 0) rfl (by omega) (by omega) (h.sf f0) ((mUp_o _ _ _ _ _ (by decide)).trans (mUp_s _ _ _ _)) (mUp_s _ _ _ _)
  refine ⟨r, v', z, n, (qX3_read v).trans y1, f0.tr y2, y3, fun u hu hr => ?_⟩
  have g0 : RF u (mUp (mUp u (13, 9) 0) (13, 8) 0) := (RF.up u 9 0 (by omega)).tr (RF.up _ 8 0 (by omega))
  obtain ⟨u', x1, x2, x3, x4, x5⟩ := Y (mUp (mUp u (13, 9) 0) (13, 8) 0) (hu.rf g0) ((mUp_o _ _ _ _ _ (by decide)).trans (mUp_s _ _ _ _)) (mUp_s _ _ _ _) (fun q hq => hr q hq)
  exact ⟨u', (qX7_reads u).trans x1, x2, x3, g0.tr x4, x5⟩
end
