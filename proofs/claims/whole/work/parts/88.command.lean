-- READING A COMMAND
section
variable {n L k s e m c : Nat} {T : Nat → Nat} {v v' u : MM} {kd : Int32}
/-- the model behind the numbers: the end of a command -/
noncomputable def mTail (u : MM) : MR := bI (fX7_goes u [MO]) (fun w2 r3 => if r3 = 0 then some (w2, some (I 0)) else if (w2.1 13 9) = ((w2.1 13 10) + (1 : Int32)) then if mIn (w2.1 13 10) 100 then if (w2.1 17 ((w2.1 13 10).toNatClampNeg)) = (59 : Int32) then some (w2, some (I 1)) else some (w2, some (I 0)) else none else some (w2, some (I 0)))
theorem end_joint (h : CT v T L) (hp : v.1 9 2 = nI k) (hk : k ≤ L) :
    (∃ v' s, fX3_readEnd v [SC] = some (v', some (I 0)) ∧ v'.1 9 2 = nI s ∧ v'.1 9 3 = v.1 9 3 ∧ v'.1 11 = v.1 11 ∧ SF v v' ∧ ∀ u, MT u T L → u.1 13 9 = nI k → ∃ u', mTail u = some (u', some (I 0)) ∧ u'.1 13 10 = nI s ∧ GF u u') ∨
    (∃ v' e, k < e ∧ e ≤ L ∧ fX3_readEnd v [SC] = some (v', some (I 1)) ∧ v'.1 9 2 = nI e ∧ v'.1 9 3 = v.1 9 3 ∧ v'.1 11 = v.1 11 ∧ SF v v' ∧ ∀ u, MT u T L → u.1 13 9 = nI k → ∃ u', mTail u = some (u', some (I 1)) ∧ u'.1 13 9 = nI e ∧ GF u u') := by
  obtain ⟨s, hs, es⟩ := s_skip h hp hk
  obtain ⟨h1, h2, h3⟩ := id h
  have sL := hs.2.1
  have ks := hs.1
  have h' := h.at (nI s)
  have p' : (mUp v (9, 2) (nI s)).1 9 2 = nI s := mUp_s _ _ _ _
  have m' : (mUp v (9, 2) (nI s)).1 9 3 = v.1 9 3 := mUp_o _ _ _ _ _ (by decide)
  have t' : (mUp v (9, 2) (nI s)).1 11 = v.1 11 := (Fr.up 9 2 v (nI s)).1 11 (by decide)
  have q : (nI s).toNatClampNeg = s := nI_clamp (by omega)
  by_cases c1 : s = L
  · refine Or.inl ⟨_, s, (qX3_readEnd v).trans ((bV_eq es).trans (if_neg (ltF p' h'.2.1 (by omega) (by omega)))), p', m', t', SF.at v _, fun u hu hq => ?_⟩
    subst c1
    obtain ⟨u', e1, e2, e3⟩ := m_goes_end hu hq hs
    exact ⟨u', (bI_eq e1).trans (if_pos rfl), e2, e3⟩
  · have sl : s < L := by omega
    have x := (h'.2.2 s sl).2
    have tb := (h3 s sl).1
    have m0 : mIn ((mUp v (9, 2) (nI s)).1 9 2) 100 := by
      rw [p']
      exact mIn_nI (by omega) (by omega)
    by_cases c2 : T s = 59
    · have x0 : (mUp v (9, 2) (nI s)).1 10 ((mUp v (9, 2) (nI s)).1 9 2).toNatClampNeg = 59 := by
        rw [p', q]
        exact eqT x (n := 59) rfl c2
      refine Or.inr ⟨mUp (mUp v (9, 2) (nI s)) (9, 2) (nI (s + 1)), s + 1, by omega, by omega, (qX3_readEnd v).trans ((bV_eq es).trans ((if_pos (ltT p' h'.2.1 sl (by omega))).trans ((if_pos m0).trans ((if_pos x0).trans ?_)))), mUp_s _ _ _ _, (mUp_o _ _ _ _ _ (by decide)).trans m', ((Fr.up 9 2 _ _).1 11 (by decide)).trans t', (SF.at v _).tr (SF.at _ _), fun u hu hq => ?_⟩
      · show some (mUp (mUp v (9, 2) (nI s)) (9, 2) ((mUp v (9, 2) (nI s)).1 9 2 + 1), some (I 1)) = _
        rw [p', show nI s + (1 : Int32) = nI (s + 1) from i_add s 1]
      · obtain ⟨u', e1, ⟨t1, t2, t3⟩, -, e4⟩ := m_goes_o hu hq hs sl (fun z => by obtain ⟨z1, z2⟩ := z; omega) (fun z => by obtain ⟨z1, z2⟩ := z; omega)
        have y := ((hu.gf e4).2.2 s sl).2.val (by omega)
        refine ⟨u', (bI_eq e1).trans ((if_neg (by decide)).trans ((if_pos ?_).trans ((if_pos ?_).trans (if_pos ?_)))), t1, e4⟩
        · rw [t1, t2]
          exact (i_add s 1).symm
        · rw [t2]
          exact mIn_nI (by omega) (by omega)
        · rw [t2, q]
          exact eqT y (n := 59) rfl c2
    · have x0 : ¬ (mUp v (9, 2) (nI s)).1 10 ((mUp v (9, 2) (nI s)).1 9 2).toNatClampNeg = 59 := by
        rw [p', q]
        exact eqF x (n := 59) rfl c2 (by omega) (by omega)
      refine Or.inl ⟨_, s, (qX3_readEnd v).trans ((bV_eq es).trans ((if_pos (ltT p' h'.2.1 sl (by omega))).trans ((if_pos m0).trans (if_neg x0)))), p', m', t', SF.at v _, fun u hu hq => ?_⟩
      have fin : ∀ (u' : MM) (e : Nat) (f : Int32), fX7_goes u [MO] = some (u', some (I 1)) → Tk u' s e f → GF u u' → mTail u = some (u', some (I 0)) := fun u' e f e1 tk g => by
        obtain ⟨t1, t2, t3⟩ := tk
        refine (bI_eq e1).trans ((if_neg (by decide)).trans ?_)
        by_cases z : u'.1 13 9 = u'.1 13 10 + 1
        · have n59 : ¬ u'.1 17 (u'.1 13 10).toNatClampNeg = 59 := by
            rw [t2, q]
            exact fun z => ((hu.gf g).2.2 s sl).2.ff (lo := 59) (hi := 59) (by omega) (by omega) (fun z => by obtain ⟨z1, z2⟩ := z; omega) (by rw [z]; decide)
          have m1 : mIn (u'.1 13 10) 100 := by
            rw [t2]
            exact mIn_nI (by omega) (by omega)
          exact (if_pos z).trans ((if_pos m1).trans (if_neg n59))
        · exact if_neg z
      by_cases c3 : Rg 97 122 (T s)
      · obtain ⟨e2, he2, -⟩ := s_end h (lo := 97) (hi := 122) (by omega) (by omega) (L - s) s (by omega)
        obtain ⟨u', e1, tk, -, e4⟩ := m_goes_w hu hq hs sl c3 he2
        exact ⟨u', fin u' _ _ e1 tk e4, tk.2.1, e4⟩
      · by_cases c4 : Rg 48 57 (T s)
        · obtain ⟨e2, he2, -⟩ := s_end h (lo := 48) (hi := 57) (by omega) (by omega) (L - s) s (by omega)
          obtain ⟨u', e1, tk, -, -, e4⟩ := m_goes_d hu hq hs sl c4 he2
          exact ⟨u', fin u' _ _ e1 tk e4, tk.2.1, e4⟩
        · obtain ⟨u', e1, tk, -, e4⟩ := m_goes_o hu hq hs sl c3 c4
          exact ⟨u', fin u' _ _ e1 tk e4, tk.2.1, e4⟩
theorem nums_joint (hm24 : m ≤ 24) (n4 : n ≤ 4) (hN : ∀ v, fX3_numbersOf v [I kd] = some (v, some (I (nI n)))) : ∀ d c k (v : MM), d + c = n + 1 → 1 ≤ c → CT v T L → v.1 9 2 = nI k → k ≤ L → v.1 9 3 = nI m → ∃ r v' z, gX3_readCommand_14 v (nI c) kd = some (v', some (I r)) ∧ v'.1 9 2 = nI z ∧ v'.1 9 3 = nI m ∧ SF v v' ∧ (r = 0 ∨ (r = 1 ∧ k < z ∧ z ≤ L)) ∧ ∀ u, MT u T L → u.1 13 9 = nI k → u.1 13 8 = nI m → Rw v u → ∃ u', gX7_readsCommand_21 u (nI c) (nI n) = some (u', some (I r)) ∧ (r = 0 → u'.1 13 10 = nI z) ∧ (r = 1 → u'.1 13 9 = nI z ∧ u'.1 13 8 = nI (m + 1)) ∧ RF u u' ∧ Rw v' u'
  | 0, c, k, v, ec, c1, h, hp, hk, hm => by
    have go : ∀ {r : Int32} {v' : MM}, (r = 0 ∨ r = 1) → fX3_readEnd v [SC] = some (v', some (I r)) → gX3_readCommand_14 v (nI c) kd = some (v', some (I r)) := fun hr e => (qX3_readCommand_14 v _ _).trans ((bI_eq (hN v)).trans ((if_pos (ltT rfl rfl (by omega) (by omega))).trans ((bI_eq e).trans (if_pos hr))))
    have mgo : ∀ u : MM, u.1 13 8 = nI m → gX7_readsCommand_21 u (nI c) (nI n) = mTail (mUp u (13, 8) (nI (m + 1))) := fun u h8 => by
      refine (qX7_readsCommand_21 u _ _).trans ((if_pos (ltT rfl rfl (by omega) (by omega))).trans ?_)
      show mTail (mUp u (13, 8) (u.1 13 8 + 1)) = _
      rw [h8, show nI m + (1 : Int32) = nI (m + 1) from i_add m 1]
    rcases end_joint h hp hk with ⟨v', s, e1, p1, m1, t1, f1, M⟩ | ⟨v', e, ke, eL, e1, p1, m1, t1, f1, M⟩
    · refine ⟨0, v', s, go (Or.inl rfl) e1, p1, m1.trans hm, f1, Or.inl rfl, fun u hu h9 h8 hr => ?_⟩
      obtain ⟨u', e2, p2, g2⟩ := M (mUp u (13, 8) (nI (m + 1))) (hu.rf (RF.up u 8 _ (by omega))) ((mUp_o _ _ _ _ _ (by decide)).trans h9)
      refine ⟨u', (mgo u h8).trans e2, fun _ => p2, fun z => absurd z (by decide), (RF.up u 8 _ (by omega)).tr g2.rF, fun q hq => ?_⟩
      rw [t1, g2.1 18 (by decide)]
      exact (hr q hq).trans (congrFun ((Fr.up 13 8 u (nI (m + 1))).1 18 (by decide)) q).symm
    · refine ⟨1, v', e, go (Or.inr rfl) e1, p1, m1.trans hm, f1, Or.inr ⟨rfl, ke, eL⟩, fun u hu h9 h8 hr => ?_⟩
      obtain ⟨u', e2, p2, g2⟩ := M (mUp u (13, 8) (nI (m + 1))) (hu.rf (RF.up u 8 _ (by omega))) ((mUp_o _ _ _ _ _ (by decide)).trans h9)
      refine ⟨u', (mgo u h8).trans e2, fun z => absurd z (by decide), fun _ => ⟨p2, (g2.2 8 (by decide) (by decide) (by decide) (by decide)).trans (mUp_s _ _ _ _)⟩, (RF.up u 8 _ (by omega)).tr g2.rF, fun q hq => ?_⟩
      rw [t1, g2.1 18 (by decide)]
      exact (hr q hq).trans (congrFun ((Fr.up 13 8 u (nI (m + 1))).1 18 (by decide)) q).symm
  | d + 1, c, k, v, ec, c1, h, hp, hk, hm => by
    have ng : ¬ nI n < nI c := ltF rfl rfl (by omega) (by omega)
    rcases num_joint h hp hk hm (show m * 5 + c < 125 by omega) with ⟨v', s, e1, p1, m1, t1, f1, M⟩ | ⟨v', e, x, ke, eL, e1, p1, m1, t1, f1, M⟩
    · refine ⟨0, v', s, (qX3_readCommand_14 v _ _).trans ((bI_eq (hN v)).trans ((if_neg ng).trans ((bI_eq e1).trans (if_pos rfl)))), p1, m1, f1, Or.inl rfl, fun u hu h9 h8 hr => ?_⟩
      obtain ⟨u', e2, p2, g2⟩ := M u hu h9
      refine ⟨u', (qX7_readsCommand_21 u _ _).trans ((if_neg ng).trans ?_), fun _ => p2, fun z => absurd z (by decide), g2.rF, fun q hq => ?_⟩
      · rcases e2 with e2 | ⟨e2, z2⟩
        · exact (bI_eq e2).trans (if_pos rfl)
        · exact (bI_eq e2).trans ((if_neg (by decide)).trans (if_pos z2))
      · rw [t1, g2.1 18 (by decide)]
        exact hr q hq
    · obtain ⟨r, v2, z, y1, y2, y3, y4, y5, Y⟩ := nums_joint hm24 n4 hN d (c + 1) e v' (by omega) (by omega) (h.sf f1) p1 eL m1
      refine ⟨r, v2, z, (qX3_readCommand_14 v _ _).trans ((bI_eq (hN v)).trans ((if_neg ng).trans ((bI_eq e1).trans ((if_neg (by decide)).trans ?_)))), y2, y3, f1.tr y4, y5.imp id (fun g => ⟨g.1, by omega, g.2.2⟩), fun u hu h9 h8 hr => ?_⟩
      · exact (congrArg (fun z => gX3_readCommand_14 v' z kd) (i_add c 1)).trans y1
      · obtain ⟨u', e2, z2, x2, q2, g2⟩ := M u hu h9
        have g8 : u'.1 13 8 = nI m := (g2.2 8 (by decide) (by decide) (by decide) (by decide)).trans h8
        have ix : (5 : Int32) * u'.1 13 8 + nI c = nI (m * 5 + c) := by
          rw [g8]
          exact (congrArg (fun z => z + nI c) (pk_mul 5 m)).trans ((i_add _ _).trans (congrArg nI (by omega)))
        have q : (nI (m * 5 + c)).toNatClampNeg = m * 5 + c := nI_clamp (by omega)
        obtain ⟨u2, w1, w2, w3, w4, w5⟩ := Y (mUp u' (18, m * 5 + c) x) ((hu.gf g2).rf (RF.row u' _ _)) ((congrFun ((Fr.up 18 _ u' x).1 13 (by decide)) 9).trans q2) ((congrFun ((Fr.up 18 _ u' x).1 13 (by decide)) 8).trans g8) (fun q hq => by
          rw [t1]
          show (if 11 = 11 ∧ q = m * 5 + c then x else v.1 11 q) = (if 18 = 18 ∧ q = m * 5 + c then x else u'.1 18 q)
          rw [g2.1 18 (by decide), hr q hq]
          by_cases z : q = m * 5 + c
          · rw [if_pos ⟨rfl, z⟩, if_pos ⟨rfl, z⟩]
          · rw [if_neg (fun y => z y.2), if_neg (fun y => z y.2)])
        refine ⟨u2, (qX7_readsCommand_21 u _ _).trans ((if_neg ng).trans ((bI_eq e2).trans ((if_neg (by decide)).trans ((if_neg (by rw [z2]; decide)).trans ?_)))), w2, w3, g2.rF.tr ((RF.row u' _ _).tr w4), w5⟩
        simp only [ix, q, x2]
        refine (if_pos (mIn_nI (by omega) (by omega))).trans ?_
        exact (congrArg (fun z => gX7_readsCommand_21 (mUp u' (18, m * 5 + c) x) z (nI n)) (i_add c 1)).trans w1
theorem cmd_some {i : Nat} (hm24 : m ≤ 24) (n4 : n ≤ 4) (hi : i < 7) (hN : ∀ v, fX3_numbersOf v [I (nI i)] = some (v, some (I (nI n)))) (h : CT v T L) (hp : v.1 9 2 = nI s) (hm : v.1 9 3 = nI m) (he : En 97 122 T L s e) (hw : s + 3 ≤ e) (hk : fX3_kindOfWord v [SC, I (nI e)] = some (v, some (I (nI i)))) (h0 : ∀ u : MM, fX7_wants u [.inr (.inl (lN (Kw T s e)))] = some (u, some (I (nI n)))) (h00 : ∀ u : MM, fX7_kind u [.inr (.inl (lN (Kw T s e)))] = some (u, some (I (nI i)))) : ∃ r v' z, fX3_readCommand v [SC] = some (v', some (I r)) ∧ v'.1 9 2 = nI z ∧ v'.1 9 3 = nI m ∧ SF v v' ∧ (r = 0 ∨ (r = 1 ∧ s + 4 ≤ z ∧ z ≤ L)) ∧ ∀ u, MT u T L → u.2 = lN (Kw T s e) → (s < e → u.1 13 9 = nI e) → u.1 13 10 = nI s → u.1 13 8 = nI m → Rw v u → ∃ u', fX7_readsCommand u [MO] = some (u', some (I r)) ∧ (r = 0 → u'.1 13 10 = nI z) ∧ (r = 1 → u'.1 13 9 = nI z ∧ u'.1 13 8 = nI (m + 1)) ∧ RF u u' ∧ Rw v' u' := by
  obtain ⟨h1, h2, h3⟩ := id h
  have sL := he.1
  have eL := he.2.1
  obtain ⟨e', he', ee⟩ := s_endOf h hp (by omega) (lo := 97) (hi := 122) (by omega) (by omega)
  obtain rfl := he'.uniq he
  have ni : ¬ nI i = -1 := fun z => absurd (show nI i < 0 by rw [z]; decide) (ltF (n := 0) rfl rfl (by omega) (by omega))
  have rw1 : fX3_readWord v [SC] = some (mUp v (9, 2) (nI e'), some (I (nI i))) := (qX3_readWord v).trans ((bI_eq ee).trans ((bI_eq hk).trans (if_neg ni)))
  have m' : (mUp v (9, 2) (nI e')).1 9 3 = nI m := (mUp_o _ _ _ _ _ (by decide)).trans hm
  have kp := s_keep (c := 0) m' (show m * 5 + 0 < 125 by omega) (nI i)
  obtain ⟨W, hW⟩ : ∃ W, W = mUp (mUp v (9, 2) (nI e')) (11, m * 5 + 0) (nI i) := ⟨_, rfl⟩
  rw [← hW] at kp
  have fW : SF v W := by
    rw [hW]
    exact (SF.at v _).tr (SF.row _ _ _)
  have pW : W.1 9 2 = nI e' := by
    rw [hW]
    exact (congrFun ((Fr.up 11 _ _ _).1 9 (by decide)) 2).trans (mUp_s _ _ _ _)
  have mW : W.1 9 3 = nI m := by
    rw [hW]
    exact (congrFun ((Fr.up 11 _ _ _).1 9 (by decide)) 3).trans m'
  obtain ⟨r, v2, z, y1, y2, y3, y4, y5, Y⟩ := nums_joint hm24 n4 hN n 1 e' W rfl (Nat.le_refl 1) (h.sf fW) pW eL mW
  refine ⟨r, v2, z, (qX3_readCommand v).trans ((bI_eq rw1).trans ((if_neg ni).trans ((bV_eq kp).trans y1))), y2, y3, fW.tr y4, y5.imp id (fun g => ⟨g.1, by omega, g.2.2⟩), fun u hu hw2 h9 h10 h8 hr => ?_⟩
  have ix : (5 : Int32) * u.1 13 8 = nI (m * 5 + 0) := by
    rw [h8]
    exact (pk_mul 5 m).trans (congrArg nI (by omega))
  have q : (nI (m * 5 + 0)).toNatClampNeg = m * 5 + 0 := nI_clamp (by omega)
  obtain ⟨u2, w1, w2, w3, w4, w5⟩ := Y (mUp u (18, m * 5 + 0) (nI i)) (hu.rf (RF.row u _ _)) ((congrFun ((Fr.up 18 _ u _).1 13 (by decide)) 9).trans (h9 (by omega))) ((congrFun ((Fr.up 18 _ u _).1 13 (by decide)) 8).trans h8) (fun q hq => by
    rw [hW]
    show (if 11 = 11 ∧ q = m * 5 + 0 then nI i else v.1 11 q) = (if 18 = 18 ∧ q = m * 5 + 0 then nI i else u.1 18 q)
    rw [hr q hq]
    by_cases z : q = m * 5 + 0
    · rw [if_pos ⟨rfl, z⟩, if_pos ⟨rfl, z⟩]
    · rw [if_neg (fun y => z y.2), if_neg (fun y => z y.2)])
  have n9 : ¬ nI n = -9 := fun z => absurd (show nI n < 0 by rw [z]; decide) (ltF (n := 0) rfl rfl (by omega) (by omega))
  have hw0 := h0 u
  have hk0 := h00 u
  rw [← hw2] at hw0 hk0
  refine ⟨u2, (qX7_readsCommand u).trans ((bI_eq hw0).trans ((if_neg n9).trans ((bI_eq hk0).trans ?_))), w2, w3, (RF.row u _ _).tr w4, w5⟩
  simp only [ix, q]
  exact (if_pos (mIn_nI (by omega) (by omega))).trans w1
theorem cmd_joint (hm24 : m ≤ 24) (h : CT v T L) (hp : v.1 9 2 = nI s) (hm : v.1 9 3 = nI m) (he : En 97 122 T L s e) : ∃ r v' z, fX3_readCommand v [SC] = some (v', some (I r)) ∧ v'.1 9 2 = nI z ∧ v'.1 9 3 = nI m ∧ SF v v' ∧ (r = 0 ∨ (r = 1 ∧ s + 4 ≤ z ∧ z ≤ L)) ∧ ∀ u, MT u T L → u.2 = lN (Kw T s e) → (s < e → u.1 13 9 = nI e) → u.1 13 10 = nI s → u.1 13 8 = nI m → Rw v u → ∃ u', fX7_readsCommand u [MO] = some (u', some (I r)) ∧ (r = 0 → u'.1 13 10 = nI z) ∧ (r = 1 → u'.1 13 9 = nI z ∧ u'.1 13 8 = nI (m + 1)) ∧ RF u u' ∧ Rw v' u' := by
  have hs := he.1
  have eL := he.2.1
  have hr := he.2.2.1
  by_cases k0 : Kw T s e = 8861527
  · have w := (kw_iff hs hr (show 0 < 7 by omega)).mp (k0.trans Cw_ok.1.symm)
    have w3 : Wl 0 = 5 := rfl
    exact cmd_some (i := 0) (n := 3) hm24 (by omega) (by omega) s_nums0 h hp hm he (by have := w.1; omega) (s_kind0 h hp hs eL hr k0) (fun u => by rw [k0]; exact m_wants0 u) (fun u => by rw [k0]; exact m_kind0 u)
  by_cases k1 : Kw T s e = 16922
  · have w := (kw_iff hs hr (show 1 < 7 by omega)).mp (k1.trans Cw_ok.2.1.symm)
    have w3 : Wl 1 = 3 := rfl
    exact cmd_some (i := 1) (n := 2) hm24 (by omega) (by omega) s_nums1 h hp hm he (by have := w.1; omega) (s_kind1 h hp hs eL hr k1) (fun u => by rw [k1]; exact m_wants1 u) (fun u => by rw [k1]; exact m_kind1 u)
  by_cases k2 : Kw T s e = 267413
  · have w := (kw_iff hs hr (show 2 < 7 by omega)).mp (k2.trans Cw_ok.2.2.1.symm)
    have w3 : Wl 2 = 4 := rfl
    exact cmd_some (i := 2) (n := 3) hm24 (by omega) (by omega) s_nums2 h hp hm he (by have := w.1; omega) (s_kind2 h hp hs eL hr k2) (fun u => by rw [k2]; exact m_wants2 u) (fun u => by rw [k2]; exact m_kind2 u)
  by_cases k3 : Kw T s e = 355115
  · have w := (kw_iff hs hr (show 3 < 7 by omega)).mp (k3.trans Cw_ok.2.2.2.1.symm)
    have w3 : Wl 3 = 4 := rfl
    exact cmd_some (i := 3) (n := 2) hm24 (by omega) (by omega) s_nums3 h hp hm he (by have := w.1; omega) (s_kind3 h hp hs eL hr k3) (fun u => by rw [k3]; exact m_wants3 u) (fun u => by rw [k3]; exact m_kind3 u)
  by_cases k4 : Kw T s e = 1834205
  · have w := (kw_iff hs hr (show 4 < 7 by omega)).mp (k4.trans Cw_ok.2.2.2.2.1.symm)
    have w3 : Wl 4 = 5 := rfl
    exact cmd_some (i := 4) (n := 1) hm24 (by omega) (by omega) s_nums4 h hp hm he (by have := w.1; omega) (s_kind4 h hp hs eL hr k4) (fun u => by rw [k4]; exact m_wants4 u) (fun u => by rw [k4]; exact m_kind4 u)
  by_cases k5 : Kw T s e = 37077998
  · have w := (kw_iff hs hr (show 5 < 7 by omega)).mp (k5.trans Cw_ok.2.2.2.2.2.1.symm)
    have w3 : Wl 5 = 6 := rfl
    exact cmd_some (i := 5) (n := 4) hm24 (by omega) (by omega) s_nums5 h hp hm he (by have := w.1; omega) (s_kind5 h hp hs eL hr k5) (fun u => by rw [k5]; exact m_wants5 u) (fun u => by rw [k5]; exact m_kind5 u)
  by_cases k6 : Kw T s e = 2968
  · have w := (kw_iff hs hr (show 6 < 7 by omega)).mp (k6.trans Cw_ok.2.2.2.2.2.2.symm)
    have w3 : Wl 6 = 3 := rfl
    exact cmd_some (i := 6) (n := 0) hm24 (by omega) (by omega) s_nums6 h hp hm he (by have := w.1; omega) (s_kind6 h hp hs eL hr k6) (fun u => by rw [k6]; exact m_wants6 u) (fun u => by rw [k6]; exact m_kind6 u)
  have none7 : ∀ i, i < 7 → Kw T s e ≠ Cw i := fun i hi => by
    obtain ⟨a0, a1, a2, a3, a4, a5, a6⟩ := Cw_ok
    rcases (show i = 0 ∨ i = 1 ∨ i = 2 ∨ i = 3 ∨ i = 4 ∨ i = 5 ∨ i = 6 by omega) with rfl | rfl | rfl | rfl | rfl | rfl | rfl
    · rw [a0]; exact k0
    · rw [a1]; exact k1
    · rw [a2]; exact k2
    · rw [a3]; exact k3
    · rw [a4]; exact k4
    · rw [a5]; exact k5
    · rw [a6]; exact k6
  obtain ⟨e', he', ee⟩ := s_endOf h hp (by omega) (lo := 97) (hi := 122) (by omega) (by omega)
  obtain rfl := he'.uniq he
  have rw1 : fX3_readWord v [SC] = some (v, some (I (-1))) := (qX3_readWord v).trans ((bI_eq ee).trans ((bI_eq (s_kindN h hp hs eL hr none7)).trans (if_pos rfl)))
  refine ⟨0, v, s, (qX3_readCommand v).trans ((bI_eq rw1).trans (if_pos rfl)), hp, hm, SF.rf v, Or.inl rfl, fun u hu hw2 h9 h10 h8 hrw => ⟨u, ?_, fun _ => h10, fun z => absurd z (by decide), RF.rf u, hrw⟩⟩
  have hw0 := m_wantsN u (kw_lt hs hr) none7
  rw [← hw2] at hw0
  exact (qX7_readsCommand u).trans ((bI_eq hw0).trans (if_pos rfl))
end
