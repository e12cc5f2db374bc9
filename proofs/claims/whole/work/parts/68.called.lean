-- A CALL in which the model saves by edits between question and change
section
def TwoE (B : Nat) (C M : MM → MR) (n : Nat) (a : Nat → Nat) (w u : MM) : Prop :=
  (∃ r : Int32, r < 0 ∧ r ≠ -2 ∧ C w = some (w, some (I r)) ∧ M u = some (u, some (I r))) ∨
  (∃ y, C w = some (mUp w (n, 155) y, some (I (-2))) ∧ M u = some (mUp u (13, 4) y, some (I (-2)))) ∨
  ∃ (m : Nat) (a' : Nat → Nat) (w' : MM), m < 2 ^ 31 ∧ C w = some (w', some (I (nI m))) ∧ St 155 w' n a' ∧ Fr n w w' ∧ Wf (B + 1) a' ∧ ∀ u1, fX7_edits u [MO] = some (u1, none) → St 151 u1 14 a → ∃ u', M u = some (u', some (I (nI m))) ∧ St 151 u' 14 a' ∧ Fr 14 u1 u'
theorem call_ed {B p c : Nat} {a : Nat → Nat} {v : MM} {C M : MM → MR} (h : Rel B v p c a) (two : ∀ w u, St 155 w ((p + 1) % 8) a → St 151 u 14 a → TwoE B C M ((p + 1) % 8) a w u) : ∃ (r : Int32) (w v1 v2 : MM) (p' c' : Nat) (a' : Nat → Nat), fX6_draft v [SH] = some (w, some (nm 2 ((p + 1) % 8) 0)) ∧ bI (C w) (fun w1 r2 => bI (fX6_finish w1 [SH, nm 2 ((p + 1) % 8) 0, I r2]) (fun w3 r4 => some (w3, some (I r4)))) = some (v1, some (I r)) ∧ M v1 = some (v2, some (I r)) ∧ Rel (B + 1) v2 p' c' a' ∧ Oth v v2 := by
  have hR := h
  obtain ⟨g1, g2, g3, g4, g5, g6, g7, g8, g9, g10⟩ := h
  obtain ⟨w, ed, dw, fw⟩ := s_draft g3 g1
  obtain ⟨n, hn⟩ : ∃ n, n = (p + 1) % 8 := ⟨_, rfl⟩
  rw [← hn] at two ed dw fw ⊢
  have n8 : n < 8 := by omega
  have w155 : St 155 w n a := fun k hk => (dw k hk).trans (g7 k hk)
  have row : ∀ q, q ≠ n → w.1 q = v.1 q := fun q hq => fw.1 q hq
  rcases two w w w155 (g8.row (row 14 (by omega))) with ⟨r, r0, r2, eC, -⟩ | ⟨y, eC, -⟩ | ⟨m, a', w', hm, eC, hw', fC, hwf, -⟩
  · rcases two w w w155 (g8.row (row 14 (by omega))) with ⟨r', -, -, eC', eM⟩ | ⟨y, eC', -⟩ | ⟨m, a', w', hm, eC', -⟩
    · have q2 : r = r' := Sum.inl.inj (Option.some.inj (congrArg Prod.snd (Option.some.inj (eC.symm.trans eC'))))
      subst q2
      refine ⟨r, w, w, w, p, c, a, ed, (bI_eq eC).trans (bI_eq (s_finN n r0 r2)), eM, hR.keep (by rw [row 12 (by omega)]) (by rw [row 12 (by omega)]) (by rw [row 13 (by omega)]) (by rw [row 12 (by omega), row 13 (by omega)]; exact g6) (g8.row (row 14 (by omega))) (fun q x y => row q (by omega)) (row 15 (by omega)), fun r a0 _ _ _ _ _ => row r (by omega), fun o _ _ => by rw [row 13 (by omega)], fw.2⟩
    · have q2 : r = -2 := Sum.inl.inj (Option.some.inj (congrArg Prod.snd (Option.some.inj (eC.symm.trans eC'))))
      exact absurd q2 r2
    · have q2 : r = nI m := Sum.inl.inj (Option.some.inj (congrArg Prod.snd (Option.some.inj (eC.symm.trans eC'))))
      rw [q2] at r0
      exact absurd r0 (ltF (n := 0) rfl rfl (by omega) hm)
  · have v14 : St 151 (mUp (mUp w (n, 155) y) (12, 5) ((mUp w (n, 155) y).1 n 155)) 14 a := g8.row (((Fr.up 12 5 _ _).1 14 (by decide)).trans (((Fr.up n 155 w y).1 14 (by omega)).trans (row 14 (by omega))))
    rcases two w _ w155 v14 with ⟨r', -, r2, eC', -⟩ | ⟨y', eC', eM⟩ | ⟨m, a', w', hm, eC', -⟩
    · have q2 : -2 = r' := Sum.inl.inj (Option.some.inj (congrArg Prod.snd (Option.some.inj (eC.symm.trans eC'))))
      exact absurd q2.symm r2
    · have q1 : mUp w (n, 155) y = mUp w (n, 155) y' := congrArg Prod.fst (Option.some.inj (eC.symm.trans eC'))
      have qy : y = y' := by
        have := congrArg (fun z : MM => z.1 n 155) q1
        simp only [mUp_s] at this
        exact this
      subst qy
      have rw2 : ∀ q, q ≠ n → q ≠ 12 → q ≠ 13 → (mUp (mUp (mUp w (n, 155) y) (12, 5) ((mUp w (n, 155) y).1 n 155)) (13, 4) y).1 q = v.1 q := fun q a1 a2 a3 => ((Fr.up 13 4 _ _).1 q a3).trans (((Fr.up 12 5 _ _).1 q a2).trans (((Fr.up n 155 w y).1 q a1).trans (row q a1)))
      have r12 : ∀ o, o ≠ 5 → (mUp (mUp (mUp w (n, 155) y) (12, 5) ((mUp w (n, 155) y).1 n 155)) (13, 4) y).1 12 o = v.1 12 o := fun o ho => (congrFun ((Fr.up 13 4 _ _).1 12 (by decide)) o).trans ((mUp_o _ 12 5 o _ ho).trans ((congrFun ((Fr.up n 155 w y).1 12 (by omega)) o).trans (congrFun (row 12 (by omega)) o)))
      have r13 : ∀ o, o ≠ 4 → (mUp (mUp (mUp w (n, 155) y) (12, 5) ((mUp w (n, 155) y).1 n 155)) (13, 4) y).1 13 o = v.1 13 o := fun o ho => (mUp_o _ 13 4 o _ ho).trans ((congrFun ((Fr.up 12 5 _ _).1 13 (by decide)) o).trans ((congrFun ((Fr.up n 155 w y).1 13 (by omega)) o).trans (congrFun (row 13 (by omega)) o)))
      refine ⟨-2, w, _, _, p, c, a, ed, (bI_eq eC).trans (bI_eq (s_finR n)), eM, hR.keep (r12 3 (by decide)) (r12 4 (by decide)) (r13 2 (by decide)) ?_ (g8.row (rw2 14 (by omega) (by decide) (by decide))) (fun q x y => rw2 q (by omega) (by omega) (by omega)) (rw2 15 (by omega) (by decide) (by decide)), fun r a0 a1 a2 _ _ _ => rw2 r (by omega) a1 a2, fun o _ a2 => r13 o a2, fw.2⟩
      exact (congrFun ((Fr.up 13 4 _ _).1 12 (by decide)) 5).trans ((mUp_s _ 12 5 _).trans ((mUp_s w n 155 y).trans (mUp_s _ 13 4 y).symm))
    · have q2 : -2 = nI m := Sum.inl.inj (Option.some.inj (congrArg Prod.snd (Option.some.inj (eC.symm.trans eC'))))
      exact absurd (show nI m < 0 by rw [← q2]; decide) (ltF (n := 0) rfl rfl (by omega) hm)
  · have neg : ¬ nI m < 0 := ltF (n := 0) rfl rfl (by omega) hm
    have f : ∀ q, q ≠ n → w'.1 q = v.1 q := fun q hq => (fC.1 q hq).trans (row q hq)
    obtain ⟨v1, ef, x3, x4, x5, f1⟩ := s_finY (v := w') (p := p) (c := c) n neg ((congrFun (f 12 (by omega)) 3).trans g3) g1 ((congrFun (f 12 (by omega)) 4).trans g4) g2
    have e14 : v1.1 14 = v.1 14 := (f1.1 14 (by decide)).trans (f 14 (by omega))
    have e13 : v1.1 13 = v.1 13 := (f1.1 13 (by decide)).trans (f 13 (by omega))
    have e15 : v1.1 15 = v.1 15 := (f1.1 15 (by decide)).trans (f 15 (by omega))
    obtain ⟨u1, e2, d2, d4, do', dr, dl, dp, dq⟩ := m_edits v1 g2 ((congrFun e13 2).trans g5)
    rcases two w v1 w155 (g8.row e14) with ⟨r', r0, -, eC', -⟩ | ⟨y', eC', -⟩ | ⟨m2, a2, w2, hm2, eC', hw2, -, -, hM⟩
    · have q2 : nI m = r' := Sum.inl.inj (Option.some.inj (congrArg Prod.snd (Option.some.inj (eC.symm.trans eC'))))
      rw [← q2] at r0
      exact absurd r0 neg
    · have q2 : nI m = -2 := Sum.inl.inj (Option.some.inj (congrArg Prod.snd (Option.some.inj (eC.symm.trans eC'))))
      exact absurd (show nI m < 0 by rw [q2]; decide) neg
    · have q1 : w' = w2 := congrArg Prod.fst (Option.some.inj (eC.symm.trans eC'))
      have q2 : nI m = nI m2 := Sum.inl.inj (Option.some.inj (congrArg Prod.snd (Option.some.inj (eC.symm.trans eC'))))
      subst q1
      obtain ⟨u', eM, hu', fM⟩ := hM u1 e2 (g8.row ((dr 14 (by decide) (by decide)).trans e14))
      rw [← q2] at eM
      have tr : ∀ r, r ≠ 12 → r ≠ 13 → r ≠ 14 → r ≠ 15 → u'.1 r = w'.1 r := fun r a1 a2 a3 a4 => (fM.1 r a3).trans ((dr r a2 a4).trans (f1.1 r a1))
      have s12 : u'.1 12 = v1.1 12 := (fM.1 12 (by decide)).trans (dr 12 (by decide) (by decide))
      have s13 : u'.1 13 = u1.1 13 := fM.1 13 (by decide)
      have s15 : u'.1 15 = u1.1 15 := fM.1 15 (by decide)
      have hp := hR.push (v' := u') (a' := a') (by rw [s12]; exact x3) (by rw [s12]; exact x4) (by rw [s13]; exact d2) (by rw [s12, s13, d4]; exact x5) (by rw [← hn]; exact hw'.row (tr n (by omega) (by omega) (by omega) (by omega))) (fun k hk => by rw [hu' k hk, ← hw2 k (by omega), hw' k (by omega)]) hwf (fun q a1 a2 => (tr q (by omega) (by omega) (by omega) (by omega)).trans (f q (by omega))) (fun q hq => by rw [s15, dp q hq, e14]) (fun q hq => by rw [s15, dq q hq, e15])
      refine ⟨nI m, w, v1, u', _, _, a', ed, (bI_eq eC).trans (bI_eq ef), eM, hp, fun r a0 a1 a2 a3 a4 _ => (tr r a1 a2 a3 a4).trans (f r (by omega)), fun o a1 a2 => ?_, fM.2.trans (dl.trans (f1.2.trans (fC.2.trans fw.2)))⟩
      rw [s13, do' o a1 a2, e13]
end
