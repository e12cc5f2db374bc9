-- A CALL that the model answers by keeps and done
section
/-- what such a call leaves alone -/
def Oth (v v' : MM) : Prop := (∀ r, 8 ≤ r → r ≠ 12 → r ≠ 13 → r ≠ 14 → r ≠ 15 → r ≠ 16 → v'.1 r = v.1 r) ∧ (∀ o, o ≠ 2 → o ≠ 4 → v'.1 13 o = v.1 13 o) ∧ v'.2 = v.2
theorem call_two {B p c : Nat} {a : Nat → Nat} {v : MM} {C M : MM → MR} (h : Rel B v p c a) (two : ∀ w u, St 155 w ((p + 1) % 8) a → St 151 u 14 a → Two B (C w) (M u) w u ((p + 1) % 8) a) : ∃ (r : Int32) (w v1 v2 : MM) (p' c' : Nat) (a' : Nat → Nat), fX6_draft v [SH] = some (w, some (nm 2 ((p + 1) % 8) 0)) ∧ bI (C w) (fun w1 r2 => bI (fX6_finish w1 [SH, nm 2 ((p + 1) % 8) 0, I r2]) (fun w3 r4 => some (w3, some (I r4)))) = some (v1, some (I r)) ∧ bV (fX7_keeps v1 [MO]) (fun w1 => bI (M w1) (fun w3 r4 => bI (fX7_done w3 [MO, I r4]) (fun w5 r6 => some (w5, some (I r6))))) = some (v2, some (I r)) ∧ Rel (B + 1) v2 p' c' a' ∧ Oth v v2 := by
  have hR := h
  obtain ⟨g1, g2, g3, g4, g5, g6, g7, g8, g9, g10⟩ := h
  obtain ⟨w, ed, dw, fw⟩ := s_draft g3 g1
  obtain ⟨n, hn⟩ : ∃ n, n = (p + 1) % 8 := ⟨_, rfl⟩
  rw [← hn] at two ed dw fw ⊢
  have n8 : n < 8 := by omega
  have w155 : St 155 w n a := fun k hk => (dw k hk).trans (g7 k hk)
  have w151 : St 151 w 14 a := g8.row (fw.1 14 (by omega))
  obtain ⟨r, a', v', u0, eC, -, hv', -, fC, -, hw', hneg, hr⟩ := two w w w155 w151
  have f12 : v'.1 12 = v.1 12 := (fC.1 12 (by omega)).trans (fw.1 12 (by omega))
  have f13 : v'.1 13 = v.1 13 := (fC.1 13 (by omega)).trans (fw.1 13 (by omega))
  have f14 : v'.1 14 = v.1 14 := (fC.1 14 (by omega)).trans (fw.1 14 (by omega))
  have f15 : v'.1 15 = v.1 15 := (fC.1 15 (by omega)).trans (fw.1 15 (by omega))
  have fo : ∀ q, q ≠ n → v'.1 q = v.1 q := fun q hq => (fC.1 q hq).trans (fw.1 q hq)
  -- the model behind a state that keeps rows 14 and 13
  have mod : ∀ v1 : MM, v1.1 14 = v.1 14 → ∃ u u' : MM, fX7_keeps v1 [MO] = some (u, none) ∧ (∀ q, q < 151 → u.1 16 q = v.1 14 q) ∧ Fr 16 v1 u ∧ M u = some (u', some (I r)) ∧ St 151 u' 14 a' ∧ FrM u u' ∧ ((r = -2 ∧ v'.1 n 155 = u'.1 13 4) ∨ (r ≠ -2 ∧ u'.1 13 4 = u.1 13 4)) := by
    intro v1 e14
    obtain ⟨u, ek, kq, fk⟩ := m_keeps v1
    have u14 : St 151 u 14 a := g8.row ((fk.1 14 (by decide)).trans e14)
    obtain ⟨r2, a2, v2, u', eC2, eM, hv2, hu', -, fM, -, hneg2, hr2⟩ := two w u w155 u14
    have eq := Option.some.inj (eC.symm.trans eC2)
    have q1 : v' = v2 := congrArg Prod.fst eq
    have q2 : r = r2 := Sum.inl.inj (Option.some.inj (congrArg Prod.snd eq))
    subst q1
    subst q2
    refine ⟨u, u', ek, fun q hq => (kq q hq).trans (congrFun e14 q), fk, eM, fun k hk => ?_, fM, hr2⟩
    rw [hu' k hk, ← hv2 k (by omega), hv' k (by omega)]
  by_cases neg : r < 0
  · have ea := hneg neg
    subst ea
    by_cases r2 : r = -2
    · subst r2
      obtain ⟨u, u', ek, kq, fk, eM, hu', fM, hy⟩ := mod (mUp v' (12, 5) (v'.1 n 155)) (((Fr.up 12 5 v' _).1 14 (by decide)).trans f14)
      have y : v'.1 n 155 = u'.1 13 4 := by
        rcases hy with ⟨-, e⟩ | ⟨e, -⟩
        · exact e
        · exact absurd rfl e
      have t12 : u'.1 12 = (mUp v' (12, 5) (v'.1 n 155)).1 12 := (fM.1 12 (by decide) (by decide)).trans (fk.1 12 (by decide))
      have t13 : ∀ o, o ≠ 4 → u'.1 13 o = v.1 13 o := fun o ho => (fM.2.1 o ho).trans ((congrFun (fk.1 13 (by decide)) o).trans ((congrFun ((Fr.up 12 5 v' _).1 13 (by decide)) o).trans (congrFun f13 o)))
      have tr : ∀ r, r ≠ n → r ≠ 12 → r ≠ 13 → r ≠ 14 → r ≠ 16 → u'.1 r = v.1 r := fun r x1 x2 x3 x4 x5 => (fM.1 r x4 x3).trans ((fk.1 r x5).trans (((Fr.up 12 5 v' _).1 r x2).trans (fo r x1)))
      refine ⟨-2, w, _, u', p, c, a', ed, (bI_eq eC).trans (bI_eq (s_finR n)), (bV_eq ek).trans ((bI_eq eM).trans (bI_eq (m_doneN u' (by decide)))), hR.keep ?_ ?_ ?_ ?_ hu' (fun q x y => tr q (by omega) (by omega) (by omega) (by omega) (by omega)) (tr 15 (by omega) (by decide) (by decide) (by decide) (by decide)), fun r x1 x2 x3 x4 x5 x6 => tr r (by omega) x2 x3 x4 x6, fun o x1 x2 => t13 o x2, fM.2.2.trans (fk.2.trans (fC.2.trans fw.2))⟩
      · rw [t12, mUp_o _ 12 5 3 _ (by decide), f12]
      · rw [t12, mUp_o _ 12 5 4 _ (by decide), f12]
      · exact t13 2 (by decide)
      · rw [t12, mUp_s]
        exact y
    · obtain ⟨u, u', ek, kq, fk, eM, hu', fM, hy⟩ := mod v' f14
      have y : u'.1 13 4 = u.1 13 4 := by
        rcases hy with ⟨e, -⟩ | ⟨-, e⟩
        · exact absurd e r2
        · exact e
      have t12 : u'.1 12 = v.1 12 := (fM.1 12 (by decide) (by decide)).trans ((fk.1 12 (by decide)).trans f12)
      have u13 : u.1 13 = v.1 13 := (fk.1 13 (by decide)).trans f13
      have t13 : ∀ o, o ≠ 4 → u'.1 13 o = v.1 13 o := fun o ho => (fM.2.1 o ho).trans (congrFun u13 o)
      have tr : ∀ r, r ≠ n → r ≠ 13 → r ≠ 14 → r ≠ 16 → u'.1 r = v.1 r := fun r x1 x3 x4 x5 => (fM.1 r x4 x3).trans ((fk.1 r x5).trans (fo r x1))
      refine ⟨r, w, v', u', p, c, a', ed, (bI_eq eC).trans (bI_eq (s_finN n neg r2)), (bV_eq ek).trans ((bI_eq eM).trans (bI_eq (m_doneN u' neg))), hR.keep ?_ ?_ ?_ ?_ hu' (fun q x y => tr q (by omega) (by omega) (by omega) (by omega)) (tr 15 (by omega) (by decide) (by decide) (by decide)), fun r x1 x2 x3 x4 x5 x6 => tr r (by omega) x3 x4 x6, fun o x1 x2 => t13 o x2, fM.2.2.trans (fk.2.trans (fC.2.trans fw.2))⟩
      · rw [t12]
      · rw [t12]
      · exact t13 2 (by decide)
      · rw [t12, y, u13]
        exact g6
  · obtain ⟨v1, ef, x3, x4, x5, f1⟩ := s_finY (v := v') (p := p) (c := c) n neg ((congrFun f12 3).trans g3) g1 ((congrFun f12 4).trans g4) g2
    obtain ⟨u, u', ek, kq, fk, eM, hu', fM, hy⟩ := mod v1 ((f1.1 14 (by decide)).trans f14)
    have p13 : u'.1 13 2 = nI c := (fM.2.1 2 (by decide)).trans ((congrFun (fk.1 13 (by decide)) 2).trans ((congrFun (f1.1 13 (by decide)) 2).trans ((congrFun f13 2).trans g5)))
    obtain ⟨u2, e2, d2, d4, do', dr, dl, ds, dp, dq⟩ := m_doneY u' neg g2 p13
    have w16 : u'.1 16 = u.1 16 := fM.1 16 (by decide) (by decide)
    have w12 : u2.1 12 = v1.1 12 := (dr 12 (by decide) (by decide) (by decide) (by decide)).trans ((fM.1 12 (by decide) (by decide)).trans (fk.1 12 (by decide)))
    have w15 : u'.1 15 = v.1 15 := (fM.1 15 (by decide) (by decide)).trans ((fk.1 15 (by decide)).trans ((f1.1 15 (by decide)).trans f15))
    have tr : ∀ r, r ≠ 12 → r ≠ 13 → r ≠ 14 → r ≠ 15 → r ≠ 16 → u2.1 r = v'.1 r := fun r a1 a2 a3 a4 a5 => (dr r a2 a3 a4 a5).trans ((fM.1 r a3 a2).trans ((fk.1 r a5).trans (f1.1 r a1)))
    have hp := hR.push (v' := u2) (a' := a') (by rw [w12]; exact x3) (by rw [w12]; exact x4) d2 (by rw [w12, d4]; exact x5) (by rw [← hn]; exact hv'.row (tr n (by omega) (by omega) (by omega) (by omega) (by omega))) (fun k hk => (ds k hk).trans (hu' k hk)) hw' (fun q a1 a2 => (tr q (by omega) (by omega) (by omega) (by omega) (by omega)).trans (fo q (by omega))) (fun q hq => by rw [dp q hq, w16, kq q hq]) (fun q hq => by rw [dq q hq, w15])
    refine ⟨r, w, v1, u2, _, _, a', ed, (bI_eq eC).trans (bI_eq ef), (bV_eq ek).trans ((bI_eq eM).trans (bI_eq e2)), hp, fun r a1 a2 a3 a4 a5 a6 => (tr r a2 a3 a4 a5 a6).trans (fo r (by omega)), fun o a1 a2 => ?_, dl.trans (fM.2.2.trans (fk.2.trans (f1.2.trans (fC.2.trans fw.2))))⟩
    rw [do' o a1 a2, fM.2.1 o a2]
    exact (congrFun (fk.1 13 (by decide)) o).trans ((congrFun (f1.1 13 (by decide)) o).trans (congrFun f13 o))
end
