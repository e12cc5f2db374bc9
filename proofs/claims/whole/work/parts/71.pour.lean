-- THE CALL pour
section
variable {B p c : Nat} {a : Nat → Nat} {v u : MM}
theorem m_pour1 {b : Nat → Nat} {t q : Nat} (h : St 151 u 14 b) (ht : t < 6) (hq : q = 1 ∨ q = 2 ∨ q = 3 ∨ q = 4 ∨ q = 6) (y : Int32) : ∃ u', gX7_pour_21 u (nI q) y (nI t) = gX7_pour_21 u' (nI q + 1) y (nI t) ∧ St 151 u' 14 (au b (60 + 7 * t + q) 0) ∧ Fr 14 u u' := by
  have h1 := h.adn (o := 60 + 7 * t + q) (n := b (60 + 7 * t + q)) (by omega) rfl (Nat.le_refl _)
  rw [Nat.sub_self] at h1
  refine ⟨_, (qX7_pour_21 u _ _ _).trans ?_, h1, Fr.up 14 _ u _⟩
  refine (if_neg (by rcases hq with rfl | rfl | rfl | rfl | rfl <;> decide)).trans ?_
  refine (if_neg (by rcases hq with rfl | rfl | rfl | rfl | rfl <;> decide)).trans ?_
  refine (bI_eq (m_of h t q (by omega))).trans ?_
  exact bV_eq (m_adds _ t q (by omega) _)
theorem m_pour5 {b : Nat → Nat} {t : Nat} (h : St 151 u 14 b) (ht : t < 6) (y : Int32) : ∃ u', gX7_pour_21 u (nI 5) y (nI t) = gX7_pour_21 u' (nI 5 + 1) y (nI t) ∧ St 151 u' 14 b ∧ Fr 14 u u' := by
  have h1 := (h.add (o := 60 + 7 * t + 5) 0 (by omega) rfl).cong (b := b) (fun k _ => au_same rfl k)
  refine ⟨_, (qX7_pour_21 u _ _ _).trans ?_, h1, Fr.up 14 _ u _⟩
  refine (if_neg (by decide)).trans ?_
  refine (if_pos (by decide)).trans ?_
  exact bV_eq (m_adds _ t 5 (by omega) _)
theorem k_pour (h : Rel B v p c a) (hB : B ≤ 1100) (x1 : Int32) : Same B v (fX6_pour v [SH, I x1]) (fun w => fX7_pour w [MO, I x1]) := by
  have hw := h.2.2.2.2.2.2.2.2.1
  obtain ⟨r, w, v1, v2, p', c', a', e1, e2, e3, h2, ho⟩ := call_ed (C := fun w => fX0_pourJuice w [nm 2 ((p + 1) % 8) 0, I x1]) (M := fun u => fX7_pour u [MO, I x1]) h (fun w u hv hu => by
    by_cases c1 : mIn x1 (a 59)
    · obtain ⟨t, ht, ht31, rfl⟩ := mIn_ex c1
      have w4 := hw.2.2.2.1
      have ht6 : t < 6 := by omega
      obtain ⟨⟨t0, t1, t4, tz⟩, -⟩ := w4.2 t ht6
      have kf := hv (60 + 7 * t + 1) (by omega)
      by_cases d : a (60 + 7 * t + 1) = 0
      · refine Or.inr (Or.inl ⟨1, (qX0_pourJuice w _ _).trans ?_, (qX7_pour u _).trans ?_⟩)
        · simp only [nI_clamp ht31]
          refine (bI_eq (s_tT hv hw c1)).trans ((if_neg (by decide)).trans ?_)
          refine (if_pos (mIn_nI ht6 (by omega))).trans ?_
          exact (if_pos (eqT kf (n := 0) rfl d)).trans (bI_eq (s_refuse _ _ _))
        · refine (bI_eq (m_tT hu hw c1)).trans ((if_neg (by decide)).trans ?_)
          refine (bI_eq (m_of hu t 1 (by omega))).trans ?_
          exact (if_pos (eqT rfl (n := 0) rfl d)).trans (bI_eq (m_refuses _ _))
      · obtain ⟨w1, ew, hw1, fw1⟩ := s_drop hv (by omega) (hw.sml hB ht6) (Nat.le_refl (a (60 + 7 * t + 1)))
        have g2 := hw1.add (o := 110) (m := a 110) (a (60 + 7 * t + 1)) (by omega) (aDrop_out (by omega))
        refine Or.inr (Or.inr ⟨a (60 + 7 * t + 1), _, _, by omega, (qX0_pourJuice w _ _).trans ?_, g2, fw1.tr (Fr.up _ _ _ _), hw.drop ht (by omega) (Nat.le_refl _) (fun k hk => au_n (by omega)) (bot_same hw (fun k x y => (au_n (by omega)).trans (aDrop_out (by omega)))), fun u1 hu1 h14 => ?_⟩)
        · simp only [nI_clamp ht31]
          refine (bI_eq (s_tT hv hw c1)).trans ((if_neg (by decide)).trans ?_)
          refine (if_pos (mIn_nI ht6 (by omega))).trans ?_
          refine (if_neg (eqF kf (n := 0) rfl d (by omega) (by omega))).trans ?_
          refine (if_pos (mIn_nI ht6 (by omega))).trans ?_
          simp only [kf]
          refine (bV_eq ew).trans ?_
          refine (if_pos (by decide)).trans ?_
          exact if_pos (by decide)
        · obtain ⟨y1, q1, z1, f1⟩ := m_pour1 h14 ht6 (Or.inl rfl) (nI (a (60 + 7 * t + 1)))
          obtain ⟨y2, q2, z2, f2⟩ := m_pour1 (q := 2) z1 ht6 (Or.inr (Or.inl rfl)) (nI (a (60 + 7 * t + 1)))
          obtain ⟨y3, q3, z3, f3⟩ := m_pour1 (q := 3) z2 ht6 (Or.inr (Or.inr (Or.inl rfl))) (nI (a (60 + 7 * t + 1)))
          obtain ⟨y4, q4, z4, f4⟩ := m_pour1 (q := 4) z3 ht6 (Or.inr (Or.inr (Or.inr (Or.inl rfl)))) (nI (a (60 + 7 * t + 1)))
          obtain ⟨y5, q5, z5, f5⟩ := m_pour5 z4 ht6 (nI (a (60 + 7 * t + 1)))
          obtain ⟨y6, q6, z6, f6⟩ := m_pour1 (q := 6) z5 ht6 (Or.inr (Or.inr (Or.inr (Or.inr rfl)))) (nI (a (60 + 7 * t + 1)))
          have z7 := z6.add (o := 110) (m := a 110) (a (60 + 7 * t + 1)) (by omega) (by rw [au_n (by omega), au_n (by omega), au_n (by omega), au_n (by omega), au_n (by omega)])
          refine ⟨_, (qX7_pour u _).trans ?_, z7.cong (fun k hk => ?_), (((((f1.tr f2).tr f3).tr f4).tr f5).tr f6).tr (Fr.up _ _ _ _)⟩
          · refine (bI_eq (m_tT hu hw c1)).trans ((if_neg (by decide)).trans ?_)
            refine (bI_eq (m_of hu t 1 (by omega))).trans ?_
            refine (if_neg (eqF rfl (n := 0) rfl d (by omega) (by omega))).trans ((bV_eq hu1).trans ?_)
            refine q1.trans (q2.trans (q3.trans (q4.trans (q5.trans (q6.trans ((qX7_pour_21 _ _ _ _).trans ?_))))))
            exact (if_pos (by decide)).trans ((if_pos (by decide)).trans (if_pos (by decide)))
          · unfold aDrop
            rw [pt_all rfl (by omega), pt_all rfl (by omega), pt_all rfl (by omega), pt_all rfl (by omega), Nat.sub_self, Nat.sub_self, Nat.sub_self, Nat.sub_self, Nat.sub_self]
            (repeat refine au_cg (fun _ => ?_) ?_) <;> (first | rfl | ((try simp only [au]); repeat (first | rw [if_pos trivial] | rw [if_pos (by omega)] | rw [if_neg (by omega)])))
    · refine Or.inl ⟨-1, by decide, by decide, (qX0_pourJuice w _ _).trans ((bI_eq (s_tF hv hw c1)).trans (if_pos rfl)), (qX7_pour u _).trans ((bI_eq (m_tF hu hw c1)).trans (if_pos rfl))⟩)
  exact ⟨r, v1, v2, p', c', a', (qX6_pour v _).trans ((bN_eq e1).trans ((uX6_pour_2 w _ _).trans ((qX6_pour_2 w _ _).trans e2))), e3, h2, ho⟩
end
