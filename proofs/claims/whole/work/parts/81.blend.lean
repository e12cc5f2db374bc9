-- THE CALL blendFor
section
variable {B p c : Nat} {a : Nat → Nat} {v u : MM} {i j f t : Nat}
/-- what a label says of a blend -/
def bl (a : Nat → Nat) (j f t n : Nat) : Nat := fb a j (a (60 + 7 * t + 1) + n) (a (60 + 7 * t + 2) + pt a f 2 n) (a (60 + 7 * t + 3) + pt a f 3 n) (a (60 + 7 * t + 4) + pt a f 4 n)
theorem s_blend {n : Nat} (hv : St 155 v p a) (hw : Wf B a) (hB : B ≤ 1100) (hf : f < 6) (ht : t < 6) (hj : j < 4) (hn : n ≤ a (60 + 7 * f + 1)) : fX1_reasonAgainstBlend v [nm 9 p j, nm 12 p t, nm 12 p f, I (nI n)] = some (v, some (I (nI (bl a j f t n)))) := by
  have hs := hw.sml hB hf
  have sf := hw.tk_le hB hf
  have s2 := hw.tk_le hB ht
  have f1 := sf 1 (by omega)
  have f2 := sf 2 (by omega)
  have f3 := sf 3 (by omega)
  have f4 := sf 4 (by omega)
  have t1 := s2 1 (by omega)
  have t2 := s2 2 (by omega)
  have t3 := s2 3 (by omega)
  have t4 := s2 4 (by omega)
  have p2 : pt a f 2 n ≤ a (60 + 7 * f + 2) := pt_le hn
  have p3 : pt a f 3 n ≤ a (60 + 7 * f + 3) := pt_le hn
  have p4 : pt a f 4 n ≤ a (60 + 7 * f + 4) := pt_le hn
  refine (qX1_reasonAgainstBlend v p j p t p f _).trans ?_
  refine (bI_eq (s_pt hv (by omega) hs (by omega) 2 (by omega) rfl rfl)).trans ?_
  refine (bI_eq (s_pt hv (by omega) hs (by omega) 3 (by omega) rfl rfl)).trans ?_
  refine (bI_eq (s_pt hv (by omega) hs (by omega) 4 (by omega) rfl rfl)).trans ?_
  rw [hv (60 + 7 * t + 1) (by omega), hv (60 + 7 * t + 2) (by omega), hv (60 + 7 * t + 3) (by omega), hv (60 + 7 * t + 4) (by omega), i_add, i_add, i_add, i_add]
  exact bI_eq (s_rj hv hw.1 hj (by omega) (by omega) (by omega) (by omega))
theorem m_blend {n : Nat} (hu : St 151 u 14 a) (hw : Wf B a) (hB : B ≤ 1100) (hf : f < 6) (ht : t < 6) (hj : j < 4) (ne : f ≠ t) (h1 : 1 ≤ n) (hn : n ≤ a (60 + 7 * f + 1)) (h16 : St 151 u 16 a) : ∃ u1 h, h < 2 ^ 31 ∧ fX7_carries u [MO, I (nI f), I (nI n), I (nI t)] = some (u1, some (I (nI h))) ∧ fX7_forbids u1 [MO, I (nI t), I (nI j)] = some (u1, some (I (nI (bl a j f t n)))) ∧ ∃ u2, fX7_restores u1 [MO] = some (u2, none) ∧ St 151 u2 14 a ∧ Fr 14 u u2 := by
  have hs := hw.sml hB hf
  have sf := hw.tk_le hB hf
  have s2 := hw.tk_le hB ht
  have f0 := (hw.2.2.2.1.2 f hf).1
  have f5 : a (60 + 7 * f + 1) ≤ 5000 := by
    obtain ⟨z1, z2, -⟩ := f0
    omega
  have f4 := sf 4 (by omega)
  have p4 : pt a f 4 n ≤ a (60 + 7 * f + 4) := pt_le hn
  obtain ⟨u1, e1, h2, fr1⟩ := m_carry (t := t) hu (by omega) (by omega) ne (hw.mul hB hf (show n ≤ 5000 by omega)) (by omega) (by omega) hn
  obtain ⟨u2, e3, h3, fr2⟩ := m_back (h16.fr fr1 (by decide))
  refine ⟨u1, pt a f 4 n, by omega, e1, ?_, u2, e3, h3, fr1.tr fr2⟩
  have lo : ∀ k, k < 42 → aGive a f n t k = a k := fun k hk => aGive_out ne (by omega) (by omega)
  obtain ⟨g0, g1, g2, g3, g4, g5, g6⟩ := aGive_t (a := a) (n := n) ne
  have q : ∀ z, z < 7 → pt a f z n ≤ a (60 + 7 * f + z) := fun z hz => pt_le hn
  have all : ∀ z, z < 7 → aGive a f n t (60 + 7 * t + z) ≤ 2000000 := fun z hz => by
    have b1 := s2 z hz
    have b2 := sf z hz
    have b3 := q z hz
    rcases (show z = 0 ∨ z = 1 ∨ z = 2 ∨ z = 3 ∨ z = 4 ∨ z = 5 ∨ z = 6 by omega) with rfl | rfl | rfl | rfl | rfl | rfl | rfl <;> omega
  have fg := m_forbids h2 (fun k hk => by rw [lo k hk]; exact hw.1 k hk) hj ht all
  rw [fb_cg lo hj, g1, g2, g3, g4] at fg
  exact fg
theorem blend_loop (hw : Wf B a) (hB : B ≤ 1100) (hf : f < 6) (ht : t < 6) (hj : j < 4) (ne : f ≠ t) {M : Nat} (hM : M ≤ a (60 + 7 * f + 1)) (M5 : M ≤ 5000) (x1 x2 x3 : Int32) : ∀ d n, d + n = M + 1 → 1 ≤ n → ∃ r, (∀ v, St 155 v p a → gX6_blendFor_44 v p j t f (nI n) (nI M) x1 x2 x3 = some (v, some (I r))) ∧ ∀ (u : MM) (y : Int32), St 151 u 14 a → St 151 u 16 a → ∃ u', gX7_blendFor_42_2 u (nI n) (-9) y (nI M) (nI f) (nI t) (nI j) = some (u', some (I r)) ∧ St 151 u' 14 a ∧ Fr 14 u u'
  | 0, n, e, h1 => ⟨-9, fun v hv => (qX6_blendFor_44 v p j t f _ _ _ _ _).trans (if_pos (ltT rfl rfl (by omega) (by omega))), fun u y hu h16 => ⟨u, (qX7_blendFor_42_2 u _ _ _ _ _ _ _).trans (if_pos (ltT rfl rfl (by omega) (by omega))), hu, Fr.rf 14 u⟩⟩
  | d + 1, n, e, h1 => by
    have nM : ¬ nI M < nI n := ltF rfl rfl (by omega) (by omega)
    have b6 : bl a j f t n ≤ 6 := fb_le _ _ _ _ _ _
    by_cases z : bl a j f t n = 0
    · refine ⟨nI n, fun v hv => (qX6_blendFor_44 v p j t f _ _ _ _ _).trans ((if_neg nM).trans ((bI_eq (s_blend hv hw hB hf ht hj (by omega))).trans (if_pos (eqT (n := 0) rfl rfl z)))), fun u y hu h16 => ?_⟩
      obtain ⟨u1, hz, h31, e1, e2, u2, e3, h2, f2⟩ := m_blend hu hw hB hf ht hj ne h1 (by omega) h16
      refine ⟨u2, (qX7_blendFor_42_2 u _ _ _ _ _ _ _).trans ((if_neg nM).trans ((if_pos rfl).trans ((bI_eq e1).trans ?_))), h2, f2⟩
      refine (if_neg (ltF (n := 0) rfl rfl (by omega) (by omega))).trans ((bI_eq e2).trans ((if_pos (eqT (n := 0) rfl rfl z)).trans ((bV_eq e3).trans ?_)))
      have n9 : ¬ nI n = -9 := fun z => absurd (show nI n < 0 by rw [z]; decide) (ltF (n := 0) rfl rfl (by omega) (by omega))
      refine (qX7_blendFor_42_2 u2 _ _ _ _ _ _ _).trans ?_
      by_cases k : nI M < nI n + 1
      · exact if_pos k
      · exact (if_neg k).trans (if_neg n9)
    · obtain ⟨r, y1, y2⟩ := blend_loop hw hB hf ht hj ne hM M5 x1 x2 x3 d (n + 1) (by omega) (by omega)
      refine ⟨r, fun v hv => (qX6_blendFor_44 v p j t f _ _ _ _ _).trans ((if_neg nM).trans ((bI_eq (s_blend hv hw hB hf ht hj (by omega))).trans ((if_neg (eqF (n := 0) rfl rfl z (by omega) (by omega))).trans ?_))), fun u y hu h16 => ?_⟩
      · exact (congrArg (fun z => gX6_blendFor_44 v p j t f z (nI M) x1 x2 x3) (i_add n 1)).trans (y1 v hv)
      · obtain ⟨u1, hz, h31, e1, e2, u2, e3, h2, f2⟩ := m_blend hu hw hB hf ht hj ne h1 (by omega) h16
        obtain ⟨u3, y3, y4, y5⟩ := y2 u2 (nI hz) h2 (h16.fr f2 (by decide))
        refine ⟨u3, (qX7_blendFor_42_2 u _ _ _ _ _ _ _).trans ((if_neg nM).trans ((if_pos rfl).trans ((bI_eq e1).trans ?_))), y4, f2.tr y5⟩
        refine (if_neg (ltF (n := 0) rfl rfl (by omega) (by omega))).trans ((bI_eq e2).trans ((if_neg (eqF (n := 0) rfl rfl z (by omega) (by omega))).trans ((bV_eq e3).trans ?_)))
        exact (congrArg (fun z => gX7_blendFor_42_2 u2 z (-9) (nI hz) (nI M) (nI f) (nI t) (nI j)) (i_add n 1)).trans y3
/-- the first round of the model's loop, from 1 on -/
theorem blend_first (hw : Wf B a) (hB : B ≤ 1100) (hf : f < 6) (ht : t < 6) (hj : j < 4) (ne : f ≠ t) {M : Nat} (hM : M ≤ a (60 + 7 * f + 1)) (M5 : M ≤ 5000) (x1 x2 x3 : Int32) : ∃ r, (∀ v, St 155 v p a → gX6_blendFor_44 v p j t f (nI 1) (nI M) x1 x2 x3 = some (v, some (I r))) ∧ ∀ (u : MM), St 151 u 14 a → St 151 u 16 a → ∃ u', gX7_blendFor_42 u (nI 1) (-9) (nI M) (nI f) (nI t) (nI j) = some (u', some (I r)) ∧ St 151 u' 14 a ∧ Fr 14 u u' := by
  by_cases m0 : M = 0
  · exact ⟨-9, fun v hv => (qX6_blendFor_44 v p j t f _ _ _ _ _).trans (if_pos (ltT rfl rfl (by omega) (by omega))), fun u hu h16 => ⟨u, (qX7_blendFor_42 u _ _ _ _ _ _).trans (if_pos (ltT rfl rfl (by omega) (by omega))), hu, Fr.rf 14 u⟩⟩
  · have nM : ¬ nI M < nI 1 := ltF rfl rfl (by omega) (by omega)
    have b6 : bl a j f t 1 ≤ 6 := fb_le _ _ _ _ _ _
    by_cases z : bl a j f t 1 = 0
    · refine ⟨nI 1, fun v hv => (qX6_blendFor_44 v p j t f _ _ _ _ _).trans ((if_neg nM).trans ((bI_eq (s_blend hv hw hB hf ht hj (by omega))).trans (if_pos (eqT (n := 0) rfl rfl z)))), fun u hu h16 => ?_⟩
      obtain ⟨u1, hz, h31, e1, e2, u2, e3, h2, f2⟩ := m_blend hu hw hB hf ht hj ne (Nat.le_refl 1) (by omega) h16
      refine ⟨u2, (qX7_blendFor_42 u _ _ _ _ _ _).trans ((if_neg nM).trans ((if_pos rfl).trans ((bI_eq e1).trans ?_))), h2, f2⟩
      refine (if_neg (ltF (n := 0) rfl rfl (by omega) (by omega))).trans ((bI_eq e2).trans ((if_pos (eqT (n := 0) rfl rfl z)).trans ((bV_eq e3).trans ?_)))
      refine (qX7_blendFor_42_2 u2 _ _ _ _ _ _ _).trans ?_
      by_cases k : nI M < nI 1 + 1
      · exact if_pos k
      · exact (if_neg k).trans (if_neg (by decide))
    · obtain ⟨r, y1, y2⟩ := blend_loop (p := p) hw hB hf ht hj ne hM M5 x1 x2 x3 (M - 1) (1 + 1) (by omega) (by omega)
      refine ⟨r, fun v hv => (qX6_blendFor_44 v p j t f _ _ _ _ _).trans ((if_neg nM).trans ((bI_eq (s_blend hv hw hB hf ht hj (by omega))).trans ((if_neg (eqF (n := 0) rfl rfl z (by omega) (by omega))).trans ?_))), fun u hu h16 => ?_⟩
      · exact (congrArg (fun z => gX6_blendFor_44 v p j t f z (nI M) x1 x2 x3) (i_add 1 1)).trans (y1 v hv)
      · obtain ⟨u1, hz, h31, e1, e2, u2, e3, h2, f2⟩ := m_blend hu hw hB hf ht hj ne (Nat.le_refl 1) (by omega) h16
        obtain ⟨u3, y3, y4, y5⟩ := y2 u2 (nI hz) h2 (h16.fr f2 (by decide))
        refine ⟨u3, (qX7_blendFor_42 u _ _ _ _ _ _).trans ((if_neg nM).trans ((if_pos rfl).trans ((bI_eq e1).trans ?_))), y4, f2.tr y5⟩
        refine (if_neg (ltF (n := 0) rfl rfl (by omega) (by omega))).trans ((bI_eq e2).trans ((if_neg (eqF (n := 0) rfl rfl z (by omega) (by omega))).trans ((bV_eq e3).trans ?_)))
        exact (congrArg (fun z => gX7_blendFor_42_2 u2 z (-9) (nI hz) (nI M) (nI f) (nI t) (nI j)) (i_add 1 1)).trans y3
theorem bl0 : bl a j f t 0 = fb a j (a (60 + 7 * t + 1)) (a (60 + 7 * t + 2)) (a (60 + 7 * t + 3)) (a (60 + 7 * t + 4)) := by
  unfold bl pt
  rw [Nat.mul_zero, Nat.mul_zero, Nat.mul_zero, Nat.zero_div]
  rfl
theorem blend_all (hw : Wf B a) (hB : B ≤ 1100) (hf : f < 6) (ht : t < 6) (hj : j < 4) (ne : f ≠ t) {M : Nat} (hM : M ≤ a (60 + 7 * f + 1)) (M5 : M ≤ 5000) (x1 x2 x3 : Int32) : ∃ r, (∀ v, St 155 v p a → gX6_blendFor_44 v p j t f 0 (nI M) x1 x2 x3 = some (v, some (I r))) ∧ ∀ (u : MM), St 151 u 14 a → St 151 u 16 a → ∃ u', bI (fX7_forbids u [MO, I (nI t), I (nI j)]) (fun w12 r13 => if r13 = 0 then gX7_blendFor_42 w12 1 0 (nI M) (nI f) (nI t) (nI j) else gX7_blendFor_42 w12 1 (-9) (nI M) (nI f) (nI t) (nI j)) = some (u', some (I r)) ∧ St 151 u' 14 a ∧ Fr 14 u u' := by
  have hT : ∀ f, f < 7 → a (60 + 7 * t + f) ≤ 2000000 := fun f hf => by
    have := hw.tk_le hB ht f hf
    omega
  have b6 : bl a j f t 0 ≤ 6 := fb_le _ _ _ _ _ _
  have fg : ∀ u, St 151 u 14 a → fX7_forbids u [MO, I (nI t), I (nI j)] = some (u, some (I (nI (bl a j f t 0)))) := fun u hu => by
    rw [bl0]
    exact m_forbids hu hw.1 hj ht hT
  have nM : ¬ nI M < 0 := ltF (n := 0) rfl rfl (by omega) (by omega)
  by_cases z : bl a j f t 0 = 0
  · refine ⟨0, fun v hv => (qX6_blendFor_44 v p j t f _ _ _ _ _).trans ((if_neg nM).trans ((bI_eq (s_blend (n := 0) hv hw hB hf ht hj (by omega))).trans (if_pos (eqT (n := 0) rfl rfl z)))), fun u hu h16 => ⟨u, (bI_eq (fg u hu)).trans ((if_pos (eqT (n := 0) rfl rfl z)).trans ((qX7_blendFor_42 u _ _ _ _ _ _).trans ?_)), hu, Fr.rf 14 u⟩⟩
    by_cases k : nI M < 1
    · exact if_pos k
    · exact (if_neg k).trans (if_neg (by decide))
  · obtain ⟨r, y1, y2⟩ := blend_first (p := p) hw hB hf ht hj ne hM M5 x1 x2 x3
    refine ⟨r, fun v hv => (qX6_blendFor_44 v p j t f _ _ _ _ _).trans ((if_neg nM).trans ((bI_eq (s_blend (n := 0) hv hw hB hf ht hj (by omega))).trans ((if_neg (eqF (n := 0) rfl rfl z (by omega) (by omega))).trans (y1 v hv)))), fun u hu h16 => ?_⟩
    obtain ⟨u', y3, y4, y5⟩ := y2 u hu h16
    exact ⟨u', (bI_eq (fg u hu)).trans ((if_neg (eqF (n := 0) rfl rfl z (by omega) (by omega))).trans y3), y4, y5⟩
theorem k_blendFor (h : Rel B v p c a) (hB : B ≤ 1100) (x1 x2 x3 : Int32) : Same9 B v (fX6_blendFor v [SH, I x1, I x2, I x3]) (fun w => fX7_blendFor w [MO, I x1, I x2, I x3]) := by
  have hR := h
  obtain ⟨g1, g2, g3, g4, g5, g6, hv, hu, hw, -⟩ := h
  have st : gX6_blendFor_2 v p x1 x2 x3 = some (v, some (I (-1))) → fX7_blendFor v [MO, I x1, I x2, I x3] = some (v, some (I (-1))) → Same9 B v (fX6_blendFor v [SH, I x1, I x2, I x3]) (fun w => fX7_blendFor w [MO, I x1, I x2, I x3]) := fun e e' => (Same.of hR (-1) ((qX6_blendFor v _ _ _).trans ((bN_eq (s_books g3 g1)).trans ((uX6_blendFor_2 v p _ _ _).trans e))) e').to9
  by_cases c1 : mIn x1 (a 59)
  · by_cases c2 : mIn x2 (a 59)
    · by_cases ne : x1 = x2
      · exact st ((qX6_blendFor_2 v p _ _ _).trans ((bI_eq (s_tT hv hw c1)).trans ((if_neg (by decide)).trans ((bI_eq (s_tT hv hw c2)).trans ((if_neg (by decide)).trans (if_pos ne)))))) ((qX7_blendFor v _ _ _).trans ((bI_eq (m_2F hu hw (fun z => z.2.2 ne))).trans (if_pos rfl)))
      · by_cases c3 : 0 ≤ x3 ∧ x3 ≤ 3
        · obtain ⟨f, hf, hf31, rfl⟩ := mIn_ex c1
          obtain ⟨t, ht, ht31, rfl⟩ := mIn_ex c2
          obtain ⟨j, hj, rfl⟩ := inM (M := 3) (by omega) c3.1 c3.2
          have h6 : a 59 ≤ 6 := hw.2.2.2.1.1
          have hf6 : f < 6 := by omega
          have ht6 : t < 6 := by omega
          have hj4 : j < 4 := by omega
          have qf := nI_clamp hf31
          have qt := nI_clamp ht31
          have qj : (nI j).toNatClampNeg = j := nI_clamp (by omega)
          obtain ⟨f0, f1, -⟩ := (hw.2.2.2.1.2 f hf6).1
          obtain ⟨t0, t1, -⟩ := (hw.2.2.2.1.2 t ht6).1
          have kf := hv (60 + 7 * f + 1) (by omega)
          obtain ⟨L, hL⟩ : ∃ L, L = a (60 + 7 * t + 0) - a (60 + 7 * t + 1) - a (60 + 7 * t + 5) := ⟨_, rfl⟩
          have sl := s_left hv (i := p) (show 60 + 7 * t + 6 < 155 by omega) t1
          rw [← hL] at sl
          obtain ⟨r, y1, y2⟩ := blend_all (p := p) hw hB hf6 ht6 hj4 (ne_nI ne) (M := min (a (60 + 7 * f + 1)) L) (Nat.min_le_left _ _) (by omega) (nI f) (nI t) (nI j)
          obtain ⟨ue, ee, he, fe⟩ := m_keeps v
          have hue := hu.fr fe (by decide)
          obtain ⟨u2, y4, y5, y6⟩ := y2 ue hue (fun k hk => (he k hk).trans (hu k hk))
          refine Same9.back hR r ((qX6_blendFor v _ _ _).trans ((bN_eq (s_books g3 g1)).trans ((uX6_blendFor_2 v p _ _ _).trans ((qX6_blendFor_2 v p _ _ _).trans ?_)))) (Fr.rf 8 v) ((qX7_blendFor v _ _ _).trans ?_) y5 (fun q a1 a2 => (y6.1 q a1).trans (fe.1 q a2)) (y6.2.trans fe.2)
          · refine (bI_eq (s_tT hv hw c1)).trans ((if_neg (by decide)).trans ((bI_eq (s_tT hv hw c2)).trans ((if_neg (by decide)).trans ((if_neg ne).trans ((bI_eq (s_wT c3)).trans ((if_neg (by decide)).trans ?_))))))
            simp only [qf, qt, qj, kf]
            refine (if_pos (mIn_nI hf6 (by omega))).trans ((if_pos (mIn_nI ht6 (by omega))).trans ((if_pos (mIn_nI hj4 (by omega))).trans ?_))
            exact (bI_eq sl).trans ((bI_eq (s_min (by omega) (by omega))).trans (y1 v hv))
          · refine (bI_eq (m_2T hu hw c1 c2 ne)).trans ((if_neg (by decide)).trans ((bI_eq (m_inT c3)).trans ((if_neg (by decide)).trans ?_)))
            have ml := m_left hu t (by omega) t1
            rw [← hL] at ml
            refine (bI_eq (m_of hu f 1 (by omega))).trans ((bI_eq ml).trans ?_)
            by_cases e : a (60 + 7 * f + 1) < L
            · rw [Nat.min_eq_left (Nat.le_of_lt e)] at y4
              exact (if_pos (ltT rfl rfl e (by omega))).trans ((bI_eq (m_of hu f 1 (by omega))).trans ((bV_eq ee).trans y4))
            · rw [Nat.min_eq_right (Nat.not_lt.mp e)] at y4
              exact (if_neg (ltF rfl rfl (Nat.not_lt.mp e) (by omega))).trans ((bI_eq ml).trans ((bV_eq ee).trans y4))
        · exact st ((qX6_blendFor_2 v p _ _ _).trans ((bI_eq (s_tT hv hw c1)).trans ((if_neg (by decide)).trans ((bI_eq (s_tT hv hw c2)).trans ((if_neg (by decide)).trans ((if_neg ne).trans ((bI_eq (s_wF c3)).trans (if_pos rfl)))))))) ((qX7_blendFor v _ _ _).trans ((bI_eq (m_2T hu hw c1 c2 ne)).trans ((if_neg (by decide)).trans ((bI_eq (m_inF c3)).trans (if_pos rfl)))))
    · exact st ((qX6_blendFor_2 v p _ _ _).trans ((bI_eq (s_tT hv hw c1)).trans ((if_neg (by decide)).trans ((bI_eq (s_tF hv hw c2)).trans (if_pos rfl))))) ((qX7_blendFor v _ _ _).trans ((bI_eq (m_2F hu hw (fun z => c2 z.2.1))).trans (if_pos rfl)))
  · exact st ((qX6_blendFor_2 v p _ _ _).trans ((bI_eq (s_tF hv hw c1)).trans (if_pos rfl))) ((qX7_blendFor v _ _ _).trans ((bI_eq (m_2F hu hw (fun z => c1 z.1))).trans (if_pos rfl)))
end
