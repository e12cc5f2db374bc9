-- THE MODEL'S goes
section
variable {n L k s e : Nat} {T : Nat → Nat} {v v' u : MM}
def Gs (u : MM) : MM := mUp (mUp ((mUp u (13, 10) (u.1 13 9)).1, (0 : Int64)) (13, 12) 0) (13, 13) 0
theorem Gs.gf (u : MM) : GF u (Gs u) := ((((GF.up u 10 _ (by omega)).tr (GF.wd _ _)).tr (GF.up _ 12 0 (by omega)))).tr (GF.up _ 13 0 (by omega))
theorem Gs.r9 (u : MM) : (Gs u).1 13 9 = u.1 13 9 := (mUp_o _ _ _ _ _ (by decide)).trans ((mUp_o _ _ _ _ _ (by decide)).trans (show (mUp u (13, 10) (u.1 13 9)).1 13 9 = u.1 13 9 from mUp_o u 13 10 9 _ (by decide)))
theorem Gs.r10 (u : MM) : (Gs u).1 13 10 = u.1 13 9 := (mUp_o _ _ _ _ _ (by decide)).trans ((mUp_o _ _ _ _ _ (by decide)).trans (show (mUp u (13, 10) (u.1 13 9)).1 13 10 = u.1 13 9 from mUp_s u 13 10 _))
theorem Gs.r12 (u : MM) : (Gs u).1 13 12 = 0 := (mUp_o _ _ _ _ _ (by decide)).trans (mUp_s _ _ _ _)
theorem m_end (h : MT u T L) (hp : u.1 13 9 = nI L) : gX7_goes_0 u = some (Gs u, some (I 0)) := by
  obtain ⟨h1, h2, h3⟩ := id h
  refine (qX7_goes_0 u).trans ((if_neg (ltF hp h2 (Nat.le_refl _) (by omega))).trans (if_pos ?_))
  exact (Gs.r9 u).trans (hp.trans ((h.gf (Gs.gf u)).2.1).symm)
theorem m_head (h : MT u T L) (hp : u.1 13 9 = nI s) (hs : s < L) (n32 : ¬ Rg 32 32 (T s)) {r7 r9 : Int32} (l7 : ∀ w : MM, fX7_in w [I (u.1 17 s), I 97, I 122] = some (w, some (I r7))) (l9 : ∀ w : MM, fX7_in w [I (u.1 17 s), I 48, I 57] = some (w, some (I r9))) : gX7_goes_0 u = gX7_goes_63 (mUp (Gs u) (13, 9) (nI (s + 1))) r9 r7 := by
  obtain ⟨h1, h2, h3⟩ := id h
  have q : (nI s).toNatClampNeg = s := nI_clamp (by omega)
  have g := Gs.gf u
  have f9 : (Gs u).1 13 9 = nI s := (Gs.r9 u).trans hp
  have f6 : (Gs u).1 13 6 = nI L := (h.gf g).2.1
  have f17 : (Gs u).1 17 s = u.1 17 s := congrFun (g.1 17 (by decide)) s
  have x32 : ¬ u.1 17 s = 32 := fun z => (h3 s hs).2.ff (lo := 32) (hi := 32) (by omega) (by omega) n32 (by rw [z]; decide)
  have tail : gX7_goes_0 u = (if (Gs u).1 13 9 = (Gs u).1 13 6 then some (Gs u, some (I 0)) else if mIn ((Gs u).1 13 9) 100 then bI (fX7_in (Gs u) [I ((Gs u).1 17 ((Gs u).1 13 9).toNatClampNeg), I 97, I 122]) (fun w6 r7 => if mIn (w6.1 13 9) 100 then bI (fX7_in w6 [I (w6.1 17 (w6.1 13 9).toNatClampNeg), I 48, I 57]) (fun w8 r9 => gX7_goes_63 (mUp w8 (13, 9) (w8.1 13 9 + 1)) r9 r7) else none) else none) := by
    have m0 : mIn (u.1 13 9) 100 := by
      rw [hp]
      exact mIn_nI (by omega) (by omega)
    have x0 : ¬ u.1 17 (u.1 13 9).toNatClampNeg = 32 := by
      rw [hp, q]
      exact x32
    exact (qX7_goes_0 u).trans ((if_pos (ltT hp h2 hs (by omega))).trans ((if_pos m0).trans (if_neg x0)))
  have m1 : mIn ((Gs u).1 13 9) 100 := by
    rw [f9]
    exact mIn_nI (by omega) (by omega)
  have a7 : fX7_in (Gs u) [I ((Gs u).1 17 ((Gs u).1 13 9).toNatClampNeg), I 97, I 122] = some (Gs u, some (I r7)) := by
    rw [f9, q, f17]
    exact l7 _
  have a9 : fX7_in (Gs u) [I ((Gs u).1 17 ((Gs u).1 13 9).toNatClampNeg), I 48, I 57] = some (Gs u, some (I r9)) := by
    rw [f9, q, f17]
    exact l9 _
  refine tail.trans ((if_neg (eqF f9 f6 (by omega) (by omega) (by omega))).trans ((if_pos m1).trans ((bI_eq a7).trans ((if_pos m1).trans ((bI_eq a9).trans ?_)))))
  rw [f9, show nI s + (1 : Int32) = nI (s + 1) from i_add s 1]
theorem m_goes0 (u : MM) : fX7_goes u [MO] = gX7_goes_0 u := (qX7_goes u).trans (qX7_goes_0 u).symm
theorem m_goes_end (h : MT u T L) (hp : u.1 13 9 = nI k) (he : En 32 32 T L k L) : ∃ u', fX7_goes u [MO] = some (u', some (I 0)) ∧ u'.1 13 10 = nI L ∧ GF u u' := by
  obtain ⟨w, e1, p1, g1⟩ := m_sp (L - k) k u (by have := he.1; omega) h hp he
  exact ⟨Gs w, (m_goes0 u).trans (e1.trans (m_end (h.gf g1.gf) p1)), (Gs.r10 w).trans p1, g1.gf.tr (Gs.gf w)⟩
theorem m_start (h : MT u T L) (hp : u.1 13 9 = nI k) (hk : En 32 32 T L k s) (hs : s < L) {r7 r9 : Int32} (l7 : ∀ w x : MM, x.1 17 = u.1 17 → fX7_in w [I (x.1 17 s), I 97, I 122] = some (w, some (I r7))) (l9 : ∀ w x : MM, x.1 17 = u.1 17 → fX7_in w [I (x.1 17 s), I 48, I 57] = some (w, some (I r9))) : ∃ w, fX7_goes u [MO] = gX7_goes_63 w r9 r7 ∧ w.1 13 9 = nI (s + 1) ∧ w.1 13 10 = nI s ∧ w.1 13 12 = 0 ∧ w.2 = 0 ∧ GF u w := by
  obtain ⟨w, e1, p1, g1⟩ := m_sp (s - k) k u (by have := hk.1; omega) h hp hk
  have w17 := g1.1 17 (by decide)
  refine ⟨mUp (Gs w) (13, 9) (nI (s + 1)), (m_goes0 u).trans (e1.trans (m_head (h.gf g1.gf) p1 hs (hk.2.2.2 hs) (fun z => l7 z w w17) (fun z => l9 z w w17))), mUp_s _ _ _ _, (mUp_o _ _ _ _ _ (by decide)).trans ((Gs.r10 w).trans p1), (mUp_o _ _ _ _ _ (by decide)).trans (Gs.r12 w), rfl, g1.gf.tr ((Gs.gf w).tr (GF.up _ 9 _ (by omega)))⟩
theorem m_goes_w (h : MT u T L) (hp : u.1 13 9 = nI k) (hk : En 32 32 T L k s) (hs : s < L) (r : Rg 97 122 (T s)) (he : En 97 122 T L s e) : ∃ u', fX7_goes u [MO] = some (u', some (I 1)) ∧ Tk u' s e 0 ∧ u'.2 = (if e - s < 8 then lN (wcode T s (e - s)) else 0) ∧ GF u u' := by
  obtain ⟨h1, h2, h3⟩ := id h
  have se : s < e := Nat.lt_of_not_le (fun z => he.2.2.2 (by omega) (by rw [show e = s by have := he.1; omega]; exact r))
  have sb := (h3 s hs).2
  have nd : ¬ Rg 48 57 (T s) := fun z => by
    obtain ⟨z1, z2⟩ := z
    obtain ⟨r1, r2⟩ := r
    omega
  obtain ⟨w, e1, p9, p10, -, pw, g1⟩ := m_start h hp hk hs (r7 := 1) (r9 := 0) (fun w x hx => by rw [hx]; exact m_inT (sb.tt (lo := 97) (hi := 122) (by omega) r)) (fun w x hx => by rw [hx]; exact m_inF (sb.ff (lo := 48) (hi := 57) (by omega) (by omega) nd))
  have hw := h.gf g1
  obtain ⟨w2, e2, q9, g2⟩ := m_let (e - (s + 1)) (s + 1) w (by omega) hw p9 (he.next se)
  have q10 : w2.1 13 10 = nI s := (g2.2.1 10 (by decide)).trans p10
  rw [q10] at e2
  have qw : w2.2 = 0 := g2.2.2.trans pw
  by_cases c8 : e - s < 8
  · rw [if_pos c8]
    obtain ⟨w3, e3, t3, c3, g3⟩ := m_code he.2.1 c8 he.2.2.1 (e - s) 0 w2 (by omega) (hw.gf g2.gf) q9 q10 qw
    exact ⟨w3, e1.trans (e2.trans e3), t3, c3, g1.tr (g2.gf.tr g3)⟩
  · rw [if_neg c8]
    obtain ⟨w3, e3, t3, c3, g3⟩ := m_codel w2 q9 q10 (Nat.not_lt.mp c8) (by have := he.2.1; omega)
    exact ⟨w3, e1.trans (e2.trans e3), t3, c3.trans qw, g1.tr (g2.gf.tr g3)⟩
theorem m_goes_d (h : MT u T L) (hp : u.1 13 9 = nI k) (hk : En 32 32 T L k s) (hs : s < L) (r : Rg 48 57 (T s)) (he : En 48 57 T L s e) : ∃ u', fX7_goes u [MO] = some (u', some (I 1)) ∧ Tk u' s e (dfl T s e) ∧ u'.2 = 0 ∧ (e - s < 8 → u'.1 13 12 = nI (numb T s (e - s))) ∧ GF u u' := by
  obtain ⟨h1, h2, h3⟩ := id h
  have se : s < e := Nat.lt_of_not_le (fun z => he.2.2.2 (by omega) (by rw [show e = s by have := he.1; omega]; exact r))
  have sb := (h3 s hs).2
  have nd : ¬ Rg 97 122 (T s) := fun z => by
    obtain ⟨z1, z2⟩ := z
    obtain ⟨r1, r2⟩ := r
    omega
  obtain ⟨w, e1, p9, p10, p12, pw, g1⟩ := m_start h hp hk hs (r7 := 0) (r9 := 1) (fun w x hx => by rw [hx]; exact m_inF (sb.ff (lo := 97) (hi := 122) (by omega) (by omega) nd)) (fun w x hx => by rw [hx]; exact m_inT (sb.tt (lo := 48) (hi := 57) (by omega) r))
  have hw := h.gf g1
  obtain ⟨w2, e2, q9, g2⟩ := m_dig (e - (s + 1)) (s + 1) w (by omega) hw p9 (he.next se)
  have q10 : w2.1 13 10 = nI s := (g2.2.1 10 (by decide)).trans p10
  rw [q10] at e2
  have qw : w2.2 = 0 := g2.2.2.trans pw
  by_cases c8 : e - s < 8
  · obtain ⟨w3, e3, t3, c3, n3, g3⟩ := m_numb se he.2.1 c8 he.2.2.1 (e - s) 0 w2 (by omega) (hw.gf g2.gf) q9 q10 qw ((g2.2.1 12 (by decide)).trans p12)
    exact ⟨w3, e1.trans (e2.trans e3), t3, c3, fun _ => n3, g1.tr (g2.gf.tr g3)⟩
  · obtain ⟨w3, e3, t3, c3, g3⟩ := m_numl w2 (hw.gf g2.gf) se he.2.1 q9 q10 (Nat.not_lt.mp c8) r
    exact ⟨w3, e1.trans (e2.trans e3), t3, c3.trans qw, fun z => absurd z c8, g1.tr (g2.gf.tr g3)⟩
theorem m_goes_o (h : MT u T L) (hp : u.1 13 9 = nI k) (hk : En 32 32 T L k s) (hs : s < L) (r1 : ¬ Rg 97 122 (T s)) (r2 : ¬ Rg 48 57 (T s)) : ∃ u', fX7_goes u [MO] = some (u', some (I 1)) ∧ Tk u' s (s + 1) 0 ∧ u'.2 = 0 ∧ GF u u' := by
  obtain ⟨h1, h2, h3⟩ := id h
  have sb := (h3 s hs).2
  obtain ⟨w, e1, p9, p10, p12, pw, g1⟩ := m_start h hp hk hs (r7 := 0) (r9 := 0) (fun w x hx => by rw [hx]; exact m_inF (sb.ff (lo := 97) (hi := 122) (by omega) (by omega) r1)) (fun w x hx => by rw [hx]; exact m_inF (sb.ff (lo := 48) (hi := 57) (by omega) (by omega) r2))
  obtain ⟨w3, e3, t3, c3, g3⟩ := m_one w (by omega) p9 p10
  have e2 := m_oth w
  rw [p10] at e2
  exact ⟨w3, e1.trans (e2.trans e3), t3, c3, g1.tr g3⟩
end
