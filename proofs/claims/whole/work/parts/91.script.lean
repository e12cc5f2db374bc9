-- RUNNING THE SCRIPT
section
variable {B i k c n m p L : Nat} {a b T : Nat → Nat} {v w u : MM}
theorem Two.split {o : MR} {M : MM → MR} {Q : MM → Prop} (hv : St 155 w i b) (ex : ∃ u, St 151 u 14 b ∧ Q u) (two : ∀ u, St 151 u 14 b → Q u → Two B o (M u) w u i b) : ∃ r b' w', o = some (w', some (I r)) ∧ St 155 w' i b' ∧ Fr i w w' ∧ Wf (B + 1) b' ∧ (r < 0 → b' = b) ∧ ∀ u, St 151 u 14 b → Q u → ∃ u', M u = some (u', some (I r)) ∧ St 151 u' 14 b' ∧ FrM u u' ∧ ((r = -2 ∧ w'.1 i 155 = u'.1 13 4) ∨ (r ≠ -2 ∧ u'.1 13 4 = u.1 13 4)) := by
  obtain ⟨u0, s0, q0⟩ := ex
  obtain ⟨r, b', w', x0, eC, -, hw', -, fC, -, hwf, hneg, -⟩ := two u0 s0 q0
  refine ⟨r, b', w', eC, hw', fC, hwf, hneg, fun u su qu => ?_⟩
  obtain ⟨r2, b2, w2, u', eC2, eM, hw2, hu', -, fM, -, -, hr2⟩ := two u su qu
  have eq := Option.some.inj (eC.symm.trans eC2)
  have q1 : w' = w2 := congrArg Prod.fst eq
  have q2 : r = r2 := Sum.inl.inj (Option.some.inj (congrArg Prod.snd eq))
  subst q1
  subst q2
  exact ⟨u', eM, fun k hk => by rw [hu' k hk, ← hw2 k (by omega), hw' k (by omega)], fM, hr2⟩
theorem loop_15 (y1 y2 : Int32) : gX6_runScript_15 v i y1 = gX6_runScript_15_2 v i y1 y2 := (qX6_runScript_15 v i y1).trans (qX6_runScript_15_2 v i y1 y2).symm
theorem row_ex (w : MM) (b : Nat → Nat) : ∃ u : MM, St 151 u 14 b ∧ Rw w u := ⟨((fun r o => if r = 14 then nI (b o) else w.1 11 o), w.2), fun k _ => (if_pos rfl : (if 14 = 14 then nI (b k) else w.1 11 k) = nI (b k)), fun q _ => (if_neg (by decide) : (if 18 = 14 then nI (b q) else w.1 11 q) = w.1 11 q).symm⟩
noncomputable def cTail (w : MM) (i : Nat) : MR := bI (fX3_clear w [SC]) (fun w5 r6 => bI (fX6_finish w5 [SH, nm 2 i 0, I (w5.1 9 3)]) (fun w7 r8 => some (w7, some (I r8))))
noncomputable def mDone (u : MM) : MR := bI (fX7_done (mUp u (13, 6) 0) [MO, I ((mUp u (13, 6) 0).1 13 8)]) (fun w5 r6 => some (w5, some (I r6)))
theorem script_loop (i8 : i < 8) (n25 : n ≤ 25) : ∀ d k B (w : MM) (b : Nat → Nat) (y : Int32), d + k = n → w.1 9 3 = nI n → St 155 w i b → Wf B b → B + d ≤ 1100 →
    (∃ r j w', r < 0 ∧ gX6_runScript_15_2 w i (nI k) y = bI (fX6_finish w' [SH, nm 2 i 0, I r]) (fun w3 r4 => some (w3, some (I ((-1000) - nI j)))) ∧ Fr i w w' ∧ ∀ u, St 151 u 14 b → u.1 13 8 = nI n → Rw w u → ∃ u', gX7_runScript_12 u (nI k) = bV (fX7_restores u' [MO]) (fun w3 => some (w3, some (I ((-1000) - nI j)))) ∧ FrM u u' ∧ ((r = -2 ∧ w'.1 i 155 = u'.1 13 4) ∨ (r ≠ -2 ∧ u'.1 13 4 = u.1 13 4))) ∨
    (∃ w' b', gX6_runScript_15_2 w i (nI k) y = cTail w' i ∧ Fr i w w' ∧ St 155 w' i b' ∧ Wf (B + d) b' ∧ ∀ u, St 151 u 14 b → u.1 13 8 = nI n → Rw w u → ∃ u', gX7_runScript_12 u (nI k) = mDone u' ∧ FrM u u' ∧ St 151 u' 14 b' ∧ u'.1 13 4 = u.1 13 4)
  | 0, k, B, w, b, y, ek, h3, hw, hwf, hB => by
    refine Or.inr ⟨w, b, (qX6_runScript_15_2 w i _ _).trans (if_neg (ltF rfl h3 (by omega) (by omega))), Fr.rf i w, hw, hwf, fun u hu h8 hr => ⟨u, (qX7_runScript_12 u _).trans (if_neg (ltF rfl h8 (by omega) (by omega))), FrM.rf u, hu, rfl⟩⟩
  | d + 1, k, B, w, b, y, ek, h3, hw, hwf, hB => by
    obtain ⟨r, b1, w1, e1, s1, f1, wf1, -, M⟩ := Two.split hw (row_ex w b) (fun u su qu => r_row hw su hwf (show B ≤ 1100 by omega) qu (show k ≤ 24 by omega))
    have go := (qX6_runScript_15_2 w i (nI k) y).trans ((if_pos (ltT rfl h3 (by omega) (by omega))).trans (bI_eq e1))
    by_cases neg : r < 0
    · refine Or.inl ⟨r, k, w1, neg, go.trans (if_pos neg), f1, fun u hu h8 hr => ?_⟩
      obtain ⟨u', e2, s2, f2, y2⟩ := M u hu hr
      exact ⟨u', (qX7_runScript_12 u _).trans ((if_pos (ltT rfl h8 (by omega) (by omega))).trans ((bI_eq e2).trans (if_pos neg))), f2, y2⟩
    · have w13 : w1.1 9 3 = nI n := by
        rw [f1.1 9 (by omega)]
        exact h3
      have go2 := (go.trans (if_neg neg)).trans (congrArg (fun z => gX6_runScript_15_2 w1 i z r) (i_add k 1))
      have mgo : ∀ u, St 151 u 14 b → u.1 13 8 = nI n → Rw w u → ∃ u', gX7_runScript_12 u (nI k) = gX7_runScript_12 u' (nI (k + 1)) ∧ St 151 u' 14 b1 ∧ u'.1 13 8 = nI n ∧ Rw w1 u' ∧ FrM u u' ∧ u'.1 13 4 = u.1 13 4 := fun u hu h8 hr => by
        obtain ⟨u', e2, s2, f2, y2⟩ := M u hu hr
        refine ⟨u', ((qX7_runScript_12 u _).trans ((if_pos (ltT rfl h8 (by omega) (by omega))).trans ((bI_eq e2).trans (if_neg neg)))).trans (congrArg (fun z => gX7_runScript_12 u' z) (i_add k 1)), s2, (f2.2.1 8 (by decide)).trans h8, fun q hq => ?_, f2, ?_⟩
        · rw [f1.1 11 (by omega), f2.1 18 (by decide) (by decide)]
          exact hr q hq
        · rcases y2 with ⟨z, -⟩ | ⟨-, z⟩
          · rw [z] at neg
            exact absurd (by decide) neg
          · exact z
      rcases script_loop i8 n25 d (k + 1) (B + 1) w1 b1 r (by omega) w13 s1 wf1 (by omega) with ⟨r2, j, w2, neg2, x1, x2, X⟩ | ⟨w2, b2, x1, x2, x3, x4, X⟩
      · refine Or.inl ⟨r2, j, w2, neg2, go2.trans x1, f1.tr x2, fun u hu h8 hr => ?_⟩
        obtain ⟨u1, z1, z2, z3, z4, z5, z6⟩ := mgo u hu h8 hr
        obtain ⟨u2, t1, t2, t3⟩ := X u1 z2 z3 z4
        exact ⟨u2, z1.trans t1, z5.tr t2, t3.imp id (fun g => ⟨g.1, g.2.trans z6⟩)⟩
      · refine Or.inr ⟨w2, b2, go2.trans x1, f1.tr x2, x3, by rw [show B + (d + 1) = B + 1 + d by omega]; exact x4, fun u hu h8 hr => ?_⟩
        obtain ⟨u1, z1, z2, z3, z4, z5, z6⟩ := mgo u hu h8 hr
        obtain ⟨u2, t1, t2, t3, t4⟩ := X u1 z2 z3 z4
        exact ⟨u2, z1.trans t1, z5.tr t2, t3, t4.trans z6⟩
theorem Rel.upB (h : Rel B v p c a) : ∀ k, Rel (B + k) v p c a
  | 0 => h
  | k + 1 => (h.upB k).keep rfl rfl rfl h.2.2.2.2.2.1 h.2.2.2.2.2.2.2.1 (fun _ _ _ => rfl) rfl
theorem k_script (h : Rel B v p c a) (ht : Tx v T L) (hn : B + L ≤ n) (h5 : n ≤ 1000) : Cl n (fX6_runScript v [SH]) (fun w => fX7_runScript w [MO]) := by
  obtain ⟨t1, t2, t3, t4, t5⟩ := id ht
  have ct : CT v T L := ⟨t1, t2, fun k hk => ⟨(t4 k hk).1, (t4 k hk).2.1⟩⟩
  have mt : ∀ u : MM, u.1 13 6 = v.1 13 6 → u.1 17 = v.1 17 → MT u T L := fun u e6 e17 => ⟨t1, e6.trans t3, fun k hk => ⟨(t4 k hk).1, by rw [e17]; exact (t4 k hk).2.2⟩⟩
  obtain ⟨r, v1, z, m, eC, sf, res, M⟩ := read_all ct
  have sr : ∀ q, q ≠ 9 → q ≠ 11 → v1.1 q = v.1 q := sf.1
  rcases res with ⟨rfl, pz⟩ | ⟨rfl, pm, m4⟩
  · obtain ⟨u', eM, y10, -, rf, hr⟩ := M v1 (mt v1 (congrFun (sr 13 (by decide) (by decide)) 6) (sr 17 (by decide) (by decide))) (fun q hq => by rw [sr 18 (by decide) (by decide)]; exact t5 q hq)
    have ur : ∀ q, q ≠ 13 → q ≠ 18 → q ≠ 9 → q ≠ 11 → u'.1 q = v.1 q := fun q a1 a2 a3 a4 => (rf.1 q a1 a2).trans (sr q a3 a4)
    have u13 : ∀ o, o ≠ 8 → o ≠ 9 → o ≠ 10 → o ≠ 12 → o ≠ 13 → u'.1 13 o = v.1 13 o := fun o a1 a2 a3 a4 a5 => (rf.2 o a1 a2 a3 a4 a5).trans (congrFun (sr 13 (by decide) (by decide)) o)
    refine ⟨(-10) - nI z, v1, u', (qX6_runScript v).trans ((bI_eq eC).trans ((if_pos rfl).trans (ans (by rw [pz])))), (qX7_runScript v1).trans ((bI_eq eM).trans ((if_pos rfl).trans (ans (by rw [y10 rfl])))), B, p, c, a, T, L, h.sub (fun q hq => ur q (by omega) (by omega) (by omega) (by omega)) (ur 12 (by decide) (by decide) (by decide) (by decide)) (u13 2 (by decide) (by decide) (by decide) (by decide) (by decide)) (u13 4 (by decide) (by decide) (by decide) (by decide) (by decide)) (ur 14 (by decide) (by decide) (by decide) (by decide)) (ur 15 (by decide) (by decide) (by decide) (by decide)), ⟨t1, ?_, ?_, fun k hk => ?_, fun q hq => ?_⟩, by omega⟩
    · rw [rf.1 9 (by decide) (by decide), sf.2.1 1 (by decide) (by decide)]
      exact t2
    · rw [u13 6 (by decide) (by decide) (by decide) (by decide) (by decide)]
      exact t3
    · rw [ur 10 (by decide) (by decide) (by decide) (by decide), ur 17 (by decide) (by decide) (by decide) (by decide)]
      exact t4 k hk
    · rw [rf.1 11 (by decide) (by decide)]
      exact hr q hq
  · have hR : Rel B v1 p c a := h.sub (fun q hq => sr q (by omega) (by omega)) (sr 12 (by decide) (by decide)) (by rw [sr 13 (by decide) (by decide)]) (by rw [sr 13 (by decide) (by decide)]) (sr 14 (by decide) (by decide)) (sr 15 (by decide) (by decide))
    obtain ⟨g1, g2, g3, g4, g5, g6, g7, g8, g9, g10⟩ := id hR
    obtain ⟨w, ed, dw, fw⟩ := s_draft g3 g1
    obtain ⟨i, hi⟩ : ∃ i, i = (p + 1) % 8 := ⟨_, rfl⟩
    rw [← hi] at ed dw fw
    have i8 : i < 8 := by omega
    have w155 : St 155 w i a := fun k hk => (dw k hk).trans (g7 k hk)
    have w3 : w.1 9 3 = nI m := by
      rw [fw.1 9 (by omega)]
      exact pm
    have start : fX6_runScript v [SH] = gX6_runScript_15_2 w i (nI 0) 0 := (qX6_runScript v).trans ((bI_eq eC).trans ((if_neg (by decide)).trans ((bN_eq ed).trans ((uX6_runScript_12 w i).trans ((qX6_runScript_12 w i).trans (loop_15 0 0))))))
    -- the model up to its loop, behind a state of the class
    have mod : ∀ v2 : MM, (∀ q, q ≠ i → q ≠ 9 → q ≠ 11 → q ≠ 12 → v2.1 q = v.1 q) → ∃ u1 u2 : MM, fX7_runScript v2 [MO] = gX7_runScript_12 u2 (nI 0) ∧ St 151 u2 14 a ∧ u2.1 13 8 = nI m ∧ Rw w u2 ∧ RF v2 u1 ∧ Fr 16 u1 u2 ∧ (∀ q, q < 151 → u2.1 16 q = v.1 14 q) := by
      intro v2 hv2
      obtain ⟨u1, eM, -, y8, rf, hr⟩ := M v2 (mt v2 (congrFun (hv2 13 (by omega) (by decide) (by decide) (by decide)) 6) (hv2 17 (by omega) (by decide) (by decide) (by decide))) (fun q hq => by rw [hv2 18 (by omega) (by decide) (by decide) (by decide)]; exact t5 q hq)
      obtain ⟨u2, ek, kq, fk⟩ := m_keeps u1
      have u14 : u1.1 14 = v.1 14 := (rf.1 14 (by decide) (by decide)).trans (hv2 14 (by omega) (by decide) (by decide) (by decide))
      refine ⟨u1, u2, (qX7_runScript v2).trans ((bI_eq eM).trans ((if_neg (by decide)).trans (bV_eq ek))), g8.row ((fk.1 14 (by decide)).trans (u14.trans (sr 14 (by decide) (by decide)).symm)), (congrFun (fk.1 13 (by decide)) 8).trans (y8 rfl), fun q hq => ?_, rf, fk, fun q hq => (kq q hq).trans (congrFun u14 q)⟩
      rw [fw.1 11 (by omega), fk.1 18 (by decide)]
      exact hr q hq
    rcases script_loop i8 (show m ≤ 25 by omega) m 0 B w a 0 rfl w3 w155 g9 (by omega) with ⟨r, j, w', neg, x1, f1, X⟩ | ⟨w', b', x1, f1, s1, wf1, X⟩
    · have fo : ∀ q, q ≠ i → q ≠ 9 → q ≠ 11 → w'.1 q = v.1 q := fun q a1 a2 a3 => (f1.1 q a1).trans ((fw.1 q a1).trans (sr q a2 a3))
      have v14 : ∀ k, k < 151 → v.1 14 k = nI (a k) := fun k hk => by
        rw [← sr 14 (by decide) (by decide)]
        exact g8 k hk
      -- both ways of dropping the draft
      have fin : ∃ v2, fX6_finish w' [SH, nm 2 i 0, I r] = some (v2, some (I r)) ∧ (∀ q, q ≠ 12 → v2.1 q = w'.1 q) ∧ (∀ o, o ≠ 5 → v2.1 12 o = w'.1 12 o) ∧ ((r = -2 ∧ v2.1 12 5 = w'.1 i 155) ∨ (r ≠ -2 ∧ v2.1 12 5 = w'.1 12 5)) := by
        by_cases r2 : r = -2
        · subst r2
          exact ⟨_, s_finR i, fun q hq => (Fr.up 12 5 w' _).1 q hq, fun o ho => mUp_o _ 12 5 o _ ho, Or.inl ⟨rfl, mUp_s _ _ _ _⟩⟩
        · exact ⟨w', s_finN i neg r2, fun _ _ => rfl, fun _ _ => rfl, Or.inr ⟨r2, rfl⟩⟩
      obtain ⟨v2, ef, fq, fp, f5⟩ := fin
      obtain ⟨u1, u2, e1, s2, n8, hr2, rf, fk, h16⟩ := mod v2 (fun q a1 a2 a3 a4 => (fq q a4).trans (fo q a1 a2 a3))
      obtain ⟨u3, e3, fM, y3⟩ := X u2 s2 n8 hr2
      obtain ⟨u4, e4, s4, f4⟩ := m_back (u := u3) (a := a) (fun k hk => by rw [fM.1 16 (by decide) (by decide), h16 k hk]; exact v14 k hk)
      have u4r : ∀ q, q ≠ 13 → q ≠ 14 → q ≠ 16 → q ≠ 18 → u4.1 q = v2.1 q := fun q a1 a2 a3 a4 => (f4.1 q a2).trans ((fM.1 q a2 a1).trans ((fk.1 q a3).trans (rf.1 q a1 a4)))
      have u13 : ∀ o, o ≠ 4 → o ≠ 8 → o ≠ 9 → o ≠ 10 → o ≠ 12 → o ≠ 13 → u4.1 13 o = v.1 13 o := fun o b1 b2 b3 b4 b5 b6 => (congrFun (f4.1 13 (by decide)) o).trans ((fM.2.1 o b1).trans ((congrFun (fk.1 13 (by decide)) o).trans ((rf.2 o b2 b3 b4 b5 b6).trans ((congrFun (fq 13 (by decide)) o).trans (congrFun (fo 13 (by omega) (by decide) (by decide)) o)))))
      have v12 : ∀ o, o ≠ 5 → u4.1 12 o = v.1 12 o := fun o ho => (congrFun (u4r 12 (by decide) (by decide) (by decide) (by decide)) o).trans ((fp o ho).trans (congrFun (fo 12 (by omega) (by decide) (by decide)) o))
      have rs : u4.1 12 5 = u4.1 13 4 := by
        rw [u4r 12 (by decide) (by decide) (by decide) (by decide), f4.1 13 (by decide)]
        rcases y3 with ⟨z, y⟩ | ⟨z, y⟩
        · rcases f5 with ⟨-, x⟩ | ⟨z2, -⟩
          · exact x.trans y
          · exact absurd z z2
        · rcases f5 with ⟨z2, -⟩ | ⟨-, x⟩
          · exact absurd z2 z
          · rw [x, y, fk.1 13 (by decide), rf.2 4 (by decide) (by decide) (by decide) (by decide) (by decide), fq 13 (by decide), fo 12 (by omega) (by decide) (by decide), fo 13 (by omega) (by decide) (by decide)]
            exact h.2.2.2.2.2.1
      refine ⟨(-1000) - nI j, v2, u4, start.trans (x1.trans (bI_eq ef)), e1.trans (e3.trans (bV_eq e4)), B + 1, p, c, a, T, L, h.keep (v12 3 (by decide)) (v12 4 (by decide)) (u13 2 (by decide) (by decide) (by decide) (by decide) (by decide) (by decide)) rs s4 (fun q a1 a2 => (u4r q (by omega) (by omega) (by omega) (by omega)).trans ((fq q (by omega)).trans (fo q (by omega) (by omega) (by omega)))) ((u4r 15 (by decide) (by decide) (by decide) (by decide)).trans ((fq 15 (by decide)).trans (fo 15 (by omega) (by decide) (by decide)))), ⟨t1, ?_, ?_, fun k hk => ?_, fun q hq => ?_⟩, by omega⟩
      · rw [u4r 9 (by decide) (by decide) (by decide) (by decide), fq 9 (by decide), f1.1 9 (by omega), fw.1 9 (by omega), sf.2.1 1 (by decide) (by decide)]
        exact t2
      · rw [u13 6 (by decide) (by decide) (by decide) (by decide) (by decide) (by decide)]
        exact t3
      · rw [u4r 10 (by decide) (by decide) (by decide) (by decide), u4r 17 (by decide) (by decide) (by decide) (by decide), fq 10 (by decide), fq 17 (by decide), fo 10 (by omega) (by decide) (by decide), fo 17 (by omega) (by decide) (by decide)]
        exact t4 k hk
      · rw [u4r 11 (by decide) (by decide) (by decide) (by decide), fq 11 (by decide), f1.1 11 (by omega), f4.1 18 (by decide), fM.1 18 (by decide) (by decide)]
        exact hr2 q hq
    · -- all commands done
      obtain ⟨v3, hv3⟩ : ∃ v3, v3 = mUp w' (9, 1) 0 := ⟨_, rfl⟩
      have c3 : ∀ q, q ≠ 9 → v3.1 q = w'.1 q := fun q hq => by
        rw [hv3]
        exact (Fr.up 9 1 w' 0).1 q hq
      have fo : ∀ q, q ≠ i → q ≠ 9 → q ≠ 11 → w'.1 q = v.1 q := fun q a1 a2 a3 => (f1.1 q a1).trans ((fw.1 q a1).trans (sr q a2 a3))
      have ecl : fX3_clear w' [SC] = some (v3, some (I (w'.1 9 1))) := by
        rw [hv3]
        exact qX3_clear w'
      have n3 : v3.1 9 3 = nI m := by
        rw [hv3]
        exact (mUp_o _ _ _ _ _ (by decide)).trans ((congrFun (f1.1 9 (by omega)) 3).trans w3)
      have neg : ¬ nI m < 0 := ltF (n := 0) rfl rfl (by omega) (by omega)
      have v312 : v3.1 12 = v.1 12 := (c3 12 (by decide)).trans (fo 12 (by omega) (by decide) (by decide))
      obtain ⟨v2, ef, x3, x4, x5, f2⟩ := s_finY (v := v3) (p := p) (c := c) i neg ((congrFun v312 3).trans h.2.2.1) g1 ((congrFun v312 4).trans h.2.2.2.1) g2
      have eT : cTail w' i = some (v2, some (I (nI m))) := by
        refine (bI_eq ecl).trans ?_
        rw [n3]
        exact bI_eq ef
      obtain ⟨u1, u2, e1, s2, n8, hr2, rf, fk, h16⟩ := mod v2 (fun q a1 a2 a3 a4 => (f2.1 q a4).trans ((c3 q a2).trans (fo q a1 a2 a3)))
      obtain ⟨u3, e3, fM, s3, y3⟩ := X u2 s2 n8 hr2
      obtain ⟨u4, hu4⟩ : ∃ u4, u4 = mUp u3 (13, 6) 0 := ⟨_, rfl⟩
      have q4 : ∀ q, q ≠ 13 → u4.1 q = u3.1 q := fun q hq => by
        rw [hu4]
        exact (Fr.up 13 6 u3 0).1 q hq
      have o4 : ∀ o, o ≠ 6 → u4.1 13 o = u3.1 13 o := fun o ho => by
        rw [hu4]
        exact mUp_o _ _ _ _ _ ho
      have z4 : u4.1 13 6 = 0 := by
        rw [hu4]
        exact mUp_s _ _ _ _
      have m8 : u4.1 13 8 = nI m := (o4 8 (by decide)).trans ((fM.2.1 8 (by decide)).trans n8)
      have p13 : ∀ o, o ≠ 4 → o ≠ 6 → o ≠ 8 → o ≠ 9 → o ≠ 10 → o ≠ 12 → o ≠ 13 → u4.1 13 o = v.1 13 o := fun o b0 b1 b2 b3 b4 b5 b6 => (o4 o b1).trans ((fM.2.1 o b0).trans ((congrFun (fk.1 13 (by decide)) o).trans ((rf.2 o b2 b3 b4 b5 b6).trans ((congrFun (f2.1 13 (by decide)) o).trans ((congrFun (c3 13 (by decide)) o).trans (congrFun (fo 13 (by omega) (by decide) (by decide)) o))))))
      obtain ⟨u5, e5, d2, d4, do', dr, dl, ds, dp, dq⟩ := m_doneY (c := c) u4 neg g2 ((p13 2 (by decide) (by decide) (by decide) (by decide) (by decide) (by decide) (by decide)).trans h.2.2.2.2.1)
      have eD : mDone u3 = some (u5, some (I (nI m))) := by
        unfold mDone
        rw [← hu4, m8]
        exact bI_eq e5
      have w16 : ∀ q, q < 151 → u4.1 16 q = v.1 14 q := fun q hq => by
        rw [q4 16 (by decide), fM.1 16 (by decide) (by decide)]
        exact h16 q hq
      have w15 : u4.1 15 = v.1 15 := (q4 15 (by decide)).trans ((fM.1 15 (by decide) (by decide)).trans ((fk.1 15 (by decide)).trans ((rf.1 15 (by decide) (by decide)).trans ((f2.1 15 (by decide)).trans ((c3 15 (by decide)).trans (fo 15 (by omega) (by decide) (by decide)))))))
      have tr : ∀ q, q ≠ 13 → q ≠ 14 → q ≠ 15 → q ≠ 16 → q ≠ 18 → u5.1 q = v2.1 q := fun q a1 a2 a3 a4 a5 => (dr q a1 a2 a3 a4).trans ((q4 q a1).trans ((fM.1 q a2 a1).trans ((fk.1 q a4).trans (rf.1 q a1 a5))))
      have tr2 : ∀ q, q < 8 → u5.1 q = w'.1 q := fun q hq => (tr q (by omega) (by omega) (by omega) (by omega) (by omega)).trans ((f2.1 q (by omega)).trans (c3 q (by omega)))
      have t12 : u5.1 12 = v2.1 12 := tr 12 (by decide) (by decide) (by decide) (by decide) (by decide)
      have hp := (h.upB m).push (v' := u5) (a' := b') (by rw [t12]; exact x3) (by rw [t12]; exact x4) d2 (by rw [t12, d4]; exact x5) (by rw [← hi]; exact s1.row (tr2 i i8)) (fun k hk => (ds k hk).trans (by rw [q4 14 (by decide)]; exact s3 k hk)) wf1.mono (fun q a1 a2 => (tr2 q a1).trans (fo q (by omega) (by omega) (by omega))) (fun q hq => by rw [dp q hq, w16 q hq]) (fun q hq => by rw [dq q hq, w15])
      refine ⟨nI m, v2, u5, start.trans (x1.trans eT), e1.trans (e3.trans eD), B + m + 1, _, _, b', T, 0, hp, ⟨by omega, ?_, ?_, fun k hk => absurd hk (Nat.not_lt_zero _), fun q hq => ?_⟩, by omega⟩
      · rw [tr 9 (by decide) (by decide) (by decide) (by decide) (by decide), f2.1 9 (by decide), hv3]
        exact mUp_s _ _ _ _
      · rw [do' 6 (by decide) (by decide)]
        exact z4
      · rw [tr 11 (by decide) (by decide) (by decide) (by decide) (by decide), f2.1 11 (by decide), c3 11 (by decide), f1.1 11 (by omega), dr 18 (by decide) (by decide) (by decide) (by decide), q4 18 (by decide), fM.1 18 (by decide) (by decide)]
        exact hr2 q hq
end
