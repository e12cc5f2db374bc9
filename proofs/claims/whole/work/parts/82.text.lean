-- THE TEXT: appendCharacter and clearText
section
variable {B p c n L : Nat} {a T : Nat → Nat} {v v' u : MM}
/-- a byte of the model against a character of the class -/
def SB (x : Int32) (n : Nat) : Prop := (n < 128 ∧ x = nI n) ∨ (128 ≤ n ∧ x < 0)
def Tx (v : MM) (T : Nat → Nat) (L : Nat) : Prop := L ≤ 100 ∧ v.1 9 1 = nI L ∧ v.1 13 6 = nI L ∧ (∀ k, k < L → T k ≤ 255 ∧ v.1 10 k = nI (T k) ∧ SB (v.1 17 k) (T k)) ∧ ∀ q, q < 125 → v.1 11 q = v.1 18 q
/-- what holds between two calls, n calls done -/
def Bd (n : Nat) (v : MM) : Prop := ∃ (B p c : Nat) (a T : Nat → Nat) (L : Nat), Rel B v p c a ∧ Tx v T L ∧ B + L ≤ n
/-- a call of both sides with one answer -/
def Cl (n : Nat) (o : MR) (o' : MM → MR) : Prop := ∃ (r : Int32) (v1 v2 : MM), o = some (v1, some (I r)) ∧ o' v1 = some (v2, some (I r)) ∧ Bd (n + 1) v2
theorem Tx.oth (h : Tx v T L) (e : Ot9 v v') : Tx v' T L := by
  obtain ⟨h1, h2, h3, h4, h5⟩ := h
  have e9 := e.1 9 (by decide) (by decide) (by decide) (by decide) (by decide) (by decide)
  have e10 := e.1 10 (by decide) (by decide) (by decide) (by decide) (by decide) (by decide)
  have e11 := e.1 11 (by decide) (by decide) (by decide) (by decide) (by decide) (by decide)
  have e17 := e.1 17 (by decide) (by decide) (by decide) (by decide) (by decide) (by decide)
  have e18 := e.1 18 (by decide) (by decide) (by decide) (by decide) (by decide) (by decide)
  refine ⟨h1, by rw [e9]; exact h2, by rw [e.2.1 6 (by decide) (by decide)]; exact h3, fun k hk => by rw [e10, e17]; exact h4 k hk, fun q hq => by rw [e11, e18]; exact h5 q hq⟩
theorem Same9.cl {o : MR} {o' : MM → MR} (ht : Tx v T L) (hn : B + L ≤ n) (h : Same9 B v o o') : Cl n o o' := by
  obtain ⟨r, v1, v2, p', c', a', e, e', h2, ho⟩ := h
  exact ⟨r, v1, v2, e, e', B + 1, p', c', a', T, L, h2, ht.oth ho, by omega⟩
theorem Rel.sub (h : Rel B v p c a) (e8 : ∀ q, q < 8 → v'.1 q = v.1 q) (e12 : v'.1 12 = v.1 12) (e2 : v'.1 13 2 = v.1 13 2) (e4 : v'.1 13 4 = v.1 13 4) (e14 : v'.1 14 = v.1 14) (e15 : v'.1 15 = v.1 15) : Rel B v' p c a := by
  obtain ⟨g1, g2, g3, g4, g5, g6, g7, g8, g9, g10⟩ := h
  refine ⟨g1, g2, by rw [e12]; exact g3, by rw [e12]; exact g4, by rw [e2]; exact g5, by rw [e12, e4]; exact g6, g7.row (e8 p g1), g8.row e14, g9, fun q hq => ?_⟩
  obtain ⟨b, b1, b2, b3⟩ := g10 q hq
  exact ⟨b, b1.row (e8 _ (by omega)), fun k hk => by rw [e15]; exact b2 k hk, b3⟩
set_option maxRecDepth 100000 in
theorem chr_c : ∀ n, n < 256 → vp_nar .char ((((nI n).toUInt32 % 65536)).toInt32) = nI n := by decide +kernel
set_option maxRecDepth 100000 in
theorem chr_b : ∀ n, n < 256 → (n < 128 ∧ vp_nar .byte (nI n).toInt8.toInt32 = nI n) ∨ (128 ≤ n ∧ vp_nar .byte (nI n).toInt8.toInt32 < 0) := by decide +kernel
theorem k_append (h : Rel B v p c a) (ht : Tx v T L) (hn : B + L ≤ n) (x1 : Int32) : Cl n (fX6_appendCharacter v [SH, I x1]) (fun w => fX7_appendCharacter w [MO, I x1]) := by
  obtain ⟨t1, t2, t3, t4, t5⟩ := id ht
  by_cases c1 : 0 ≤ x1 ∧ x1 ≤ 255
  · obtain ⟨x, hx, rfl⟩ := inM (M := 255) (by omega) c1.1 c1.2
    have qL : (nI L).toNatClampNeg = L := nI_clamp (by omega)
    by_cases d : L = 100
    · refine ⟨-3, v, v, (qX6_appendCharacter v _).trans ?_, (qX7_appendCharacter v _).trans ?_, B, p, c, a, T, L, h, ht, by omega⟩
      · refine (bI_eq (s_wT c1)).trans ((if_neg (by decide)).trans ?_)
        refine bI_eq (k := fun w3 r4 => some (w3, some (I r4))) ((qX3_append v _).trans ((bI_eq (s_wF ?_)).trans (if_pos rfl)))
        rw [t2, d]
        decide
      · refine (bI_eq (m_inT c1)).trans ((if_neg (by decide)).trans ?_)
        exact if_pos (eqT t3 (n := 100) rfl d)
    · have hc : fX6_appendCharacter v [SH, I (nI x)] = some (mUp (mUp v (10, L) (nI x)) (9, 1) (nI (L + 1)), some (I (nI (L + 1)))) := by
        refine (qX6_appendCharacter v _).trans ?_
        refine (bI_eq (s_wT c1)).trans ((if_neg (by decide)).trans ?_)
        refine bI_eq (k := fun w3 r4 => some (w3, some (I r4))) ((qX3_append v _).trans ((bI_eq (s_wT ?_)).trans ((if_neg (by decide)).trans ?_)))
        · rw [t2]
          exact ⟨(i_le (a := 0) (by omega) (by omega)).mpr (by omega), (i_le (b := 99) (by omega) (by omega)).mpr (by omega)⟩
        · have e1 : (mUp v (10, L) (nI x)).1 9 1 = nI L := (congrFun ((Fr.up 10 L v (nI x)).1 9 (by decide)) 1).trans t2
          simp only [t2, qL, chr_c x (by omega), e1, mUp_s]
          refine (if_pos (mIn_nI (by omega) (by omega))).trans ?_
          rw [show nI L + (1 : Int32) = nI (L + 1) from i_add L 1]
      obtain ⟨v1, hv1⟩ : ∃ v1, v1 = mUp (mUp v (10, L) (nI x)) (9, 1) (nI (L + 1)) := ⟨_, rfl⟩
      rw [← hv1] at hc
      have r1 : ∀ q, q ≠ 9 → q ≠ 10 → v1.1 q = v.1 q := fun q a1 a2 => by
        rw [hv1]
        exact ((Fr.up 9 1 _ _).1 q a1).trans ((Fr.up 10 L _ _).1 q a2)
      have u6 : v1.1 13 6 = nI L := (congrFun (r1 13 (by decide) (by decide)) 6).trans t3
      obtain ⟨y, hy⟩ : ∃ y, y = vp_nar .byte (nI x).toInt8.toInt32 := ⟨_, rfl⟩
      have sb : SB y x := by
        rw [hy]
        exact chr_b x (by omega)
      have hm : fX7_appendCharacter v1 [MO, I (nI x)] = some (mUp (mUp v1 (17, L) y) (13, 6) (nI (L + 1)), some (I (nI (L + 1)))) := by
        refine (qX7_appendCharacter v1 _).trans ?_
        refine (bI_eq (m_inT c1)).trans ((if_neg (by decide)).trans ((if_neg (eqF u6 (n := 100) rfl d (by omega) (by omega))).trans ?_))
        have e1 : (mUp v1 (17, L) y).1 13 6 = nI L := (congrFun ((Fr.up 17 L v1 y).1 13 (by decide)) 6).trans u6
        simp only [u6, qL, ← hy, e1, mUp_s]
        refine (if_pos (mIn_nI (by omega) (by omega))).trans ?_
        rw [show nI L + (1 : Int32) = nI (L + 1) from i_add L 1]
      have r2 : ∀ q, q ≠ 13 → q ≠ 17 → (mUp (mUp v1 (17, L) y) (13, 6) (nI (L + 1))).1 q = v1.1 q := fun q a1 a2 => ((Fr.up 13 6 _ _).1 q a1).trans ((Fr.up 17 L _ _).1 q a2)
      have r3 : ∀ o, o ≠ 6 → (mUp (mUp v1 (17, L) y) (13, 6) (nI (L + 1))).1 13 o = v.1 13 o := fun o ho => (mUp_o _ 13 6 o _ ho).trans ((congrFun ((Fr.up 17 L _ _).1 13 (by decide)) o).trans (congrFun (r1 13 (by decide) (by decide)) o))
      refine ⟨_, v1, _, hc, hm, B, p, c, a, au T L x, L + 1, h.sub (fun q hq => (r2 q (by omega) (by omega)).trans (r1 q (by omega) (by omega))) ((r2 12 (by decide) (by decide)).trans (r1 12 (by decide) (by decide))) (r3 2 (by decide)) (r3 4 (by decide)) ((r2 14 (by decide) (by decide)).trans (r1 14 (by decide) (by decide))) ((r2 15 (by decide) (by decide)).trans (r1 15 (by decide) (by decide))), ⟨by omega, ?_, mUp_s _ _ _ _, fun k hk => ?_, fun q hq => ?_⟩, by omega⟩
      · rw [r2 9 (by decide) (by decide), hv1]
        exact mUp_s _ _ _ _
      · have e10 : (mUp (mUp v1 (17, L) y) (13, 6) (nI (L + 1))).1 10 k = (mUp v (10, L) (nI x)).1 10 k := by
          rw [r2 10 (by decide) (by decide), hv1]
          exact congrFun ((Fr.up 9 1 _ _).1 10 (by decide)) k
        have e17 : (mUp (mUp v1 (17, L) y) (13, 6) (nI (L + 1))).1 17 k = (mUp v1 (17, L) y).1 17 k := congrFun ((Fr.up 13 6 _ _).1 17 (by decide)) k
        rw [e10, e17]
        by_cases e : k = L
        · subst e
          rw [mUp_s, mUp_s, au_s]
          exact ⟨hx, rfl, sb⟩
        · rw [mUp_o _ _ _ _ _ e, mUp_o _ _ _ _ _ e, au_n e, r1 17 (by decide) (by decide)]
          exact t4 k (by omega)
      · rw [r2 11 (by decide) (by decide), r2 18 (by decide) (by decide), r1 11 (by decide) (by decide), r1 18 (by decide) (by decide)]
        exact t5 q hq
  · exact ⟨-1, v, v, (qX6_appendCharacter v _).trans ((bI_eq (s_wF c1)).trans (if_pos rfl)), (qX7_appendCharacter v _).trans ((bI_eq (m_inF c1)).trans (if_pos rfl)), B, p, c, a, T, L, h, ht, by omega⟩
theorem k_clear (h : Rel B v p c a) (ht : Tx v T L) (hn : B + L ≤ n) : Cl n (fX6_clearText v [SH]) (fun w => fX7_clearText w [MO]) := by
  obtain ⟨t1, t2, t3, t4, t5⟩ := id ht
  have hc : fX6_clearText v [SH] = some (mUp v (9, 1) 0, some (I (nI L))) := (qX6_clearText v).trans ((bI_eq (qX3_clear v)).trans (ans t2))
  have u6 : (mUp v (9, 1) 0).1 13 6 = nI L := (congrFun ((Fr.up 9 1 v 0).1 13 (by decide)) 6).trans t3
  have hm : fX7_clearText (mUp v (9, 1) 0) [MO] = some (mUp (mUp v (9, 1) 0) (13, 6) 0, some (I (nI L))) := (qX7_clearText _).trans (ans u6)
  have r2 : ∀ q, q ≠ 13 → q ≠ 9 → (mUp (mUp v (9, 1) 0) (13, 6) 0).1 q = v.1 q := fun q a1 a2 => ((Fr.up 13 6 _ _).1 q a1).trans ((Fr.up 9 1 _ _).1 q a2)
  have r3 : ∀ o, o ≠ 6 → (mUp (mUp v (9, 1) 0) (13, 6) 0).1 13 o = v.1 13 o := fun o ho => (mUp_o _ 13 6 o _ ho).trans (congrFun ((Fr.up 9 1 _ _).1 13 (by decide)) o)
  refine ⟨_, _, _, hc, hm, B, p, c, a, T, 0, h.sub (fun q hq => r2 q (by omega) (by omega)) (r2 12 (by decide) (by decide)) (r3 2 (by decide)) (r3 4 (by decide)) (r2 14 (by decide) (by decide)) (r2 15 (by decide) (by decide)), ⟨by omega, ?_, mUp_s _ _ _ _, fun k hk => absurd hk (Nat.not_lt_zero _), fun q hq => ?_⟩, by omega⟩
  · exact (congrFun ((Fr.up 13 6 _ _).1 9 (by decide)) 1).trans (mUp_s _ _ _ _)
  · rw [r2 11 (by decide) (by decide), r2 18 (by decide) (by decide)]
    exact t5 q hq
end
