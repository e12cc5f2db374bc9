-- short words
theorem s_wT {v : MM} {x a b : Int32} (h : a ≤ x ∧ x ≤ b) : fX6_within v [I x, I a, I b] = some (v, some (I 1)) := by
  rw [s_within, if_pos h]
theorem s_wF {v : MM} {x a b : Int32} (h : ¬ (a ≤ x ∧ x ≤ b)) : fX6_within v [I x, I a, I b] = some (v, some (I 0)) := by
  rw [s_within, if_neg h]
theorem m_inT {v : MM} {x a b : Int32} (h : a ≤ x ∧ x ≤ b) : fX7_in v [I x, I a, I b] = some (v, some (I 1)) := by
  rw [m_in, if_pos h]
theorem m_inF {v : MM} {x a b : Int32} (h : ¬ (a ≤ x ∧ x ≤ b)) : fX7_in v [I x, I a, I b] = some (v, some (I 0)) := by
  rw [m_in, if_neg h]
section
variable {B : Nat} {v u : MM} {i : Nat} {a : Nat → Nat}
theorem s_tT (hv : St 155 v i a) (hw : Wf B a) {x : Int32} (c : mIn x (a 59)) : fX0_hasTank v [nm 2 i 0, I x] = some (v, some (I 1)) := by
  rw [s_hasTank hv (by omega) hw.2.2.2.1.1, if_pos c]
theorem s_tF (hv : St 155 v i a) (hw : Wf B a) {x : Int32} (c : ¬ mIn x (a 59)) : fX0_hasTank v [nm 2 i 0, I x] = some (v, some (I 0)) := by
  rw [s_hasTank hv (by omega) hw.2.2.2.1.1, if_neg c]
theorem s_lT (hv : St 155 v i a) (hw : Wf B a) {x : Int32} (c : mIn x (a 42)) : fX0_hasLot v [nm 2 i 0, I x] = some (v, some (I 1)) := by
  rw [s_hasLot hv (by omega) hw.2.2.1.1, if_pos c]
theorem s_lF (hv : St 155 v i a) (hw : Wf B a) {x : Int32} (c : ¬ mIn x (a 42)) : fX0_hasLot v [nm 2 i 0, I x] = some (v, some (I 0)) := by
  rw [s_hasLot hv (by omega) hw.2.2.1.1, if_neg c]
theorem m_tT (hu : St 151 u 14 a) (hw : Wf B a) {x : Int32} (c : mIn x (a 59)) : fX7_isTank u [MO, I x] = some (u, some (I 1)) := by
  rw [m_isTank hu hw.2.2.2.1.1, if_pos c]
theorem m_tF (hu : St 151 u 14 a) (hw : Wf B a) {x : Int32} (c : ¬ mIn x (a 59)) : fX7_isTank u [MO, I x] = some (u, some (I 0)) := by
  rw [m_isTank hu hw.2.2.2.1.1, if_neg c]
theorem m_lT (hu : St 151 u 14 a) (hw : Wf B a) {x : Int32} (c : mIn x (a 42)) : fX7_isLot u [MO, I x] = some (u, some (I 1)) := by
  rw [m_isLot hu hw.2.2.1.1, if_pos c]
theorem m_lF (hu : St 151 u 14 a) (hw : Wf B a) {x : Int32} (c : ¬ mIn x (a 42)) : fX7_isLot u [MO, I x] = some (u, some (I 0)) := by
  rw [m_isLot hu hw.2.2.1.1, if_neg c]
theorem m_2F (hu : St 151 u 14 a) (hw : Wf B a) {x y : Int32} (c : ¬ (mIn x (a 59) ∧ mIn y (a 59) ∧ x ≠ y)) : fX7_areTwo u [MO, I x, I y] = some (u, some (I 0)) := by
  refine (qX7_areTwo u x y).trans ?_
  by_cases c1 : mIn x (a 59)
  · refine (bI_eq (m_tT hu hw c1)).trans ((if_neg (by decide)).trans ?_)
    by_cases c2 : mIn y (a 59)
    · refine (bI_eq (m_tT hu hw c2)).trans ((if_neg (by decide)).trans ?_)
      by_cases c3 : x = y
      · exact if_pos c3
      · exact absurd ⟨c1, c2, c3⟩ c
    · exact (bI_eq (m_tF hu hw c2)).trans (if_pos rfl)
  · exact (bI_eq (m_tF hu hw c1)).trans (if_pos rfl)
theorem m_2T (hu : St 151 u 14 a) (hw : Wf B a) {x y : Int32} (c1 : mIn x (a 59)) (c2 : mIn y (a 59)) (c3 : x ≠ y) : fX7_areTwo u [MO, I x, I y] = some (u, some (I 1)) := by
  refine (qX7_areTwo u x y).trans ?_
  refine (bI_eq (m_tT hu hw c1)).trans ((if_neg (by decide)).trans ?_)
  refine (bI_eq (m_tT hu hw c2)).trans ((if_neg (by decide)).trans ?_)
  exact if_neg c3
theorem ltT {x y : Int32} {m n : Nat} (hx : x = nI m) (hy : y = nI n) (h : m < n) (hn : n < 2 ^ 31) : x < y := by
  rw [hx, hy]
  exact (i_lt (by omega) hn).mpr h
theorem ltF {x y : Int32} {m n : Nat} (hx : x = nI m) (hy : y = nI n) (h : n ≤ m) (hm : m < 2 ^ 31) : ¬ x < y := by
  rw [hx, hy]
  intro z
  have := (i_lt hm (by omega)).mp z
  omega
theorem eqT {x y : Int32} {m n : Nat} (hx : x = nI m) (hy : y = nI n) (h : m = n) : x = y := by
  rw [hx, hy, h]
theorem eqF {x y : Int32} {m n : Nat} (hx : x = nI m) (hy : y = nI n) (h : m ≠ n) (hm : m < 2 ^ 31) (hn : n < 2 ^ 31) : ¬ x = y := by
  rw [hx, hy]
  exact fun z => h ((i_eq hm hn).mp z)
theorem ne_nI {f t : Nat} (h : nI f ≠ nI t) : f ≠ t := fun z => h (by rw [z])
theorem r_move (hv : St 155 v i a) (hu : St 151 u 14 a) (hw : Wf B a) (hB : B ≤ 1100) (x1 x2 x3 : Int32) : Two B (fX0_moveJuice v [nm 2 i 0, I x1, I x2, I x3]) (fX7_moves u [MO, I x1, I x2, I x3]) v u i a := by
  by_cases c1 : mIn x1 (a 59)
  · by_cases c3 : mIn x3 (a 59)
    · by_cases c : x1 = x3
      · refine Two.no (-1) hv hu hw (by decide) ((qX0_moveJuice v i _ _ _).trans ?_) ((qX7_moves u _ _ _).trans ?_)
        · refine (bI_eq (s_tT hv hw c1)).trans ((if_neg (by decide)).trans ?_)
          refine (bI_eq (s_tT hv hw c3)).trans ((if_neg (by decide)).trans ?_)
          exact if_pos c
        · exact (bI_eq (m_2F hu hw (fun z => z.2.2 c))).trans (if_pos rfl)
      · by_cases c2 : 1 ≤ x2 ∧ x2 ≤ 5000
        · obtain ⟨f, hf, hf31, rfl⟩ := mIn_ex c1
          obtain ⟨t, ht, ht31, rfl⟩ := mIn_ex c3
          obtain ⟨n, hn, rfl⟩ := inM (M := 5000) (by omega) (Int32.le_trans (by decide) c2.1) c2.2
          have n1 : 1 ≤ n := (i_le (a := 1) (by omega) (by omega)).mp c2.1
          have ne := ne_nI c
          have w4 := hw.2.2.2.1
          have hf6 : f < 6 := by omega
          have ht6 : t < 6 := by omega
          obtain ⟨⟨f0, f1, f4, fz⟩, -⟩ := w4.2 f hf6
          obtain ⟨⟨t0, t1, t4, tz⟩, -⟩ := w4.2 t ht6
          have kf := hv (60 + 7 * f + 1) (by omega)
          by_cases d : a (60 + 7 * f + 1) < n
          · refine Two.ref 7 hv hu hw ((qX0_moveJuice v i _ _ _).trans ?_) ((qX7_moves u _ _ _).trans ?_)
            · simp only [nI_clamp hf31, nI_clamp ht31]
              refine (bI_eq (s_tT hv hw c1)).trans ((if_neg (by decide)).trans ?_)
              refine (bI_eq (s_tT hv hw c3)).trans ((if_neg (by decide)).trans ?_)
              refine (if_neg c).trans ?_
              refine (bI_eq (s_wT c2)).trans ((if_neg (by decide)).trans ?_)
              refine (if_pos (mIn_nI hf6 (by omega))).trans ?_
              refine (if_pos (ltT kf rfl d (by omega))).trans ?_
              exact bI_eq (s_refuse _ _ _)
            · refine (bI_eq (m_2T hu hw c1 c3 c)).trans ((if_neg (by decide)).trans ?_)
              refine (bI_eq (m_inT c2)).trans ((if_neg (by decide)).trans ?_)
              refine (bI_eq (m_of hu f 1 (by omega))).trans ?_
              refine (if_pos (ltT rfl rfl d (by omega))).trans ?_
              exact bI_eq (m_refuses _ _)
          · by_cases e : a (60 + 7 * t + 0) - a (60 + 7 * t + 1) - a (60 + 7 * t + 5) < n
            · refine Two.no (-3) hv hu hw (by decide) ((qX0_moveJuice v i _ _ _).trans ?_) ((qX7_moves u _ _ _).trans ?_)
              · simp only [nI_clamp hf31, nI_clamp ht31]
                refine (bI_eq (s_tT hv hw c1)).trans ((if_neg (by decide)).trans ?_)
                refine (bI_eq (s_tT hv hw c3)).trans ((if_neg (by decide)).trans ?_)
                refine (if_neg c).trans ?_
                refine (bI_eq (s_wT c2)).trans ((if_neg (by decide)).trans ?_)
                refine (if_pos (mIn_nI hf6 (by omega))).trans ?_
                refine (if_neg (ltF kf rfl (by omega) (by omega))).trans ?_
                refine (if_pos (mIn_nI ht6 (by omega))).trans ?_
                refine (bI_eq (s_left hv (by omega) t1)).trans ?_
                exact if_pos (ltT rfl rfl e (by omega))
              · refine (bI_eq (m_2T hu hw c1 c3 c)).trans ((if_neg (by decide)).trans ?_)
                refine (bI_eq (m_inT c2)).trans ((if_neg (by decide)).trans ?_)
                refine (bI_eq (m_of hu f 1 (by omega))).trans ?_
                refine (if_neg (ltF rfl rfl (by omega) (by omega))).trans ?_
                refine (bI_eq (m_left hu t (by omega) t1)).trans ?_
                exact if_pos (ltT rfl rfl e (by omega))
            · have hnf : n ≤ a (60 + 7 * f + 1) := by omega
              have hnt : n ≤ a (60 + 7 * t + 0) - a (60 + 7 * t + 1) - a (60 + 7 * t + 5) := by omega
              have hs := hw.sml hB hf6
              obtain ⟨v', ev, hv', fv⟩ := s_give (t := t) hv (by omega) (by omega) ne hs hnf
              obtain ⟨u', eu, hu', fu⟩ := m_carry (t := t) hu (by omega) (by omega) ne (hw.mul hB hf6 hn) (by omega) (by omega) hnf
              have hp : pt a f 4 n ≤ a (60 + 7 * f + 4) := pt_le hnf
              refine Two.ok (n := pt a f 4 n) (by omega) ((qX0_moveJuice v i _ _ _).trans ?_) ((qX7_moves u _ _ _).trans ?_) hv' hu' fv fu (hw.give hf ht ne n1 hnf hnt)
              · simp only [nI_clamp hf31, nI_clamp ht31]
                refine (bI_eq (s_tT hv hw c1)).trans ((if_neg (by decide)).trans ?_)
                refine (bI_eq (s_tT hv hw c3)).trans ((if_neg (by decide)).trans ?_)
                refine (if_neg c).trans ?_
                refine (bI_eq (s_wT c2)).trans ((if_neg (by decide)).trans ?_)
                refine (if_pos (mIn_nI hf6 (by omega))).trans ?_
                refine (if_neg (ltF kf rfl (by omega) (by omega))).trans ?_
                refine (if_pos (mIn_nI ht6 (by omega))).trans ?_
                refine (bI_eq (s_left hv (by omega) t1)).trans ?_
                refine (if_neg (ltF rfl rfl hnt (by omega))).trans ?_
                refine (if_pos (mIn_nI hf6 (by omega))).trans ?_
                refine (if_pos (mIn_nI hf6 (by omega))).trans ?_
                refine (bI_eq (s_pt hv (by omega) hs (by omega) 4 (by omega) rfl rfl)).trans ?_
                refine (if_pos (mIn_nI hf6 (by omega))).trans ?_
                refine (if_pos (mIn_nI ht6 (by omega))).trans ?_
                exact bV_eq ev
              · refine (bI_eq (m_2T hu hw c1 c3 c)).trans ((if_neg (by decide)).trans ?_)
                refine (bI_eq (m_inT c2)).trans ((if_neg (by decide)).trans ?_)
                refine (bI_eq (m_of hu f 1 (by omega))).trans ?_
                refine (if_neg (ltF rfl rfl (by omega) (by omega))).trans ?_
                refine (bI_eq (m_left hu t (by omega) t1)).trans ?_
                refine (if_neg (ltF rfl rfl hnt (by omega))).trans ?_
                exact bI_eq eu
        · refine Two.no (-1) hv hu hw (by decide) ((qX0_moveJuice v i _ _ _).trans ?_) ((qX7_moves u _ _ _).trans ?_)
          · refine (bI_eq (s_tT hv hw c1)).trans ((if_neg (by decide)).trans ?_)
            refine (bI_eq (s_tT hv hw c3)).trans ((if_neg (by decide)).trans ?_)
            refine (if_neg c).trans ?_
            exact (bI_eq (s_wF c2)).trans (if_pos rfl)
          · refine (bI_eq (m_2T hu hw c1 c3 c)).trans ((if_neg (by decide)).trans ?_)
            exact (bI_eq (m_inF c2)).trans (if_pos rfl)
    · refine Two.no (-1) hv hu hw (by decide) ((qX0_moveJuice v i _ _ _).trans ?_) ((qX7_moves u _ _ _).trans ?_)
      · refine (bI_eq (s_tT hv hw c1)).trans ((if_neg (by decide)).trans ?_)
        exact (bI_eq (s_tF hv hw c3)).trans (if_pos rfl)
      · exact (bI_eq (m_2F hu hw (fun z => c3 z.2.1))).trans (if_pos rfl)
  · refine Two.no (-1) hv hu hw (by decide) ((qX0_moveJuice v i _ _ _).trans ?_) ((qX7_moves u _ _ _).trans ?_)
    · exact (bI_eq (s_tF hv hw c1)).trans (if_pos rfl)
    · exact (bI_eq (m_2F hu hw (fun z => c1 z.1))).trans (if_pos rfl)
end
