-- GETTERS: count, lot, variety, tank
section
variable {B p c : Nat} {a : Nat → Nat} {v u : MM} {i j : Nat}
theorem Oth.rf (v : MM) : Oth v v := ⟨fun _ _ _ _ _ _ _ => rfl, fun _ _ _ => rfl, rfl⟩
theorem Same.of (h : Rel B v p c a) {o : MR} {o' : MM → MR} (r : Int32) (e : o = some (v, some (I r))) (e' : o' v = some (v, some (I r))) : Same B v o o' := ⟨r, v, v, p, c, a, e, e', h.keep rfl rfl rfl h.2.2.2.2.2.1 h.2.2.2.2.2.2.2.1 (fun _ _ _ => rfl) rfl, Oth.rf v⟩
theorem ans {v : MM} {x y : Int32} (e : x = y) : (some (v, some (I x)) : MR) = some (v, some (I y)) := by rw [e]
theorem k_count (h : Rel B v p c a) (ht : v.1 9 1 = v.1 13 6) (x1 : Int32) : Same B v (fX6_count v [SH, I x1]) (fun w => fX7_count w [MO, I x1]) := by
  have hR := h
  obtain ⟨g1, g2, g3, g4, g5, g6, hv, hu, hw, -⟩ := h
  have st : ∀ r, gX6_count_2 v p x1 = some (v, some (I r)) → fX7_count v [MO, I x1] = some (v, some (I r)) → Same B v (fX6_count v [SH, I x1]) (fun w => fX7_count w [MO, I x1]) := fun r e e' => Same.of hR r ((qX6_count v _).trans ((bN_eq (s_books g3 g1)).trans ((uX6_count_2 v p _).trans e))) e'
  by_cases c0 : x1 = 0
  · refine st (nI (a 42)) ((qX6_count_2 v p _).trans ((if_pos c0).trans (ans (hv 42 (by omega))))) ((qX7_count v _).trans ((if_pos c0).trans ((if_pos (by decide)).trans (ans (hu 42 (by omega))))))
  by_cases c1 : x1 = 1
  · refine st (nI (a 59)) ((qX6_count_2 v p _).trans ((if_neg c0).trans ((if_pos c1).trans (ans (hv 59 (by omega)))))) ((qX7_count v _).trans ((if_neg c0).trans ((if_pos c1).trans ((if_pos (by decide)).trans (ans (hu 59 (by omega)))))))
  by_cases c2 : x1 = 2
  · refine st (nI (a 102)) ((qX6_count_2 v p _).trans ((if_neg c0).trans ((if_neg c1).trans ((if_pos c2).trans (ans (hv 102 (by omega))))))) ((qX7_count v _).trans ((if_neg c0).trans ((if_neg c1).trans ((if_pos c2).trans ((if_pos (by decide)).trans (ans (hu 102 (by omega))))))))
  by_cases c3 : x1 = 3
  · refine st (nI (a 103)) ((qX6_count_2 v p _).trans ((if_neg c0).trans ((if_neg c1).trans ((if_neg c2).trans ((if_pos c3).trans (ans (hv 103 (by omega)))))))) ((qX7_count v _).trans ((if_neg c0).trans ((if_neg c1).trans ((if_neg c2).trans ((if_pos c3).trans ((if_pos (by decide)).trans (ans (hu 103 (by omega)))))))))
  by_cases c4 : x1 = 4
  · exact st (v.1 13 4) ((qX6_count_2 v p _).trans ((if_neg c0).trans ((if_neg c1).trans ((if_neg c2).trans ((if_neg c3).trans ((if_pos c4).trans (ans g6))))))) ((qX7_count v _).trans ((if_neg c0).trans ((if_neg c1).trans ((if_neg c2).trans ((if_neg c3).trans (if_pos c4))))))
  by_cases c5 : x1 = 5
  · exact st (v.1 13 6) ((qX6_count_2 v p _).trans ((if_neg c0).trans ((if_neg c1).trans ((if_neg c2).trans ((if_neg c3).trans ((if_neg c4).trans ((if_pos c5).trans (ans ht)))))))) ((qX7_count v _).trans ((if_neg c0).trans ((if_neg c1).trans ((if_neg c2).trans ((if_neg c3).trans ((if_neg c4).trans (if_pos c5)))))))
  by_cases c6 : x1 = 6
  · exact st (v.1 13 2) ((qX6_count_2 v p _).trans ((if_neg c0).trans ((if_neg c1).trans ((if_neg c2).trans ((if_neg c3).trans ((if_neg c4).trans ((if_neg c5).trans ((if_pos c6).trans (ans (g4.trans g5.symm)))))))))) ((qX7_count v _).trans ((if_neg c0).trans ((if_neg c1).trans ((if_neg c2).trans ((if_neg c3).trans ((if_neg c4).trans ((if_neg c5).trans (if_pos c6))))))))
  by_cases c7 : x1 = 7
  · subst c7
    refine st (nI (a 18)) ((qX6_count_2 v p _).trans ((if_neg c0).trans ((if_neg c1).trans ((if_neg c2).trans ((if_neg c3).trans ((if_neg c4).trans ((if_neg c5).trans ((if_neg c6).trans ((if_pos rfl).trans (ans (hv 18 (by omega)))))))))))) ((qX7_count v _).trans ((if_neg c0).trans ((if_neg c1).trans ((if_neg c2).trans ((if_neg c3).trans ((if_neg c4).trans ((if_neg c5).trans ((if_neg c6).trans (?_)))))))))
    refine (bI_eq (m_inT (by decide))).trans ((if_neg (by decide)).trans ((if_pos (by decide)).trans (ans (hu 18 (by omega)))))
  by_cases c8 : x1 = 8
  · subst c8
    refine st (nI (a 19)) ((qX6_count_2 v p _).trans ((if_neg c0).trans ((if_neg c1).trans ((if_neg c2).trans ((if_neg c3).trans ((if_neg c4).trans ((if_neg c5).trans ((if_neg c6).trans ((if_neg c7).trans ((if_pos rfl).trans (ans (hv 19 (by omega))))))))))))) ((qX7_count v _).trans ((if_neg c0).trans ((if_neg c1).trans ((if_neg c2).trans ((if_neg c3).trans ((if_neg c4).trans ((if_neg c5).trans ((if_neg c6).trans (?_)))))))))
    refine (bI_eq (m_inT (by decide))).trans ((if_neg (by decide)).trans ((if_pos (by decide)).trans (ans (hu 19 (by omega)))))
  by_cases c9 : x1 = 9
  · subst c9
    refine st (nI (a 20)) ((qX6_count_2 v p _).trans ((if_neg c0).trans ((if_neg c1).trans ((if_neg c2).trans ((if_neg c3).trans ((if_neg c4).trans ((if_neg c5).trans ((if_neg c6).trans ((if_neg c7).trans ((if_neg c8).trans ((if_pos rfl).trans (ans (hv 20 (by omega)))))))))))))) ((qX7_count v _).trans ((if_neg c0).trans ((if_neg c1).trans ((if_neg c2).trans ((if_neg c3).trans ((if_neg c4).trans ((if_neg c5).trans ((if_neg c6).trans (?_)))))))))
    refine (bI_eq (m_inT (by decide))).trans ((if_neg (by decide)).trans ((if_pos (by decide)).trans (ans (hu 20 (by omega)))))
  by_cases c10 : x1 = 10
  · subst c10
    refine st (nI (a 21)) ((qX6_count_2 v p _).trans ((if_neg c0).trans ((if_neg c1).trans ((if_neg c2).trans ((if_neg c3).trans ((if_neg c4).trans ((if_neg c5).trans ((if_neg c6).trans ((if_neg c7).trans ((if_neg c8).trans ((if_neg c9).trans ((if_pos rfl).trans (ans (hv 21 (by omega))))))))))))))) ((qX7_count v _).trans ((if_neg c0).trans ((if_neg c1).trans ((if_neg c2).trans ((if_neg c3).trans ((if_neg c4).trans ((if_neg c5).trans ((if_neg c6).trans (?_)))))))))
    refine (bI_eq (m_inT (by decide))).trans ((if_neg (by decide)).trans ((if_pos (by decide)).trans (ans (hu 21 (by omega)))))
  refine st (-1) ((qX6_count_2 v p _).trans ((if_neg c0).trans ((if_neg c1).trans ((if_neg c2).trans ((if_neg c3).trans ((if_neg c4).trans ((if_neg c5).trans ((if_neg c6).trans ((if_neg c7).trans ((if_neg c8).trans ((if_neg c9).trans (if_neg c10)))))))))))) ((qX7_count v _).trans ((if_neg c0).trans ((if_neg c1).trans ((if_neg c2).trans ((if_neg c3).trans ((if_neg c4).trans ((if_neg c5).trans ((if_neg c6).trans (?_)))))))))
  refine (bI_eq (m_inF (fun z => ?_))).trans (if_pos rfl)
  obtain ⟨n, hn, rfl⟩ := inM (M := 10) (by omega) (Int32.le_trans (by decide) z.1) z.2
  have z1 : 7 ≤ n := (i_le (a := 7) (by omega) (by omega)).mp z.1
  rcases (show n = 7 ∨ n = 8 ∨ n = 9 ∨ n = 10 by omega) with rfl | rfl | rfl | rfl
  · exact c7 rfl
  · exact c8 rfl
  · exact c9 rfl
  · exact c10 rfl
theorem k_lot (h : Rel B v p c a) (x1 x2 : Int32) : Same B v (fX6_lot v [SH, I x1, I x2]) (fun w => fX7_lot w [MO, I x1, I x2]) := by
  have hR := h
  obtain ⟨g1, g2, g3, g4, g5, g6, hv, hu, hw, -⟩ := h
  have st : ∀ r, gX6_lot_2 v p x1 x2 = some (v, some (I r)) → fX7_lot v [MO, I x1, I x2] = some (v, some (I r)) → Same B v (fX6_lot v [SH, I x1, I x2]) (fun w => fX7_lot w [MO, I x1, I x2]) := fun r e e' => Same.of hR r ((qX6_lot v _ _).trans ((bN_eq (s_books g3 g1)).trans ((uX6_lot_2 v p _ _).trans e))) e'
  by_cases c1 : mIn x1 (a 42)
  · by_cases c2 : 0 ≤ x2 ∧ x2 ≤ 1
    · obtain ⟨j, hj, hj31, rfl⟩ := mIn_ex c1
      obtain ⟨n, hn, rfl⟩ := inM (M := 1) (by omega) c2.1 c2.2
      have h8 : a 42 ≤ 8 := hw.2.2.1.1
      have qj := nI_clamp hj31
      have ix : (43 : Int32) + (2 : Int32) * nI j + nI n = nI (43 + 2 * j + n) := (congrArg (fun z => z + nI n) (ix_l j)).trans (i_add (43 + 2 * j) n)
      have q := nI_clamp (show 43 + 2 * j + n < 2 ^ 31 by omega)
      refine st (nI (a (43 + 2 * j + n))) ((qX6_lot_2 v p _ _).trans ?_) ((qX7_lot v _ _).trans ?_)
      · refine (bI_eq (s_lT hv hw c1)).trans ((if_neg (by decide)).trans ((bI_eq (s_wT c2)).trans ((if_neg (by decide)).trans ?_)))
        simp only [qj]
        rcases (show n = 0 ∨ n = 1 by omega) with rfl | rfl
        · exact (if_pos rfl).trans ((if_pos (mIn_nI (by omega) (by omega))).trans (ans (hv _ (by omega))))
        · exact (if_neg (by decide)).trans ((if_pos (mIn_nI (by omega) (by omega))).trans (ans (hv _ (by omega))))
      · refine (bI_eq (m_lT hu hw c1)).trans ((if_neg (by decide)).trans ((bI_eq (m_inT c2)).trans ((if_neg (by decide)).trans ?_)))
        simp only [ix, q]
        exact (if_pos (mIn_nI (by omega) (by omega))).trans (ans (hu _ (by omega)))
    · exact st (-1) ((qX6_lot_2 v p _ _).trans ((bI_eq (s_lT hv hw c1)).trans ((if_neg (by decide)).trans ((bI_eq (s_wF c2)).trans (if_pos rfl))))) ((qX7_lot v _ _).trans ((bI_eq (m_lT hu hw c1)).trans ((if_neg (by decide)).trans ((bI_eq (m_inF c2)).trans (if_pos rfl)))))
  · exact st (-1) ((qX6_lot_2 v p _ _).trans ((bI_eq (s_lF hv hw c1)).trans (if_pos rfl))) ((qX7_lot v _ _).trans ((bI_eq (m_lF hu hw c1)).trans (if_pos rfl)))
theorem k_variety (h : Rel B v p c a) (x1 x2 : Int32) : Same B v (fX6_variety v [SH, I x1, I x2]) (fun w => fX7_variety w [MO, I x1, I x2]) := by
  have hR := h
  obtain ⟨g1, g2, g3, g4, g5, g6, hv, hu, hw, -⟩ := h
  by_cases c1 : 0 ≤ x1 ∧ x1 ≤ 5
  · by_cases c2 : 0 ≤ x2 ∧ x2 ≤ 2
    · obtain ⟨j, hj, rfl⟩ := inM (M := 5) (by omega) c1.1 c1.2
      obtain ⟨n, hn, rfl⟩ := inM (M := 2) (by omega) c2.1 c2.2
      have qj : (nI j).toNatClampNeg = j := nI_clamp (by omega)
      have ix : (3 : Int32) * nI j + nI n = nI (3 * j + n) := (congrArg (fun z => z + nI n) (ix_v j)).trans (i_add (3 * j) n)
      have q := nI_clamp (show 3 * j + n < 2 ^ 31 by omega)
      refine Same.of hR (nI (a (3 * j + n))) ((qX6_variety v _ _).trans ?_) ((qX7_variety v _ _).trans ?_)
      · refine (bI_eq (s_wT c1)).trans ((if_neg (by decide)).trans ((bI_eq (s_wT c2)).trans ((if_neg (by decide)).trans ?_)))
        refine (bN_eq (s_books g3 g1)).trans ((uX6_variety_14 v p _ _).trans ((qX6_variety_14 v p _ _).trans ?_))
        simp only [qj]
        refine (if_pos (mIn_nI (by omega) (by omega))).trans (bI_eq (v := v) (x := nI (a (3 * j + n))) ((qX5_property v p j _).trans ?_))
        rcases (show n = 0 ∨ n = 1 ∨ n = 2 by omega) with rfl | rfl | rfl
        · exact (if_pos rfl).trans (ans (hv _ (by omega)))
        · exact (if_neg (by decide)).trans ((if_pos rfl).trans (ans (hv _ (by omega))))
        · exact (if_neg (by decide)).trans ((if_neg (by decide)).trans (ans (hv _ (by omega))))
      · refine (bI_eq (m_inT c1)).trans ((if_neg (by decide)).trans ((bI_eq (m_inT c2)).trans ((if_neg (by decide)).trans ?_)))
        simp only [ix, q]
        exact (if_pos (mIn_nI (by omega) (by omega))).trans (ans (hu _ (by omega)))
    · exact Same.of hR (-1) ((qX6_variety v _ _).trans ((bI_eq (s_wT c1)).trans ((if_neg (by decide)).trans ((bI_eq (s_wF c2)).trans (if_pos rfl))))) ((qX7_variety v _ _).trans ((bI_eq (m_inT c1)).trans ((if_neg (by decide)).trans ((bI_eq (m_inF c2)).trans (if_pos rfl)))))
  · exact Same.of hR (-1) ((qX6_variety v _ _).trans ((bI_eq (s_wF c1)).trans (if_pos rfl))) ((qX7_variety v _ _).trans ((bI_eq (m_inF c1)).trans (if_pos rfl)))
theorem s_prop (hv : St 155 v i a) (hw : Wf B a) (hj : j < 6) {n : Nat} (hn : n ≤ 7) : fX4_property v [nm 12 i j, I (nI n)] = some (v, some (I (nI (if n = 7 then a (60 + 7 * j + 0) - a (60 + 7 * j + 1) - a (60 + 7 * j + 5) else a (60 + 7 * j + n))))) := by
  refine (qX4_property v i j _).trans ?_
  rcases (show n = 0 ∨ n = 1 ∨ n = 2 ∨ n = 3 ∨ n = 4 ∨ n = 5 ∨ n = 6 ∨ n = 7 by omega) with rfl | rfl | rfl | rfl | rfl | rfl | rfl | rfl
  · exact (if_pos rfl).trans (ans (hv _ (by omega)))
  · exact (if_neg (by decide)).trans ((if_pos rfl).trans (ans (hv _ (by omega))))
  · exact (if_neg (by decide)).trans ((if_neg (by decide)).trans ((if_pos rfl).trans (ans (hv _ (by omega)))))
  · exact (if_neg (by decide)).trans ((if_neg (by decide)).trans ((if_neg (by decide)).trans ((if_pos rfl).trans (ans (hv _ (by omega))))))
  · exact (if_neg (by decide)).trans ((if_neg (by decide)).trans ((if_neg (by decide)).trans ((if_neg (by decide)).trans ((if_pos rfl).trans (ans (hv _ (by omega)))))))
  · exact (if_neg (by decide)).trans ((if_neg (by decide)).trans ((if_neg (by decide)).trans ((if_neg (by decide)).trans ((if_neg (by decide)).trans ((if_pos rfl).trans (ans (hv _ (by omega))))))))
  · exact (if_neg (by decide)).trans ((if_neg (by decide)).trans ((if_neg (by decide)).trans ((if_neg (by decide)).trans ((if_neg (by decide)).trans ((if_neg (by decide)).trans ((if_pos rfl).trans (ans (hv _ (by omega)))))))))
  · exact (if_neg (by decide)).trans ((if_neg (by decide)).trans ((if_neg (by decide)).trans ((if_neg (by decide)).trans ((if_neg (by decide)).trans ((if_neg (by decide)).trans ((if_neg (by decide)).trans (bI_eq (s_left hv (by omega) (hw.2.2.2.1.2 j hj).1.2.1))))))))
theorem k_tank (h : Rel B v p c a) (x1 x2 : Int32) : Same B v (fX6_tank v [SH, I x1, I x2]) (fun w => fX7_tank w [MO, I x1, I x2]) := by
  have hR := h
  obtain ⟨g1, g2, g3, g4, g5, g6, hv, hu, hw, -⟩ := h
  have st : ∀ r, gX6_tank_2 v p x1 x2 = some (v, some (I r)) → fX7_tank v [MO, I x1, I x2] = some (v, some (I r)) → Same B v (fX6_tank v [SH, I x1, I x2]) (fun w => fX7_tank w [MO, I x1, I x2]) := fun r e e' => Same.of hR r ((qX6_tank v _ _).trans ((bN_eq (s_books g3 g1)).trans ((uX6_tank_2 v p _ _).trans e))) e'
  by_cases c1 : mIn x1 (a 59)
  · by_cases c2 : 0 ≤ x2 ∧ x2 ≤ 7
    · obtain ⟨j, hj, hj31, rfl⟩ := mIn_ex c1
      obtain ⟨n, hn, rfl⟩ := inM (M := 7) (by omega) c2.1 c2.2
      have h6 : a 59 ≤ 6 := hw.2.2.2.1.1
      have qj := nI_clamp hj31
      refine st (nI (if n = 7 then a (60 + 7 * j + 0) - a (60 + 7 * j + 1) - a (60 + 7 * j + 5) else a (60 + 7 * j + n))) ((qX6_tank_2 v p _ _).trans ?_) ((qX7_tank v _ _).trans ?_)
      · refine (bI_eq (s_tT hv hw c1)).trans ((if_neg (by decide)).trans ((bI_eq (s_wT c2)).trans ((if_neg (by decide)).trans ?_)))
        simp only [qj]
        exact (if_pos (mIn_nI (by omega) (by omega))).trans (bI_eq (s_prop hv hw (by omega) hn))
      · refine (bI_eq (m_tT hu hw c1)).trans ((if_neg (by decide)).trans ((bI_eq (m_inT c2)).trans ((if_neg (by decide)).trans ?_)))
        by_cases e : n = 7
        · rw [if_pos e]
          exact (if_pos (eqT (n := 7) rfl rfl e)).trans (bI_eq (m_left hu j (by omega) (hw.2.2.2.1.2 j (by omega)).1.2.1))
        · rw [if_neg e]
          exact (if_neg (eqF (n := 7) rfl rfl e (by omega) (by omega))).trans (bI_eq (m_of hu j n (by omega)))
    · exact st (-1) ((qX6_tank_2 v p _ _).trans ((bI_eq (s_tT hv hw c1)).trans ((if_neg (by decide)).trans ((bI_eq (s_wF c2)).trans (if_pos rfl))))) ((qX7_tank v _ _).trans ((bI_eq (m_tT hu hw c1)).trans ((if_neg (by decide)).trans ((bI_eq (m_inF c2)).trans (if_pos rfl)))))
  · exact st (-1) ((qX6_tank_2 v p _ _).trans ((bI_eq (s_tF hv hw c1)).trans (if_pos rfl))) ((qX7_tank v _ _).trans ((bI_eq (m_tF hu hw c1)).trans (if_pos rfl)))
end
