-- GETTERS: account
section
variable {B p c : Nat} {a : Nat → Nat} {v u : MM} {i j : Nat}
theorem s_apples (hv : St 155 v i a) : ∀ d k, d + k = 8 → gX0_applesInLots_4 v i (nI k) (nI (sm (lot a) k)) = some (v, some (I (nI (sm (lot a) 8))))
  | 0, k, e => by
    have ek : k = 8 := by omega
    subst ek
    exact (qX0_applesInLots_4 v i _ _).trans (if_neg (by decide))
  | d + 1, k, e => by
    refine (qX0_applesInLots_4 v i _ _).trans ((if_pos (ltT (n := 8) rfl rfl (by omega) (by omega))).trans ((if_pos (mIn_nI (by omega) (by omega))).trans ?_))
    have q := nI_clamp (show k < 2 ^ 31 by omega)
    have kk : v.1 i (43 + 2 * k + 1) = nI (lot a k) := hv _ (by omega)
    simp only [q, kk, i_add]
    exact (congrArg (fun z => gX0_applesInLots_4 v i z (nI (sm (lot a) (k + 1)))) (i_add k 1)).trans (s_apples hv d (k + 1) (by omega))
theorem s_juiceInTanks (hv : St 155 v i a) : ∀ d k, d + k = 6 → gX0_juiceInTanks_4 v i (nI k) (nI (sm (fun j => a (60 + 7 * j + 1)) k)) = some (v, some (I (nI (sm (fun j => a (60 + 7 * j + 1)) 6))))
  | 0, k, e => by
    have ek : k = 6 := by omega
    subst ek
    exact (qX0_juiceInTanks_4 v i _ _).trans (if_neg (by decide))
  | d + 1, k, e => by
    refine (qX0_juiceInTanks_4 v i _ _).trans ((if_pos (ltT (n := 6) rfl rfl (by omega) (by omega))).trans ((if_pos (mIn_nI (by omega) (by omega))).trans ?_))
    have q := nI_clamp (show k < 2 ^ 31 by omega)
    have kk := hv (60 + 7 * k + 1) (by omega)
    simp only [q, kk, i_add]
    exact (congrArg (fun z => gX0_juiceInTanks_4 v i z (nI (sm (fun j => a (60 + 7 * j + 1)) (k + 1)))) (i_add k 1)).trans (s_juiceInTanks hv d (k + 1) (by omega))
theorem s_leesInTanks (hv : St 155 v i a) : ∀ d k, d + k = 6 → gX0_leesInTanks_4 v i (nI k) (nI (sm (fun j => a (60 + 7 * j + 5)) k)) = some (v, some (I (nI (sm (fun j => a (60 + 7 * j + 5)) 6))))
  | 0, k, e => by
    have ek : k = 6 := by omega
    subst ek
    exact (qX0_leesInTanks_4 v i _ _).trans (if_neg (by decide))
  | d + 1, k, e => by
    refine (qX0_leesInTanks_4 v i _ _).trans ((if_pos (ltT (n := 6) rfl rfl (by omega) (by omega))).trans ((if_pos (mIn_nI (by omega) (by omega))).trans ?_))
    have q := nI_clamp (show k < 2 ^ 31 by omega)
    have kk := hv (60 + 7 * k + 5) (by omega)
    simp only [q, kk, i_add]
    exact (congrArg (fun z => gX0_leesInTanks_4 v i z (nI (sm (fun j => a (60 + 7 * j + 5)) (k + 1)))) (i_add k 1)).trans (s_leesInTanks hv d (k + 1) (by omega))
theorem m_acc {y3 : Int32} {G : Nat → Nat} (hs : ∀ k, k < 8 → ∀ y2, gX7_account_32 u (nI k) y2 y3 = gX7_account_32 u (nI k + 1) (y2 + nI (G k)) y3) : ∀ d k, d + k = 8 → gX7_account_32 u (nI k) (nI (sm G k)) y3 = some (u, some (I (nI (sm G 8))))
  | 0, k, e => by
    have ek : k = 8 := by omega
    subst ek
    exact (qX7_account_32 u _ _ _).trans (if_neg (by decide))
  | d + 1, k, e => by
    refine (hs k (by omega) _).trans ?_
    rw [i_add, show nI k + (1 : Int32) = nI (k + 1) from i_add k 1]
    exact m_acc hs d (k + 1) (by omega)
theorem m_acc7 (hu : St 151 u 14 a) (hw : Wf B a) {k : Nat} (hk : k < 8) (y2 : Int32) : gX7_account_32 u (nI k) y2 (nI 7) = gX7_account_32 u (nI k + 1) (y2 + nI (lot a k)) (nI 7) := by
  have h8 := hw.2.2.1.1
  have u42 : u.1 14 ((42 : Int32).toNatClampNeg) = nI (a 42) := hu 42 (by omega)
  refine (qX7_account_32 u _ _ _).trans ((if_pos (ltT (n := 8) rfl rfl hk (by omega))).trans ((if_pos rfl).trans ((if_pos (by decide)).trans ?_)))
  by_cases c : k < a 42
  · refine (if_pos (ltT rfl u42 c (by omega))).trans ?_
    have q := nI_clamp (show 43 + 2 * k + 1 < 2 ^ 31 by omega)
    simp only [ix_l, ix_l1, q]
    refine (if_pos (mIn_nI (by omega) (by omega))).trans ?_
    rw [hu (43 + 2 * k + 1) (by omega)]
    rfl
  · refine (if_neg (ltF rfl u42 (Nat.not_lt.mp c) (by omega))).trans ((if_neg (by decide)).trans ?_)
    rw [((hw.2.2.1.2 k hk).2.2 (Nat.not_lt.mp c)).2]
    rfl
theorem m_acc9 (hu : St 151 u 14 a) (hw : Wf B a) {k : Nat} (hk : k < 8) (y2 : Int32) : gX7_account_32 u (nI k) y2 (nI 9) = gX7_account_32 u (nI k + 1) (y2 + nI (if k < a 59 then a (60 + 7 * k + 1) else 0)) (nI 9) := by
  have h6 := hw.2.2.2.1.1
  have u59 : u.1 14 ((59 : Int32).toNatClampNeg) = nI (a 59) := hu 59 (by omega)
  refine (qX7_account_32 u _ _ _).trans ((if_pos (ltT (n := 8) rfl rfl hk (by omega))).trans ((if_neg (by decide)).trans ((if_pos (by decide)).trans ((if_pos (by decide)).trans ?_))))
  by_cases c : k < a 59
  · rw [if_pos c]
    exact (if_pos (ltT rfl u59 c (by omega))).trans ((if_pos rfl).trans (bI_eq (m_of hu k 1 (by omega))))
  · rw [if_neg c]
    exact if_neg (ltF rfl u59 (Nat.not_lt.mp c) (by omega))
theorem sm_acc9 (hw : Wf B a) : sm (fun k => if k < a 59 then a (60 + 7 * k + 1) else 0) 8 = sm (fun j => a (60 + 7 * j + 1)) 6 := by
  have h6 := hw.2.2.2.1.1
  have e : sm (fun k => if k < a 59 then a (60 + 7 * k + 1) else 0) 6 = sm (fun j => a (60 + 7 * j + 1)) 6 := sm_cg (fun j hj => by
    show (if j < a 59 then a (60 + 7 * j + 1) else 0) = a (60 + 7 * j + 1)
    by_cases c : j < a 59
    · exact if_pos c
    · rw [if_neg c]
      exact ((hw.2.2.2.1.2 j hj).2 (Nat.not_lt.mp c) 1 (by omega)).symm)
  show sm (fun k => if k < a 59 then a (60 + 7 * k + 1) else 0) 6 + (if 6 < a 59 then a (60 + 7 * 6 + 1) else 0) + (if 7 < a 59 then a (60 + 7 * 7 + 1) else 0) = _
  rw [if_neg (by omega), if_neg (by omega), e]
  rfl
theorem m_acc10 (hu : St 151 u 14 a) (hw : Wf B a) {k : Nat} (hk : k < 8) (y2 : Int32) : gX7_account_32 u (nI k) y2 (nI 10) = gX7_account_32 u (nI k + 1) (y2 + nI (if k < a 59 then a (60 + 7 * k + 5) else 0)) (nI 10) := by
  have h6 := hw.2.2.2.1.1
  have u59 : u.1 14 ((59 : Int32).toNatClampNeg) = nI (a 59) := hu 59 (by omega)
  refine (qX7_account_32 u _ _ _).trans ((if_pos (ltT (n := 8) rfl rfl hk (by omega))).trans ((if_neg (by decide)).trans ((if_pos (by decide)).trans ((if_pos (by decide)).trans ?_))))
  by_cases c : k < a 59
  · rw [if_pos c]
    exact (if_pos (ltT rfl u59 c (by omega))).trans ((if_neg (by decide)).trans (bI_eq (m_of hu k 5 (by omega))))
  · rw [if_neg c]
    exact if_neg (ltF rfl u59 (Nat.not_lt.mp c) (by omega))
theorem sm_acc10 (hw : Wf B a) : sm (fun k => if k < a 59 then a (60 + 7 * k + 5) else 0) 8 = sm (fun j => a (60 + 7 * j + 5)) 6 := by
  have h6 := hw.2.2.2.1.1
  have e : sm (fun k => if k < a 59 then a (60 + 7 * k + 5) else 0) 6 = sm (fun j => a (60 + 7 * j + 5)) 6 := sm_cg (fun j hj => by
    show (if j < a 59 then a (60 + 7 * j + 5) else 0) = a (60 + 7 * j + 5)
    by_cases c : j < a 59
    · exact if_pos c
    · rw [if_neg c]
      exact ((hw.2.2.2.1.2 j hj).2 (Nat.not_lt.mp c) 5 (by omega)).symm)
  show sm (fun k => if k < a 59 then a (60 + 7 * k + 5) else 0) 6 + (if 6 < a 59 then a (60 + 7 * 6 + 5) else 0) + (if 7 < a 59 then a (60 + 7 * 7 + 5) else 0) = _
  rw [if_neg (by omega), if_neg (by omega), e]
  rfl
theorem k_account (h : Rel B v p c a) (x1 : Int32) : Same B v (fX6_account v [SH, I x1]) (fun w => fX7_account w [MO, I x1]) := by
  have hR := h
  obtain ⟨g1, g2, g3, g4, g5, g6, hv, hu, hw, -⟩ := h
  have st : ∀ r, fX0_sumOf v [nm 2 p 0, I x1] = some (v, some (I r)) → fX7_account v [MO, I x1] = some (v, some (I r)) → Same B v (fX6_account v [SH, I x1]) (fun w => fX7_account w [MO, I x1]) := fun r e e' => Same.of hR r ((qX6_account v _).trans ((bN_eq (s_books g3 g1)).trans ((uX6_account_2 v p _).trans ((qX6_account_2 v p _).trans (bI_eq e))))) e'
  by_cases c1 : 0 ≤ x1 ∧ x1 ≤ 10
  · obtain ⟨n, hn, rfl⟩ := inM (M := 10) (by omega) c1.1 c1.2
    by_cases c2 : n < 7
    · have q := nI_clamp (show n < 2 ^ 31 by omega)
      have q2 := nI_clamp (show 104 + n < 2 ^ 31 by omega)
      have ix : (104 : Int32) + nI n = nI (104 + n) := i_add 104 n
      refine st (nI (a (104 + n))) ((qX0_sumOf v p _).trans ?_) ((qX7_account v _).trans ?_)
      · refine (bI_eq (s_wT ⟨(i_le (a := 0) (by omega) (by omega)).mpr (by omega), (i_le (b := 6) (by omega) (by omega)).mpr (by omega)⟩)).trans ((if_neg (by decide)).trans ?_)
        simp only [q]
        exact (if_pos (mIn_nI (by omega) (by omega))).trans (ans (hv _ (by omega)))
      · refine (bI_eq (m_inT c1)).trans ((if_neg (by decide)).trans ((if_pos (ltT (n := 7) rfl rfl c2 (by omega))).trans ((if_neg (eqF (n := 8) rfl rfl (by omega) (by omega) (by omega))).trans ?_)))
        simp only [ix, q2]
        exact (if_pos (mIn_nI (by omega) (by omega))).trans (ans (hu _ (by omega)))
    · have w6 : ¬ ((0 : Int32) ≤ nI n ∧ nI n ≤ 6) := fun z => by
        have := (i_le (b := 6) (by omega) (by omega)).mp z.2
        omega
      have l7 : ¬ nI n < 7 := ltF (n := 7) rfl rfl (by omega) (by omega)
      rcases (show n = 7 ∨ n = 8 ∨ n = 9 ∨ n = 10 by omega) with rfl | rfl | rfl | rfl
      · refine st (nI (sm (lot a) 8)) ((qX0_sumOf v p _).trans ((bI_eq (s_wF w6)).trans ((if_pos rfl).trans ((if_pos rfl).trans (bI_eq ((qX0_applesInLots v p).trans (s_apples hv 8 0 rfl))))))) ((qX7_account v _).trans ?_)
        exact (bI_eq (m_inT c1)).trans ((if_neg (by decide)).trans ((if_neg l7).trans ((if_neg (by decide)).trans (m_acc (fun k hk y2 => m_acc7 hu hw hk y2) 8 0 rfl))))
      · refine st (nI (a 102)) ((qX0_sumOf v p _).trans ((bI_eq (s_wF w6)).trans ((if_pos rfl).trans ((if_neg (by decide)).trans ((if_pos rfl).trans (ans (hv _ (by omega)))))))) ((qX7_account v _).trans ?_)
        exact (bI_eq (m_inT c1)).trans ((if_neg (by decide)).trans ((if_neg l7).trans ((if_pos rfl).trans ((if_pos rfl).trans ((if_pos (by decide)).trans (ans (hu 102 (by omega))))))))
      · refine st (nI (sm (fun j => a (60 + 7 * j + 1)) 6)) ((qX0_sumOf v p _).trans ((bI_eq (s_wF w6)).trans ((if_pos rfl).trans ((if_neg (by decide)).trans ((if_neg (by decide)).trans ((if_pos rfl).trans (bI_eq ((qX0_juiceInTanks v p).trans (s_juiceInTanks hv 6 0 rfl))))))))) ((qX7_account v _).trans ?_)
        rw [← sm_acc9 hw]
        exact (bI_eq (m_inT c1)).trans ((if_neg (by decide)).trans ((if_neg l7).trans ((if_neg (by decide)).trans (m_acc (fun k hk y2 => m_acc9 hu hw hk y2) 8 0 rfl))))
      · refine st (nI (sm (fun j => a (60 + 7 * j + 5)) 6)) ((qX0_sumOf v p _).trans ((bI_eq (s_wF w6)).trans ((if_pos rfl).trans ((if_neg (by decide)).trans ((if_neg (by decide)).trans ((if_neg (by decide)).trans ((if_pos rfl).trans (bI_eq ((qX0_leesInTanks v p).trans (s_leesInTanks hv 6 0 rfl)))))))))) ((qX7_account v _).trans ?_)
        rw [← sm_acc10 hw]
        exact (bI_eq (m_inT c1)).trans ((if_neg (by decide)).trans ((if_neg l7).trans ((if_neg (by decide)).trans (m_acc (fun k hk y2 => m_acc10 hu hw hk y2) 8 0 rfl))))
  · have no : ∀ y : Int32, 0 ≤ y → y ≤ 10 → x1 ≠ y := fun y a1 a2 z => c1 (z ▸ ⟨a1, a2⟩)
    have w6 : ¬ ((0 : Int32) ≤ x1 ∧ x1 ≤ 6) := fun z => c1 ⟨z.1, Int32.le_trans z.2 (by decide)⟩
    exact st (-1) ((qX0_sumOf v p _).trans ((bI_eq (s_wF w6)).trans ((if_pos rfl).trans ((if_neg (no 7 (by decide) (by decide))).trans ((if_neg (no 8 (by decide) (by decide))).trans ((if_neg (no 9 (by decide) (by decide))).trans (if_neg (no 10 (by decide) (by decide))))))))) ((qX7_account v _).trans ((bI_eq (m_inF c1)).trans (if_pos rfl)))
end
