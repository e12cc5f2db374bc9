-- BOTTLES
section
variable {B : Nat} {v u : MM} {i : Nat} {a : Nat → Nat}
theorem m_jt {u : MM} {b : Nat → Nat} {f n w J S : Nat} (h : St 151 u 14 b) (hf : 60 + 7 * f + 6 < 151) (hw : w = 3 ∨ w = 6) (e1 : b (60 + 7 * f + w) = S) (hS : S * n < 2 ^ 31) (hJ : 0 < J) (hJ31 : J < 2 ^ 31) (hn : n ≤ J) (y2 y3 : Int32) : ∃ u', gX7_carries_9_2 u (nI w) y2 y3 (nI J) (nI f) (nI n) (-1) = gX7_carries_9_2 u' (nI w + 1) y2 (nI (S * n / J)) (nI J) (nI f) (nI n) (-1) ∧ St 151 u' 14 (au b (60 + 7 * f + w) (S - S * n / J)) ∧ Fr 14 u u' := by
  have q : nI S * nI n / nI J = nI (S * n / J) := i_md hS hJ hJ31
  have z : ¬ nI J = 0 := fun z => absurd ((i_eq (b := 0) hJ31 (by omega)).mp z) (by omega)
  have g := m_of h f w (by omega)
  rw [e1] at g
  have hw7 : w < 7 := by omega
  have h1 := h.adn (o := 60 + 7 * f + w) (n := S * n / J) (by omega) e1 (div_part hn)
  refine ⟨_, (qX7_carries_9_2 u _ _ _ _ _ _ _).trans ?_, h1, (Fr.up 14 _ u _)⟩
  refine (if_neg (by rcases hw with rfl | rfl <;> decide)).trans ?_
  refine (if_neg (by rcases hw with rfl | rfl <;> decide)).trans ?_
  refine (bI_eq g).trans ?_
  simp only [q]
  refine (if_neg z).trans ?_
  refine (if_neg (by rcases hw with rfl | rfl <;> decide)).trans ?_
  refine (bV_eq (m_adds _ f w (by omega) _)).trans ?_
  exact if_pos (by decide)
theorem m_jt4 {u : MM} {b : Nat → Nat} {f n J S : Nat} (h : St 151 u 14 b) (hf : 60 + 7 * f + 6 < 151) (e1 : b (60 + 7 * f + 4) = S) (hS : S * n < 2 ^ 31) (hJ : 0 < J) (hJ31 : J < 2 ^ 31) (hn : n ≤ J) (y2 y3 : Int32) : ∃ u', gX7_carries_9_2 u (nI 4) y2 y3 (nI J) (nI f) (nI n) (-1) = gX7_carries_9_2 u' (nI 4 + 1) (nI (S * n / J)) (nI (S * n / J)) (nI J) (nI f) (nI n) (-1) ∧ St 151 u' 14 (au b (60 + 7 * f + 4) (S - S * n / J)) ∧ Fr 14 u u' := by
  have q : nI S * nI n / nI J = nI (S * n / J) := i_md hS hJ hJ31
  have z : ¬ nI J = 0 := fun z => absurd ((i_eq (b := 0) hJ31 (by omega)).mp z) (by omega)
  have g := m_of h f 4 (by omega)
  rw [e1] at g
  have h1 := h.adn (o := 60 + 7 * f + 4) (n := S * n / J) (by omega) e1 (div_part hn)
  refine ⟨_, (qX7_carries_9_2 u _ _ _ _ _ _ _).trans ?_, h1, (Fr.up 14 _ u _)⟩
  refine (if_neg (by decide)).trans ?_
  refine (if_neg (by decide)).trans ?_
  refine (bI_eq g).trans ?_
  simp only [q]
  refine (if_neg z).trans ?_
  refine (if_pos (by decide)).trans ?_
  refine (bV_eq (m_adds _ f 4 (by omega) _)).trans ?_
  exact if_pos (by decide)
theorem m_jt2 {u : MM} {b : Nat → Nat} {f n J S : Nat} (h : St 151 u 14 b) (hf : 60 + 7 * f + 6 < 151) (e1 : b (60 + 7 * f + 2) = S) (hS : S * n < 2 ^ 31) (hJ : 0 < J) (hJ31 : J < 2 ^ 31) (hn : n ≤ J) (y2 : Int32) : ∃ u', gX7_carries_9 u (nI 2) y2 (nI J) (nI f) (nI n) (-1) = gX7_carries_9_2 u' (nI 2 + 1) y2 (nI (S * n / J)) (nI J) (nI f) (nI n) (-1) ∧ St 151 u' 14 (au b (60 + 7 * f + 2) (S - S * n / J)) ∧ Fr 14 u u' := by
  have q : nI S * nI n / nI J = nI (S * n / J) := i_md hS hJ hJ31
  have z : ¬ nI J = 0 := fun z => absurd ((i_eq (b := 0) hJ31 (by omega)).mp z) (by omega)
  have g := m_of h f 2 (by omega)
  rw [e1] at g
  have h1 := h.adn (o := 60 + 7 * f + 2) (n := S * n / J) (by omega) e1 (div_part hn)
  refine ⟨_, (qX7_carries_9 u _ _ _ _ _ _).trans ?_, h1, (Fr.up 14 _ u _)⟩
  refine (if_neg (by decide)).trans ?_
  refine (if_neg (by decide)).trans ?_
  refine (bI_eq g).trans ?_
  simp only [q]
  refine (if_neg z).trans ?_
  refine (if_neg (by decide)).trans ?_
  refine (bV_eq (m_adds _ f 2 (by omega) _)).trans ?_
  exact if_pos (by decide)
theorem m_jt5 {u : MM} {b : Nat → Nat} {f n J : Nat} (h : St 151 u 14 b) (hf : 60 + 7 * f + 6 < 151) (y2 y3 : Int32) : ∃ u', gX7_carries_9_2 u (nI 5) y2 y3 (nI J) (nI f) (nI n) (-1) = gX7_carries_9_2 u' (nI 5 + 1) y2 0 (nI J) (nI f) (nI n) (-1) ∧ St 151 u' 14 b ∧ Fr 14 u u' := by
  have h1 := h.adn (o := 60 + 7 * f + 5) (n := 0) (by omega) rfl (Nat.zero_le _)
  have h1 := h1.cong (b := b) (fun k _ => au_same rfl k)
  refine ⟨_, (qX7_carries_9_2 u _ _ _ _ _ _ _).trans ?_, h1, (Fr.up 14 _ u _)⟩
  refine (if_neg (by decide)).trans ?_
  refine (if_pos (by decide)).trans ?_
  refine (if_neg (by decide)).trans ?_
  refine (bV_eq (m_adds _ f 5 (by omega) _)).trans ?_
  exact if_pos (by decide)
theorem m_carry0 {f n : Nat} (h : St 151 u 14 a) (hf : 60 + 7 * f + 6 < 151) (hS : ∀ k, k < 7 → a (60 + 7 * f + k) * n < 2 ^ 31) (hJ : 0 < a (60 + 7 * f + 1)) (hJ31 : a (60 + 7 * f + 1) < 2 ^ 31) (hn : n ≤ a (60 + 7 * f + 1)) : ∃ u', fX7_carries u [MO, I (nI f), I (nI n), I (-1)] = some (u', some (I (nI (pt a f 4 n)))) ∧ St 151 u' 14 (aDrop a f n) ∧ Fr 14 u u' := by
  obtain ⟨u2, e2, h2, f2⟩ := m_jt2 h hf rfl (hS 2 (by omega)) hJ hJ31 hn 0
  obtain ⟨u3, e3, h3, f3⟩ := m_jt (w := 3) (S := a (60 + 7 * f + 3)) h2 hf (Or.inl rfl) (by simp only [au]; (repeat' split) <;> first | rfl | omega) (hS 3 (by omega)) hJ hJ31 hn 0 (nI (pt a f 2 n))
  obtain ⟨u4, e4, h4, f4⟩ := m_jt4 (S := a (60 + 7 * f + 4)) h3 hf (by simp only [au]; (repeat' split) <;> first | rfl | omega) (hS 4 (by omega)) hJ hJ31 hn 0 (nI (pt a f 3 n))
  obtain ⟨u5, e5, h5, f5⟩ := m_jt5 (n := n) (J := a (60 + 7 * f + 1)) h4 hf (nI (pt a f 4 n)) (nI (pt a f 4 n))
  obtain ⟨u6, e6, h6, f6⟩ := m_jt (w := 6) (S := a (60 + 7 * f + 6)) h5 hf (Or.inr rfl) (by simp only [au]; (repeat' split) <;> first | rfl | omega) (hS 6 (by omega)) hJ hJ31 hn (nI (pt a f 4 n)) 0
  have h7 := h6.adn (o := 60 + 7 * f + 1) (m := a (60 + 7 * f + 1)) (n := n) (by omega) (by simp only [au]; (repeat' split) <;> first | rfl | omega) hn
  refine ⟨_, (qX7_carries u _ _ _).trans ?_, h7, ((((f2.tr f3).tr f4).tr f5).tr f6).tr (Fr.up 14 _ _ _)⟩
  refine (bI_eq (m_of h f 1 (by omega))).trans ?_
  refine e2.trans (e3.trans (e4.trans (e5.trans (e6.trans ?_))))
  refine (qX7_carries_9_2 _ _ _ _ _ _ _ _).trans ?_
  refine (if_pos (by decide)).trans ?_
  refine (bV_eq (m_adds _ f 1 (by omega) _)).trans ?_
  exact if_pos (by decide)
theorem ix_o (j k : Nat) : ((111 : Int32) + (10 : Int32) * nI j) + nI k = nI (111 + 10 * j + k) := by
  rw [show (111 : Int32) = nI 111 from rfl, show (10 : Int32) = nI 10 from rfl, pk_mul, i_add, i_add]
theorem m_bot4 (hu : St 151 u 14 a) {j : Nat} (hj : j < 4) : ∀ d, d ≤ 10 → gX7_bottled_4 u (nI (10 - d)) (nI (sm (fun k => a (111 + 10 * j + k)) (10 - d))) (nI j) = some (u, some (I (nI (sm (fun k => a (111 + 10 * j + k)) 10))))
  | 0, _ => (qX7_bottled_4 u _ _ _).trans (if_neg (by decide))
  | d + 1, h => by
    have ih := m_bot4 hu hj d (by omega)
    obtain ⟨k, hk⟩ : ∃ k, k = 10 - (d + 1) := ⟨_, rfl⟩
    have hk1 : 10 - d = k + 1 := by omega
    rw [hk1] at ih
    rw [← hk]
    refine (qX7_bottled_4 u _ _ _).trans ?_
    refine (if_pos (ltT (n := 10) rfl rfl (by omega) (by omega))).trans ?_
    rw [ix_o]
    refine (if_pos (mIn_nI (by omega) (by omega))).trans ?_
    rw [nI_clamp (by omega), hu _ (by omega), i_add, show nI k + (1 : Int32) = nI (k + 1) from i_add k 1]
    exact ih
theorem m_bottled (hu : St 151 u 14 a) {j : Nat} (hj : j < 4) : fX7_bottled u [MO, I (nI j)] = some (u, some (I (nI (sm (fun k => a (111 + 10 * j + k)) 10)))) := (qX7_bottled u _).trans (m_bot4 hu hj 10 (Nat.le_refl _))
theorem s_addB (hv : St 155 v i a) {j s c : Nat} (hj : j < 4) (hs : 1 ≤ s ∧ s ≤ 10) : ∃ v', fX1_addBottles v [nm 9 i j, I (nI s), I (nI c)] = some (v', none) ∧ St 155 v' i (au (au a (110 + 10 * j + s) (a (110 + 10 * j + s) + c)) (151 + j) (a (151 + j) + c)) ∧ Fr i v v' := by
  have h1 := hv.add (o := 110 + 10 * j + s) c (by omega) rfl
  have h2 := h1.add (o := 151 + j) (m := a (151 + j)) c (by omega) (au_n (by omega))
  refine ⟨_, (qX1_addBottles v i j _ _).trans ?_, h2, (Fr.up i _ v _).tr (Fr.up i _ _ _)⟩
  refine (bI_eq (s_wT ⟨(i_le (a := 1) (by omega) (by omega)).mpr hs.1, (i_le (b := 10) (by omega) (by omega)).mpr hs.2⟩)).trans ((if_neg (by decide)).trans ?_)
  refine (if_pos (mIn_nI (by omega) (by omega))).trans ?_
  refine (if_pos (mIn_nI (by omega) (by omega))).trans ?_
  refine (if_pos (by decide)).trans ?_
  refine (if_pos (by decide)).trans ?_
  rw [show (if (0 : Int32).toNatClampNeg = 0 then 151 + j else 110 + 10 * j + (0 : Int32).toNatClampNeg) = 151 + j from rfl, nI_clamp (show s < 2 ^ 31 by omega), if_neg (show ¬ s = 0 by omega)]
end
