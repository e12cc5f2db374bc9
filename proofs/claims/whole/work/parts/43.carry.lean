-- THE MODEL CARRIES JUICE
theorem i_addneg (x y : Int32) : x + -y = x - y := (Int32.sub_eq_add_neg x y).symm
theorem au_cg {a B : Nat → Nat} {o x k : Nat} (h2 : k ≠ o → a k = B k) (h1 : x = B o) : au a o x k = B k := by
  show (if k = o then x else a k) = B k
  by_cases c : k = o
  · rw [if_pos c, h1, c]
  · rw [if_neg c, h2 c]
theorem au_same {a : Nat → Nat} {o x : Nat} (e : x = a o) (k : Nat) : au a o x k = a k := by
  show (if k = o then x else a k) = a k
  by_cases c : k = o
  · rw [if_pos c, e, c]
  · rw [if_neg c]
theorem St.adn {N : Nat} {v : MM} {r o m n : Nat} {a : Nat → Nat} (h : St N v r a) (ho : o < N) (e : a o = m) (hn : n ≤ m) : St N (mUp v (r, o) (v.1 r o + -nI n)) r (au a o (m - n)) := by
  rw [i_addneg]
  exact h.sub ho e hn
def aLand (a : Nat → Nat) (f n t : Nat) : Nat → Nat := au (aFill a t n (pt a f 2 n) (pt a f 3 n) (pt a f 4 n)) (60 + 7 * t + 6) (a (60 + 7 * t + 6) + pt a f 6 n)
theorem aLand_f {a : Nat → Nat} {f n t : Nat} (ne : f ≠ t) : ∀ k, k < 7 → aLand a f n t (60 + 7 * f + k) = a (60 + 7 * f + k) := by
  intro k hk
  unfold aLand aFill
  exact by simp only [au]; (repeat' split) <;> first | rfl | omega
theorem aGive_eq {a : Nat → Nat} {f n t : Nat} (ne : f ≠ t) : aGive a f n t = au (au (au (au (au (aLand a f n t) (60 + 7 * f + 2) (a (60 + 7 * f + 2) - pt a f 2 n)) (60 + 7 * f + 3) (a (60 + 7 * f + 3) - pt a f 3 n)) (60 + 7 * f + 4) (a (60 + 7 * f + 4) - pt a f 4 n)) (60 + 7 * f + 6) (a (60 + 7 * f + 6) - pt a f 6 n)) (60 + 7 * f + 1) (a (60 + 7 * f + 1) - n) := by
  have k := aLand_f (a := a) (n := n) ne
  have e : ∀ q, q < 7 → pt (aLand a f n t) f q n = pt a f q n := by
    intro q hq
    unfold pt
    rw [k q hq, k 1 (by omega)]
  show aDrop (aLand a f n t) f n = _
  unfold aDrop
  rw [e 2 (by omega), e 3 (by omega), e 4 (by omega), e 6 (by omega), k 1 (by omega), k 2 (by omega), k 3 (by omega), k 4 (by omega), k 6 (by omega)]
theorem m_it {u : MM} {b : Nat → Nat} {f n t w J S : Nat} (h : St 151 u 14 b) (hf : 60 + 7 * f + 6 < 151) (ht : 60 + 7 * t + 6 < 151) (ne : f ≠ t) (hw : w = 3 ∨ w = 6) (e1 : b (60 + 7 * f + w) = S) {T : Nat} (e2 : b (60 + 7 * t + w) = T) (hS : S * n < 2 ^ 31) (hJ : 0 < J) (hJ31 : J < 2 ^ 31) (hn : n ≤ J) (y2 y3 : Int32) : ∃ u', gX7_carries_9_2 u (nI w) y2 y3 (nI J) (nI f) (nI n) (nI t) = gX7_carries_9_2 u' (nI w + 1) y2 (nI (S * n / J)) (nI J) (nI f) (nI n) (nI t) ∧ St 151 u' 14 (au (au b (60 + 7 * f + w) (S - S * n / J)) (60 + 7 * t + w) (T + S * n / J)) ∧ Fr 14 u u' := by
  have q : nI S * nI n / nI J = nI (S * n / J) := i_md hS hJ hJ31
  have z : ¬ nI J = 0 := fun z => absurd ((i_eq (b := 0) hJ31 (by omega)).mp z) (by omega)
  have zt : ¬ nI t < 0 := fun z => absurd ((i_lt (b := 0) (by omega) (by omega)).mp z) (by omega)
  have g := m_of h f w (by omega)
  rw [e1] at g
  have hw7 : w < 7 := by omega
  have h1 := h.adn (o := 60 + 7 * f + w) (n := S * n / J) (by omega) e1 (div_part hn)
  have h2 := h1.add (o := 60 + 7 * t + w) (m := T) (S * n / J) (by omega) (by rw [← e2]; exact by simp only [au]; (repeat' split) <;> first | rfl | omega)
  refine ⟨_, (qX7_carries_9_2 u _ _ _ _ _ _ _).trans ?_, h2, (Fr.up 14 _ u _).tr (Fr.up 14 _ _ _)⟩
  refine (if_neg (by rcases hw with rfl | rfl <;> decide)).trans ?_
  refine (if_neg (by rcases hw with rfl | rfl <;> decide)).trans ?_
  refine (bI_eq g).trans ?_
  simp only [q]
  refine (if_neg z).trans ?_
  refine (if_neg (by rcases hw with rfl | rfl <;> decide)).trans ?_
  refine (bV_eq (m_adds _ f w (by omega) _)).trans ?_
  refine (if_neg zt).trans ?_
  exact bV_eq (m_adds _ t w (by omega) _)
theorem m_it4 {u : MM} {b : Nat → Nat} {f n t J S : Nat} (h : St 151 u 14 b) (hf : 60 + 7 * f + 6 < 151) (ht : 60 + 7 * t + 6 < 151) (ne : f ≠ t) (e1 : b (60 + 7 * f + 4) = S) {T : Nat} (e2 : b (60 + 7 * t + 4) = T) (hS : S * n < 2 ^ 31) (hJ : 0 < J) (hJ31 : J < 2 ^ 31) (hn : n ≤ J) (y2 y3 : Int32) : ∃ u', gX7_carries_9_2 u (nI 4) y2 y3 (nI J) (nI f) (nI n) (nI t) = gX7_carries_9_2 u' (nI 4 + 1) (nI (S * n / J)) (nI (S * n / J)) (nI J) (nI f) (nI n) (nI t) ∧ St 151 u' 14 (au (au b (60 + 7 * f + 4) (S - S * n / J)) (60 + 7 * t + 4) (T + S * n / J)) ∧ Fr 14 u u' := by
  have q : nI S * nI n / nI J = nI (S * n / J) := i_md hS hJ hJ31
  have z : ¬ nI J = 0 := fun z => absurd ((i_eq (b := 0) hJ31 (by omega)).mp z) (by omega)
  have zt : ¬ nI t < 0 := fun z => absurd ((i_lt (b := 0) (by omega) (by omega)).mp z) (by omega)
  have g := m_of h f 4 (by omega)
  rw [e1] at g
  have h1 := h.adn (o := 60 + 7 * f + 4) (n := S * n / J) (by omega) e1 (div_part hn)
  have h2 := h1.add (o := 60 + 7 * t + 4) (m := T) (S * n / J) (by omega) (by rw [← e2]; exact by simp only [au]; (repeat' split) <;> first | rfl | omega)
  refine ⟨_, (qX7_carries_9_2 u _ _ _ _ _ _ _).trans ?_, h2, (Fr.up 14 _ u _).tr (Fr.up 14 _ _ _)⟩
  refine (if_neg (by decide)).trans ?_
  refine (if_neg (by decide)).trans ?_
  refine (bI_eq g).trans ?_
  simp only [q]
  refine (if_neg z).trans ?_
  refine (if_pos (by decide)).trans ?_
  refine (bV_eq (m_adds _ f 4 (by omega) _)).trans ?_
  refine (if_neg zt).trans ?_
  exact bV_eq (m_adds _ t 4 (by omega) _)
theorem m_it2 {u : MM} {b : Nat → Nat} {f n t J S : Nat} (h : St 151 u 14 b) (hf : 60 + 7 * f + 6 < 151) (ht : 60 + 7 * t + 6 < 151) (ne : f ≠ t) (e1 : b (60 + 7 * f + 2) = S) {T : Nat} (e2 : b (60 + 7 * t + 2) = T) (hS : S * n < 2 ^ 31) (hJ : 0 < J) (hJ31 : J < 2 ^ 31) (hn : n ≤ J) (y2 : Int32) : ∃ u', gX7_carries_9 u (nI 2) y2 (nI J) (nI f) (nI n) (nI t) = gX7_carries_9_2 u' (nI 2 + 1) y2 (nI (S * n / J)) (nI J) (nI f) (nI n) (nI t) ∧ St 151 u' 14 (au (au b (60 + 7 * f + 2) (S - S * n / J)) (60 + 7 * t + 2) (T + S * n / J)) ∧ Fr 14 u u' := by
  have q : nI S * nI n / nI J = nI (S * n / J) := i_md hS hJ hJ31
  have z : ¬ nI J = 0 := fun z => absurd ((i_eq (b := 0) hJ31 (by omega)).mp z) (by omega)
  have zt : ¬ nI t < 0 := fun z => absurd ((i_lt (b := 0) (by omega) (by omega)).mp z) (by omega)
  have g := m_of h f 2 (by omega)
  rw [e1] at g
  have h1 := h.adn (o := 60 + 7 * f + 2) (n := S * n / J) (by omega) e1 (div_part hn)
  have h2 := h1.add (o := 60 + 7 * t + 2) (m := T) (S * n / J) (by omega) (by rw [← e2]; exact by simp only [au]; (repeat' split) <;> first | rfl | omega)
  refine ⟨_, (qX7_carries_9 u _ _ _ _ _ _).trans ?_, h2, (Fr.up 14 _ u _).tr (Fr.up 14 _ _ _)⟩
  refine (if_neg (by decide)).trans ?_
  refine (if_neg (by decide)).trans ?_
  refine (bI_eq g).trans ?_
  simp only [q]
  refine (if_neg z).trans ?_
  refine (if_neg (by decide)).trans ?_
  refine (bV_eq (m_adds _ f 2 (by omega) _)).trans ?_
  refine (if_neg zt).trans ?_
  exact bV_eq (m_adds _ t 2 (by omega) _)
theorem m_it5 {u : MM} {b : Nat → Nat} {f n t J : Nat} (h : St 151 u 14 b) (hf : 60 + 7 * f + 6 < 151) (ht : 60 + 7 * t + 6 < 151) (y2 y3 : Int32) : ∃ u', gX7_carries_9_2 u (nI 5) y2 y3 (nI J) (nI f) (nI n) (nI t) = gX7_carries_9_2 u' (nI 5 + 1) y2 0 (nI J) (nI f) (nI n) (nI t) ∧ St 151 u' 14 b ∧ Fr 14 u u' := by
  have zt : ¬ nI t < 0 := fun z => absurd ((i_lt (b := 0) (by omega) (by omega)).mp z) (by omega)
  have h1 := h.adn (o := 60 + 7 * f + 5) (n := 0) (by omega) rfl (Nat.zero_le _)
  have h1 := h1.cong (b := b) (fun k _ => au_same rfl k)
  have h2 := h1.add (o := 60 + 7 * t + 5) 0 (by omega) rfl
  have h2 := h2.cong (b := b) (fun k _ => au_same rfl k)
  refine ⟨_, (qX7_carries_9_2 u _ _ _ _ _ _ _).trans ?_, h2, (Fr.up 14 _ u _).tr (Fr.up 14 _ _ _)⟩
  refine (if_neg (by decide)).trans ?_
  refine (if_pos (by decide)).trans ?_
  refine (if_neg (by decide)).trans ?_
  refine (bV_eq (m_adds _ f 5 (by omega) _)).trans ?_
  refine (if_neg zt).trans ?_
  exact bV_eq (m_adds _ t 5 (by omega) _)
theorem m_carry {u : MM} {a : Nat → Nat} {f n t : Nat} (h : St 151 u 14 a) (hf : 60 + 7 * f + 6 < 151) (ht : 60 + 7 * t + 6 < 151) (ne : f ≠ t) (hS : ∀ k, k < 7 → a (60 + 7 * f + k) * n < 2 ^ 31) (hJ : 0 < a (60 + 7 * f + 1)) (hJ31 : a (60 + 7 * f + 1) < 2 ^ 31) (hn : n ≤ a (60 + 7 * f + 1)) : ∃ u', fX7_carries u [MO, I (nI f), I (nI n), I (nI t)] = some (u', some (I (nI (pt a f 4 n)))) ∧ St 151 u' 14 (aGive a f n t) ∧ Fr 14 u u' := by
  have zt : ¬ nI t < 0 := fun z => absurd ((i_lt (b := 0) (by omega) (by omega)).mp z) (by omega)
  obtain ⟨u2, e2, h2, f2⟩ := m_it2 (T := a (60 + 7 * t + 2)) h hf ht ne rfl rfl (hS 2 (by omega)) hJ hJ31 hn 0
  obtain ⟨u3, e3, h3, f3⟩ := m_it (w := 3) (S := a (60 + 7 * f + 3)) (T := a (60 + 7 * t + 3)) h2 hf ht ne (Or.inl rfl) (by simp only [au]; (repeat' split) <;> first | rfl | omega) (by simp only [au]; (repeat' split) <;> first | rfl | omega) (hS 3 (by omega)) hJ hJ31 hn 0 (nI (pt a f 2 n))
  obtain ⟨u4, e4, h4, f4⟩ := m_it4 (S := a (60 + 7 * f + 4)) (T := a (60 + 7 * t + 4)) h3 hf ht ne (by simp only [au]; (repeat' split) <;> first | rfl | omega) (by simp only [au]; (repeat' split) <;> first | rfl | omega) (hS 4 (by omega)) hJ hJ31 hn 0 (nI (pt a f 3 n))
  obtain ⟨u5, e5, h5, f5⟩ := m_it5 (n := n) (J := a (60 + 7 * f + 1)) h4 hf ht (nI (pt a f 4 n)) (nI (pt a f 4 n))
  obtain ⟨u6, e6, h6, f6⟩ := m_it (w := 6) (S := a (60 + 7 * f + 6)) (T := a (60 + 7 * t + 6)) h5 hf ht ne (Or.inr rfl) (by simp only [au]; (repeat' split) <;> first | rfl | omega) (by simp only [au]; (repeat' split) <;> first | rfl | omega) (hS 6 (by omega)) hJ hJ31 hn (nI (pt a f 4 n)) 0
  have h7 := h6.adn (o := 60 + 7 * f + 1) (m := a (60 + 7 * f + 1)) (n := n) (by omega) (by simp only [au]; (repeat' split) <;> first | rfl | omega) hn
  have h8 := h7.add (o := 60 + 7 * t + 1) (m := a (60 + 7 * t + 1)) n (by omega) (by simp only [au]; (repeat' split) <;> first | rfl | omega)
  refine ⟨_, (qX7_carries u _ _ _).trans ?_, h8.cong (fun k _ => ?_), ((((f2.tr f3).tr f4).tr f5).tr f6).tr ((Fr.up 14 _ _ _).tr (Fr.up 14 _ _ _))⟩
  · refine (bI_eq (m_of h f 1 (by omega))).trans ?_
    refine e2.trans (e3.trans (e4.trans (e5.trans (e6.trans ?_))))
    refine (qX7_carries_9_2 _ _ _ _ _ _ _ _).trans ?_
    refine (if_pos (by decide)).trans ?_
    refine (bV_eq (m_adds _ f 1 (by omega) _)).trans ?_
    refine (if_neg zt).trans ?_
    exact bV_eq (m_adds _ t 1 (by omega) _)
  · rw [aGive_eq ne]
    unfold aLand aFill pt
    (repeat refine au_cg (fun _ => ?_) ?_) <;> (first | rfl | ((try simp only [au]); repeat (first | rw [if_pos trivial] | rw [if_pos (by omega)] | rw [if_neg (by omega)])))
