-- TANKS of the class
theorem St.add {N : Nat} {v : MM} {r o m : Nat} {a : Nat → Nat} (h : St N v r a) (n : Nat) (ho : o < N) (e : a o = m) : St N (mUp v (r, o) (v.1 r o + nI n)) r (au a o (m + n)) := h.up (by rw [h o ho, e, i_add])
theorem St.sub {N : Nat} {v : MM} {r o m n : Nat} {a : Nat → Nat} (h : St N v r a) (ho : o < N) (e : a o = m) (hn : n ≤ m) : St N (mUp v (r, o) (v.1 r o - nI n)) r (au a o (m - n)) := h.up (by rw [h o ho, e, i_sub hn])
theorem St.rd {N : Nat} {v : MM} {r o m : Nat} {a : Nat → Nat} (h : St N v r a) (ho : o < N) (e : a o = m) : v.1 r o = nI m := by rw [h o ho, e]
theorem div_part {S n J : Nat} (h : n ≤ J) : S * n / J ≤ S := by
  rcases Nat.eq_zero_or_pos J with e | e
  · rw [e, Nat.div_zero]
    exact Nat.zero_le _
  · refine Nat.div_le_of_le_mul ?_
    rw [Nat.mul_comm J S]
    exact Nat.mul_le_mul_left S h
theorem div_th {S n : Nat} (h : n ≤ 1000) : S * n / 1000 ≤ S := div_part h
/-- what goes along with n of a tank's juice -/
def pt (a : Nat → Nat) (j f n : Nat) : Nat := a (60 + 7 * j + f) * n / a (60 + 7 * j + 1)
theorem pt_le {a : Nat → Nat} {j f n : Nat} (h : n ≤ a (60 + 7 * j + 1)) : pt a j f n ≤ a (60 + 7 * j + f) := div_part h
/-- what a tank holds stays small -/
def Sm (a : Nat → Nat) (j : Nat) : Prop := ∀ f, f < 7 → a (60 + 7 * j + f) < 2 ^ 31
theorem s_left {N : Nat} {v : MM} {i j : Nat} {a : Nat → Nat} (h : St N v i a) (hN : 60 + 7 * j + 6 < N) (hw : a (60 + 7 * j + 1) + a (60 + 7 * j + 5) ≤ a (60 + 7 * j + 0)) : fX4_left v [nm 12 i j] = some (v, some (I (nI (a (60 + 7 * j + 0) - a (60 + 7 * j + 1) - a (60 + 7 * j + 5))))) := by
  refine (qX4_left v i j).trans ?_
  rw [h _ (show 60 + 7 * j + 0 < N by omega), h _ (show 60 + 7 * j + 1 < N by omega), h _ (show 60 + 7 * j + 5 < N by omega), i_sub (by omega), i_sub (by omega)]
theorem s_part {N : Nat} {v : MM} {i j : Nat} {a : Nat → Nat} (h : St N v i a) (hN : 60 + 7 * j + 6 < N) {X M J : Nat} (e : a (60 + 7 * j + 1) = J) (hJ : J < 2 ^ 31) (hX : X < 2 ^ 31) (hM : M < 2 ^ 31) : fX4_part v [nm 12 i j, I (nI X), I (nI M)] = some (v, some (I (nI (X * M / J)))) := by
  refine (qX4_part v i j _ _).trans ?_
  rw [h.rd (show 60 + 7 * j + 1 < N by omega) e]
  rcases Nat.eq_zero_or_pos J with e | e
  · rw [e, if_neg (by decide), Nat.div_zero]
    rfl
  · rw [if_pos (show (0 : Int32) < nI _ from nI_lt (a := 0) e hJ), if_neg (lng0 e hJ), lng hX hM e hJ]
theorem s_pt {N : Nat} {v : MM} {i j n : Nat} {a b : Nat → Nat} (h : St N v i b) (hN : 60 + 7 * j + 6 < N) (hs : Sm a j) (hn : n < 2 ^ 31) (f : Nat) (hf : f < 7) (e1 : b (60 + 7 * j + 1) = a (60 + 7 * j + 1)) (ef : b (60 + 7 * j + f) = a (60 + 7 * j + f)) : fX4_part v [nm 12 i j, I (v.1 i (60 + 7 * j + f)), I (nI n)] = some (v, some (I (nI (pt a j f n)))) := by
  rw [h.rd (o := 60 + 7 * j + f) (by omega) ef]
  exact s_part h hN e1 (hs 1 (by omega)) (hs f hf) hn
def aFill (a : Nat → Nat) (j x1 x2 x3 x4 : Nat) : Nat → Nat := au (au (au (au a (60 + 7 * j + 1) (a (60 + 7 * j + 1) + x1)) (60 + 7 * j + 2) (a (60 + 7 * j + 2) + x2)) (60 + 7 * j + 3) (a (60 + 7 * j + 3) + x3)) (60 + 7 * j + 4) (a (60 + 7 * j + 4) + x4)
theorem s_fill {N : Nat} {v : MM} {i j : Nat} {a : Nat → Nat} (h : St N v i a) (hN : 60 + 7 * j + 6 < N) (x1 x2 x3 x4 : Nat) : ∃ v', fX4_fill v [nm 12 i j, I (nI x1), I (nI x2), I (nI x3), I (nI x4)] = some (v', none) ∧ St N v' i (aFill a j x1 x2 x3 x4) ∧ Fr i v v' := by
  have h1 := h.add (o := 60 + 7 * j + 1) x1 (by omega) rfl
  have h2 := h1.add (o := 60 + 7 * j + 2) (m := a (60 + 7 * j + 2)) x2 (by omega) (by simp only [au]; (repeat' split) <;> first | rfl | omega)
  have h3 := h2.add (o := 60 + 7 * j + 3) (m := a (60 + 7 * j + 3)) x3 (by omega) (by simp only [au]; (repeat' split) <;> first | rfl | omega)
  have h4 := h3.add (o := 60 + 7 * j + 4) (m := a (60 + 7 * j + 4)) x4 (by omega) (by simp only [au]; (repeat' split) <;> first | rfl | omega)
  exact ⟨_, qX4_fill v i j _ _ _ _, h4, (((Fr.up i _ v _).tr (Fr.up i _ _ _)).tr (Fr.up i _ _ _)).tr (Fr.up i _ _ _)⟩
/-- n of a tank's juice goes away -/
def aDrop (a : Nat → Nat) (j n : Nat) : Nat → Nat := au (au (au (au (au a (60 + 7 * j + 2) (a (60 + 7 * j + 2) - pt a j 2 n)) (60 + 7 * j + 3) (a (60 + 7 * j + 3) - pt a j 3 n)) (60 + 7 * j + 4) (a (60 + 7 * j + 4) - pt a j 4 n)) (60 + 7 * j + 6) (a (60 + 7 * j + 6) - pt a j 6 n)) (60 + 7 * j + 1) (a (60 + 7 * j + 1) - n)
theorem s_drop {N : Nat} {v : MM} {i j : Nat} {a : Nat → Nat} (h : St N v i a) (hN : 60 + 7 * j + 6 < N) (hs : Sm a j) {n : Nat} (hn : n ≤ a (60 + 7 * j + 1)) : ∃ v', fX4_drop v [nm 12 i j, I (nI n)] = some (v', none) ∧ St N v' i (aDrop a j n) ∧ Fr i v v' := by
  have hJ := hs 1 (by omega)
  have hn31 : n < 2 ^ 31 := by omega
  have g1 := s_pt h hN hs hn31 2 (by omega) rfl rfl
  have h1 := h.sub (o := 60 + 7 * j + 2) (n := pt a j 2 n) (by omega) rfl (pt_le hn)
  have g2 := s_pt h1 hN hs hn31 3 (by omega) (by simp only [au]; (repeat' split) <;> first | rfl | omega) (by simp only [au]; (repeat' split) <;> first | rfl | omega)
  have h2 := h1.sub (o := 60 + 7 * j + 3) (m := a (60 + 7 * j + 3)) (n := pt a j 3 n) (by omega) (by simp only [au]; (repeat' split) <;> first | rfl | omega) (pt_le hn)
  have g3 := s_pt h2 hN hs hn31 4 (by omega) (by simp only [au]; (repeat' split) <;> first | rfl | omega) (by simp only [au]; (repeat' split) <;> first | rfl | omega)
  have h3 := h2.sub (o := 60 + 7 * j + 4) (m := a (60 + 7 * j + 4)) (n := pt a j 4 n) (by omega) (by simp only [au]; (repeat' split) <;> first | rfl | omega) (pt_le hn)
  have g4 := s_pt h3 hN hs hn31 6 (by omega) (by simp only [au]; (repeat' split) <;> first | rfl | omega) (by simp only [au]; (repeat' split) <;> first | rfl | omega)
  have h4 := h3.sub (o := 60 + 7 * j + 6) (m := a (60 + 7 * j + 6)) (n := pt a j 6 n) (by omega) (by simp only [au]; (repeat' split) <;> first | rfl | omega) (pt_le hn)
  have h5 := h4.sub (o := 60 + 7 * j + 1) (m := a (60 + 7 * j + 1)) (n := n) (by omega) (by simp only [au]; (repeat' split) <;> first | rfl | omega) hn
  refine ⟨_, (qX4_drop v i j _).trans ?_, h5, ((((Fr.up i _ v _).tr (Fr.up i _ _ _)).tr (Fr.up i _ _ _)).tr (Fr.up i _ _ _)).tr (Fr.up i _ _ _)⟩
  refine (bI_eq g1).trans ?_
  refine (bI_eq g2).trans ?_
  refine (bI_eq g3).trans ?_
  exact bI_eq g4
/-- n of a tank's juice goes to another one -/
def aGive (a : Nat → Nat) (f n t : Nat) : Nat → Nat := aDrop (au (aFill a t n (pt a f 2 n) (pt a f 3 n) (pt a f 4 n)) (60 + 7 * t + 6) (a (60 + 7 * t + 6) + pt a f 6 n)) f n
theorem s_give {N : Nat} {v : MM} {i f t : Nat} {a : Nat → Nat} (h : St N v i a) (hf : 60 + 7 * f + 6 < N) (ht : 60 + 7 * t + 6 < N) (hne : f ≠ t) (hs : Sm a f) {n : Nat} (hn : n ≤ a (60 + 7 * f + 1)) : ∃ v', fX4_give v [nm 12 i f, I (nI n), nm 12 i t] = some (v', none) ∧ St N v' i (aGive a f n t) ∧ Fr i v v' := by
  have hJ := hs 1 (by omega)
  have hn31 : n < 2 ^ 31 := by omega
  have g1 := s_pt h hf hs hn31 2 (by omega) rfl rfl
  have g2 := s_pt h hf hs hn31 3 (by omega) rfl rfl
  have g3 := s_pt h hf hs hn31 4 (by omega) rfl rfl
  obtain ⟨w, e1, h1, f1⟩ := s_fill h ht n (pt a f 2 n) (pt a f 3 n) (pt a f 4 n)
  have k1 : ∀ k, k < 7 → aFill a t n (pt a f 2 n) (pt a f 3 n) (pt a f 4 n) (60 + 7 * f + k) = a (60 + 7 * f + k) := by
    intro k hk
    unfold aFill
    exact by simp only [au]; (repeat' split) <;> first | rfl | omega
  have g4 := s_pt (n := n) h1 hf hs hn31 6 (by omega) (k1 1 (by omega)) (k1 6 (by omega))
  have h2 := h1.add (o := 60 + 7 * t + 6) (m := a (60 + 7 * t + 6)) (pt a f 6 n) (by omega) (by unfold aFill; exact by simp only [au]; (repeat' split) <;> first | rfl | omega)
  have keep : ∀ k, k < 7 → au (aFill a t n (pt a f 2 n) (pt a f 3 n) (pt a f 4 n)) (60 + 7 * t + 6) (a (60 + 7 * t + 6) + pt a f 6 n) (60 + 7 * f + k) = a (60 + 7 * f + k) := by
    intro k hk
    unfold aFill
    exact by simp only [au]; (repeat' split) <;> first | rfl | omega
  obtain ⟨w', e2, h3, f3⟩ := s_drop h2 hf (fun k hk => by rw [keep k hk]; exact hs k hk) (n := n) (by rw [keep 1 (by omega)]; exact hn)
  refine ⟨_, (qX4_give v i f i t _).trans ?_, h3, (f1.tr (Fr.up i _ _ _)).tr f3⟩
  refine (bI_eq g1).trans ?_
  refine (bI_eq g2).trans ?_
  refine (bI_eq g3).trans ?_
  refine (bV_eq e1).trans ?_
  refine (bI_eq g4).trans ?_
  exact bV_eq e2
