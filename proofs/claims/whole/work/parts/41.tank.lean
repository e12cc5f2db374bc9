-- TANKS of the class
theorem div_part {S n J : Nat} (h : n ≤ J) : S * n / J ≤ S := by
  rcases Nat.eq_zero_or_pos J with e | e
  · rw [e, Nat.div_zero]
    exact Nat.zero_le _
  · refine Nat.div_le_of_le_mul ?_
    rw [Nat.mul_comm J S]
    exact Nat.mul_le_mul_left S h
theorem div_th {S n : Nat} (h : n ≤ 1000) : S * n / 1000 ≤ S := div_part h
theorem s_left {N : Nat} {v : MM} {i j : Nat} {a : Nat → Nat} (h : St N v i a) (hN : 60 + 7 * j + 6 < N) (hw : a (60 + 7 * j + 1) + a (60 + 7 * j + 5) ≤ a (60 + 7 * j)) : fX4_left v [nm 12 i j] = some (v, some (I (nI (a (60 + 7 * j) - a (60 + 7 * j + 1) - a (60 + 7 * j + 5))))) := by
  refine fn_leaf rfl (fun R => (eX4_left _ R v i j).trans ?_)
  rw [h _ (show 60 + 7 * j + 0 < N by omega), h _ (show 60 + 7 * j + 1 < N by omega), h _ (show 60 + 7 * j + 5 < N by omega), i_sub (by show a (60 + 7 * j + 1) ≤ a (60 + 7 * j); omega), i_sub (by show _ ≤ a (60 + 7 * j) - _; omega)]
  rfl
theorem s_part {N : Nat} {v : MM} {i j : Nat} {a : Nat → Nat} (h : St N v i a) (hN : 60 + 7 * j + 6 < N) {X M : Nat} (hJ : a (60 + 7 * j + 1) < 2 ^ 31) (hX : X < 2 ^ 31) (hM : M < 2 ^ 31) : fX4_part v [nm 12 i j, I (nI X), I (nI M)] = some (v, some (I (nI (X * M / a (60 + 7 * j + 1))))) := by
  refine fn_leaf rfl (fun R => (eX4_part _ R v i j _ _).trans ?_)
  rw [h _ (show 60 + 7 * j + 1 < N by omega)]
  rcases Nat.eq_zero_or_pos (a (60 + 7 * j + 1)) with e | e
  · rw [e, if_neg (by decide), Nat.div_zero]
    rfl
  · rw [if_pos (show (0 : Int32) < nI _ from nI_lt (a := 0) e hJ), if_neg (lng0 e hJ), lng hX hM e hJ]
theorem s_fill {N : Nat} {v : MM} {i j : Nat} {a : Nat → Nat} (h : St N v i a) (hN : 60 + 7 * j + 6 < N) (x1 x2 x3 x4 : Nat) : ∃ v', fX4_fill v [nm 12 i j, I (nI x1), I (nI x2), I (nI x3), I (nI x4)] = some (v', none) ∧ St N v' i (au (au (au (au a (60 + 7 * j + 1) (a (60 + 7 * j + 1) + x1)) (60 + 7 * j + 2) (a (60 + 7 * j + 2) + x2)) (60 + 7 * j + 3) (a (60 + 7 * j + 3) + x3)) (60 + 7 * j + 4) (a (60 + 7 * j + 4) + x4)) ∧ Fr i v v' := by
  have h1 := h.up (o := 60 + 7 * j + 1) (x := v.1 i (60 + 7 * j + 1) + nI x1) (n := a (60 + 7 * j + 1) + x1) (by rw [h _ (by omega), i_add])
  have h2 := h1.up (o := 60 + 7 * j + 2) (x := (mUp v (i, 60 + 7 * j + 1) (v.1 i (60 + 7 * j + 1) + nI x1)).1 i (60 + 7 * j + 2) + nI x2) (n := a (60 + 7 * j + 2) + x2) (by rw [h1 _ (by omega), au_n (by omega), i_add])
  have h3 := h2.up (o := 60 + 7 * j + 3) (x := _ + nI x3) (n := a (60 + 7 * j + 3) + x3) (by rw [h2 _ (show 60 + 7 * j + 3 < N by omega), au_n (by omega), au_n (by omega), i_add])
  have h4 := h3.up (o := 60 + 7 * j + 4) (x := _ + nI x4) (n := a (60 + 7 * j + 4) + x4) (by rw [h3 _ (show 60 + 7 * j + 4 < N by omega), au_n (by omega), au_n (by omega), au_n (by omega), i_add])
  exact ⟨_, fn_leaf rfl (fun R => eX4_fill _ R v i j _ _ _ _), h4, (((Fr.up i _ v _).tr (Fr.up i _ _ _)).tr (Fr.up i _ _ _)).tr (Fr.up i _ _ _)⟩
/-- n of a tank's juice goes away -/
def aDrop (a : Nat → Nat) (j n : Nat) : Nat → Nat :=
  au (au (au (au (au a (60 + 7 * j + 2) (a (60 + 7 * j + 2) - a (60 + 7 * j + 2) * n / a (60 + 7 * j + 1))) (60 + 7 * j + 3) (a (60 + 7 * j + 3) - a (60 + 7 * j + 3) * n / a (60 + 7 * j + 1))) (60 + 7 * j + 4) (a (60 + 7 * j + 4) - a (60 + 7 * j + 4) * n / a (60 + 7 * j + 1))) (60 + 7 * j + 6) (a (60 + 7 * j + 6) - a (60 + 7 * j + 6) * n / a (60 + 7 * j + 1))) (60 + 7 * j + 1) (a (60 + 7 * j + 1) - n)
/-- what a tank holds stays small -/
def Sm (a : Nat → Nat) (j : Nat) : Prop := ∀ f, f < 7 → a (60 + 7 * j + f) < 2 ^ 31
theorem s_drop {N : Nat} {v : MM} {i j : Nat} {a : Nat → Nat} (h : St N v i a) (hN : 60 + 7 * j + 6 < N) (hs : Sm a j) {n : Nat} (hn : n ≤ a (60 + 7 * j + 1)) : ∃ v', fX4_drop v [nm 12 i j, I (nI n)] = some (v', none) ∧ St N v' i (aDrop a j n) ∧ Fr i v v' := by
  have hJ := hs 1 (by omega)
  have hn31 : n < 2 ^ 31 := by omega
  have r2 := h (60 + 7 * j + 2) (by omega)
  have g1 := s_part h hN hJ (hs 2 (by omega)) hn31
  have h1 := h.up (o := 60 + 7 * j + 2) (x := v.1 i (60 + 7 * j + 2) - nI (a (60 + 7 * j + 2) * n / a (60 + 7 * j + 1))) (n := a (60 + 7 * j + 2) - a (60 + 7 * j + 2) * n / a (60 + 7 * j + 1)) (by rw [r2, i_sub (div_part hn)])
  have r3 := h1 (60 + 7 * j + 3) (by omega)
  rw [au_n (by omega)] at r3
  have g2 := s_part (X := a (60 + 7 * j + 3)) h1 hN (by rw [au_n (by omega)]; exact hJ) (hs 3 (by omega)) hn31
  rw [au_n (by omega)] at g2
  have h2 := h1.up (o := 60 + 7 * j + 3) (x := _ - nI (a (60 + 7 * j + 3) * n / a (60 + 7 * j + 1))) (n := a (60 + 7 * j + 3) - a (60 + 7 * j + 3) * n / a (60 + 7 * j + 1)) (by rw [r3, i_sub (div_part hn)])
  have r4 := h2 (60 + 7 * j + 4) (by omega)
  rw [au_n (by omega), au_n (by omega)] at r4
  have g3 := s_part (X := a (60 + 7 * j + 4)) h2 hN (by rw [au_n (by omega), au_n (by omega)]; exact hJ) (hs 4 (by omega)) hn31
  rw [au_n (by omega), au_n (by omega)] at g3
  have h3 := h2.up (o := 60 + 7 * j + 4) (x := _ - nI (a (60 + 7 * j + 4) * n / a (60 + 7 * j + 1))) (n := a (60 + 7 * j + 4) - a (60 + 7 * j + 4) * n / a (60 + 7 * j + 1)) (by rw [r4, i_sub (div_part hn)])
  have r6 := h3 (60 + 7 * j + 6) (by omega)
  rw [au_n (by omega), au_n (by omega), au_n (by omega)] at r6
  have g4 := s_part (X := a (60 + 7 * j + 6)) h3 hN (by rw [au_n (by omega), au_n (by omega), au_n (by omega)]; exact hJ) (hs 6 (by omega)) hn31
  rw [au_n (by omega), au_n (by omega), au_n (by omega)] at g4
  have h4 := h3.up (o := 60 + 7 * j + 6) (x := _ - nI (a (60 + 7 * j + 6) * n / a (60 + 7 * j + 1))) (n := a (60 + 7 * j + 6) - a (60 + 7 * j + 6) * n / a (60 + 7 * j + 1)) (by rw [r6, i_sub (div_part hn)])
  have r1 := h4 (60 + 7 * j + 1) (by omega)
  rw [au_n (by omega), au_n (by omega), au_n (by omega), au_n (by omega)] at r1
  have h5 := h4.up (o := 60 + 7 * j + 1) (x := _ - nI n) (n := a (60 + 7 * j + 1) - n) (by rw [r1, i_sub hn])
  refine ⟨_, fn_leaf rfl (fun R => (eX4_drop _ R v i j _).trans ?_), h5, ((((Fr.up i _ v _).tr (Fr.up i _ _ _)).tr (Fr.up i _ _ _)).tr (Fr.up i _ _ _)).tr (Fr.up i _ _ _)⟩
  refine (bI_eq (o := fX4_part _ _) (by rw [r2]; exact g1)).trans ?_
  refine (bI_eq (o := fX4_part _ _) (by rw [r3]; exact g2)).trans ?_
  refine (bI_eq (o := fX4_part _ _) (by rw [r4]; exact g3)).trans ?_
  exact bI_eq (o := fX4_part _ _) (by rw [r6]; exact g4)
