-- WHY A LABEL FORBIDS
def fb (a : Nat → Nat) (j J S A H : Nat) : Nat := if J = 0 then 1 else if S * 1000 / J < a (22 + 5 * j + 0) then 2 else if a (22 + 5 * j + 1) < S * 1000 / J then 3 else if A * 1000 / J < a (22 + 5 * j + 2) then 4 else if a (22 + 5 * j + 3) < A * 1000 / J then 5 else if a (22 + 5 * j + 4) < H * 1000 / J then 6 else 0
theorem fb_le (a : Nat → Nat) (j J S A H : Nat) : fb a j J S A H ≤ 6 := by
  unfold fb
  repeat' split
  all_goals omega
theorem div_le1 (S J : Nat) : S * 1000 / J ≤ S * 1000 := Nat.div_le_self _ _
theorem s_rj {v : MM} {i j : Nat} {a : Nat → Nat} (hv : St 155 v i a) (hL : ∀ k, k < 42 → a k ≤ 1000) (hj : j < 4) {J S A H : Nat} (hJ : J < 2 ^ 31) (hS : S ≤ 2000000) (hA : A ≤ 2000000) (hH : H ≤ 2000000) : fX1_reasonAgainstJuice v [nm 9 i j, I (nI J), I (nI S), I (nI A), I (nI H)] = some (v, some (I (nI (fb a j J S A H)))) := by
  have dS := div_le1 S J
  have dA := div_le1 A J
  have dH := div_le1 H J
  have l0 := hL (22 + 5 * j + 0) (by omega)
  have l1 := hL (22 + 5 * j + 1) (by omega)
  have l2 := hL (22 + 5 * j + 2) (by omega)
  have l3 := hL (22 + 5 * j + 3) (by omega)
  have l4 := hL (22 + 5 * j + 4) (by omega)
  refine (qX1_reasonAgainstJuice v i j _ _ _ _).trans ?_
  unfold fb
  by_cases c0 : J = 0
  · rw [if_pos c0, c0]
    exact if_neg (by decide)
  · rw [if_neg c0]
    refine (if_pos (ltT (m := 0) rfl rfl (by omega) hJ)).trans ?_
    refine (bI_eq (s_pert (by omega) (by omega) hJ)).trans ?_
    by_cases c1 : S * 1000 / J < a (22 + 5 * j + 0)
    · rw [if_pos c1]
      exact if_pos (ltT rfl (hv _ (by omega)) c1 (by omega))
    · rw [if_neg c1]
      refine (if_neg (ltF rfl (hv _ (by omega)) (by omega) (by omega))).trans ?_
      by_cases c2 : a (22 + 5 * j + 1) < S * 1000 / J
      · rw [if_pos c2]
        exact if_pos (ltT (hv _ (by omega)) rfl c2 (by omega))
      · rw [if_neg c2]
        refine (if_neg (ltF (hv _ (by omega)) rfl (Nat.not_lt.mp c2) (by omega))).trans ?_
        refine (bI_eq (s_pert (by omega) (by omega) hJ)).trans ?_
        by_cases c3 : A * 1000 / J < a (22 + 5 * j + 2)
        · rw [if_pos c3]
          exact if_pos (ltT rfl (hv _ (by omega)) c3 (by omega))
        · rw [if_neg c3]
          refine (if_neg (ltF rfl (hv _ (by omega)) (by omega) (by omega))).trans ?_
          by_cases c4 : a (22 + 5 * j + 3) < A * 1000 / J
          · rw [if_pos c4]
            exact if_pos (ltT (hv _ (by omega)) rfl c4 (by omega))
          · rw [if_neg c4]
            refine (if_neg (ltF (hv _ (by omega)) rfl (Nat.not_lt.mp c4) (by omega))).trans ?_
            refine (bI_eq (s_pert (by omega) (by omega) hJ)).trans ?_
            by_cases c5 : a (22 + 5 * j + 4) < H * 1000 / J
            · rw [if_pos c5]
              exact if_pos (ltT (hv _ (by omega)) rfl c5 (by omega))
            · rw [if_neg c5]
              exact if_neg (ltF (hv _ (by omega)) rfl (Nat.not_lt.mp c5) (by omega))
theorem m_portion {u : MM} {a : Nat → Nat} (hu : St 151 u 14 a) {t q : Nat} (ht : t < 6) (hq : q < 7) (h0 : 0 < a (60 + 7 * t + 1)) (hJ : a (60 + 7 * t + 1) < 2 ^ 31) (hS : a (60 + 7 * t + q) ≤ 2000000) : fX7_portion u [MO, I (nI t), I (nI q)] = some (u, some (I (nI (a (60 + 7 * t + q) * 1000 / a (60 + 7 * t + 1))))) := by
  refine (qX7_portion u _ _).trans ?_
  refine (bI_eq (m_of hu t q (by omega))).trans ?_
  refine (bI_eq (m_of hu t 1 (by omega))).trans ?_
  refine (if_neg (eqF rfl (n := 0) rfl (by omega) hJ (by omega))).trans ?_
  rw [show nI (a (60 + 7 * t + q)) * (1000 : Int32) / nI (a (60 + 7 * t + 1)) = nI (a (60 + 7 * t + q) * 1000 / a (60 + 7 * t + 1)) from i_md (M := 1000) (by omega) h0 hJ]
theorem ix_b (j : Nat) : (22 : Int32) + (5 : Int32) * nI j = nI (22 + 5 * j + 0) := by
  rw [show (22 : Int32) = nI 22 from rfl, show (5 : Int32) = nI 5 from rfl, pk_mul, i_add]
  rfl
theorem ix_b1 (j : Nat) : nI (22 + 5 * j + 0) + (1 : Int32) = nI (22 + 5 * j + 1) := i_add (22 + 5 * j) 1
theorem ix_b2 (j : Nat) : nI (22 + 5 * j + 0) + (2 : Int32) = nI (22 + 5 * j + 2) := i_add (22 + 5 * j) 2
theorem ix_b3 (j : Nat) : nI (22 + 5 * j + 0) + (3 : Int32) = nI (22 + 5 * j + 3) := i_add (22 + 5 * j) 3
theorem ix_b4 (j : Nat) : nI (22 + 5 * j + 0) + (4 : Int32) = nI (22 + 5 * j + 4) := i_add (22 + 5 * j) 4
theorem m_forbids {u : MM} {t j : Nat} {a : Nat → Nat} (hu : St 151 u 14 a) (hL : ∀ k, k < 42 → a k ≤ 1000) (hj : j < 4) (ht : t < 6) (hT : ∀ f, f < 7 → a (60 + 7 * t + f) ≤ 2000000) : fX7_forbids u [MO, I (nI t), I (nI j)] = some (u, some (I (nI (fb a j (a (60 + 7 * t + 1)) (a (60 + 7 * t + 2)) (a (60 + 7 * t + 3)) (a (60 + 7 * t + 4)))))) := by
  have dS := div_le1 (a (60 + 7 * t + 2)) (a (60 + 7 * t + 1))
  have dA := div_le1 (a (60 + 7 * t + 3)) (a (60 + 7 * t + 1))
  have dH := div_le1 (a (60 + 7 * t + 4)) (a (60 + 7 * t + 1))
  have b1 := hT 1 (by omega)
  have b2 := hT 2 (by omega)
  have b3 := hT 3 (by omega)
  have b4 := hT 4 (by omega)
  have l0 := hL (22 + 5 * j + 0) (by omega)
  have l1 := hL (22 + 5 * j + 1) (by omega)
  have l2 := hL (22 + 5 * j + 2) (by omega)
  have l3 := hL (22 + 5 * j + 3) (by omega)
  have l4 := hL (22 + 5 * j + 4) (by omega)
  have q0 : (nI (22 + 5 * j + 0)).toNatClampNeg = 22 + 5 * j + 0 := nI_clamp (by omega)
  have q1 : (nI (22 + 5 * j + 1)).toNatClampNeg = 22 + 5 * j + 1 := nI_clamp (by omega)
  have q2 : (nI (22 + 5 * j + 2)).toNatClampNeg = 22 + 5 * j + 2 := nI_clamp (by omega)
  have q3 : (nI (22 + 5 * j + 3)).toNatClampNeg = 22 + 5 * j + 3 := nI_clamp (by omega)
  have q4 : (nI (22 + 5 * j + 4)).toNatClampNeg = 22 + 5 * j + 4 := nI_clamp (by omega)
  have k0 := hu (22 + 5 * j + 0) (by omega)
  have k1 := hu (22 + 5 * j + 1) (by omega)
  have k2 := hu (22 + 5 * j + 2) (by omega)
  have k3 := hu (22 + 5 * j + 3) (by omega)
  have k4 := hu (22 + 5 * j + 4) (by omega)
  refine (qX7_forbids u _ _).trans ?_
  simp only [ix_b, ix_b1, ix_b2, ix_b3, ix_b4, q0, q1, q2, q3, q4]
  unfold fb
  refine (bI_eq (m_of hu t 1 (by omega))).trans ?_
  by_cases c0 : a (60 + 7 * t + 1) = 0
  · rw [if_pos c0]
    exact if_pos (eqT rfl (n := 0) rfl c0)
  · rw [if_neg c0]
    refine (if_neg (eqF rfl (n := 0) rfl c0 (by omega) (by omega))).trans ?_
    refine (bI_eq (m_portion (q := 2) hu ht (by omega) (by omega) (by omega) b2)).trans ?_
    refine (bI_eq (m_portion (q := 3) hu ht (by omega) (by omega) (by omega) b3)).trans ?_
    refine (if_pos (mIn_nI (by omega) (by omega))).trans ?_
    by_cases c1 : a (60 + 7 * t + 2) * 1000 / a (60 + 7 * t + 1) < a (22 + 5 * j + 0)
    · rw [if_pos c1]
      refine (if_pos (ltT rfl k0 c1 (by omega))).trans ?_
      refine (if_pos (mIn_nI (by omega) (by omega))).trans ?_
      exact if_pos (ltT rfl k0 c1 (by omega))
    · rw [if_neg c1]
      refine (if_neg (ltF rfl k0 (by omega) (by omega))).trans ?_
      refine (if_pos (mIn_nI (by omega) (by omega))).trans ?_
      by_cases c2 : a (22 + 5 * j + 1) < a (60 + 7 * t + 2) * 1000 / a (60 + 7 * t + 1)
      · rw [if_pos c2]
        refine (if_pos (ltT k1 rfl c2 (by omega))).trans ?_
        refine (if_pos (mIn_nI (by omega) (by omega))).trans ?_
        exact if_neg (ltF rfl k0 (by omega) (by omega))
      · rw [if_neg c2]
        refine (if_neg (ltF k1 rfl (Nat.not_lt.mp c2) (by omega))).trans ?_
        refine (if_pos (mIn_nI (by omega) (by omega))).trans ?_
        by_cases c3 : a (60 + 7 * t + 3) * 1000 / a (60 + 7 * t + 1) < a (22 + 5 * j + 2)
        · rw [if_pos c3]
          refine (if_pos (ltT rfl k2 c3 (by omega))).trans ?_
          refine (if_pos (mIn_nI (by omega) (by omega))).trans ?_
          exact if_pos (ltT rfl k2 c3 (by omega))
        · rw [if_neg c3]
          refine (if_neg (ltF rfl k2 (by omega) (by omega))).trans ?_
          refine (if_pos (mIn_nI (by omega) (by omega))).trans ?_
          by_cases c4 : a (22 + 5 * j + 3) < a (60 + 7 * t + 3) * 1000 / a (60 + 7 * t + 1)
          · rw [if_pos c4]
            refine (if_pos (ltT k3 rfl c4 (by omega))).trans ?_
            refine (if_pos (mIn_nI (by omega) (by omega))).trans ?_
            exact if_neg (ltF rfl k2 (by omega) (by omega))
          · rw [if_neg c4]
            refine (if_neg (ltF k3 rfl (Nat.not_lt.mp c4) (by omega))).trans ?_
            refine (bI_eq (m_portion (q := 4) hu ht (by omega) (by omega) (by omega) b4)).trans ?_
            refine (if_pos (mIn_nI (by omega) (by omega))).trans ?_
            by_cases c5 : a (22 + 5 * j + 4) < a (60 + 7 * t + 4) * 1000 / a (60 + 7 * t + 1)
            · rw [if_pos c5]
              exact if_pos (ltT k4 rfl c5 (by omega))
            · rw [if_neg c5]
              exact if_neg (ltF k4 rfl (Nat.not_lt.mp c5) (by omega))
