-- WHAT CLASS AND MODEL ASK OF A PAGE
theorem inC {x : Int32} {c : Nat} (hc : c < 2 ^ 31) : (0 ≤ x ∧ x ≤ nI c - 1) ↔ mIn x c := by
  rcases Nat.eq_zero_or_pos c with e | e
  · subst e
    constructor
    · intro ⟨h0, h1⟩
      have h1 : x ≤ -1 := h1
      have h2 : (0 : Int32) ≤ -1 := Int32.le_trans h0 h1
      exact absurd h2 (by decide)
    · intro ⟨h0, h1⟩
      exact absurd h1 (Nat.not_lt_zero _)
  · have e1 : nI c - 1 = nI (c - 1) := i_sub (a := c) (b := 1) e
    rw [e1]
    constructor
    · intro ⟨h0, h1⟩
      obtain ⟨j, hj, hx⟩ := inM (by omega) h0 h1
      refine ⟨h0, ?_⟩
      rw [hx, nI_clamp (by omega)]
      omega
    · intro ⟨h0, h1⟩
      refine ⟨h0, ?_⟩
      obtain ⟨hx, hl⟩ := nn h0
      rw [hx]
      exact (i_le hl (by omega)).mpr (by omega)
theorem mIn_nI {j c : Nat} (h : j < c) (hc : c ≤ 2 ^ 31) : mIn (nI j) c := by
  have hj : j < 2 ^ 31 := by omega
  refine ⟨?_, ?_⟩
  · exact (i_le (a := 0) (by omega) hj).mpr (Nat.zero_le _)
  · rw [nI_clamp hj]
    exact h
theorem mIn_ex {x : Int32} {c : Nat} (h : mIn x c) : ∃ j, j < c ∧ j < 2 ^ 31 ∧ x = nI j := by
  obtain ⟨hx, hl⟩ := nn h.1
  exact ⟨x.toNatClampNeg, h.2, hl, hx⟩
theorem s_hasTank {N : Nat} {v : MM} {i : Nat} {a : Nat → Nat} (h : St N v i a) (hN : 59 < N) (hc : a 59 ≤ 6) (x : Int32) : fX0_hasTank v [nm 2 i 0, I x] = some (v, some (I (if mIn x (a 59) then 1 else 0))) := by
  refine (qX0_hasTank v i x).trans ?_
  rw [h 59 hN]
  refine (bI_eq (s_within _ _ _ _)).trans ?_
  by_cases c : mIn x (a 59)
  · rw [if_pos c, if_pos ((inC (by omega)).mpr c)]
    refine (if_neg (by decide)).trans ?_
    obtain ⟨j, h1, h2, rfl⟩ := mIn_ex c
    exact if_pos ((i_lt (b := 6) h2 (by omega)).mpr (by omega))
  · rw [if_neg c, if_neg (fun z => c ((inC (by omega)).mp z))]
    exact if_pos rfl
theorem s_hasLot {N : Nat} {v : MM} {i : Nat} {a : Nat → Nat} (h : St N v i a) (hN : 42 < N) (hc : a 42 ≤ 8) (x : Int32) : fX0_hasLot v [nm 2 i 0, I x] = some (v, some (I (if mIn x (a 42) then 1 else 0))) := by
  refine (qX0_hasLot v i x).trans ?_
  rw [h 42 hN]
  refine (bI_eq (s_within _ _ _ _)).trans ?_
  by_cases c : mIn x (a 42)
  · rw [if_pos c, if_pos ((inC (by omega)).mpr c)]
    refine (if_neg (by decide)).trans ?_
    obtain ⟨j, h1, h2, rfl⟩ := mIn_ex c
    exact if_pos ((i_lt (b := 8) h2 (by omega)).mpr (by omega))
  · rw [if_neg c, if_neg (fun z => c ((inC (by omega)).mp z))]
    exact if_pos rfl
theorem ix_tk (j f : Nat) : ((60 : Int32) + (7 : Int32) * nI j) + nI f = nI (60 + 7 * j + f) := by
  rw [show (7 : Int32) = nI 7 from rfl, show (60 : Int32) = nI 60 from rfl, pk_mul, i_add, i_add]
theorem s_refuse (v : MM) (i : Nat) (x : Int32) : fX0_refuse v [nm 2 i 0, I x] = some (mUp v (i, 155) x, some (I (-2))) := qX0_refuse v i x
