-- WHAT CLASS AND MODEL ASK OF A PAGE
abbrev MO : MV := nm 16 0 0
theorem inC {x : Int32} {c : Nat} (hc : c < 2 ^ 31) : (0 ≤ x ∧ x ≤ nI c - 1) ↔ mIn x c := by
  rcases Nat.eq_zero_or_pos c with e | e
  · subst e
    constructor
    · intro ⟨h0, h1⟩
      have h1 : x ≤ -1 := h1
      have h2 : (0 : Int32) ≤ -1 := Int32.le_trans h0 h1
      exact absurd h2 (by decide)
    · intro ⟨h0, h1⟩
      exact absurd h1 (Nat.not_lt_zero _)
  · have e1 : nI c - 1 = nI (c - 1) := i_sub (a := c) (b := 1) e
    rw [e1]
    constructor
    · intro ⟨h0, h1⟩
      obtain ⟨j, hj, hx⟩ := inM (by omega) h0 h1
      refine ⟨h0, ?_⟩
      rw [hx, nI_clamp (by omega)]
      omega
    · intro ⟨h0, h1⟩
      refine ⟨h0, ?_⟩
      obtain ⟨hx, hl⟩ := nn h0
      rw [hx]
      exact (i_le hl (by omega)).mpr (by omega)
theorem mIn_nI {j c : Nat} (h : j < c) (hc : c ≤ 2 ^ 31) : mIn (nI j) c := by
  have hj : j < 2 ^ 31 := by omega
  refine ⟨?_, ?_⟩
  · exact (i_le (a := 0) (by omega) hj).mpr (Nat.zero_le _)
  · rw [nI_clamp hj]
    exact h
theorem mIn_ex {x : Int32} {c : Nat} (h : mIn x c) : ∃ j, j < c ∧ j < 2 ^ 31 ∧ x = nI j := by
  obtain ⟨hx, hl⟩ := nn h.1
  exact ⟨x.toNatClampNeg, h.2, hl, hx⟩
theorem s_hasTank {N : Nat} {v : MM} {i : Nat} {a : Nat → Nat} (h : St N v i a) (hN : 59 < N) (hc : a 59 ≤ 6) (x : Int32) : fX0_hasTank v [nm 2 i 0, I x] = some (v, some (I (if mIn x (a 59) then 1 else 0))) := by
  refine (qX0_hasTank v i x).trans ?_
  rw [h 59 hN]
  refine (bI_eq (s_within _ _ _ _)).trans ?_
  by_cases c : mIn x (a 59)
  · rw [if_pos c, if_pos ((inC (by omega)).mpr c)]
    refine (if_neg (by decide)).trans ?_
    obtain ⟨j, h1, h2, rfl⟩ := mIn_ex c
    exact if_pos ((i_lt (b := 6) h2 (by omega)).mpr (by omega))
  · rw [if_neg c, if_neg (fun z => c ((inC (by omega)).mp z))]
    exact if_pos rfl
theorem s_hasLot {N : Nat} {v : MM} {i : Nat} {a : Nat → Nat} (h : St N v i a) (hN : 42 < N) (hc : a 42 ≤ 8) (x : Int32) : fX0_hasLot v [nm 2 i 0, I x] = some (v, some (I (if mIn x (a 42) then 1 else 0))) := by
  refine (qX0_hasLot v i x).trans ?_
  rw [h 42 hN]
  refine (bI_eq (s_within _ _ _ _)).trans ?_
  by_cases c : mIn x (a 42)
  · rw [if_pos c, if_pos ((inC (by omega)).mpr c)]
    refine (if_neg (by decide)).trans ?_
    obtain ⟨j, h1, h2, rfl⟩ := mIn_ex c
    exact if_pos ((i_lt (b := 8) h2 (by omega)).mpr (by omega))
  · rw [if_neg c, if_neg (fun z => c ((inC (by omega)).mp z))]
    exact if_pos rfl
theorem m_in (v : MM) (x a b : Int32) : fX7_in v [I x, I a, I b] = some (v, some (I (if a ≤ x ∧ x ≤ b then 1 else 0))) := by
  refine (qX7_in v x a b).trans ?_
  by_cases h1 : x < a
  · rw [if_pos h1, if_neg (fun z => Int32.not_le.mpr h1 z.1)]
  · rw [if_neg h1]
    by_cases h2 : b < x
    · rw [if_pos h2, if_neg (fun z => Int32.not_le.mpr h2 z.2)]
    · rw [if_neg h2, if_pos ⟨Int32.not_lt.mp h1, Int32.not_lt.mp h2⟩]
theorem m_isTank {v : MM} {a : Nat → Nat} (h : St 151 v 14 a) (hc : a 59 ≤ 6) (x : Int32) : fX7_isTank v [MO, I x] = some (v, some (I (if mIn x (a 59) then 1 else 0))) := by
  refine (qX7_isTank v x).trans ?_
  refine (if_pos (show mIn (nI 59) 151 from mIn_nI (by omega) (by omega))).trans ?_
  refine (bI_eq (m_in _ _ _ _)).trans ?_
  rw [show v.1 14 ((59 : Int32).toNatClampNeg) = nI (a 59) from h 59 (by omega)]
  by_cases c : mIn x (a 59)
  · rw [if_pos c, if_pos ((inC (by omega)).mpr c)]
    exact if_pos (by decide)
  · rw [if_neg c, if_neg (fun z => c ((inC (by omega)).mp z))]
    exact if_pos (by decide)
theorem m_isLot {v : MM} {a : Nat → Nat} (h : St 151 v 14 a) (hc : a 42 ≤ 8) (x : Int32) : fX7_isLot v [MO, I x] = some (v, some (I (if mIn x (a 42) then 1 else 0))) := by
  refine (qX7_isLot v x).trans ?_
  refine (if_pos (show mIn (nI 42) 151 from mIn_nI (by omega) (by omega))).trans ?_
  refine (bI_eq (m_in _ _ _ _)).trans ?_
  rw [show v.1 14 ((42 : Int32).toNatClampNeg) = nI (a 42) from h 42 (by omega)]
  by_cases c : mIn x (a 42)
  · rw [if_pos c, if_pos ((inC (by omega)).mpr c)]
    exact if_pos (by decide)
  · rw [if_neg c, if_neg (fun z => c ((inC (by omega)).mp z))]
    exact if_pos (by decide)
theorem ix_tk (j f : Nat) : ((60 : Int32) + (7 : Int32) * nI j) + nI f = nI (60 + 7 * j + f) := by
  rw [show (7 : Int32) = nI 7 from rfl, show (60 : Int32) = nI 60 from rfl, pk_mul, i_add, i_add]
theorem m_of {v : MM} {a : Nat → Nat} (h : St 151 v 14 a) (j f : Nat) (hk : 60 + 7 * j + f < 151) : fX7_of v [MO, I (nI j), I (nI f)] = some (v, some (I (nI (a (60 + 7 * j + f))))) := by
  refine (qX7_of v _ _).trans ?_
  rw [ix_tk, if_pos (mIn_nI hk (by omega)), nI_clamp (by omega), h _ hk]
theorem m_adds (v : MM) (j f : Nat) (hk : 60 + 7 * j + f < 151) (x : Int32) : fX7_adds v [MO, I (nI j), I (nI f), I x] = some (mUp v (14, 60 + 7 * j + f) (v.1 14 (60 + 7 * j + f) + x), none) := by
  refine (qX7_adds v _ _ _).trans ?_
  rw [ix_tk, if_pos (mIn_nI hk (by omega)), if_pos (mIn_nI hk (by omega)), nI_clamp (by omega)]
theorem m_left {v : MM} {a : Nat → Nat} (h : St 151 v 14 a) (j : Nat) (hN : 60 + 7 * j + 6 < 151) (hw : a (60 + 7 * j + 1) + a (60 + 7 * j + 5) ≤ a (60 + 7 * j + 0)) : fX7_left v [MO, I (nI j)] = some (v, some (I (nI (a (60 + 7 * j + 0) - a (60 + 7 * j + 1) - a (60 + 7 * j + 5))))) := by
  refine (qX7_left v _).trans ?_
  refine (bI_eq (m_of h j 0 (by omega))).trans ?_
  refine (bI_eq (m_of h j 1 (by omega))).trans ?_
  refine (bI_eq (m_of h j 5 (by omega))).trans ?_
  rw [i_sub (by omega), i_sub (by omega)]
theorem m_refuses (v : MM) (x : Int32) : fX7_refuses v [MO, I x] = some (mUp v (13, 4) x, some (I (-2))) := qX7_refuses v x
theorem s_refuse (v : MM) (i : Nat) (x : Int32) : fX0_refuse v [nm 2 i 0, I x] = some (mUp v (i, 155) x, some (I (-2))) := qX0_refuse v i x
/-- only the row of numbers and the reason have changed -/
def FrM (v v' : MM) : Prop := (∀ r, r ≠ 14 → r ≠ 13 → v'.1 r = v.1 r) ∧ (∀ o, o ≠ 4 → v'.1 13 o = v.1 13 o) ∧ v'.2 = v.2
theorem FrM.rf (v : MM) : FrM v v := ⟨fun _ _ _ => rfl, fun _ _ => rfl, rfl⟩
theorem FrM.tr {v v' v'' : MM} (h : FrM v v') (h' : FrM v' v'') : FrM v v'' := ⟨fun r h1 h2 => (h'.1 r h1 h2).trans (h.1 r h1 h2), fun o ho => (h'.2.1 o ho).trans (h.2.1 o ho), h'.2.2.trans h.2.2⟩
theorem FrM.of {v v' : MM} (h : Fr 14 v v') : FrM v v' := ⟨fun r h1 _ => h.1 r h1, fun o _ => congrFun (h.1 13 (by decide)) o, h.2⟩
theorem FrM.why (v : MM) (x : Int32) : FrM v (mUp v (13, 4) x) := ⟨fun r _ h2 => (Fr.up 13 4 v x).1 r h2, fun o ho => if_neg (fun z => ho z.2), rfl⟩
