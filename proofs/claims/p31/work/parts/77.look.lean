-- LOOKING
theorem ans {v : MM} {x y : Int32} (e : x = y) : (some (v, some (I x)) : MR) = some (v, some (I y)) := by rw [e]
section
variable {B p c : Nat} {a : Nat → Nat} {v : MM} {i j : Nat}
def cnt (a : Nat → Nat) (k : Nat) : Nat := match k with
  | 0 => a 42
  | 1 => a 59
  | 2 => a 102
  | 3 => a 103
  | 7 => a 18
  | 8 => a 19
  | 9 => a 20
  | 10 => a 21
  | _ => 0
theorem u_count (h : Rel B v p c a) {k : Nat} (hk : k < 11) (h4 : k ≠ 4) (h6 : k ≠ 6) : fX6_count v [SH, I (nI k)] = some (v, some (I (nI (cnt a k)))) := by
  obtain ⟨g1, g2, g3, g4, g5, g6, g7⟩ := h
  refine (qX6_count v _).trans ((bN_eq (s_books g3 g1)).trans ((uX6_count_2 v p _).trans ((qX6_count_2 v p _).trans ?_)))
  rcases (show k = 0 ∨ k = 1 ∨ k = 2 ∨ k = 3 ∨ k = 5 ∨ k = 7 ∨ k = 8 ∨ k = 9 ∨ k = 10 by omega) with rfl | rfl | rfl | rfl | rfl | rfl | rfl | rfl | rfl
  · exact ((if_pos rfl).trans (ans (g6.1 42 (by omega))))
  · exact ((if_neg (by decide)).trans ((if_pos rfl).trans (ans (g6.1 59 (by omega)))))
  · exact ((if_neg (by decide)).trans ((if_neg (by decide)).trans ((if_pos rfl).trans (ans (g6.1 102 (by omega))))))
  · exact ((if_neg (by decide)).trans ((if_neg (by decide)).trans ((if_neg (by decide)).trans ((if_pos rfl).trans (ans (g6.1 103 (by omega)))))))
  · exact ((if_neg (by decide)).trans ((if_neg (by decide)).trans ((if_neg (by decide)).trans ((if_neg (by decide)).trans ((if_neg (by decide)).trans ((if_pos rfl).trans (ans g5)))))))
  · exact ((if_neg (by decide)).trans ((if_neg (by decide)).trans ((if_neg (by decide)).trans ((if_neg (by decide)).trans ((if_neg (by decide)).trans ((if_neg (by decide)).trans ((if_neg (by decide)).trans ((if_pos rfl).trans (ans (g6.1 18 (by omega)))))))))))
  · exact ((if_neg (by decide)).trans ((if_neg (by decide)).trans ((if_neg (by decide)).trans ((if_neg (by decide)).trans ((if_neg (by decide)).trans ((if_neg (by decide)).trans ((if_neg (by decide)).trans ((if_neg (by decide)).trans ((if_pos rfl).trans (ans (g6.1 19 (by omega))))))))))))
  · exact ((if_neg (by decide)).trans ((if_neg (by decide)).trans ((if_neg (by decide)).trans ((if_neg (by decide)).trans ((if_neg (by decide)).trans ((if_neg (by decide)).trans ((if_neg (by decide)).trans ((if_neg (by decide)).trans ((if_neg (by decide)).trans ((if_pos rfl).trans (ans (g6.1 20 (by omega)))))))))))))
  · exact ((if_neg (by decide)).trans ((if_neg (by decide)).trans ((if_neg (by decide)).trans ((if_neg (by decide)).trans ((if_neg (by decide)).trans ((if_neg (by decide)).trans ((if_neg (by decide)).trans ((if_neg (by decide)).trans ((if_neg (by decide)).trans ((if_neg (by decide)).trans ((if_pos rfl).trans (ans (g6.1 21 (by omega))))))))))))))
theorem u_why (h : Rel B v p c a) : fX6_count v [SH, I 4] = some (v, some (I (v.1 12 5))) := by
  obtain ⟨g1, g2, g3, g4, g5, g6, g7⟩ := h
  refine (qX6_count v _).trans ((bN_eq (s_books g3 g1)).trans ((uX6_count_2 v p _).trans ((qX6_count_2 v p _).trans ?_)))
  exact (if_neg (by decide)).trans ((if_neg (by decide)).trans ((if_neg (by decide)).trans ((if_neg (by decide)).trans ((if_pos rfl).trans (rfl)))))
theorem u_saved (h : Rel B v p c a) : fX6_count v [SH, I 6] = some (v, some (I (nI c))) := by
  obtain ⟨g1, g2, g3, g4, g5, g6, g7⟩ := h
  refine (qX6_count v _).trans ((bN_eq (s_books g3 g1)).trans ((uX6_count_2 v p _).trans ((qX6_count_2 v p _).trans ?_)))
  exact (if_neg (by decide)).trans ((if_neg (by decide)).trans ((if_neg (by decide)).trans ((if_neg (by decide)).trans ((if_neg (by decide)).trans ((if_neg (by decide)).trans ((if_pos rfl).trans (ans g4)))))))
theorem s_prop (hv : St 155 v i a) (hw : Wf B a) (hj : j < 6) {n : Nat} (hn : n ≤ 7) : fX4_property v [nm 12 i j, I (nI n)] = some (v, some (I (nI (if n = 7 then a (60 + 7 * j + 0) - a (60 + 7 * j + 1) - a (60 + 7 * j + 5) else a (60 + 7 * j + n))))) := by
  refine (qX4_property v i j _).trans ?_
  rcases (show n = 0 ∨ n = 1 ∨ n = 2 ∨ n = 3 ∨ n = 4 ∨ n = 5 ∨ n = 6 ∨ n = 7 by omega) with rfl | rfl | rfl | rfl | rfl | rfl | rfl | rfl
  · exact (if_pos rfl).trans (ans (hv _ (by omega)))
  · exact (if_neg (by decide)).trans ((if_pos rfl).trans (ans (hv _ (by omega))))
  · exact (if_neg (by decide)).trans ((if_neg (by decide)).trans ((if_pos rfl).trans (ans (hv _ (by omega)))))
  · exact (if_neg (by decide)).trans ((if_neg (by decide)).trans ((if_neg (by decide)).trans ((if_pos rfl).trans (ans (hv _ (by omega))))))
  · exact (if_neg (by decide)).trans ((if_neg (by decide)).trans ((if_neg (by decide)).trans ((if_neg (by decide)).trans ((if_pos rfl).trans (ans (hv _ (by omega)))))))
  · exact (if_neg (by decide)).trans ((if_neg (by decide)).trans ((if_neg (by decide)).trans ((if_neg (by decide)).trans ((if_neg (by decide)).trans ((if_pos rfl).trans (ans (hv _ (by omega))))))))
  · exact (if_neg (by decide)).trans ((if_neg (by decide)).trans ((if_neg (by decide)).trans ((if_neg (by decide)).trans ((if_neg (by decide)).trans ((if_neg (by decide)).trans ((if_pos rfl).trans (ans (hv _ (by omega)))))))))
  · exact (if_neg (by decide)).trans ((if_neg (by decide)).trans ((if_neg (by decide)).trans ((if_neg (by decide)).trans ((if_neg (by decide)).trans ((if_neg (by decide)).trans ((if_neg (by decide)).trans (bI_eq (s_left hv (by omega) (hw.2.2.2.1.2 j hj).1.2.1))))))))
theorem s_apples (hv : St 155 v i a) : ∀ d k, d + k = 8 → gX0_applesInLots_4 v i (nI k) (nI (sm (lot a) k)) = some (v, some (I (nI (sm (lot a) 8))))
  | 0, k, e => by
    have ek : k = 8 := by omega
    subst ek
    exact (qX0_applesInLots_4 v i _ _).trans (if_neg (by decide))
  | d + 1, k, e => by
    refine (qX0_applesInLots_4 v i _ _).trans ((if_pos (ltT (n := 8) rfl rfl (by omega) (by omega))).trans ((if_pos (mIn_nI (by omega) (by omega))).trans ?_))
    have q := nI_clamp (show k < 2 ^ 31 by omega)
    have kk : v.1 i (43 + 2 * k + 1) = nI (lot a k) := hv _ (by omega)
    simp only [q, kk, i_add]
    exact (congrArg (fun z => gX0_applesInLots_4 v i z (nI (sm (lot a) (k + 1)))) (i_add k 1)).trans (s_apples hv d (k + 1) (by omega))
theorem s_juiceInTanks (hv : St 155 v i a) : ∀ d k, d + k = 6 → gX0_juiceInTanks_4 v i (nI k) (nI (sm (fun j => a (60 + 7 * j + 1)) k)) = some (v, some (I (nI (sm (fun j => a (60 + 7 * j + 1)) 6))))
  | 0, k, e => by
    have ek : k = 6 := by omega
    subst ek
    exact (qX0_juiceInTanks_4 v i _ _).trans (if_neg (by decide))
  | d + 1, k, e => by
    refine (qX0_juiceInTanks_4 v i _ _).trans ((if_pos (ltT (n := 6) rfl rfl (by omega) (by omega))).trans ((if_pos (mIn_nI (by omega) (by omega))).trans ?_))
    have q := nI_clamp (show k < 2 ^ 31 by omega)
    have kk := hv (60 + 7 * k + 1) (by omega)
    simp only [q, kk, i_add]
    exact (congrArg (fun z => gX0_juiceInTanks_4 v i z (nI (sm (fun j => a (60 + 7 * j + 1)) (k + 1)))) (i_add k 1)).trans (s_juiceInTanks hv d (k + 1) (by omega))
theorem s_leesInTanks (hv : St 155 v i a) : ∀ d k, d + k = 6 → gX0_leesInTanks_4 v i (nI k) (nI (sm (fun j => a (60 + 7 * j + 5)) k)) = some (v, some (I (nI (sm (fun j => a (60 + 7 * j + 5)) 6))))
  | 0, k, e => by
    have ek : k = 6 := by omega
    subst ek
    exact (qX0_leesInTanks_4 v i _ _).trans (if_neg (by decide))
  | d + 1, k, e => by
    refine (qX0_leesInTanks_4 v i _ _).trans ((if_pos (ltT (n := 6) rfl rfl (by omega) (by omega))).trans ((if_pos (mIn_nI (by omega) (by omega))).trans ?_))
    have q := nI_clamp (show k < 2 ^ 31 by omega)
    have kk := hv (60 + 7 * k + 5) (by omega)
    simp only [q, kk, i_add]
    exact (congrArg (fun z => gX0_leesInTanks_4 v i z (nI (sm (fun j => a (60 + 7 * j + 5)) (k + 1)))) (i_add k 1)).trans (s_leesInTanks hv d (k + 1) (by omega))
def tnk (a : Nat → Nat) (t n : Nat) : Int32 := if t < a 59 then nI (if n = 7 then a (60 + 7 * t + 0) - a (60 + 7 * t + 1) - a (60 + 7 * t + 5) else a (60 + 7 * t + n)) else -1
theorem u_tank (h : Rel B v p c a) {t n : Nat} (ht : t < 6) (hn : n ≤ 7) : fX6_tank v [SH, I (nI t), I (nI n)] = some (v, some (I (tnk a t n))) := by
  obtain ⟨g1, g2, g3, g4, g5, ⟨hv, hw, hb⟩, g7⟩ := h
  have h6 : a 59 ≤ 6 := hw.2.2.2.1.1
  refine (qX6_tank v _ _).trans ((bN_eq (s_books g3 g1)).trans ((uX6_tank_2 v p _ _).trans ((qX6_tank_2 v p _ _).trans ?_)))
  have qj := nI_clamp (show t < 2 ^ 31 by omega)
  unfold tnk
  by_cases c1 : t < a 59
  · rw [if_pos c1]
    refine (bI_eq (s_tT hv hw (mIn_nI c1 (by omega)))).trans ((if_neg (by decide)).trans ((bI_eq (s_wT ⟨(i_le (a := 0) (by omega) (by omega)).mpr (by omega), (i_le (b := 7) (by omega) (by omega)).mpr (by omega)⟩)).trans ((if_neg (by decide)).trans ?_)))
    simp only [qj]
    exact (if_pos (mIn_nI (by omega) (by omega))).trans (bI_eq (s_prop hv hw (by omega) hn))
  · rw [if_neg c1]
    refine (bI_eq (s_tF hv hw (fun z => c1 ?_))).trans (if_pos rfl)
    have := z.2
    rw [qj] at this
    exact this
def lotv (a : Nat → Nat) (k n : Nat) : Int32 := if k < a 42 then nI (a (43 + 2 * k + n)) else -1
theorem u_lot (h : Rel B v p c a) {k n : Nat} (hk : k < 8) (hn : n = 0 ∨ n = 1) : fX6_lot v [SH, I (nI k), I (nI n)] = some (v, some (I (lotv a k n))) := by
  obtain ⟨g1, g2, g3, g4, g5, ⟨hv, hw, hb⟩, g7⟩ := h
  have h8 : a 42 ≤ 8 := hw.2.2.1.1
  refine (qX6_lot v _ _).trans ((bN_eq (s_books g3 g1)).trans ((uX6_lot_2 v p _ _).trans ((qX6_lot_2 v p _ _).trans ?_)))
  have qj := nI_clamp (show k < 2 ^ 31 by omega)
  unfold lotv
  by_cases c1 : k < a 42
  · rw [if_pos c1]
    refine (bI_eq (s_lT hv hw (mIn_nI c1 (by omega)))).trans ((if_neg (by decide)).trans ((bI_eq (s_wT ⟨(i_le (a := 0) (by omega) (by omega)).mpr (by omega), (i_le (b := 1) (by omega) (by omega)).mpr (by omega)⟩)).trans ((if_neg (by decide)).trans ?_)))
    simp only [qj]
    rcases hn with rfl | rfl
    · exact (if_pos rfl).trans ((if_pos (mIn_nI (by omega) (by omega))).trans (ans (hv _ (by omega))))
    · exact (if_neg (by decide)).trans ((if_pos (mIn_nI (by omega) (by omega))).trans (ans (hv _ (by omega))))
  · rw [if_neg c1]
    refine (bI_eq (s_lF hv hw (fun z => c1 ?_))).trans (if_pos rfl)
    have := z.2
    rw [qj] at this
    exact this
theorem u_bot (h : Rel B v p c a) {k n : Nat} (hk : k < 4) (hn : n ≤ 10) : fX6_bottles v [SH, I (nI k), I (nI n)] = some (v, some (I (nI (a (if n = 0 then 151 + k else 110 + 10 * k + n))))) := by
  obtain ⟨g1, g2, g3, g4, g5, ⟨hv, hw, hb⟩, g7⟩ := h
  have qj : (nI k).toNatClampNeg = k := nI_clamp (by omega)
  have qn : (nI n).toNatClampNeg = n := nI_clamp (by omega)
  refine (qX6_bottles v _ _).trans ?_
  refine (bI_eq (s_wT ⟨(i_le (a := 0) (by omega) (by omega)).mpr (by omega), (i_le (b := 3) (by omega) (by omega)).mpr (by omega)⟩)).trans ((if_neg (by decide)).trans ((bI_eq (s_wT ⟨(i_le (a := 0) (by omega) (by omega)).mpr (by omega), (i_le (b := 10) (by omega) (by omega)).mpr (by omega)⟩)).trans ((if_neg (by decide)).trans ?_)))
  refine (bN_eq (s_books g3 g1)).trans ((uX6_bottles_14 v p _ _).trans ((qX6_bottles_14 v p _ _).trans ?_))
  simp only [qj, qn]
  exact (if_pos (mIn_nI (by omega) (by omega))).trans ((if_pos (mIn_nI (by omega) (by omega))).trans (ans (hv _ (by split <;> omega))))
def acc (a : Nat → Nat) (k : Nat) : Nat := match k with
  | 7 => SL a
  | 8 => a 102
  | 9 => SJ a
  | 10 => SE a
  | k => a (104 + k)
theorem u_acc (h : Rel B v p c a) {k : Nat} (hk : k < 11) : fX6_account v [SH, I (nI k)] = some (v, some (I (nI (acc a k)))) := by
  obtain ⟨g1, g2, g3, g4, g5, ⟨hv, hw, hb⟩, g7⟩ := h
  refine (qX6_account v _).trans ((bN_eq (s_books g3 g1)).trans ((uX6_account_2 v p _).trans ((qX6_account_2 v p _).trans (bI_eq ?_))))
  refine (qX0_sumOf v p _).trans ?_
  by_cases c2 : k < 7
  · have q := nI_clamp (show k < 2 ^ 31 by omega)
    have e : acc a k = a (104 + k) := by
      unfold acc
      split <;> first | omega | rfl
    rw [e]
    refine (bI_eq (s_wT ⟨(i_le (a := 0) (by omega) (by omega)).mpr (by omega), (i_le (b := 6) (by omega) (by omega)).mpr (by omega)⟩)).trans ((if_neg (by decide)).trans ?_)
    simp only [q]
    exact (if_pos (mIn_nI (by omega) (by omega))).trans (ans (hv _ (by omega)))
  · have w6 : ¬ ((0 : Int32) ≤ nI k ∧ nI k ≤ 6) := fun z => by
      have := (i_le (b := 6) (by omega) (by omega)).mp z.2
      omega
    rcases (show k = 7 ∨ k = 8 ∨ k = 9 ∨ k = 10 by omega) with rfl | rfl | rfl | rfl
    · exact (bI_eq (s_wF w6)).trans ((if_pos rfl).trans ((if_pos rfl).trans (bI_eq ((qX0_applesInLots v p).trans (s_apples hv 8 0 rfl)))))
    · exact (bI_eq (s_wF w6)).trans ((if_pos rfl).trans ((if_neg (by decide)).trans ((if_pos rfl).trans (ans (hv _ (by omega))))))
    · exact (bI_eq (s_wF w6)).trans ((if_pos rfl).trans ((if_neg (by decide)).trans ((if_neg (by decide)).trans ((if_pos rfl).trans (bI_eq ((qX0_juiceInTanks v p).trans (s_juiceInTanks hv 6 0 rfl)))))))
    · exact (bI_eq (s_wF w6)).trans ((if_pos rfl).trans ((if_neg (by decide)).trans ((if_neg (by decide)).trans ((if_neg (by decide)).trans ((if_pos rfl).trans (bI_eq ((qX0_leesInTanks v p).trans (s_leesInTanks hv 6 0 rfl))))))))
end
