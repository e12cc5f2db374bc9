-- A TANK IS FILLED
section
variable {B : Nat} {v u : MM} {i : Nat} {a : Nat → Nat}
theorem aFill_out {b : Nat → Nat} {t J s1 s2 s3 k : Nat} (h : ¬ (60 + 7 * t + 1 ≤ k ∧ k ≤ 60 + 7 * t + 4)) : aFill b t J s1 s2 s3 k = b k := by
  unfold aFill
  (try simp only [au]); (repeat (first | rw [if_pos trivial] | rw [if_pos (by omega)] | rw [if_neg (by omega)]))
theorem aFill_t {b : Nat → Nat} {t J s1 s2 s3 : Nat} : aFill b t J s1 s2 s3 (60 + 7 * t + 1) = b (60 + 7 * t + 1) + J ∧ aFill b t J s1 s2 s3 (60 + 7 * t + 2) = b (60 + 7 * t + 2) + s1 ∧ aFill b t J s1 s2 s3 (60 + 7 * t + 3) = b (60 + 7 * t + 3) + s2 ∧ aFill b t J s1 s2 s3 (60 + 7 * t + 4) = b (60 + 7 * t + 4) + s3 := by
  unfold aFill
  refine ⟨?_, ?_, ?_, ?_⟩
  all_goals ((try simp only [au]); (repeat (first | rw [if_pos trivial] | rw [if_pos (by omega)] | rw [if_neg (by omega)])))
theorem Wf.fill (hw : Wf B a) {b : Nat → Nat} {t J s1 s2 s3 : Nat} (ht : t < a 59) (h1 : ∀ k, k < 42 → b k = a k) (h2 : b 42 = a 42) (h3 : ∀ k, k < 8 → b (43 + 2 * k + 0) = a (43 + 2 * k + 0) ∧ lot b k ≤ lot a k) (h4 : b 59 = a 59) (h5 : ∀ j, j < 6 → ∀ q, q < 7 → b (60 + 7 * j + q) = a (60 + 7 * j + q)) (h6 : s1 + s2 + sm (lot b) 8 ≤ sm (lot a) 8 + 150) (h7 : b 102 ≤ a 102 + 20000) (h8 : b 103 = a 103) (h9 : ∀ k, 111 ≤ k → k < 155 → b k = a k) (hJ : J ≤ a (60 + 7 * t + 0) - a (60 + 7 * t + 1) - a (60 + 7 * t + 5)) (hs3 : s3 ≤ J) (h0 : J = 0 → s1 = 0 ∧ s2 = 0) : Wf (B + 1) (aFill b t J s1 s2 s3) := by
  have w4 := hw.2.2.2.1
  have ht6 : t < 6 := by omega
  obtain ⟨⟨t0, t1, t4, tz⟩, -⟩ := w4.2 t ht6
  obtain ⟨g1, g2, g3, g4⟩ := aFill_t (b := b) (t := t) (J := J) (s1 := s1) (s2 := s2) (s3 := s3)
  have out : ∀ k, ¬ (60 + 7 * t + 1 ≤ k ∧ k ≤ 60 + 7 * t + 4) → aFill b t J s1 s2 s3 k = b k := fun k h => aFill_out h
  have e0 := (out (60 + 7 * t + 0) (by omega)).trans (h5 t ht6 0 (by omega))
  have e5 := (out (60 + 7 * t + 5) (by omega)).trans (h5 t ht6 5 (by omega))
  have e6 := (out (60 + 7 * t + 6) (by omega)).trans (h5 t ht6 6 (by omega))
  rw [h5 t ht6 1 (by omega)] at g1
  rw [h5 t ht6 2 (by omega)] at g2
  rw [h5 t ht6 3 (by omega)] at g3
  rw [h5 t ht6 4 (by omega)] at g4
  have oth : ∀ j, j < 6 → j ≠ t → ∀ q, q < 7 → aFill b t J s1 s2 s3 (60 + 7 * j + q) = a (60 + 7 * j + q) := fun j hj hne q hq => (out _ (by omega)).trans (h5 j hj q hq)
  have sl : sm (lot (aFill b t J s1 s2 s3)) 8 = sm (lot b) 8 := sm_cg (fun j hj => out _ (by omega))
  refine hw.chg (fun k hk => (out k (by omega)).trans (h1 k hk)) ((out _ (by omega)).trans h2) (fun k hk => ⟨(out _ (by omega)).trans (h3 k hk).1, ?_⟩) ((out _ (by omega)).trans h4) (fun j hj => ?_) ?_ ?_ ?_ (bot_same hw (fun k x y => (out k (by omega)).trans (h9 k x y)))
  · have : lot (aFill b t J s1 s2 s3) k = lot b k := out _ (by omega)
    rw [this]
    exact (h3 k hk).2
  · by_cases e1 : j = t
    · subst e1
      refine Or.inl ⟨ht, ?_⟩
      unfold WT
      rw [e0, g1, g2, g3, g4, e5, e6]
      refine ⟨t0, by omega, by omega, fun z => ?_⟩
      have := h0 (by omega)
      omega
    · exact Or.inr (oth j hj e1)
  · have s1' := sm_one (g := sug a) (g' := sug (aFill b t J s1 s2 s3)) ht6 (fun j hj hne => sug_cg (oth j hj hne))
    have s3' : sug (aFill b t J s1 s2 s3) t = sug a t + s1 + s2 := by
      unfold sug
      rw [g2, g3, e6]
      omega
    omega
  · rw [out _ (by omega)]
    exact h7
  · rw [out _ (by omega), h8]
    omega
end
theorem s_wT {v : MM} {x a b : Int32} (h : a ≤ x ∧ x ≤ b) : fX6_within v [I x, I a, I b] = some (v, some (I 1)) := by
  rw [s_within, if_pos h]
theorem s_wF {v : MM} {x a b : Int32} (h : ¬ (a ≤ x ∧ x ≤ b)) : fX6_within v [I x, I a, I b] = some (v, some (I 0)) := by
  rw [s_within, if_neg h]
section
variable {B : Nat} {v u : MM} {i : Nat} {a : Nat → Nat}
theorem s_tT (hv : St 155 v i a) (hw : Wf B a) {x : Int32} (c : mIn x (a 59)) : fX0_hasTank v [nm 2 i 0, I x] = some (v, some (I 1)) := by
  rw [s_hasTank hv (by omega) hw.2.2.2.1.1, if_pos c]
theorem s_tF (hv : St 155 v i a) (hw : Wf B a) {x : Int32} (c : ¬ mIn x (a 59)) : fX0_hasTank v [nm 2 i 0, I x] = some (v, some (I 0)) := by
  rw [s_hasTank hv (by omega) hw.2.2.2.1.1, if_neg c]
theorem s_lT (hv : St 155 v i a) (hw : Wf B a) {x : Int32} (c : mIn x (a 42)) : fX0_hasLot v [nm 2 i 0, I x] = some (v, some (I 1)) := by
  rw [s_hasLot hv (by omega) hw.2.2.1.1, if_pos c]
theorem s_lF (hv : St 155 v i a) (hw : Wf B a) {x : Int32} (c : ¬ mIn x (a 42)) : fX0_hasLot v [nm 2 i 0, I x] = some (v, some (I 0)) := by
  rw [s_hasLot hv (by omega) hw.2.2.1.1, if_neg c]
theorem ltT {x y : Int32} {m n : Nat} (hx : x = nI m) (hy : y = nI n) (h : m < n) (hn : n < 2 ^ 31) : x < y := by
  rw [hx, hy]
  exact (i_lt (by omega) hn).mpr h
theorem ltF {x y : Int32} {m n : Nat} (hx : x = nI m) (hy : y = nI n) (h : n ≤ m) (hm : m < 2 ^ 31) : ¬ x < y := by
  rw [hx, hy]
  intro z
  have := (i_lt hm (by omega)).mp z
  omega
theorem eqT {x y : Int32} {m n : Nat} (hx : x = nI m) (hy : y = nI n) (h : m = n) : x = y := by
  rw [hx, hy, h]
theorem eqF {x y : Int32} {m n : Nat} (hx : x = nI m) (hy : y = nI n) (h : m ≠ n) (hm : m < 2 ^ 31) (hn : n < 2 ^ 31) : ¬ x = y := by
  rw [hx, hy]
  exact fun z => h ((i_eq hm hn).mp z)
theorem ne_nI {f t : Nat} (h : nI f ≠ nI t) : f ≠ t := fun z => h (by rw [z])
end
