-- MOVES
theorem Wf.chg {B : Nat} {a a' : Nat → Nat} (hw : Wf B a) (c1 : ∀ k, k < 42 → a' k = a k) (c2 : a' 42 = a 42) (c3 : ∀ k, k < 8 → a' (43 + 2 * k + 0) = a (43 + 2 * k + 0) ∧ lot a' k ≤ lot a k) (c4 : a' 59 = a 59) (c5 : ∀ j, j < 6 → (j < a 59 ∧ WT a' j) ∨ ∀ f, f < 7 → a' (60 + 7 * j + f) = a (60 + 7 * j + f)) (c6 : sm (sug a') 6 + sm (lot a') 8 ≤ sm (sug a) 6 + sm (lot a) 8 + 150) (c7 : a' 102 ≤ a 102 + 20000) (c8 : a' 103 ≤ a 103 + 1) (c9 : ∀ j, j < 4 → a' (151 + j) ≤ a (151 + j) + 5000 ∧ a' (151 + j) = sm (fun k => a' (111 + 10 * j + k)) 10) : Wf (B + 1) a' := by
  obtain ⟨h1, h2, h3, h4, h5, h6, h7, h8⟩ := hw
  refine ⟨fun k hk => by rw [c1 k hk]; exact h1 k hk, fun k hk => ?_, ⟨by rw [c2]; exact h3.1, fun k hk => ?_⟩, ⟨by rw [c4]; exact h4.1, fun j hj => ?_⟩, ?_, by omega, ⟨by omega, by rw [c1 20 (by omega)]; exact h7.2⟩, fun j hj => ⟨?_, (c9 j hj).2⟩⟩
  · rw [c1 _ (by omega), c1 _ (by omega), c1 _ (by omega)]
    exact h2 k hk
  · obtain ⟨e1, e2⟩ := c3 k hk
    obtain ⟨f1, f2, f3⟩ := h3.2 k hk
    rw [c2, e1]
    refine ⟨f1, by omega, fun z => ?_⟩
    obtain ⟨g1, g2⟩ := f3 z
    exact ⟨g1, by omega⟩
  · obtain ⟨f1, f2⟩ := h4.2 j hj
    rw [c4]
    rcases c5 j hj with ⟨e1, e2⟩ | e
    · exact ⟨e2, fun z => by omega⟩
    · exact ⟨f1.cg e, fun z f hf => by rw [e f hf]; exact f2 z f hf⟩
  · rw [c2]
    omega
  · have := (c9 j hj).1
    have := (h8 j hj).1
    omega
theorem bot_same {B : Nat} {a a' : Nat → Nat} (hw : Wf B a) (e : ∀ k, 111 ≤ k → k < 155 → a' k = a k) : ∀ j, j < 4 → a' (151 + j) ≤ a (151 + j) + 5000 ∧ a' (151 + j) = sm (fun k => a' (111 + 10 * j + k)) 10 := by
  intro j hj
  have h8 := hw.2.2.2.2.2.2.2 j hj
  rw [e _ (by omega) (by omega)]
  refine ⟨by omega, h8.2.trans (sm_cg (fun k hk => e _ (by omega) (by omega))).symm⟩
theorem aGive_out {a : Nat → Nat} {f n t k : Nat} (ne : f ≠ t) (hf : ¬ (60 + 7 * f ≤ k ∧ k < 60 + 7 * f + 7)) (ht : ¬ (60 + 7 * t ≤ k ∧ k < 60 + 7 * t + 7)) : aGive a f n t k = a k := by
  rw [aGive_eq ne]
  unfold aLand aFill
  (try simp only [au]); (repeat (first | rw [if_pos trivial] | rw [if_pos (by omega)] | rw [if_neg (by omega)]))
theorem aGive_f {a : Nat → Nat} {f n t : Nat} (ne : f ≠ t) : aGive a f n t (60 + 7 * f + 0) = a (60 + 7 * f + 0) ∧ aGive a f n t (60 + 7 * f + 1) = a (60 + 7 * f + 1) - n ∧ aGive a f n t (60 + 7 * f + 2) = a (60 + 7 * f + 2) - pt a f 2 n ∧ aGive a f n t (60 + 7 * f + 3) = a (60 + 7 * f + 3) - pt a f 3 n ∧ aGive a f n t (60 + 7 * f + 4) = a (60 + 7 * f + 4) - pt a f 4 n ∧ aGive a f n t (60 + 7 * f + 5) = a (60 + 7 * f + 5) ∧ aGive a f n t (60 + 7 * f + 6) = a (60 + 7 * f + 6) - pt a f 6 n := by
  rw [aGive_eq ne]
  unfold aLand aFill
  refine ⟨?_, ?_, ?_, ?_, ?_, ?_, ?_⟩
  all_goals ((try simp only [au]); (repeat (first | rw [if_pos trivial] | rw [if_pos (by omega)] | rw [if_neg (by omega)])))
theorem aGive_t {a : Nat → Nat} {f n t : Nat} (ne : f ≠ t) : aGive a f n t (60 + 7 * t + 0) = a (60 + 7 * t + 0) ∧ aGive a f n t (60 + 7 * t + 1) = a (60 + 7 * t + 1) + n ∧ aGive a f n t (60 + 7 * t + 2) = a (60 + 7 * t + 2) + pt a f 2 n ∧ aGive a f n t (60 + 7 * t + 3) = a (60 + 7 * t + 3) + pt a f 3 n ∧ aGive a f n t (60 + 7 * t + 4) = a (60 + 7 * t + 4) + pt a f 4 n ∧ aGive a f n t (60 + 7 * t + 5) = a (60 + 7 * t + 5) ∧ aGive a f n t (60 + 7 * t + 6) = a (60 + 7 * t + 6) + pt a f 6 n := by
  rw [aGive_eq ne]
  unfold aLand aFill
  refine ⟨?_, ?_, ?_, ?_, ?_, ?_, ?_⟩
  all_goals ((try simp only [au]); (repeat (first | rw [if_pos trivial] | rw [if_pos (by omega)] | rw [if_neg (by omega)])))
theorem pt_all {a : Nat → Nat} {j q n : Nat} (h : n = a (60 + 7 * j + 1)) (h0 : 0 < n) : pt a j q n = a (60 + 7 * j + q) := by
  unfold pt
  rw [← h]
  exact Nat.mul_div_cancel _ h0
theorem Wf.give {B : Nat} {a : Nat → Nat} (hw : Wf B a) {f n t : Nat} (hf : f < a 59) (ht : t < a 59) (ne : f ≠ t) (h0 : 0 < n) (hn : n ≤ a (60 + 7 * f + 1)) (hl : n ≤ a (60 + 7 * t + 0) - a (60 + 7 * t + 1) - a (60 + 7 * t + 5)) : Wf (B + 1) (aGive a f n t) := by
  have w4 := hw.2.2.2.1
  have hf6 : f < 6 := by omega
  have ht6 : t < 6 := by omega
  obtain ⟨⟨f0, f1, f4, fz⟩, -⟩ := w4.2 f hf6
  obtain ⟨⟨t0, t1, t4, tz⟩, -⟩ := w4.2 t ht6
  obtain ⟨gf0, gf1, gf2, gf3, gf4, gf5, gf6⟩ := aGive_f (a := a) (n := n) ne
  obtain ⟨gt0, gt1, gt2, gt3, gt4, gt5, gt6⟩ := aGive_t (a := a) (n := n) ne
  have p2 : pt a f 2 n ≤ a (60 + 7 * f + 2) := pt_le hn
  have p3 : pt a f 3 n ≤ a (60 + 7 * f + 3) := pt_le hn
  have p4 : pt a f 4 n ≤ a (60 + 7 * f + 4) := pt_le hn
  have p6 : pt a f 6 n ≤ a (60 + 7 * f + 6) := pt_le hn
  have p4n : pt a f 4 n ≤ n := part_le f4
  have hh : a (60 + 7 * f + 4) + n ≤ a (60 + 7 * f + 1) + pt a f 4 n := hz f4 hn (by omega)
  have out : ∀ k, ¬ (60 + 7 * f ≤ k ∧ k < 60 + 7 * f + 7) → ¬ (60 + 7 * t ≤ k ∧ k < 60 + 7 * t + 7) → aGive a f n t k = a k := fun k x y => aGive_out ne x y
  have ot : ∀ j, j ≠ f → j ≠ t → ∀ q, q < 7 → aGive a f n t (60 + 7 * j + q) = a (60 + 7 * j + q) := fun j x y q hq => out _ (by omega) (by omega)
  refine hw.chg (fun k hk => out k (by omega) (by omega)) (out _ (by omega) (by omega)) (fun k hk => ⟨out _ (by omega) (by omega), ?_⟩) (out _ (by omega) (by omega)) (fun j hj => ?_) ?_ ?_ ?_ (bot_same hw (fun k x y => out k (by omega) (by omega)))
  · unfold lot
    rw [out _ (by omega) (by omega)]
    exact Nat.le_refl _
  · by_cases e1 : j = f
    · subst e1
      refine Or.inl ⟨hf, ?_⟩
      unfold WT
      rw [gf0, gf1, gf2, gf3, gf4, gf5, gf6]
      refine ⟨f0, by omega, by omega, fun z => ?_⟩
      have e : n = a (60 + 7 * j + 1) := by omega
      rw [pt_all e h0, pt_all e h0, pt_all e h0, pt_all e h0]
      omega
    · by_cases e2 : j = t
      · subst e2
        refine Or.inl ⟨ht, ?_⟩
        unfold WT
        rw [gt0, gt1, gt2, gt3, gt4, gt5, gt6]
        exact ⟨t0, by omega, by omega, fun z => by omega⟩
      · exact Or.inr (ot j e1 e2)
  · have s1 := sm_two (g := sug a) (g' := sug (aGive a f n t)) hf6 ht6 ne (fun j _ x y => sug_cg (ot j x y))
    have s2 : sm (lot (aGive a f n t)) 8 = sm (lot a) 8 := sm_cg (fun j hj => out _ (by omega) (by omega))
    have s3 : sug (aGive a f n t) f + sug (aGive a f n t) t = sug a f + sug a t := by
      unfold sug
      rw [gf2, gf3, gf6, gt2, gt3, gt6]
      omega
    omega
  · rw [out _ (by omega) (by omega)]
    omega
  · rw [out _ (by omega) (by omega)]
    omega
