-- A DAY
section
variable {B : Nat} {v u : MM} {i : Nat} {a : Nat → Nat}
def aDry (b : Nat → Nat) (k : Nat) : Nat → Nat := au (au b (43 + 2 * k + 1) (b (43 + 2 * k + 1) - b (43 + 2 * k + 1) * b 18 / 1000)) 106 (b 106 + b (43 + 2 * k + 1) * b 18 / 1000)
def aWork (b : Nat → Nat) (t : Nat) : Nat → Nat := au (au (au (au (au b (60 + 7 * t + 4) (b (60 + 7 * t + 4) - b (60 + 7 * t + 4) * b 20 / 1000)) (60 + 7 * t + 1) (b (60 + 7 * t + 1) - b (60 + 7 * t + 4) * b 20 / 1000)) (60 + 7 * t + 5) (b (60 + 7 * t + 5) + b (60 + 7 * t + 4) * b 20 / 1000)) (60 + 7 * t + 2) (b (60 + 7 * t + 2) - b (60 + 7 * t + 2) * b 21 / 1000)) (60 + 7 * t + 6) (b (60 + 7 * t + 6) + b (60 + 7 * t + 2) * b 21 / 1000)
def drys (a : Nat → Nat) : Nat → Nat → Nat
  | 0 => a
  | k + 1 => aDry (drys a k) k
def wrks (a : Nat → Nat) : Nat → Nat → Nat
  | 0 => a
  | k + 1 => aWork (wrks a k) k
/-- what a day leaves alone -/
def DR (a b : Nat → Nat) : Prop := (∀ k, k < 42 → b k = a k) ∧ b 42 = a 42 ∧ (∀ k, k < 8 → b (43 + 2 * k + 0) = a (43 + 2 * k + 0) ∧ lot b k ≤ lot a k) ∧ b 59 = a 59 ∧ (∀ j, j < 6 → WT b j ∧ (a 59 ≤ j → ∀ f, f < 7 → b (60 + 7 * j + f) = 0) ∧ sug b j = sug a j) ∧ b 102 = a 102 ∧ b 103 = a 103 ∧ ∀ k, 111 ≤ k → k < 155 → b k = a k
theorem DR.rf (hw : Wf B a) : DR a a := ⟨fun _ _ => rfl, rfl, fun _ _ => ⟨rfl, Nat.le_refl _⟩, rfl, fun j hj => ⟨(hw.2.2.2.1.2 j hj).1, (hw.2.2.2.1.2 j hj).2, rfl⟩, rfl, rfl, fun _ _ _ => rfl⟩
theorem aDry_out {b : Nat → Nat} {k q : Nat} (h1 : q ≠ 43 + 2 * k + 1) (h2 : q ≠ 106) : aDry b k q = b q := by
  unfold aDry
  rw [au_n h2, au_n h1]
theorem aDry_s {b : Nat → Nat} {k : Nat} (hk : k < 8) : aDry b k (43 + 2 * k + 1) = b (43 + 2 * k + 1) - b (43 + 2 * k + 1) * b 18 / 1000 := by
  unfold aDry
  rw [au_n (by omega), au_s]
theorem aWork_out {b : Nat → Nat} {t q : Nat} (h : ¬ (60 + 7 * t ≤ q ∧ q < 60 + 7 * t + 7)) : aWork b t q = b q := by
  unfold aWork
  (try simp only [au]); (repeat (first | rw [if_pos trivial] | rw [if_pos (by omega)] | rw [if_neg (by omega)]))
theorem aWork_t {b : Nat → Nat} {t : Nat} : aWork b t (60 + 7 * t + 0) = b (60 + 7 * t + 0) ∧ aWork b t (60 + 7 * t + 1) = b (60 + 7 * t + 1) - b (60 + 7 * t + 4) * b 20 / 1000 ∧ aWork b t (60 + 7 * t + 2) = b (60 + 7 * t + 2) - b (60 + 7 * t + 2) * b 21 / 1000 ∧ aWork b t (60 + 7 * t + 3) = b (60 + 7 * t + 3) ∧ aWork b t (60 + 7 * t + 4) = b (60 + 7 * t + 4) - b (60 + 7 * t + 4) * b 20 / 1000 ∧ aWork b t (60 + 7 * t + 5) = b (60 + 7 * t + 5) + b (60 + 7 * t + 4) * b 20 / 1000 ∧ aWork b t (60 + 7 * t + 6) = b (60 + 7 * t + 6) + b (60 + 7 * t + 2) * b 21 / 1000 := by
  unfold aWork
  refine ⟨?_, ?_, ?_, ?_, ?_, ?_, ?_⟩
  all_goals ((try simp only [au]); (repeat (first | rw [if_pos trivial] | rw [if_pos (by omega)] | rw [if_neg (by omega)])))
theorem DR.dry {b : Nat → Nat} (h : DR a b) {k : Nat} (hk : k < 8) : DR a (aDry b k) := by
  obtain ⟨h1, h2, h3, h4, h5, h6, h7, h8⟩ := h
  have ot : ∀ j, j < 6 → ∀ q, q < 7 → aDry b k (60 + 7 * j + q) = b (60 + 7 * j + q) := fun j hj q hq => aDry_out (by omega) (by omega)
  refine ⟨fun q hq => (aDry_out (by omega) (by omega)).trans (h1 q hq), (aDry_out (by omega) (by omega)).trans h2, fun q hq => ⟨(aDry_out (by omega) (by omega)).trans (h3 q hq).1, ?_⟩, (aDry_out (by omega) (by omega)).trans h4, fun j hj => ⟨(h5 j hj).1.cg (ot j hj), fun z f hf => (ot j hj f hf).trans ((h5 j hj).2.1 z f hf), (sug_cg (ot j hj)).trans (h5 j hj).2.2⟩, (aDry_out (by omega) (by omega)).trans h6, (aDry_out (by omega) (by omega)).trans h7, fun q x y => (aDry_out (by omega) (by omega)).trans (h8 q x y)⟩
  have g := (h3 q hq).2
  by_cases e : q = k
  · subst e
    have : lot (aDry b q) q = lot b q - b (43 + 2 * q + 1) * b 18 / 1000 := aDry_s hk
    omega
  · have : lot (aDry b k) q = lot b q := aDry_out (by omega) (by omega)
    omega
theorem DR.work {b : Nat → Nat} (hw : Wf B a) (h : DR a b) {t : Nat} (ht : t < 6) : DR a (aWork b t) := by
  obtain ⟨h1, h2, h3, h4, h5, h6, h7, h8⟩ := h
  have r20 : b 20 ≤ 1000 := by rw [h1 20 (by omega)]; exact hw.1 20 (by omega)
  have r21 : b 21 ≤ 1000 := by rw [h1 21 (by omega)]; exact hw.1 21 (by omega)
  have d4 : b (60 + 7 * t + 4) * b 20 / 1000 ≤ b (60 + 7 * t + 4) := div_th r20
  have d2 : b (60 + 7 * t + 2) * b 21 / 1000 ≤ b (60 + 7 * t + 2) := div_th r21
  have ot : ∀ j, j ≠ t → ∀ q, q < 7 → aWork b t (60 + 7 * j + q) = b (60 + 7 * j + q) := fun j hj q hq => aWork_out (by omega)
  obtain ⟨g0, g1, g2, g3, g4, g5, g6⟩ := aWork_t (b := b) (t := t)
  refine ⟨fun q hq => (aWork_out (by omega)).trans (h1 q hq), (aWork_out (by omega)).trans h2, fun q hq => ⟨(aWork_out (by omega)).trans (h3 q hq).1, ?_⟩, (aWork_out (by omega)).trans h4, fun j hj => ?_, (aWork_out (by omega)).trans h6, (aWork_out (by omega)).trans h7, fun q x y => (aWork_out (by omega)).trans (h8 q x y)⟩
  · have : lot (aWork b t) q = lot b q := aWork_out (by omega)
    rw [this]
    exact (h3 q hq).2
  · obtain ⟨k1, k2, k3⟩ := h5 j hj
    by_cases e : j = t
    · subst e
      obtain ⟨w0, w1, w4, wz⟩ := k1
      refine ⟨?_, fun z f hf => ?_, ?_⟩
      · unfold WT
        rw [g0, g1, g2, g3, g4, g5, g6]
        refine ⟨w0, by omega, by omega, fun z => ?_⟩
        have z4 : b (60 + 7 * j + 1) = b (60 + 7 * j + 4) * b 20 / 1000 := by omega
        have z5 : b (60 + 7 * j + 4) = b (60 + 7 * j + 1) := by omega
        by_cases z6 : b (60 + 7 * j + 1) = 0
        · have := wz z6
          omega
        · exfalso
          have r : b 20 ≤ 500 := by
            rw [h1 20 (by omega)]
            exact hw.2.2.2.2.2.2.1.2
          have r2 : b (60 + 7 * j + 4) * b 20 ≤ b (60 + 7 * j + 4) * 500 := Nat.mul_le_mul_left _ r
          omega
      · have e0 := k2 z 0 (by omega)
        have e1 := k2 z 1 (by omega)
        have e2 := k2 z 2 (by omega)
        have e3 := k2 z 3 (by omega)
        have e4 := k2 z 4 (by omega)
        have e5 := k2 z 5 (by omega)
        have e6 := k2 z 6 (by omega)
        have hc : f = 0 ∨ f = 1 ∨ f = 2 ∨ f = 3 ∨ f = 4 ∨ f = 5 ∨ f = 6 := by omega
        rcases hc with rfl | rfl | rfl | rfl | rfl | rfl | rfl <;> omega
      · rw [← k3]
        unfold sug
        rw [g2, g3, g6]
        omega
    · exact ⟨k1.cg (ot j e), fun z f hf => (ot j e f hf).trans (k2 z f hf), (sug_cg (ot j e)).trans k3⟩
end
