-- THE CALL setVariety
section
variable {B p c : Nat} {a : Nat → Nat} {v u : MM}
theorem Wf.low (hw : Wf B a) {b : Nat → Nat} (h1 : ∀ k, k < 42 → b k ≤ 1000) (h2 : ∀ k, k < 6 → b (3 * k + 0) ≤ 800 ∧ b (3 * k + 1) ≤ 200 ∧ b (3 * k + 2) ≤ 100) (h20 : b 20 ≤ 500) (e : ∀ k, 42 ≤ k → b k = a k) : Wf (B + 1) b := by
  obtain ⟨-, -, h3, h4, h5, h6, h7, h8⟩ := hw.mono
  have ot : ∀ j, j < 6 → ∀ f, f < 7 → b (60 + 7 * j + f) = a (60 + 7 * j + f) := fun j hj f hf => e _ (by omega)
  have l : ∀ k, lot b k = lot a k := fun k => e _ (by omega)
  refine ⟨h1, h2, ⟨by rw [e 42 (by omega)]; exact h3.1, fun k hk => ?_⟩, ⟨by rw [e 59 (by omega)]; exact h4.1, fun j hj => ?_⟩, ?_, by rw [e 102 (by omega)]; exact h6, ⟨by rw [e 103 (by omega)]; exact h7.1, h20⟩, fun j hj => ?_⟩
  · rw [e 42 (by omega), e _ (by omega), l]
    exact h3.2 k hk
  · obtain ⟨f1, f2⟩ := h4.2 j hj
    rw [e 59 (by omega)]
    exact ⟨f1.cg (ot j hj), fun z f hf => (ot j hj f hf).trans (f2 z f hf)⟩
  · have s1 : sm (sug b) 6 = sm (sug a) 6 := sm_cg (fun j hj => sug_cg (ot j hj))
    have s2 : sm (lot b) 8 = sm (lot a) 8 := sm_cg (fun j hj => l j)
    rw [s1, s2, e 42 (by omega)]
    exact h5
  · obtain ⟨f1, f2⟩ := h8 j hj
    rw [e _ (by omega)]
    exact ⟨f1, f2.trans (sm_cg (fun k hk => e _ (by omega))).symm⟩
def aVar (a : Nat → Nat) (k y s z : Nat) : Nat → Nat := au (au (au a (3 * k + 0) y) (3 * k + 1) s) (3 * k + 2) z
theorem Wf.vary (hw : Wf B a) {k y s z : Nat} (hk : k < 6) (hy : y ≤ 800) (hs : s ≤ 200) (hz : z ≤ 100) : Wf (B + 1) (aVar a k y s z) := by
  have out : ∀ q, ¬ (3 * k ≤ q ∧ q < 3 * k + 3) → aVar a k y s z q = a q := fun q hq => (au_n (by omega)).trans ((au_n (by omega)).trans (au_n (by omega)))
  have e0 : aVar a k y s z (3 * k + 0) = y := (au_n (by omega)).trans ((au_n (by omega)).trans (au_s _ _ _))
  have e1 : aVar a k y s z (3 * k + 1) = s := (au_n (by omega)).trans (au_s _ _ _)
  have e2 : aVar a k y s z (3 * k + 2) = z := au_s _ _ _
  refine hw.low (fun q hq => ?_) (fun q hq => ?_) (by rw [out 20 (by omega)]; exact hw.2.2.2.2.2.2.1.2) (fun q hq => out q (by omega))
  · by_cases i : 3 * k ≤ q ∧ q < 3 * k + 3
    · have hc : q = 3 * k + 0 ∨ q = 3 * k + 1 ∨ q = 3 * k + 2 := by omega
      rcases hc with e | e | e <;> rw [e] <;> omega
    · rw [out q i]
      exact hw.1 q hq
  · by_cases i : q = k
    · rw [i, e0, e1, e2]
      exact ⟨hy, hs, hz⟩
    · rw [out _ (by omega), out _ (by omega), out _ (by omega)]
      exact hw.2.1 q hq
end
