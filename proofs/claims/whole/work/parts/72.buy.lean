-- THE CALL buy
section
variable {B p c : Nat} {a : Nat → Nat} {v u : MM}
def aBuy (a : Nat → Nat) (x m : Nat) : Nat → Nat := au (au (au (au a (43 + 2 * a 42 + 0) x) (43 + 2 * a 42 + 1) m) 104 (a 104 + m)) 42 (a 42 + 1)
theorem Wf.buy (hw : Wf B a) {x m : Nat} (hx : x ≤ 5) (hm : m ≤ 20000) (h8 : a 42 < 8) : Wf (B + 1) (aBuy a x m) := by
  obtain ⟨h1, h2, h3, h4, h5, h6, h7, h9⟩ := hw
  have out : ∀ k, k ≠ 42 → k ≠ 104 → k ≠ 43 + 2 * a 42 + 0 → k ≠ 43 + 2 * a 42 + 1 → aBuy a x m k = a k := fun k z1 z2 z3 z4 => (au_n z1).trans ((au_n z2).trans ((au_n z4).trans (au_n z3)))
  have e42 : aBuy a x m 42 = a 42 + 1 := au_s _ _ _
  have e0 : aBuy a x m (43 + 2 * a 42 + 0) = x := (au_n (by omega)).trans ((au_n (by omega)).trans ((au_n (by omega)).trans (au_s _ _ _)))
  have e1 : aBuy a x m (43 + 2 * a 42 + 1) = m := (au_n (by omega)).trans ((au_n (by omega)).trans (au_s _ _ _))
  have ot : ∀ j, ∀ f, f < 7 → aBuy a x m (60 + 7 * j + f) = a (60 + 7 * j + f) ∨ 6 ≤ j := fun j f hf => by
    by_cases z : 6 ≤ j
    · exact Or.inr z
    · exact Or.inl (out _ (by omega) (by omega) (by omega) (by omega))
  have ot2 : ∀ j, j < 6 → ∀ f, f < 7 → aBuy a x m (60 + 7 * j + f) = a (60 + 7 * j + f) := fun j hj f hf => out _ (by omega) (by omega) (by omega) (by omega)
  have l0 : ∀ k, k < 8 → k ≠ a 42 → lot (aBuy a x m) k = lot a k := fun k hk hne => out _ (by omega) (by omega) (by omega) (by omega)
  refine ⟨fun k hk => by rw [out k (by omega) (by omega) (by omega) (by omega)]; exact h1 k hk, fun k hk => ?_, ⟨by omega, fun k hk => ?_⟩, ⟨?_, fun j hj => ?_⟩, ?_, ?_, ⟨?_, ?_⟩, fun j hj => ?_⟩
  · rw [out _ (by omega) (by omega) (by omega) (by omega), out _ (by omega) (by omega) (by omega) (by omega), out _ (by omega) (by omega) (by omega) (by omega)]
    exact h2 k hk
  · by_cases z : k = a 42
    · have q : lot (aBuy a x m) k = m := by
        rw [z]
        exact e1
      rw [q, e42, z, e0]
      exact ⟨hx, hm, fun z => by omega⟩
    · rw [l0 k hk z, e42, out _ (by omega) (by omega) (by omega) (by omega)]
      obtain ⟨f1, f2, f3⟩ := h3.2 k hk
      exact ⟨f1, f2, fun z => f3 (by omega)⟩
  · rw [out _ (by omega) (by omega) (by omega) (by omega)]
    exact h4.1
  · obtain ⟨f1, f2⟩ := h4.2 j hj
    rw [out 59 (by omega) (by omega) (by omega) (by omega)]
    exact ⟨f1.cg (ot2 j hj), fun z f hf => (ot2 j hj f hf).trans (f2 z f hf)⟩
  · have s1 : sm (sug (aBuy a x m)) 6 = sm (sug a) 6 := sm_cg (fun j hj => sug_cg (ot2 j hj))
    have s2 := sm_one (g := lot a) (g' := lot (aBuy a x m)) h8 (fun j hj hne => l0 j hj hne)
    have q : lot (aBuy a x m) (a 42) = m := e1
    rw [e42]
    omega
  · rw [out _ (by omega) (by omega) (by omega) (by omega)]
    omega
  · rw [out _ (by omega) (by omega) (by omega) (by omega)]
    omega
  · rw [out _ (by omega) (by omega) (by omega) (by omega)]
    exact h7.2
  · obtain ⟨f1, f2⟩ := h9 j hj
    rw [out _ (by omega) (by omega) (by omega) (by omega)]
    exact ⟨by omega, f2.trans (sm_cg (fun k hk => out _ (by omega) (by omega) (by omega) (by omega))).symm⟩
end
