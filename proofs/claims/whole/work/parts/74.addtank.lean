-- THE CALL addTank
section
variable {B p c : Nat} {a : Nat → Nat} {v u : MM}
def aTank (a : Nat → Nat) (r : Nat) : Nat → Nat := au (au a (60 + 7 * a 59 + 0) r) 59 (a 59 + 1)
theorem Wf.tank (hw : Wf B a) {r : Nat} (hr : r ≤ 5000) (h6 : a 59 < 6) : Wf (B + 1) (aTank a r) := by
  obtain ⟨h1, h2, h3, h4, h5, h6', h7, h8⟩ := hw.mono
  have out : ∀ k, k ≠ 59 → k ≠ 60 + 7 * a 59 + 0 → aTank a r k = a k := fun k z1 z2 => (au_n z1).trans (au_n z2)
  have e59 : aTank a r 59 = a 59 + 1 := au_s _ _ _
  have er : aTank a r (60 + 7 * a 59 + 0) = r := (au_n (by omega)).trans (au_s _ _ _)
  have sg : ∀ j, j < 6 → sug (aTank a r) j = sug a j := fun j hj => by
    unfold sug
    rw [out _ (by omega) (by omega), out _ (by omega) (by omega), out _ (by omega) (by omega)]
  have l : ∀ k, k < 8 → lot (aTank a r) k = lot a k := fun k hk => out _ (by omega) (by omega)
  refine ⟨fun k hk => by rw [out k (by omega) (by omega)]; exact h1 k hk, fun k hk => ?_, ⟨by rw [out 42 (by omega) (by omega)]; exact h3.1, fun k hk => ?_⟩, ⟨by omega, fun j hj => ?_⟩, ?_, by rw [out 102 (by omega) (by omega)]; exact h6', ⟨by rw [out 103 (by omega) (by omega)]; exact h7.1, by rw [out 20 (by omega) (by omega)]; exact h7.2⟩, fun j hj => ?_⟩
  · rw [out _ (by omega) (by omega), out _ (by omega) (by omega), out _ (by omega) (by omega)]
    exact h2 k hk
  · rw [out 42 (by omega) (by omega), out _ (by omega) (by omega), l k hk]
    exact h3.2 k hk
  · obtain ⟨f1, f2⟩ := h4.2 j hj
    rw [e59]
    by_cases z : j = a 59
    · have z0 := f2 (by omega)
      refine ⟨?_, fun z => by omega⟩
      have y1 := z0 1 (by omega)
      have y2 := z0 2 (by omega)
      have y3 := z0 3 (by omega)
      have y4 := z0 4 (by omega)
      have y5 := z0 5 (by omega)
      have y6 := z0 6 (by omega)
      unfold WT
      rw [out (60 + 7 * j + 1) (by omega) (by omega), out (60 + 7 * j + 2) (by omega) (by omega), out (60 + 7 * j + 3) (by omega) (by omega), out (60 + 7 * j + 4) (by omega) (by omega), out (60 + 7 * j + 5) (by omega) (by omega), out (60 + 7 * j + 6) (by omega) (by omega), y1, y2, y3, y4, y5, y6, z, er]
      omega
    · exact ⟨f1.cg (fun f hf => out _ (by omega) (by omega)), fun y f hf => (out _ (by omega) (by omega)).trans (f2 (by omega) f hf)⟩
  · have s1 : sm (sug (aTank a r)) 6 = sm (sug a) 6 := sm_cg sg
    have s2 : sm (lot (aTank a r)) 8 = sm (lot a) 8 := sm_cg l
    rw [s1, s2, out 42 (by omega) (by omega)]
    exact h5
  · obtain ⟨f1, f2⟩ := h8 j hj
    rw [out _ (by omega) (by omega)]
    exact ⟨f1, f2.trans (sm_cg (fun k hk => out _ (by omega) (by omega))).symm⟩
end
