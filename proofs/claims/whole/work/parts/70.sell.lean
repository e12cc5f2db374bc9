-- THE CALL sellPomace
section
variable {B p c : Nat} {a : Nat → Nat} {v : MM}
def aSell (a : Nat → Nat) : Nat → Nat := au (au a 102 0) 108 (a 108 + a 102)
theorem Wf.sell (hw : Wf B a) : Wf (B + 1) (aSell a) := by
  have out : ∀ k, k ≠ 102 → k ≠ 108 → aSell a k = a k := fun k h1 h2 => (au_n h2).trans (au_n h1)
  have e2 : aSell a 102 = 0 := (au_n (by omega)).trans (au_s _ _ _)
  refine hw.chg (fun k hk => out k (by omega) (by omega)) (out _ (by omega) (by omega)) (fun k hk => ⟨out _ (by omega) (by omega), ?_⟩) (out _ (by omega) (by omega)) (fun j hj => Or.inr (fun f hf => out _ (by omega) (by omega))) ?_ (by omega) (by rw [out _ (by omega) (by omega)]; omega) (bot_same hw (fun k x y => out k (by omega) (by omega)))
  · unfold lot
    rw [out _ (by omega) (by omega)]
    exact Nat.le_refl _
  · have s1 : sm (sug (aSell a)) 6 = sm (sug a) 6 := sm_cg (fun j hj => sug_cg (fun f hf => out _ (by omega) (by omega)))
    have s2 : sm (lot (aSell a)) 8 = sm (lot a) 8 := sm_cg (fun j hj => out _ (by omega) (by omega))
    omega
end
