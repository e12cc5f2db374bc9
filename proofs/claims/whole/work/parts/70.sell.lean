-- THE CALL sellPomace
section
variable {B p c : Nat} {a : Nat → Nat} {v : MM}
def aSell (a : Nat → Nat) : Nat → Nat := au (au a 102 0) 108 (a 108 + a 102)
theorem Wf.sell (hw : Wf B a) : Wf (B + 1) (aSell a) := by
  have out : ∀ k, k ≠ 102 → k ≠ 108 → aSell a k = a k := fun k h1 h2 => (au_n h2).trans (au_n h1)
  have e2 : aSell a 102 = 0 := (au_n (by omega)).trans (au_s _ _ _)
  refine hw.chg (fun k hk => out k (by omega) (by omega)) (out _ (by omega) (by omega)) (fun k hk => ⟨out _ (by omega) (by omega), ?_⟩) (out _ (by omega) (by omega)) (fun j hj => Or.inr (fun f hf => out _ (by omega) (by omega))) ?_ (by omega) (by rw [out _ (by omega) (by omega)]; omega) (bot_same hw (fun k x y => out k (by omega) (by omega)))
  · unfold lot
    rw [out _ (by omega) (by omega)]
    exact Nat.le_refl _
  · have s1 : sm (sug (aSell a)) 6 = sm (sug a) 6 := sm_cg (fun j hj => sug_cg (fun f hf => out _ (by omega) (by omega)))
    have s2 : sm (lot (aSell a)) 8 = sm (lot a) 8 := sm_cg (fun j hj => out _ (by omega) (by omega))
    omega
theorem k_sellPomace (h : Rel B v p c a) (hB : B ≤ 1100) : Same B v (fX6_sellPomace v [SH]) (fun w => fX7_sellPomace w [MO]) := by
  have hw := h.2.2.2.2.2.2.2.2.1
  have h102 := hw.2.2.2.2.2.1
  obtain ⟨r, w, v1, v2, p', c', a', e1, e2, e3, h2, ho⟩ := call_ed (C := fun w => fX0_sellHeap w [nm 2 ((p + 1) % 8) 0]) (M := fun u => fX7_sellPomace u [MO]) h (fun w u hv hu => by
    have k2 := hv 102 (by omega)
    have u2 : u.1 14 ((102 : Int32).toNatClampNeg) = nI (a 102) := hu 102 (by omega)
    by_cases d : a 102 = 0
    · refine Or.inr (Or.inl ⟨12, (qX0_sellHeap w _).trans ((if_pos (eqT k2 (n := 0) rfl d)).trans (bI_eq (s_refuse _ _ _))), (qX7_sellPomace u).trans ((if_pos (by decide)).trans ((if_pos (eqT u2 (n := 0) rfl d)).trans (bI_eq (m_refuses _ _))))⟩)
    · have g1 := hv.up (o := 102) (x := 0) (n := 0) rfl
      have g2 := g1.add (o := 108) (m := a 108) (a 102) (by omega) (au_n (by omega))
      refine Or.inr (Or.inr ⟨a 102, aSell a, _, by omega, (qX0_sellHeap w _).trans ((if_neg (eqF k2 (n := 0) rfl d (by omega) (by omega))).trans ((if_pos (by decide)).trans ((if_pos (by decide)).trans ?_))), g2, (Fr.up _ _ _ _).tr (Fr.up _ _ _ _), hw.sell, fun u1 hu1 h14 => ?_⟩)
      · simp only [k2]
        rfl
      · have m2 : u1.1 14 ((102 : Int32).toNatClampNeg) = nI (a 102) := h14 102 (by omega)
        have m3 := h14.add (o := 108) (m := a 108) (a 102) (by omega) rfl
        have m4 := m3.up (o := 102) (x := 0) (n := 0) rfl
        refine ⟨_, (qX7_sellPomace u).trans ((if_pos (by decide)).trans ((if_neg (eqF u2 (n := 0) rfl d (by omega) (by omega))).trans ((bV_eq hu1).trans ?_))), m4.cong (fun k hk => ?_), (Fr.up _ _ _ _).tr (Fr.up _ _ _ _)⟩
        · simp only [m2]
          refine (if_pos (by decide)).trans ((if_pos (by decide)).trans ((if_pos (by decide)).trans ((if_pos (by decide)).trans ?_)))
          rfl
        · unfold aSell
          (repeat refine au_cg (fun _ => ?_) ?_) <;> (first | rfl | ((try simp only [au]); repeat (first | rw [if_pos trivial] | rw [if_pos (by omega)] | rw [if_neg (by omega)]))))
  exact ⟨r, v1, v2, p', c', a', (qX6_sellPomace v).trans ((bN_eq e1).trans ((uX6_sellPomace_2 w _).trans ((qX6_sellPomace_2 w _).trans e2))), e3, h2, ho⟩
end
