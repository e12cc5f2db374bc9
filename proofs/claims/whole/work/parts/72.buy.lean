-- THE CALL buy
section
variable {B p c : Nat} {a : Nat → Nat} {v u : MM}
def aBuy (a : Nat → Nat) (x m : Nat) : Nat → Nat := au (au (au (au a (43 + 2 * a 42 + 0) x) (43 + 2 * a 42 + 1) m) 104 (a 104 + m)) 42 (a 42 + 1)
theorem Wf.buy (hw : Wf B a) {x m : Nat} (hx : x ≤ 5) (hm : m ≤ 20000) (h8 : a 42 < 8) : Wf (B + 1) (aBuy a x m) := by
  obtain ⟨h1, h2, h3, h4, h5, h6, h7, h9⟩ := hw
  have out : ∀ k, k ≠ 42 → k ≠ 104 → k ≠ 43 + 2 * a 42 + 0 → k ≠ 43 + 2 * a 42 + 1 → aBuy a x m k = a k := fun k z1 z2 z3 z4 => (au_n z1).trans ((au_n z2).trans ((au_n z4).trans (au_n z3)))
  have e42 : aBuy a x m 42 = a 42 + 1 := au_s _ _ _
  have e0 : aBuy a x m (43 + 2 * a 42 + 0) = x := (au_n (by omega)).trans ((au_n (by omega)).trans ((au_n (by omega)).trans (au_s _ _ _)))
  have e1 : aBuy a x m (43 + 2 * a 42 + 1) = m := (au_n (by omega)).trans ((au_n (by omega)).trans (au_s _ _ _))
  have ot : ∀ j, ∀ f, f < 7 → aBuy a x m (60 + 7 * j + f) = a (60 + 7 * j + f) ∨ 6 ≤ j := fun j f hf => by
    by_cases z : 6 ≤ j
    · exact Or.inr z
    · exact Or.inl (out _ (by omega) (by omega) (by omega) (by omega))
  have ot2 : ∀ j, j < 6 → ∀ f, f < 7 → aBuy a x m (60 + 7 * j + f) = a (60 + 7 * j + f) := fun j hj f hf => out _ (by omega) (by omega) (by omega) (by omega)
  have l0 : ∀ k, k < 8 → k ≠ a 42 → lot (aBuy a x m) k = lot a k := fun k hk hne => out _ (by omega) (by omega) (by omega) (by omega)
  refine ⟨fun k hk => by rw [out k (by omega) (by omega) (by omega) (by omega)]; exact h1 k hk, fun k hk => ?_, ⟨by omega, fun k hk => ?_⟩, ⟨?_, fun j hj => ?_⟩, ?_, ?_, ⟨?_, ?_⟩, fun j hj => ?_⟩
  · rw [out _ (by omega) (by omega) (by omega) (by omega), out _ (by omega) (by omega) (by omega) (by omega), out _ (by omega) (by omega) (by omega) (by omega)]
    exact h2 k hk
  · by_cases z : k = a 42
    · have q : lot (aBuy a x m) k = m := by
        rw [z]
        exact e1
      rw [q, e42, z, e0]
      exact ⟨hx, hm, fun z => by omega⟩
    · rw [l0 k hk z, e42, out _ (by omega) (by omega) (by omega) (by omega)]
      obtain ⟨f1, f2, f3⟩ := h3.2 k hk
      exact ⟨f1, f2, fun z => f3 (by omega)⟩
  · rw [out _ (by omega) (by omega) (by omega) (by omega)]
    exact h4.1
  · obtain ⟨f1, f2⟩ := h4.2 j hj
    rw [out 59 (by omega) (by omega) (by omega) (by omega)]
    exact ⟨f1.cg (ot2 j hj), fun z f hf => (ot2 j hj f hf).trans (f2 z f hf)⟩
  · have s1 : sm (sug (aBuy a x m)) 6 = sm (sug a) 6 := sm_cg (fun j hj => sug_cg (ot2 j hj))
    have s2 := sm_one (g := lot a) (g' := lot (aBuy a x m)) h8 (fun j hj hne => l0 j hj hne)
    have q : lot (aBuy a x m) (a 42) = m := e1
    rw [e42]
    omega
  · rw [out _ (by omega) (by omega) (by omega) (by omega)]
    omega
  · rw [out _ (by omega) (by omega) (by omega) (by omega)]
    omega
  · rw [out _ (by omega) (by omega) (by omega) (by omega)]
    exact h7.2
  · obtain ⟨f1, f2⟩ := h9 j hj
    rw [out _ (by omega) (by omega) (by omega) (by omega)]
    exact ⟨by omega, f2.trans (sm_cg (fun k hk => out _ (by omega) (by omega) (by omega) (by omega))).symm⟩
theorem k_buy (h : Rel B v p c a) (x1 x2 : Int32) : Same B v (fX6_buy v [SH, I x1, I x2]) (fun w => fX7_buy w [MO, I x1, I x2]) := by
  have hw := h.2.2.2.2.2.2.2.2.1
  have h42 := hw.2.2.1.1
  obtain ⟨r, w, v1, v2, p', c', a', e1, e2, e3, h2, ho⟩ := call_ed (C := fun w => fX0_buyLot w [nm 2 ((p + 1) % 8) 0, I x1, I x2]) (M := fun u => fX7_buy u [MO, I x1, I x2]) h (fun w u hv hu => by
    by_cases c1 : 0 ≤ x1 ∧ x1 ≤ 5
    · by_cases c2 : 1 ≤ x2 ∧ x2 ≤ 20000
      · have k42 := hv 42 (by omega)
        have u42 : u.1 14 ((42 : Int32).toNatClampNeg) = nI (a 42) := hu 42 (by omega)
        by_cases d : a 42 = 8
        · refine Or.inl ⟨-3, by decide, by decide, (qX0_buyLot w _ _ _).trans ?_, (qX7_buy u _ _).trans ?_⟩
          · refine (bI_eq (s_wT c1)).trans ((if_neg (by decide)).trans ?_)
            refine (bI_eq (s_wT c2)).trans ((if_neg (by decide)).trans ?_)
            refine (bI_eq (s_wF ?_)).trans (if_pos rfl)
            rw [k42, d]
            decide
          · refine (bI_eq (m_inT c1)).trans ((if_neg (by decide)).trans ?_)
            refine (bI_eq (m_inT c2)).trans ((if_neg (by decide)).trans ?_)
            exact (if_pos (by decide)).trans (if_pos (eqT u42 (n := 8) rfl d))
        · obtain ⟨x, hx, rfl⟩ := inM (M := 5) (by omega) c1.1 c1.2
          obtain ⟨m, hm, rfl⟩ := inM (M := 20000) (by omega) (Int32.le_trans (by decide) c2.1) c2.2
          have q42 : (nI (a 42)).toNatClampNeg = a 42 := nI_clamp (by omega)
          have g1 := hv.up (o := 43 + 2 * a 42 + 0) (x := nI x) (n := x) rfl
          have r1 := g1.rd (o := 42) (m := a 42) (by omega) (au_n (by omega))
          have g2 := g1.up (o := 43 + 2 * a 42 + 1) (x := nI m) (n := m) rfl
          have g3 := g2.add (o := 104) (m := a 104) m (by omega) (by rw [au_n (by omega), au_n (by omega)])
          have g4 := g3.add (o := 42) (m := a 42) 1 (by omega) (by rw [au_n (by omega), au_n (by omega), au_n (by omega)])
          have r4 := g4.rd (o := 42) (m := a 42 + 1) (by omega) (au_s _ _ _)
          refine Or.inr (Or.inr ⟨a 42, aBuy a x m, _, by omega, (qX0_buyLot w _ _ _).trans ?_, g4, (((Fr.up _ _ _ _).tr (Fr.up _ _ _ _)).tr (Fr.up _ _ _ _)).tr (Fr.up _ _ _ _), hw.buy hx hm (by omega), fun u1 hu1 h14 => ?_⟩)
          · refine (bI_eq (s_wT c1)).trans ((if_neg (by decide)).trans ?_)
            refine (bI_eq (s_wT c2)).trans ((if_neg (by decide)).trans ?_)
            refine (bI_eq (s_wT ?_)).trans ((if_neg (by decide)).trans ?_)
            · rw [k42]
              exact ⟨(i_le (a := 0) (by omega) (by omega)).mpr (by omega), (i_le (b := 7) (by omega) (by omega)).mpr (by omega)⟩
            · simp only [k42, q42, r1]
              refine (if_pos (mIn_nI (by omega) (by omega))).trans ((if_pos (mIn_nI (by omega) (by omega))).trans ((if_pos (by decide)).trans ((if_pos (by decide)).trans ?_)))
              exact congrArg (fun z => some (_, some (I z))) ((congrArg (fun z => z - (1 : Int32)) r4).trans (i_sub (a := a 42 + 1) (b := 1) (by omega)))
          · have m42 : u1.1 14 ((42 : Int32).toNatClampNeg) = nI (a 42) := h14 42 (by omega)
            have q0 : (nI (43 + 2 * a 42 + 0)).toNatClampNeg = 43 + 2 * a 42 + 0 := nI_clamp (by omega)
            have q1 : (nI (43 + 2 * a 42 + 1)).toNatClampNeg = 43 + 2 * a 42 + 1 := nI_clamp (by omega)
            have n1 := h14.up (o := 43 + 2 * a 42 + 0) (x := nI x) (n := x) rfl
            have s1 : (mUp u1 (14, 43 + 2 * a 42 + 0) (nI x)).1 14 ((42 : Int32).toNatClampNeg) = nI (a 42) := n1.rd (o := 42) (m := a 42) (by omega) (au_n (by omega))
            have n2 := n1.up (o := 43 + 2 * a 42 + 1) (x := nI m) (n := m) rfl
            have n3 := n2.add (o := 42) (m := a 42) 1 (by omega) (by rw [au_n (by omega), au_n (by omega)])
            have n4 := n3.add (o := 104) (m := a 104) m (by omega) (by rw [au_n (by omega), au_n (by omega), au_n (by omega)])
            have r5 := n4.rd (o := 42) (m := a 42 + 1) (by omega) (by rw [au_n (by omega), au_s])
            refine ⟨_, (qX7_buy u _ _).trans ?_, n4.cong (fun k hk => ?_), (((Fr.up _ _ _ _).tr (Fr.up _ _ _ _)).tr (Fr.up _ _ _ _)).tr (Fr.up _ _ _ _)⟩
            · refine (bI_eq (m_inT c1)).trans ((if_neg (by decide)).trans ?_)
              refine (bI_eq (m_inT c2)).trans ((if_neg (by decide)).trans ?_)
              refine (if_pos (by decide)).trans ((if_neg (eqF u42 (n := 8) rfl d (by omega) (by omega))).trans ((bV_eq hu1).trans ?_))
              simp only [m42, ix_l, q0, s1, ix_l1, q1]
              refine (if_pos (by decide)).trans ((if_pos (mIn_nI (by omega) (by omega))).trans ((if_pos (by decide)).trans ((if_pos (mIn_nI (by omega) (by omega))).trans ((if_pos (by decide)).trans ((if_pos (by decide)).trans ((if_pos (by decide)).trans ((if_pos (by decide)).trans ((if_pos (by decide)).trans ?_))))))))
              exact congrArg (fun z => some (_, some (I z))) ((congrArg (fun z => z - (1 : Int32)) r5).trans (i_sub (a := a 42 + 1) (b := 1) (by omega)))
            · unfold aBuy
              (repeat refine au_cg (fun _ => ?_) ?_) <;> (first | rfl | ((try simp only [au]); repeat (first | rw [if_pos trivial] | rw [if_pos (by omega)] | rw [if_neg (by omega)])))
      · exact Or.inl ⟨-1, by decide, by decide, (qX0_buyLot w _ _ _).trans ((bI_eq (s_wT c1)).trans ((if_neg (by decide)).trans ((bI_eq (s_wF c2)).trans (if_pos rfl)))), (qX7_buy u _ _).trans ((bI_eq (m_inT c1)).trans ((if_neg (by decide)).trans ((bI_eq (m_inF c2)).trans (if_pos rfl))))⟩
    · exact Or.inl ⟨-1, by decide, by decide, (qX0_buyLot w _ _ _).trans ((bI_eq (s_wF c1)).trans (if_pos rfl)), (qX7_buy u _ _).trans ((bI_eq (m_inF c1)).trans (if_pos rfl))⟩)
  exact ⟨r, v1, v2, p', c', a', (qX6_buy v _ _).trans ((bN_eq e1).trans ((uX6_buy_2 w _ _ _).trans ((qX6_buy_2 w _ _ _).trans e2))), e3, h2, ho⟩
end
