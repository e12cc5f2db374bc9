-- THE CALLS setRates and setLabel
section
variable {B p c : Nat} {a : Nat → Nat} {v u : MM}
theorem m_ch {b : Nat → Nat} (hu : St 151 u 14 b) {k n : Nat} (hk : k < 151) (hb : b k < 2 ^ 31) (hn : n < 2 ^ 31) : fX7_changes u [MO, I (nI k), I (nI n)] = some (mUp u (14, k) (nI n), some (I (if b k = n then 0 else 1))) := by
  have q : (nI k).toNatClampNeg = k := nI_clamp (by omega)
  have uk := hu k hk
  refine (qX7_changes u _ _).trans ((if_pos (mIn_nI hk (by omega))).trans ?_)
  simp only [q]
  by_cases e : b k = n
  · rw [if_pos e]
    exact (if_pos (eqT uk rfl e)).trans (if_pos (mIn_nI hk (by omega)))
  · rw [if_neg e]
    exact (if_neg (eqF uk rfl e hb hn)).trans (if_pos (mIn_nI hk (by omega)))
theorem chg4 {α : Type} (P Q R S : Prop) [Decidable P] [Decidable Q] [Decidable R] [Decidable S] (f : Int32 → α) : (if 0 < ((((if P then (0 : Int32) else 1) + (if Q then 0 else 1)) + (if R then 0 else 1)) + (if S then 0 else 1)) then f 1 else f 0) = f (nI (if P ∧ Q ∧ R ∧ S then 0 else 1)) := by
  by_cases p : P <;> by_cases q : Q <;> by_cases r : R <;> by_cases s : S <;> simp only [p, q, r, s, true_and, false_and, and_true, and_false, and_self, ↓reduceIte] <;> first | exact if_pos (by decide) | exact if_neg (by decide)
theorem chg5 {α : Type} (P Q R S T : Prop) [Decidable P] [Decidable Q] [Decidable R] [Decidable S] [Decidable T] (f : Int32 → α) : (if 0 < (((((if P then (0 : Int32) else 1) + (if Q then 0 else 1)) + (if R then 0 else 1)) + (if S then 0 else 1)) + (if T then 0 else 1)) then f 1 else f 0) = f (nI (if P ∧ Q ∧ R ∧ S ∧ T then 0 else 1)) := by
  by_cases p : P <;> by_cases q : Q <;> by_cases r : R <;> by_cases s : S <;> by_cases t : T <;> simp only [p, q, r, s, t, true_and, false_and, and_true, and_false, and_self, ↓reduceIte] <;> first | exact if_pos (by decide) | exact if_neg (by decide)
def aRat (a : Nat → Nat) (n1 n2 n3 n4 : Nat) : Nat → Nat := au (au (au (au a 18 n1) 19 n2) 20 n3) 21 n4
theorem Wf.rate (hw : Wf B a) {n1 n2 n3 n4 : Nat} (h1 : n1 ≤ 20) (h2 : n2 ≤ 100) (h3 : n3 ≤ 500) (h4 : n4 ≤ 300) : Wf (B + 1) (aRat a n1 n2 n3 n4) := by
  have out : ∀ q, ¬ (18 ≤ q ∧ q < 22) → aRat a n1 n2 n3 n4 q = a q := fun q hq => (au_n (by omega)).trans ((au_n (by omega)).trans ((au_n (by omega)).trans (au_n (by omega))))
  have e0 : aRat a n1 n2 n3 n4 18 = n1 := (au_n (by omega)).trans ((au_n (by omega)).trans ((au_n (by omega)).trans (au_s _ _ _)))
  have e1 : aRat a n1 n2 n3 n4 19 = n2 := (au_n (by omega)).trans ((au_n (by omega)).trans (au_s _ _ _))
  have e2 : aRat a n1 n2 n3 n4 20 = n3 := (au_n (by omega)).trans (au_s _ _ _)
  have e3 : aRat a n1 n2 n3 n4 21 = n4 := au_s _ _ _
  refine hw.low (fun q hq => ?_) (fun q hq => ?_) (by omega) (fun q hq => out q (by omega))
  · by_cases i : 18 ≤ q ∧ q < 22
    · have hc : q = 18 ∨ q = 19 ∨ q = 20 ∨ q = 21 := by omega
      rcases hc with e | e | e | e <;> rw [e] <;> omega
    · rw [out q i]
      exact hw.1 q hq
  · rw [out _ (by omega), out _ (by omega), out _ (by omega)]
    exact hw.2.1 q hq
theorem k_setRates (h : Rel B v p c a) (x1 x2 x3 x4 : Int32) : Same B v (fX6_setRates v [SH, I x1, I x2, I x3, I x4]) (fun w => fX7_setRates w [MO, I x1, I x2, I x3, I x4]) := by
  have hw := h.2.2.2.2.2.2.2.2.1
  obtain ⟨r, w, v1, v2, p', c', a', e1, e2, e3, h2, ho⟩ := call_ed (C := fun w => fX0_changeRates w [nm 2 ((p + 1) % 8) 0, I x1, I x2, I x3, I x4]) (M := fun u => fX7_setRates u [MO, I x1, I x2, I x3, I x4]) h (fun w u hv hu => by
    by_cases c1 : 0 ≤ x1 ∧ x1 ≤ 20
    · by_cases c2 : 0 ≤ x2 ∧ x2 ≤ 100
      · by_cases c3 : 0 ≤ x3 ∧ x3 ≤ 500
        · by_cases c4 : 0 ≤ x4 ∧ x4 ≤ 300
          · obtain ⟨n1, y1, rfl⟩ := inM (M := 20) (by omega) c1.1 c1.2
            obtain ⟨n2, y2, rfl⟩ := inM (M := 100) (by omega) c2.1 c2.2
            obtain ⟨n3, y3, rfl⟩ := inM (M := 500) (by omega) c3.1 c3.2
            obtain ⟨n4, y4, rfl⟩ := inM (M := 300) (by omega) c4.1 c4.2
            have l1 := hw.1 18 (by omega)
            have l2 := hw.1 19 (by omega)
            have l3 := hw.1 20 (by omega)
            have l4 := hw.1 21 (by omega)
            have k1 := hv 18 (by omega)
            have k2 := hv 19 (by omega)
            have k3 := hv 20 (by omega)
            have k4 := hv 21 (by omega)
            have g4 := (((hv.up (o := 18) (x := nI n1) (n := n1) rfl).up (o := 19) (x := nI n2) (n := n2) rfl).up (o := 20) (x := nI n3) (n := n3) rfl).up (o := 21) (x := nI n4) (n := n4) rfl
            refine Or.inr (Or.inr ⟨if a 18 = n1 ∧ a 19 = n2 ∧ a 20 = n3 ∧ a 21 = n4 then 0 else 1, aRat a n1 n2 n3 n4, _, by split <;> omega, (qX0_changeRates w _ _ _ _ _).trans ?_, g4, (((Fr.up _ _ _ _).tr (Fr.up _ _ _ _)).tr (Fr.up _ _ _ _)).tr (Fr.up _ _ _ _), hw.rate y1 y2 y3 y4, fun u1 hu1 h14 => ?_⟩)
            · refine (bI_eq (s_wT c1)).trans ((if_neg (by decide)).trans ?_)
              refine (bI_eq (s_wT c2)).trans ((if_neg (by decide)).trans ?_)
              refine (bI_eq (s_wT c3)).trans ((if_neg (by decide)).trans ?_)
              refine (bI_eq (s_wT c4)).trans ((if_neg (by decide)).trans ?_)
              by_cases d1 : a 18 = n1
              · refine (if_pos (eqT k1 rfl d1)).trans ?_
                by_cases d2 : a 19 = n2
                · refine (if_pos (eqT k2 rfl d2)).trans ?_
                  by_cases d3 : a 20 = n3
                  · refine (if_pos (eqT k3 rfl d3)).trans ?_
                    by_cases d4 : a 21 = n4
                    · refine (if_pos (eqT k4 rfl d4)).trans ((if_neg (by decide)).trans ?_)
                      rw [if_pos ⟨d1, d2, d3, d4⟩]
                      rfl
                    · refine (if_neg (eqF k4 rfl d4 (by omega) (by omega))).trans ((if_pos rfl).trans ?_)
                      rw [if_neg (fun z => d4 z.2.2.2)]
                      rfl
                  · refine (if_neg (eqF k3 rfl d3 (by omega) (by omega))).trans ((if_pos rfl).trans ?_)
                    rw [if_neg (fun z => d3 z.2.2.1)]
                    rfl
                · refine (if_neg (eqF k2 rfl d2 (by omega) (by omega))).trans ((if_pos rfl).trans ?_)
                  rw [if_neg (fun z => d2 z.2.1)]
                  rfl
              · refine (if_neg (eqF k1 rfl d1 (by omega) (by omega))).trans ((if_pos rfl).trans ?_)
                rw [if_neg (fun z => d1 z.1)]
                rfl
            · have m1 := h14.up (o := 18) (x := nI n1) (n := n1) rfl
              have m2 := m1.up (o := 19) (x := nI n2) (n := n2) rfl
              have m3 := m2.up (o := 20) (x := nI n3) (n := n3) rfl
              have m4 := m3.up (o := 21) (x := nI n4) (n := n4) rfl
              refine ⟨_, (qX7_setRates u _ _ _ _).trans ?_, m4, (((Fr.up _ _ _ _).tr (Fr.up _ _ _ _)).tr (Fr.up _ _ _ _)).tr (Fr.up _ _ _ _)⟩
              refine (bI_eq (m_inT c1)).trans ((if_neg (by decide)).trans ?_)
              refine (bI_eq (m_inT c2)).trans ((if_neg (by decide)).trans ?_)
              refine (bI_eq (m_inT c3)).trans ((if_neg (by decide)).trans ?_)
              refine (bI_eq (m_inT c4)).trans ((if_neg (by decide)).trans ?_)
              refine (bV_eq hu1).trans ?_
              refine (bI_eq (m_ch (k := 18) h14 (by omega) (by omega) (by omega))).trans ?_
              refine (bI_eq (m_ch (k := 19) m1 (by omega) (by rw [au_n (by omega)]; omega) (by omega))).trans ?_
              refine (bI_eq (m_ch (k := 20) m2 (by omega) (by rw [au_n (by omega), au_n (by omega)]; omega) (by omega))).trans ?_
              refine (bI_eq (m_ch (k := 21) m3 (by omega) (by rw [au_n (by omega), au_n (by omega), au_n (by omega)]; omega) (by omega))).trans ?_
              refine (chg4 _ _ _ _ (fun z => some (_, some (I z)))).trans ?_
              rw [au_n (show 19 ≠ 18 by omega), au_n (show 20 ≠ 19 by omega), au_n (show 20 ≠ 18 by omega), au_n (show 21 ≠ 20 by omega), au_n (show 21 ≠ 19 by omega), au_n (show 21 ≠ 18 by omega)]
          · exact Or.inl ⟨-1, by decide, by decide, (qX0_changeRates w _ _ _ _ _).trans ((bI_eq (s_wT c1)).trans ((if_neg (by decide)).trans ((bI_eq (s_wT c2)).trans ((if_neg (by decide)).trans ((bI_eq (s_wT c3)).trans ((if_neg (by decide)).trans ((bI_eq (s_wF c4)).trans (if_pos rfl)))))))), (qX7_setRates u _ _ _ _).trans ((bI_eq (m_inT c1)).trans ((if_neg (by decide)).trans ((bI_eq (m_inT c2)).trans ((if_neg (by decide)).trans ((bI_eq (m_inT c3)).trans ((if_neg (by decide)).trans ((bI_eq (m_inF c4)).trans (if_pos rfl))))))))⟩
        · exact Or.inl ⟨-1, by decide, by decide, (qX0_changeRates w _ _ _ _ _).trans ((bI_eq (s_wT c1)).trans ((if_neg (by decide)).trans ((bI_eq (s_wT c2)).trans ((if_neg (by decide)).trans ((bI_eq (s_wF c3)).trans (if_pos rfl)))))), (qX7_setRates u _ _ _ _).trans ((bI_eq (m_inT c1)).trans ((if_neg (by decide)).trans ((bI_eq (m_inT c2)).trans ((if_neg (by decide)).trans ((bI_eq (m_inF c3)).trans (if_pos rfl))))))⟩
      · exact Or.inl ⟨-1, by decide, by decide, (qX0_changeRates w _ _ _ _ _).trans ((bI_eq (s_wT c1)).trans ((if_neg (by decide)).trans ((bI_eq (s_wF c2)).trans (if_pos rfl)))), (qX7_setRates u _ _ _ _).trans ((bI_eq (m_inT c1)).trans ((if_neg (by decide)).trans ((bI_eq (m_inF c2)).trans (if_pos rfl))))⟩
    · exact Or.inl ⟨-1, by decide, by decide, (qX0_changeRates w _ _ _ _ _).trans ((bI_eq (s_wF c1)).trans (if_pos rfl)), (qX7_setRates u _ _ _ _).trans ((bI_eq (m_inF c1)).trans (if_pos rfl))⟩)
  exact ⟨r, v1, v2, p', c', a', (qX6_setRates v _ _ _ _).trans ((bN_eq e1).trans ((uX6_setRates_2 w _ _ _ _ _).trans ((qX6_setRates_2 w _ _ _ _ _).trans e2))), e3, h2, ho⟩
end
