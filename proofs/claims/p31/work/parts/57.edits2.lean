-- SELL, POUR, BUY, SETTINGS
section
variable {B : Nat} {v u w : MM} {i : Nat} {a : Nat → Nat}
def aSell (a : Nat → Nat) : Nat → Nat := au (au a 102 0) 108 (a 108 + a 102)
theorem Wf.sell (hw : Wf B a) : Wf (B + 1) (aSell a) := by
  have out : ∀ k, k ≠ 102 → k ≠ 108 → aSell a k = a k := fun k h1 h2 => (au_n h2).trans (au_n h1)
  have e2 : aSell a 102 = 0 := (au_n (by omega)).trans (au_s _ _ _)
  refine hw.chg (fun k hk => out k (by omega) (by omega)) (out _ (by omega) (by omega)) (fun k hk => ⟨out _ (by omega) (by omega), ?_⟩) (out _ (by omega) (by omega)) (fun j hj => Or.inr (fun f hf => out _ (by omega) (by omega))) ?_ (by omega) (by rw [out _ (by omega) (by omega)]; omega) (bot_same hw (fun k x y => out k (by omega) (by omega)))
  · unfold lot
    rw [out _ (by omega) (by omega)]
    exact Nat.le_refl _
  · have s1 : sm (sug (aSell a)) 6 = sm (sug a) 6 := sm_cg (fun j hj => sug_cg (fun f hf => out _ (by omega) (by omega)))
    have s2 : sm (lot (aSell a)) 8 = sm (lot a) 8 := sm_cg (fun j hj => out _ (by omega) (by omega))
    omega
theorem Bal.sell (h : Bal a) : Bal (aSell a) := by
  have out : ∀ k, k ≠ 102 → k ≠ 108 → aSell a k = a k := fun k h1 h2 => (au_n h2).trans (au_n h1)
  have e2 : aSell a 102 = 0 := (au_n (by omega)).trans (au_s _ _ _)
  have e8 : aSell a 108 = a 108 + a 102 := au_s _ _ _
  unfold Bal at h ⊢
  rw [SL_cg (fun j hj => out _ (by omega) (by omega)), SJ_cg (fun j hj => out _ (by omega) (by omega)), SE_cg (fun j hj => out _ (by omega) (by omega)), e2, e8, out 104 (by omega) (by omega), out 105 (by omega) (by omega), out 106 (by omega) (by omega), out 107 (by omega) (by omega), out 109 (by omega) (by omega), out 110 (by omega) (by omega)]
  omega
theorem o_sellPomace (hv : St 155 w i a) (hw : Wf B a) (hB : B ≤ 1100) : One B (fX0_sellHeap w [nm 2 i 0]) w i a := by
  have h102 := hw.2.2.2.2.2.1
  have k2 := hv 102 (by omega)
  by_cases d : a 102 = 0
  · refine One.ref 12 (by decide) ((qX0_sellHeap w _).trans ((if_pos (eqT k2 (n := 0) rfl d)).trans (bI_eq (s_refuse _ _ _))))
  · have g1 := hv.up (o := 102) (x := 0) (n := 0) rfl
    have g2 := g1.add (o := 108) (m := a 108) (a 102) (by omega) (au_n (by omega))
    refine One.ok (n := a 102) (a' := aSell a) (by omega) ((qX0_sellHeap w _).trans ((if_neg (eqF k2 (n := 0) rfl d (by omega) (by omega))).trans ((if_pos (by decide)).trans ((if_pos (by decide)).trans ?_)))) (g2) ((Fr.up _ _ _ _).tr (Fr.up _ _ _ _)) (hw.sell) Bal.sell
    · simp only [k2]
      rfl

theorem o_pour (hv : St 155 w i a) (hw : Wf B a) (hB : B ≤ 1100) (x1 : Int32) : One B (fX0_pourJuice w [nm 2 i 0, I x1]) w i a := by
  by_cases c1 : mIn x1 (a 59)
  · obtain ⟨t, ht, ht31, rfl⟩ := mIn_ex c1
    have w4 := hw.2.2.2.1
    have ht6 : t < 6 := by omega
    obtain ⟨⟨t0, t1, t4, tz⟩, -⟩ := w4.2 t ht6
    have kf := hv (60 + 7 * t + 1) (by omega)
    by_cases d : a (60 + 7 * t + 1) = 0
    · refine One.ref 1 (by decide) ((qX0_pourJuice w _ _).trans ?_)
      · simp only [nI_clamp ht31]
        refine (bI_eq (s_tT hv hw c1)).trans ((if_neg (by decide)).trans ?_)
        refine (if_pos (mIn_nI ht6 (by omega))).trans ?_
        exact (if_pos (eqT kf (n := 0) rfl d)).trans (bI_eq (s_refuse _ _ _))
    · obtain ⟨w1, ew, hw1, fw1⟩ := s_drop hv (by omega) (hw.sml hB ht6) (Nat.le_refl (a (60 + 7 * t + 1)))
      have g2 := hw1.add (o := 110) (m := a 110) (a (60 + 7 * t + 1)) (by omega) (aDrop_out (by omega))
      refine One.ok (n := a (60 + 7 * t + 1)) (a' := _) (by omega) ((qX0_pourJuice w _ _).trans ?_) (g2) (fw1.tr (Fr.up _ _ _ _)) (hw.drop ht (by omega) (Nat.le_refl _) (fun k hk => au_n (by omega)) (bot_same hw (fun k x y => (au_n (by omega)).trans (aDrop_out (by omega))))) (fun hb => hb.out (n := a (60 + 7 * t + 1)) (o := 110) ht6 (Nat.le_refl _) (Or.inr rfl) ((au_n (by omega)).trans (aDrop_t (a := a) (t := t) (n := a (60 + 7 * t + 1))).2.1) ((au_s _ _ _)) (fun k x y z => (au_n y).trans (aDrop_out z)) ((au_n (by omega)).trans (aDrop_t (a := a) (t := t) (n := a (60 + 7 * t + 1))).2.2.2.2.2.1))
      · simp only [nI_clamp ht31]
        refine (bI_eq (s_tT hv hw c1)).trans ((if_neg (by decide)).trans ?_)
        refine (if_pos (mIn_nI ht6 (by omega))).trans ?_
        refine (if_neg (eqF kf (n := 0) rfl d (by omega) (by omega))).trans ?_
        refine (if_pos (mIn_nI ht6 (by omega))).trans ?_
        simp only [kf]
        refine (bV_eq ew).trans ?_
        refine (if_pos (by decide)).trans ?_
        exact if_pos (by decide)
  · refine One.no (-1) (by decide) (by decide) ((qX0_pourJuice w _ _).trans ((bI_eq (s_tF hv hw c1)).trans (if_pos rfl)))
def aBuy (a : Nat → Nat) (x m : Nat) : Nat → Nat := au (au (au (au a (43 + 2 * a 42 + 0) x) (43 + 2 * a 42 + 1) m) 104 (a 104 + m)) 42 (a 42 + 1)
theorem Wf.buy (hw : Wf B a) {x m : Nat} (hx : x ≤ 5) (hm : m ≤ 20000) (h8 : a 42 < 8) : Wf (B + 1) (aBuy a x m) := by
  obtain ⟨h1, h2, h3, h4, h5, h6, h7, h9⟩ := hw
  have out : ∀ k, k ≠ 42 → k ≠ 104 → k ≠ 43 + 2 * a 42 + 0 → k ≠ 43 + 2 * a 42 + 1 → aBuy a x m k = a k := fun k z1 z2 z3 z4 => (au_n z1).trans ((au_n z2).trans ((au_n z4).trans (au_n z3)))
  have e42 : aBuy a x m 42 = a 42 + 1 := au_s _ _ _
  have e0 : aBuy a x m (43 + 2 * a 42 + 0) = x := (au_n (by omega)).trans ((au_n (by omega)).trans ((au_n (by omega)).trans (au_s _ _ _)))
  have e1 : aBuy a x m (43 + 2 * a 42 + 1) = m := (au_n (by omega)).trans ((au_n (by omega)).trans (au_s _ _ _))
  have ot : ∀ j, ∀ f, f < 7 → aBuy a x m (60 + 7 * j + f) = a (60 + 7 * j + f) ∨ 6 ≤ j := fun j f hf => by
    by_cases z : 6 ≤ j
    · exact Or.inr z
    · exact Or.inl (out _ (by omega) (by omega) (by omega) (by omega))
  have ot2 : ∀ j, j < 6 → ∀ f, f < 7 → aBuy a x m (60 + 7 * j + f) = a (60 + 7 * j + f) := fun j hj f hf => out _ (by omega) (by omega) (by omega) (by omega)
  have l0 : ∀ k, k < 8 → k ≠ a 42 → lot (aBuy a x m) k = lot a k := fun k hk hne => out _ (by omega) (by omega) (by omega) (by omega)
  refine ⟨fun k hk => by rw [out k (by omega) (by omega) (by omega) (by omega)]; exact h1 k hk, fun k hk => ?_, ⟨by omega, fun k hk => ?_⟩, ⟨?_, fun j hj => ?_⟩, ?_, ?_, ⟨?_, ?_⟩, fun j hj => ?_⟩
  · rw [out _ (by omega) (by omega) (by omega) (by omega), out _ (by omega) (by omega) (by omega) (by omega), out _ (by omega) (by omega) (by omega) (by omega)]
    exact h2 k hk
  · by_cases z : k = a 42
    · have q : lot (aBuy a x m) k = m := by
        rw [z]
        exact e1
      rw [q, e42, z, e0]
      exact ⟨hx, hm, fun z => by omega⟩
    · rw [l0 k hk z, e42, out _ (by omega) (by omega) (by omega) (by omega)]
      obtain ⟨f1, f2, f3⟩ := h3.2 k hk
      exact ⟨f1, f2, fun z => f3 (by omega)⟩
  · rw [out _ (by omega) (by omega) (by omega) (by omega)]
    exact h4.1
  · obtain ⟨f1, f2⟩ := h4.2 j hj
    rw [out 59 (by omega) (by omega) (by omega) (by omega)]
    exact ⟨f1.cg (ot2 j hj), fun z f hf => (ot2 j hj f hf).trans (f2 z f hf)⟩
  · have s1 : sm (sug (aBuy a x m)) 6 = sm (sug a) 6 := sm_cg (fun j hj => sug_cg (ot2 j hj))
    have s2 := sm_one (g := lot a) (g' := lot (aBuy a x m)) h8 (fun j hj hne => l0 j hj hne)
    have q : lot (aBuy a x m) (a 42) = m := e1
    rw [e42]
    omega
  · rw [out _ (by omega) (by omega) (by omega) (by omega)]
    omega
  · rw [out _ (by omega) (by omega) (by omega) (by omega)]
    omega
  · rw [out _ (by omega) (by omega) (by omega) (by omega)]
    exact h7.2
  · obtain ⟨f1, f2⟩ := h9 j hj
    rw [out _ (by omega) (by omega) (by omega) (by omega)]
    exact ⟨by omega, f2.trans (sm_cg (fun k hk => out _ (by omega) (by omega) (by omega) (by omega))).symm⟩
theorem Bal.buy (hw : Wf B a) {x m : Nat} (h8 : a 42 < 8) (h : Bal a) : Bal (aBuy a x m) := by
  have out : ∀ k, k ≠ 42 → k ≠ 104 → k ≠ 43 + 2 * a 42 + 0 → k ≠ 43 + 2 * a 42 + 1 → aBuy a x m k = a k := fun k z1 z2 z3 z4 => (au_n z1).trans ((au_n z2).trans ((au_n z4).trans (au_n z3)))
  have e1 : aBuy a x m (43 + 2 * a 42 + 1) = m := (au_n (by omega)).trans ((au_n (by omega)).trans (au_s _ _ _))
  have e4 : aBuy a x m 104 = a 104 + m := (au_n (by omega)).trans (au_s _ _ _)
  have z : a (43 + 2 * a 42 + 1) = 0 := ((hw.2.2.1.2 (a 42) h8).2.2 (Nat.le_refl _)).2
  have s := SL_one (a := a) (b := aBuy a x m) h8 (fun j hj hne => out _ (by omega) (by omega) (by omega) (by omega))
  rw [e1, z] at s
  unfold Bal at h ⊢
  rw [SJ_cg (fun j hj => out _ (by omega) (by omega) (by omega) (by omega)), SE_cg (fun j hj => out _ (by omega) (by omega) (by omega) (by omega)), e4, out 102 (by omega) (by omega) (by omega) (by omega), out 105 (by omega) (by omega) (by omega) (by omega), out 106 (by omega) (by omega) (by omega) (by omega), out 107 (by omega) (by omega) (by omega) (by omega), out 108 (by omega) (by omega) (by omega) (by omega), out 109 (by omega) (by omega) (by omega) (by omega), out 110 (by omega) (by omega) (by omega) (by omega)]
  omega
theorem o_buy (hv : St 155 w i a) (hw : Wf B a) (x1 x2 : Int32) : One B (fX0_buyLot w [nm 2 i 0, I x1, I x2]) w i a := by
  have h42 := hw.2.2.1.1
  by_cases c1 : 0 ≤ x1 ∧ x1 ≤ 5
  · by_cases c2 : 1 ≤ x2 ∧ x2 ≤ 20000
    · have k42 := hv 42 (by omega)
      by_cases d : a 42 = 8
      · refine One.no (-3) (by decide) (by decide) ((qX0_buyLot w _ _ _).trans ?_)
        · refine (bI_eq (s_wT c1)).trans ((if_neg (by decide)).trans ?_)
          refine (bI_eq (s_wT c2)).trans ((if_neg (by decide)).trans ?_)
          refine (bI_eq (s_wF ?_)).trans (if_pos rfl)
          rw [k42, d]
          decide
      · obtain ⟨x, hx, rfl⟩ := inM (M := 5) (by omega) c1.1 c1.2
        obtain ⟨m, hm, rfl⟩ := inM (M := 20000) (by omega) (Int32.le_trans (by decide) c2.1) c2.2
        have q42 : (nI (a 42)).toNatClampNeg = a 42 := nI_clamp (by omega)
        have g1 := hv.up (o := 43 + 2 * a 42 + 0) (x := nI x) (n := x) rfl
        have r1 := g1.rd (o := 42) (m := a 42) (by omega) (au_n (by omega))
        have g2 := g1.up (o := 43 + 2 * a 42 + 1) (x := nI m) (n := m) rfl
        have g3 := g2.add (o := 104) (m := a 104) m (by omega) (by rw [au_n (by omega), au_n (by omega)])
        have g4 := g3.add (o := 42) (m := a 42) 1 (by omega) (by rw [au_n (by omega), au_n (by omega), au_n (by omega)])
        have r4 := g4.rd (o := 42) (m := a 42 + 1) (by omega) (au_s _ _ _)
        refine One.ok (n := a 42) (a' := aBuy a x m) (by omega) ((qX0_buyLot w _ _ _).trans ?_) (g4) ((((Fr.up _ _ _ _).tr (Fr.up _ _ _ _)).tr (Fr.up _ _ _ _)).tr (Fr.up _ _ _ _)) (hw.buy hx hm (by omega)) (Bal.buy hw (by omega))
        · refine (bI_eq (s_wT c1)).trans ((if_neg (by decide)).trans ?_)
          refine (bI_eq (s_wT c2)).trans ((if_neg (by decide)).trans ?_)
          refine (bI_eq (s_wT ?_)).trans ((if_neg (by decide)).trans ?_)
          · rw [k42]
            exact ⟨(i_le (a := 0) (by omega) (by omega)).mpr (by omega), (i_le (b := 7) (by omega) (by omega)).mpr (by omega)⟩
          · simp only [k42, q42, r1]
            refine (if_pos (mIn_nI (by omega) (by omega))).trans ((if_pos (mIn_nI (by omega) (by omega))).trans ((if_pos (by decide)).trans ((if_pos (by decide)).trans ?_)))
            exact congrArg (fun z => some (_, some (I z))) ((congrArg (fun z => z - (1 : Int32)) r4).trans (i_sub (a := a 42 + 1) (b := 1) (by omega)))
    · exact One.no (-1) (by decide) (by decide) ((qX0_buyLot w _ _ _).trans ((bI_eq (s_wT c1)).trans ((if_neg (by decide)).trans ((bI_eq (s_wF c2)).trans (if_pos rfl)))))
  · exact One.no (-1) (by decide) (by decide) ((qX0_buyLot w _ _ _).trans ((bI_eq (s_wF c1)).trans (if_pos rfl)))
theorem Wf.low (hw : Wf B a) {b : Nat → Nat} (h1 : ∀ k, k < 42 → b k ≤ 1000) (h2 : ∀ k, k < 6 → b (3 * k + 0) ≤ 800 ∧ b (3 * k + 1) ≤ 200 ∧ b (3 * k + 2) ≤ 100) (h20 : b 20 ≤ 500) (e : ∀ k, 42 ≤ k → b k = a k) : Wf (B + 1) b := by
  obtain ⟨-, -, h3, h4, h5, h6, h7, h8⟩ := hw.mono
  have ot : ∀ j, j < 6 → ∀ f, f < 7 → b (60 + 7 * j + f) = a (60 + 7 * j + f) := fun j hj f hf => e _ (by omega)
  have l : ∀ k, lot b k = lot a k := fun k => e _ (by omega)
  refine ⟨h1, h2, ⟨by rw [e 42 (by omega)]; exact h3.1, fun k hk => ?_⟩, ⟨by rw [e 59 (by omega)]; exact h4.1, fun j hj => ?_⟩, ?_, by rw [e 102 (by omega)]; exact h6, ⟨by rw [e 103 (by omega)]; exact h7.1, h20⟩, fun j hj => ?_⟩
  · rw [e 42 (by omega), e _ (by omega), l]
    exact h3.2 k hk
  · obtain ⟨f1, f2⟩ := h4.2 j hj
    rw [e 59 (by omega)]
    exact ⟨f1.cg (ot j hj), fun z f hf => (ot j hj f hf).trans (f2 z f hf)⟩
  · have s1 : sm (sug b) 6 = sm (sug a) 6 := sm_cg (fun j hj => sug_cg (ot j hj))
    have s2 : sm (lot b) 8 = sm (lot a) 8 := sm_cg (fun j hj => l j)
    rw [s1, s2, e 42 (by omega)]
    exact h5
  · obtain ⟨f1, f2⟩ := h8 j hj
    rw [e _ (by omega)]
    exact ⟨f1, f2.trans (sm_cg (fun k hk => e _ (by omega))).symm⟩
def aVar (a : Nat → Nat) (k y s z : Nat) : Nat → Nat := au (au (au a (3 * k + 0) y) (3 * k + 1) s) (3 * k + 2) z
theorem Wf.vary (hw : Wf B a) {k y s z : Nat} (hk : k < 6) (hy : y ≤ 800) (hs : s ≤ 200) (hz : z ≤ 100) : Wf (B + 1) (aVar a k y s z) := by
  have out : ∀ q, ¬ (3 * k ≤ q ∧ q < 3 * k + 3) → aVar a k y s z q = a q := fun q hq => (au_n (by omega)).trans ((au_n (by omega)).trans (au_n (by omega)))
  have e0 : aVar a k y s z (3 * k + 0) = y := (au_n (by omega)).trans ((au_n (by omega)).trans (au_s _ _ _))
  have e1 : aVar a k y s z (3 * k + 1) = s := (au_n (by omega)).trans (au_s _ _ _)
  have e2 : aVar a k y s z (3 * k + 2) = z := au_s _ _ _
  refine hw.low (fun q hq => ?_) (fun q hq => ?_) (by rw [out 20 (by omega)]; exact hw.2.2.2.2.2.2.1.2) (fun q hq => out q (by omega))
  · by_cases i : 3 * k ≤ q ∧ q < 3 * k + 3
    · have hc : q = 3 * k + 0 ∨ q = 3 * k + 1 ∨ q = 3 * k + 2 := by omega
      rcases hc with e | e | e <;> rw [e] <;> omega
    · rw [out q i]
      exact hw.1 q hq
  · by_cases i : q = k
    · rw [i, e0, e1, e2]
      exact ⟨hy, hs, hz⟩
    · rw [out _ (by omega), out _ (by omega), out _ (by omega)]
      exact hw.2.1 q hq
theorem o_setVariety (hv : St 155 w i a) (hw : Wf B a) (x1 x2 x3 x4 : Int32) : One B (fX0_changeVariety w [nm 2 i 0, I x1, I x2, I x3, I x4]) w i a := by
  by_cases c1 : 0 ≤ x1 ∧ x1 ≤ 5
  · by_cases c2 : 300 ≤ x2 ∧ x2 ≤ 800
    · by_cases c3 : 0 ≤ x3 ∧ x3 ≤ 200
      · by_cases c4 : 0 ≤ x4 ∧ x4 ≤ 100
        · obtain ⟨k, hk, rfl⟩ := inM (M := 5) (by omega) c1.1 c1.2
          obtain ⟨y, hy, rfl⟩ := inM (M := 800) (by omega) (Int32.le_trans (by decide) c2.1) c2.2
          obtain ⟨s, hs, rfl⟩ := inM (M := 200) (by omega) c3.1 c3.2
          obtain ⟨z, hz, rfl⟩ := inM (M := 100) (by omega) c4.1 c4.2
          have qk : (nI k).toNatClampNeg = k := nI_clamp (by omega)
          have k0 := hv (3 * k + 0) (by omega)
          have q0 : (nI (3 * k + 0)).toNatClampNeg = 3 * k + 0 := nI_clamp (by omega)
          have q1 : (nI (3 * k + 1)).toNatClampNeg = 3 * k + 1 := nI_clamp (by omega)
          have q2 : (nI (3 * k + 2)).toNatClampNeg = 3 * k + 2 := nI_clamp (by omega)
          have g3 := ((hv.up (o := 3 * k + 0) (x := nI y) (n := y) rfl).up (o := 3 * k + 1) (x := nI s) (n := s) rfl).up (o := 3 * k + 2) (x := nI z) (n := z) rfl
          have hb := hw.1 (3 * k + 0) (by omega)
          refine One.ok (n := a (3 * k + 0)) (a' := aVar a k y s z) (by omega) ((qX0_changeVariety w _ _ _ _ _).trans ?_) (g3) (((Fr.up _ _ _ _).tr (Fr.up _ _ _ _)).tr (Fr.up _ _ _ _)) (hw.vary (by omega) hy hs hz) (fun hb => hb.low (fun q hq => (au_n (by omega)).trans ((au_n (by omega)).trans ((au_n (by omega))))))
          · simp only [qk]
            refine (bI_eq (s_wT c1)).trans ((if_neg (by decide)).trans ?_)
            refine (bI_eq (s_wT c2)).trans ((if_neg (by decide)).trans ?_)
            refine (bI_eq (s_wT c3)).trans ((if_neg (by decide)).trans ?_)
            refine (bI_eq (s_wT c4)).trans ((if_neg (by decide)).trans ?_)
            refine (if_pos (mIn_nI (by omega) (by omega))).trans ?_
            exact congrArg (fun z => some (_, some (I z))) k0
        · exact One.no (-1) (by decide) (by decide) ((qX0_changeVariety w _ _ _ _ _).trans ((bI_eq (s_wT c1)).trans ((if_neg (by decide)).trans ((bI_eq (s_wT c2)).trans ((if_neg (by decide)).trans ((bI_eq (s_wT c3)).trans ((if_neg (by decide)).trans ((bI_eq (s_wF c4)).trans (if_pos rfl)))))))))
      · exact One.no (-1) (by decide) (by decide) ((qX0_changeVariety w _ _ _ _ _).trans ((bI_eq (s_wT c1)).trans ((if_neg (by decide)).trans ((bI_eq (s_wT c2)).trans ((if_neg (by decide)).trans ((bI_eq (s_wF c3)).trans (if_pos rfl)))))))
    · exact One.no (-1) (by decide) (by decide) ((qX0_changeVariety w _ _ _ _ _).trans ((bI_eq (s_wT c1)).trans ((if_neg (by decide)).trans ((bI_eq (s_wF c2)).trans (if_pos rfl)))))
  · exact One.no (-1) (by decide) (by decide) ((qX0_changeVariety w _ _ _ _ _).trans ((bI_eq (s_wF c1)).trans (if_pos rfl)))
def aTank (a : Nat → Nat) (r : Nat) : Nat → Nat := au (au a (60 + 7 * a 59 + 0) r) 59 (a 59 + 1)
theorem Wf.tank (hw : Wf B a) {r : Nat} (hr : r ≤ 5000) (h6 : a 59 < 6) : Wf (B + 1) (aTank a r) := by
  obtain ⟨h1, h2, h3, h4, h5, h6', h7, h8⟩ := hw.mono
  have out : ∀ k, k ≠ 59 → k ≠ 60 + 7 * a 59 + 0 → aTank a r k = a k := fun k z1 z2 => (au_n z1).trans (au_n z2)
  have e59 : aTank a r 59 = a 59 + 1 := au_s _ _ _
  have er : aTank a r (60 + 7 * a 59 + 0) = r := (au_n (by omega)).trans (au_s _ _ _)
  have sg : ∀ j, j < 6 → sug (aTank a r) j = sug a j := fun j hj => by
    unfold sug
    rw [out _ (by omega) (by omega), out _ (by omega) (by omega), out _ (by omega) (by omega)]
  have l : ∀ k, k < 8 → lot (aTank a r) k = lot a k := fun k hk => out _ (by omega) (by omega)
  refine ⟨fun k hk => by rw [out k (by omega) (by omega)]; exact h1 k hk, fun k hk => ?_, ⟨by rw [out 42 (by omega) (by omega)]; exact h3.1, fun k hk => ?_⟩, ⟨by omega, fun j hj => ?_⟩, ?_, by rw [out 102 (by omega) (by omega)]; exact h6', ⟨by rw [out 103 (by omega) (by omega)]; exact h7.1, by rw [out 20 (by omega) (by omega)]; exact h7.2⟩, fun j hj => ?_⟩
  · rw [out _ (by omega) (by omega), out _ (by omega) (by omega), out _ (by omega) (by omega)]
    exact h2 k hk
  · rw [out 42 (by omega) (by omega), out _ (by omega) (by omega), l k hk]
    exact h3.2 k hk
  · obtain ⟨f1, f2⟩ := h4.2 j hj
    rw [e59]
    by_cases z : j = a 59
    · have z0 := f2 (by omega)
      refine ⟨?_, fun z => by omega⟩
      have y1 := z0 1 (by omega)
      have y2 := z0 2 (by omega)
      have y3 := z0 3 (by omega)
      have y4 := z0 4 (by omega)
      have y5 := z0 5 (by omega)
      have y6 := z0 6 (by omega)
      unfold WT
      rw [out (60 + 7 * j + 1) (by omega) (by omega), out (60 + 7 * j + 2) (by omega) (by omega), out (60 + 7 * j + 3) (by omega) (by omega), out (60 + 7 * j + 4) (by omega) (by omega), out (60 + 7 * j + 5) (by omega) (by omega), out (60 + 7 * j + 6) (by omega) (by omega), y1, y2, y3, y4, y5, y6, z, er]
      omega
    · exact ⟨f1.cg (fun f hf => out _ (by omega) (by omega)), fun y f hf => (out _ (by omega) (by omega)).trans (f2 (by omega) f hf)⟩
  · have s1 : sm (sug (aTank a r)) 6 = sm (sug a) 6 := sm_cg sg
    have s2 : sm (lot (aTank a r)) 8 = sm (lot a) 8 := sm_cg l
    rw [s1, s2, out 42 (by omega) (by omega)]
    exact h5
  · obtain ⟨f1, f2⟩ := h8 j hj
    rw [out _ (by omega) (by omega)]
    exact ⟨f1, f2.trans (sm_cg (fun k hk => out _ (by omega) (by omega))).symm⟩
theorem Bal.tank (hw : Wf B a) {r : Nat} (h6 : a 59 < 6) (h : Bal a) : Bal (aTank a r) := by
  have out : ∀ k, k ≠ 59 → k ≠ 60 + 7 * a 59 + 0 → aTank a r k = a k := fun k z1 z2 => (au_n z1).trans (au_n z2)
  exact h.cg (fun k x y => out k (by omega) (by omega)) (out _ (by omega) (by omega)) (fun j hj => out _ (by omega) (by omega)) (fun j hj => out _ (by omega) (by omega)) (fun j hj => out _ (by omega) (by omega))
theorem o_addTank (hv : St 155 w i a) (hw : Wf B a) (x1 : Int32) : One B (fX0_openTank w [nm 2 i 0, I x1]) w i a := by
  have h59 := hw.2.2.2.1.1
  by_cases c1 : 1 ≤ x1 ∧ x1 ≤ 5000
  · have k59 := hv 59 (by omega)
    by_cases d : a 59 = 6
    · refine One.no (-3) (by decide) (by decide) ((qX0_openTank w _ _).trans ?_)
      · refine (bI_eq (s_wT c1)).trans ((if_neg (by decide)).trans ?_)
        refine (bI_eq (s_wF ?_)).trans (if_pos rfl)
        rw [k59, d]
        decide
    · obtain ⟨r, hr, rfl⟩ := inM (M := 5000) (by omega) (Int32.le_trans (by decide) c1.1) c1.2
      have q59 : (nI (a 59)).toNatClampNeg = a 59 := nI_clamp (by omega)
      have g1 := hv.up (o := 60 + 7 * a 59 + 0) (x := nI r) (n := r) rfl
      have g2 := g1.add (o := 59) (m := a 59) 1 (by omega) (au_n (by omega))
      have r2 := g2.rd (o := 59) (m := a 59 + 1) (by omega) (au_s _ _ _)
      have z0 := (hw.2.2.2.1.2 (a 59) (by omega)).2 (Nat.le_refl _)
      refine One.ok (n := a 59) (a' := aTank a r) (by omega) ((qX0_openTank w _ _).trans ?_) (g2) ((Fr.up _ _ _ _).tr (Fr.up _ _ _ _)) (hw.tank hr (by omega)) (Bal.tank hw (by omega))
      · refine (bI_eq (s_wT c1)).trans ((if_neg (by decide)).trans ?_)
        refine (bI_eq (s_wT ?_)).trans ((if_neg (by decide)).trans ?_)
        · rw [k59]
          exact ⟨(i_le (a := 0) (by omega) (by omega)).mpr (by omega), (i_le (b := 5) (by omega) (by omega)).mpr (by omega)⟩
        · simp only [k59, q59]
          refine (if_pos (mIn_nI (by omega) (by omega))).trans ?_
          exact congrArg (fun z => some (_, some (I z))) ((congrArg (fun z => z - (1 : Int32)) r2).trans (i_sub (a := a 59 + 1) (b := 1) (by omega)))
  · exact One.no (-1) (by decide) (by decide) ((qX0_openTank w _ _).trans ((bI_eq (s_wF c1)).trans (if_pos rfl)))
def aRat (a : Nat → Nat) (n1 n2 n3 n4 : Nat) : Nat → Nat := au (au (au (au a 18 n1) 19 n2) 20 n3) 21 n4
theorem Wf.rate (hw : Wf B a) {n1 n2 n3 n4 : Nat} (h1 : n1 ≤ 20) (h2 : n2 ≤ 100) (h3 : n3 ≤ 500) (h4 : n4 ≤ 300) : Wf (B + 1) (aRat a n1 n2 n3 n4) := by
  have out : ∀ q, ¬ (18 ≤ q ∧ q < 22) → aRat a n1 n2 n3 n4 q = a q := fun q hq => (au_n (by omega)).trans ((au_n (by omega)).trans ((au_n (by omega)).trans (au_n (by omega))))
  have e0 : aRat a n1 n2 n3 n4 18 = n1 := (au_n (by omega)).trans ((au_n (by omega)).trans ((au_n (by omega)).trans (au_s _ _ _)))
  have e1 : aRat a n1 n2 n3 n4 19 = n2 := (au_n (by omega)).trans ((au_n (by omega)).trans (au_s _ _ _))
  have e2 : aRat a n1 n2 n3 n4 20 = n3 := (au_n (by omega)).trans (au_s _ _ _)
  have e3 : aRat a n1 n2 n3 n4 21 = n4 := au_s _ _ _
  refine hw.low (fun q hq => ?_) (fun q hq => ?_) (by omega) (fun q hq => out q (by omega))
  · by_cases i : 18 ≤ q ∧ q < 22
    · have hc : q = 18 ∨ q = 19 ∨ q = 20 ∨ q = 21 := by omega
      rcases hc with e | e | e | e <;> rw [e] <;> omega
    · rw [out q i]
      exact hw.1 q hq
  · rw [out _ (by omega), out _ (by omega), out _ (by omega)]
    exact hw.2.1 q hq
theorem o_setRates (hv : St 155 w i a) (hw : Wf B a) (x1 x2 x3 x4 : Int32) : One B (fX0_changeRates w [nm 2 i 0, I x1, I x2, I x3, I x4]) w i a := by
  by_cases c1 : 0 ≤ x1 ∧ x1 ≤ 20
  · by_cases c2 : 0 ≤ x2 ∧ x2 ≤ 100
    · by_cases c3 : 0 ≤ x3 ∧ x3 ≤ 500
      · by_cases c4 : 0 ≤ x4 ∧ x4 ≤ 300
        · obtain ⟨n1, y1, rfl⟩ := inM (M := 20) (by omega) c1.1 c1.2
          obtain ⟨n2, y2, rfl⟩ := inM (M := 100) (by omega) c2.1 c2.2
          obtain ⟨n3, y3, rfl⟩ := inM (M := 500) (by omega) c3.1 c3.2
          obtain ⟨n4, y4, rfl⟩ := inM (M := 300) (by omega) c4.1 c4.2
          have l1 := hw.1 18 (by omega)
          have l2 := hw.1 19 (by omega)
          have l3 := hw.1 20 (by omega)
          have l4 := hw.1 21 (by omega)
          have k1 := hv 18 (by omega)
          have k2 := hv 19 (by omega)
          have k3 := hv 20 (by omega)
          have k4 := hv 21 (by omega)
          have g4 := (((hv.up (o := 18) (x := nI n1) (n := n1) rfl).up (o := 19) (x := nI n2) (n := n2) rfl).up (o := 20) (x := nI n3) (n := n3) rfl).up (o := 21) (x := nI n4) (n := n4) rfl
          refine One.ok (n := if a 18 = n1 ∧ a 19 = n2 ∧ a 20 = n3 ∧ a 21 = n4 then 0 else 1) (a' := aRat a n1 n2 n3 n4) (by split <;> omega) ((qX0_changeRates w _ _ _ _ _).trans ?_) (g4) ((((Fr.up _ _ _ _).tr (Fr.up _ _ _ _)).tr (Fr.up _ _ _ _)).tr (Fr.up _ _ _ _)) (hw.rate y1 y2 y3 y4) (fun hb => hb.low (fun q hq => (au_n (by omega)).trans ((au_n (by omega)).trans ((au_n (by omega)).trans ((au_n (by omega)))))))
          · refine (bI_eq (s_wT c1)).trans ((if_neg (by decide)).trans ?_)
            refine (bI_eq (s_wT c2)).trans ((if_neg (by decide)).trans ?_)
            refine (bI_eq (s_wT c3)).trans ((if_neg (by decide)).trans ?_)
            refine (bI_eq (s_wT c4)).trans ((if_neg (by decide)).trans ?_)
            by_cases d1 : a 18 = n1
            · refine (if_pos (eqT k1 rfl d1)).trans ?_
              by_cases d2 : a 19 = n2
              · refine (if_pos (eqT k2 rfl d2)).trans ?_
                by_cases d3 : a 20 = n3
                · refine (if_pos (eqT k3 rfl d3)).trans ?_
                  by_cases d4 : a 21 = n4
                  · refine (if_pos (eqT k4 rfl d4)).trans ((if_neg (by decide)).trans ?_)
                    rw [if_pos ⟨d1, d2, d3, d4⟩]
                    rfl
                  · refine (if_neg (eqF k4 rfl d4 (by omega) (by omega))).trans ((if_pos rfl).trans ?_)
                    rw [if_neg (fun z => d4 z.2.2.2)]
                    rfl
                · refine (if_neg (eqF k3 rfl d3 (by omega) (by omega))).trans ((if_pos rfl).trans ?_)
                  rw [if_neg (fun z => d3 z.2.2.1)]
                  rfl
              · refine (if_neg (eqF k2 rfl d2 (by omega) (by omega))).trans ((if_pos rfl).trans ?_)
                rw [if_neg (fun z => d2 z.2.1)]
                rfl
            · refine (if_neg (eqF k1 rfl d1 (by omega) (by omega))).trans ((if_pos rfl).trans ?_)
              rw [if_neg (fun z => d1 z.1)]
              rfl
        · exact One.no (-1) (by decide) (by decide) ((qX0_changeRates w _ _ _ _ _).trans ((bI_eq (s_wT c1)).trans ((if_neg (by decide)).trans ((bI_eq (s_wT c2)).trans ((if_neg (by decide)).trans ((bI_eq (s_wT c3)).trans ((if_neg (by decide)).trans ((bI_eq (s_wF c4)).trans (if_pos rfl)))))))))
      · exact One.no (-1) (by decide) (by decide) ((qX0_changeRates w _ _ _ _ _).trans ((bI_eq (s_wT c1)).trans ((if_neg (by decide)).trans ((bI_eq (s_wT c2)).trans ((if_neg (by decide)).trans ((bI_eq (s_wF c3)).trans (if_pos rfl)))))))
    · exact One.no (-1) (by decide) (by decide) ((qX0_changeRates w _ _ _ _ _).trans ((bI_eq (s_wT c1)).trans ((if_neg (by decide)).trans ((bI_eq (s_wF c2)).trans (if_pos rfl)))))
  · exact One.no (-1) (by decide) (by decide) ((qX0_changeRates w _ _ _ _ _).trans ((bI_eq (s_wF c1)).trans (if_pos rfl)))
def aLab (a : Nat → Nat) (j n1 n2 n3 n4 n5 : Nat) : Nat → Nat := au (au (au (au (au a (22 + 5 * j + 0) n1) (22 + 5 * j + 1) n2) (22 + 5 * j + 2) n3) (22 + 5 * j + 3) n4) (22 + 5 * j + 4) n5
theorem Wf.label (hw : Wf B a) {j n1 n2 n3 n4 n5 : Nat} (hj : j < 4) (h1 : n1 ≤ 1000) (h2 : n2 ≤ 1000) (h3 : n3 ≤ 1000) (h4 : n4 ≤ 1000) (h5 : n5 ≤ 1000) : Wf (B + 1) (aLab a j n1 n2 n3 n4 n5) := by
  have out : ∀ q, ¬ (22 + 5 * j ≤ q ∧ q < 22 + 5 * j + 5) → aLab a j n1 n2 n3 n4 n5 q = a q := fun q hq => (au_n (by omega)).trans ((au_n (by omega)).trans ((au_n (by omega)).trans ((au_n (by omega)).trans (au_n (by omega)))))
  have e0 : aLab a j n1 n2 n3 n4 n5 (22 + 5 * j + 0) = n1 := (au_n (by omega)).trans ((au_n (by omega)).trans ((au_n (by omega)).trans ((au_n (by omega)).trans (au_s _ _ _))))
  have e1 : aLab a j n1 n2 n3 n4 n5 (22 + 5 * j + 1) = n2 := (au_n (by omega)).trans ((au_n (by omega)).trans ((au_n (by omega)).trans (au_s _ _ _)))
  have e2 : aLab a j n1 n2 n3 n4 n5 (22 + 5 * j + 2) = n3 := (au_n (by omega)).trans ((au_n (by omega)).trans (au_s _ _ _))
  have e3 : aLab a j n1 n2 n3 n4 n5 (22 + 5 * j + 3) = n4 := (au_n (by omega)).trans (au_s _ _ _)
  have e4 : aLab a j n1 n2 n3 n4 n5 (22 + 5 * j + 4) = n5 := au_s _ _ _
  refine hw.low (fun q hq => ?_) (fun q hq => ?_) (by rw [out 20 (by omega)]; exact hw.2.2.2.2.2.2.1.2) (fun q hq => out q (by omega))
  · by_cases i : 22 + 5 * j ≤ q ∧ q < 22 + 5 * j + 5
    · have hc : q = 22 + 5 * j + 0 ∨ q = 22 + 5 * j + 1 ∨ q = 22 + 5 * j + 2 ∨ q = 22 + 5 * j + 3 ∨ q = 22 + 5 * j + 4 := by omega
      rcases hc with e | e | e | e | e <;> rw [e] <;> omega
    · rw [out q i]
      exact hw.1 q hq
  · rw [out _ (by omega), out _ (by omega), out _ (by omega)]
    exact hw.2.1 q hq
theorem s_change {N i j : Nat} (hv : St 155 v i a) (hw : Wf B a) (hj : j < 4) {n1 n2 n3 n4 n5 : Nat} (h1 : n1 ≤ 1000) (h2 : n2 ≤ 1000) (h3 : n3 ≤ 1000) (h4 : n4 ≤ 1000) (h5 : n5 ≤ 1000) : fX1_change v [nm 9 i j, I (nI n1), I (nI n2), I (nI n3), I (nI n4), I (nI n5)] = some (mUp (mUp (mUp (mUp (mUp v (i, 22 + 5 * j + 0) (nI n1)) (i, 22 + 5 * j + 1) (nI n2)) (i, 22 + 5 * j + 2) (nI n3)) (i, 22 + 5 * j + 3) (nI n4)) (i, 22 + 5 * j + 4) (nI n5), some (I (nI (if a (22 + 5 * j + 0) = n1 ∧ a (22 + 5 * j + 1) = n2 ∧ a (22 + 5 * j + 2) = n3 ∧ a (22 + 5 * j + 3) = n4 ∧ a (22 + 5 * j + 4) = n5 then 0 else 1)))) := by
  have k1 := hv (22 + 5 * j + 0) (by omega)
  have k2 := hv (22 + 5 * j + 1) (by omega)
  have k3 := hv (22 + 5 * j + 2) (by omega)
  have k4 := hv (22 + 5 * j + 3) (by omega)
  have k5 := hv (22 + 5 * j + 4) (by omega)
  have l1 := hw.1 (22 + 5 * j + 0) (by omega)
  have l2 := hw.1 (22 + 5 * j + 1) (by omega)
  have l3 := hw.1 (22 + 5 * j + 2) (by omega)
  have l4 := hw.1 (22 + 5 * j + 3) (by omega)
  have l5 := hw.1 (22 + 5 * j + 4) (by omega)
  refine (qX1_change v i j _ _ _ _ _).trans ?_
  by_cases d1 : a (22 + 5 * j + 0) = n1
  · refine (if_pos (eqT k1 rfl d1)).trans ?_
    by_cases d2 : a (22 + 5 * j + 1) = n2
    · refine (if_pos (eqT k2 rfl d2)).trans ?_
      by_cases d3 : a (22 + 5 * j + 2) = n3
      · refine (if_pos (eqT k3 rfl d3)).trans ?_
        by_cases d4 : a (22 + 5 * j + 3) = n4
        · refine (if_pos (eqT k4 rfl d4)).trans ?_
          by_cases d5 : a (22 + 5 * j + 4) = n5
          · refine (if_pos (eqT k5 rfl d5)).trans ((if_neg (by decide)).trans ?_)
            rw [if_pos ⟨d1, d2, d3, d4, d5⟩]
            rfl
          · refine (if_neg (eqF k5 rfl d5 (by omega) (by omega))).trans ((if_pos rfl).trans ?_)
            rw [if_neg (fun z => d5 z.2.2.2.2)]
            rfl
        · refine (if_neg (eqF k4 rfl d4 (by omega) (by omega))).trans ((if_pos rfl).trans ?_)
          rw [if_neg (fun z => d4 z.2.2.2.1)]
          rfl
      · refine (if_neg (eqF k3 rfl d3 (by omega) (by omega))).trans ((if_pos rfl).trans ?_)
        rw [if_neg (fun z => d3 z.2.2.1)]
        rfl
    · refine (if_neg (eqF k2 rfl d2 (by omega) (by omega))).trans ((if_pos rfl).trans ?_)
      rw [if_neg (fun z => d2 z.2.1)]
      rfl
  · refine (if_neg (eqF k1 rfl d1 (by omega) (by omega))).trans ((if_pos rfl).trans ?_)
    rw [if_neg (fun z => d1 z.1)]
    rfl
theorem o_setLabel (hv : St 155 w i a) (hw : Wf B a) (x1 x2 x3 x4 x5 x6 : Int32) : One B (fX0_changeLabel w [nm 2 i 0, I x1, I x2, I x3, I x4, I x5, I x6]) w i a := by
  by_cases c1 : 0 ≤ x1 ∧ x1 ≤ 3
  · by_cases c2 : 0 ≤ x2 ∧ x2 ≤ 1000
    · by_cases c3 : x2 ≤ x3 ∧ x3 ≤ 1000
      · by_cases c4 : 0 ≤ x4 ∧ x4 ≤ 1000
        · by_cases c5 : x4 ≤ x5 ∧ x5 ≤ 1000
          · by_cases c6 : 0 ≤ x6 ∧ x6 ≤ 1000
            · obtain ⟨j, yj, rfl⟩ := inM (M := 3) (by omega) c1.1 c1.2
              obtain ⟨n1, y1, rfl⟩ := inM (M := 1000) (by omega) c2.1 c2.2
              obtain ⟨n2, y2, rfl⟩ := inM (M := 1000) (by omega) (Int32.le_trans c2.1 c3.1) c3.2
              obtain ⟨n3, y3, rfl⟩ := inM (M := 1000) (by omega) c4.1 c4.2
              obtain ⟨n4, y4, rfl⟩ := inM (M := 1000) (by omega) (Int32.le_trans c4.1 c5.1) c5.2
              obtain ⟨n5, y5, rfl⟩ := inM (M := 1000) (by omega) c6.1 c6.2
              have hj : j < 4 := by omega
              have l1 := hw.1 (22 + 5 * j + 0) (by omega)
              have l2 := hw.1 (22 + 5 * j + 1) (by omega)
              have l3 := hw.1 (22 + 5 * j + 2) (by omega)
              have l4 := hw.1 (22 + 5 * j + 3) (by omega)
              have l5 := hw.1 (22 + 5 * j + 4) (by omega)
              have qj : (nI j).toNatClampNeg = j := nI_clamp (by omega)
              have g5 := ((((hv.up (o := 22 + 5 * j + 0) (x := nI n1) (n := n1) rfl).up (o := 22 + 5 * j + 1) (x := nI n2) (n := n2) rfl).up (o := 22 + 5 * j + 2) (x := nI n3) (n := n3) rfl).up (o := 22 + 5 * j + 3) (x := nI n4) (n := n4) rfl).up (o := 22 + 5 * j + 4) (x := nI n5) (n := n5) rfl
              refine One.ok (n := if a (22 + 5 * j + 0) = n1 ∧ a (22 + 5 * j + 1) = n2 ∧ a (22 + 5 * j + 2) = n3 ∧ a (22 + 5 * j + 3) = n4 ∧ a (22 + 5 * j + 4) = n5 then 0 else 1) (a' := aLab a j n1 n2 n3 n4 n5) (by split <;> omega) ((qX0_changeLabel w _ _ _ _ _ _ _).trans ?_) (g5) (((((Fr.up _ _ _ _).tr (Fr.up _ _ _ _)).tr (Fr.up _ _ _ _)).tr (Fr.up _ _ _ _)).tr (Fr.up _ _ _ _)) (hw.label hj y1 y2 y3 y4 y5) (fun hb => hb.low (fun q hq => (au_n (by omega)).trans ((au_n (by omega)).trans ((au_n (by omega)).trans ((au_n (by omega)).trans ((au_n (by omega))))))))
              · simp only [qj]
                refine (bI_eq (s_wT c1)).trans ((if_neg (by decide)).trans ?_)
                refine (bI_eq (s_wT c2)).trans ((if_neg (by decide)).trans ?_)
                refine (bI_eq (s_wT c3)).trans ((if_neg (by decide)).trans ?_)
                refine (bI_eq (s_wT c4)).trans ((if_neg (by decide)).trans ?_)
                refine (bI_eq (s_wT c5)).trans ((if_neg (by decide)).trans ?_)
                refine (bI_eq (s_wT c6)).trans ((if_neg (by decide)).trans ?_)
                refine (if_pos (mIn_nI (by omega) (by omega))).trans ?_
                exact bI_eq (s_change (N := 0) hv hw hj y1 y2 y3 y4 y5)
            · exact One.no (-1) (by decide) (by decide) ((qX0_changeLabel w _ _ _ _ _ _ _).trans ((bI_eq (s_wT c1)).trans ((if_neg (by decide)).trans ((bI_eq (s_wT c2)).trans ((if_neg (by decide)).trans ((bI_eq (s_wT c3)).trans ((if_neg (by decide)).trans ((bI_eq (s_wT c4)).trans ((if_neg (by decide)).trans ((bI_eq (s_wT c5)).trans ((if_neg (by decide)).trans ((bI_eq (s_wF c6)).trans (if_pos rfl)))))))))))))
          · exact One.no (-1) (by decide) (by decide) ((qX0_changeLabel w _ _ _ _ _ _ _).trans ((bI_eq (s_wT c1)).trans ((if_neg (by decide)).trans ((bI_eq (s_wT c2)).trans ((if_neg (by decide)).trans ((bI_eq (s_wT c3)).trans ((if_neg (by decide)).trans ((bI_eq (s_wT c4)).trans ((if_neg (by decide)).trans ((bI_eq (s_wF c5)).trans (if_pos rfl)))))))))))
        · exact One.no (-1) (by decide) (by decide) ((qX0_changeLabel w _ _ _ _ _ _ _).trans ((bI_eq (s_wT c1)).trans ((if_neg (by decide)).trans ((bI_eq (s_wT c2)).trans ((if_neg (by decide)).trans ((bI_eq (s_wT c3)).trans ((if_neg (by decide)).trans ((bI_eq (s_wF c4)).trans (if_pos rfl)))))))))
      · exact One.no (-1) (by decide) (by decide) ((qX0_changeLabel w _ _ _ _ _ _ _).trans ((bI_eq (s_wT c1)).trans ((if_neg (by decide)).trans ((bI_eq (s_wT c2)).trans ((if_neg (by decide)).trans ((bI_eq (s_wF c3)).trans (if_pos rfl)))))))
    · exact One.no (-1) (by decide) (by decide) ((qX0_changeLabel w _ _ _ _ _ _ _).trans ((bI_eq (s_wT c1)).trans ((if_neg (by decide)).trans ((bI_eq (s_wF c2)).trans (if_pos rfl)))))
  · exact One.no (-1) (by decide) (by decide) ((qX0_changeLabel w _ _ _ _ _ _ _).trans ((bI_eq (s_wF c1)).trans (if_pos rfl)))
end
