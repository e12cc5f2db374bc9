-- THE CLASS'S DAY
section
variable {B : Nat} {v u : MM} {i : Nat} {a : Nat → Nat}
def aWrk (b : Nat → Nat) (t r s : Nat) : Nat → Nat := au (au (au (au (au b (60 + 7 * t + 4) (b (60 + 7 * t + 4) - b (60 + 7 * t + 4) * r / 1000)) (60 + 7 * t + 1) (b (60 + 7 * t + 1) - b (60 + 7 * t + 4) * r / 1000)) (60 + 7 * t + 5) (b (60 + 7 * t + 5) + b (60 + 7 * t + 4) * r / 1000)) (60 + 7 * t + 2) (b (60 + 7 * t + 2) - b (60 + 7 * t + 2) * s / 1000)) (60 + 7 * t + 6) (b (60 + 7 * t + 6) + b (60 + 7 * t + 2) * s / 1000)
theorem s_tday {N : Nat} {b : Nat → Nat} {t r s : Nat} (h : St N v i b) (hN : 60 + 7 * t + 6 < N) (hr : r ≤ 1000) (hs : s ≤ 1000) (hm : Sm b t) (h41 : b (60 + 7 * t + 4) ≤ b (60 + 7 * t + 1)) : ∃ v', fX4_passDay v [nm 12 i t, I (nI r), I (nI s)] = some (v', none) ∧ St N v' i (aWrk b t r s) ∧ Fr i v v' := by
  have d4 : b (60 + 7 * t + 4) * r / 1000 ≤ b (60 + 7 * t + 4) := div_th hr
  have d2 : b (60 + 7 * t + 2) * s / 1000 ≤ b (60 + 7 * t + 2) := div_th hs
  have h1 := h.sub (o := 60 + 7 * t + 4) (n := b (60 + 7 * t + 4) * r / 1000) (by omega) rfl d4
  have h2 := h1.sub (o := 60 + 7 * t + 1) (m := b (60 + 7 * t + 1)) (n := b (60 + 7 * t + 4) * r / 1000) (by omega) (au_n (by omega)) (by omega)
  have h3 := h2.add (o := 60 + 7 * t + 5) (m := b (60 + 7 * t + 5)) (b (60 + 7 * t + 4) * r / 1000) (by omega) (by rw [au_n (by omega), au_n (by omega)])
  have k2 := h3.rd (o := 60 + 7 * t + 2) (m := b (60 + 7 * t + 2)) (by omega) (by rw [au_n (by omega), au_n (by omega), au_n (by omega)])
  have h4 := h3.sub (o := 60 + 7 * t + 2) (m := b (60 + 7 * t + 2)) (n := b (60 + 7 * t + 2) * s / 1000) (by omega) (by rw [au_n (by omega), au_n (by omega), au_n (by omega)]) d2
  have h5 := h4.add (o := 60 + 7 * t + 6) (m := b (60 + 7 * t + 6)) (b (60 + 7 * t + 2) * s / 1000) (by omega) (by rw [au_n (by omega), au_n (by omega), au_n (by omega), au_n (by omega)])
  refine ⟨_, (qX4_passDay v i t _ _).trans ?_, h5, ((((Fr.up i _ v _).tr (Fr.up i _ _ _)).tr (Fr.up i _ _ _)).tr (Fr.up i _ _ _)).tr (Fr.up i _ _ _)⟩
  refine (bI_eq (v := v) (x := nI (b (60 + 7 * t + 4) * r / 1000)) (by rw [h _ (show 60 + 7 * t + 4 < N by omega)]; exact s_thou (hm 4 (by omega)) (by omega))).trans ?_
  exact bI_eq (x := nI (b (60 + 7 * t + 2) * s / 1000)) (by rw [k2]; exact s_thou (hm 2 (by omega)) (by omega))
theorem DR.small {b : Nat → Nat} (hw : Wf B a) (hB : B ≤ 1100) (h : DR a b) {t : Nat} (ht : t < 6) : ∀ f, f < 7 → b (60 + 7 * t + f) ≤ 325000 := by
  obtain ⟨h1, h2, h3, h4, h5, h6, h7, h8⟩ := h
  obtain ⟨⟨w0, w1, w4, wz⟩, k2, k3⟩ := h5 t ht
  have g := hw.sug_le hB ht
  rw [← k3] at g
  unfold sug at g
  intro f hf
  by_cases z : t < a 59
  · have z0 : b (60 + 7 * t + 0) ≤ 5000 := w0
    have hc : f = 0 ∨ f = 1 ∨ f = 2 ∨ f = 3 ∨ f = 4 ∨ f = 5 ∨ f = 6 := by omega
    rcases hc with rfl | rfl | rfl | rfl | rfl | rfl | rfl <;> omega
  · rw [k2 (by omega) f hf]
    omega
theorem drys_DR (hw : Wf B a) : ∀ k, k ≤ 8 → DR a (drys a k)
  | 0, _ => DR.rf hw
  | k + 1, h => (drys_DR hw k (by omega)).dry (by omega)
theorem wrks_DR {b : Nat → Nat} (hw : Wf B a) (hb : DR a b) : ∀ k, k ≤ 6 → DR a (wrks b k)
  | 0, _ => hb
  | k + 1, h => (wrks_DR hw hb k (by omega)).work hw (by omega)
theorem s_dry0 {b : Nat → Nat} (h : St 155 v i b) (hb : DR a b) (hw : Wf B a) {k : Nat} (hk : k < 8) : ∃ v', gX0_passDay_2 v i (nI k) = gX0_passDay_2_2 v' i (nI k + 1) (nI (b (43 + 2 * k + 1) * b 18 / 1000)) ∧ St 155 v' i (aDry b k) ∧ Fr i v v' := by
  have l1 := (hb.2.2.1 k hk).2
  have l2 := (hw.2.2.1.2 k hk).2.1
  unfold lot at l1 l2
  have r18 : b 18 ≤ 1000 := by rw [hb.1 18 (by omega)]; exact hw.1 18 (by omega)
  have h1 := h.sub (o := 43 + 2 * k + 1) (n := b (43 + 2 * k + 1) * b 18 / 1000) (by omega) rfl (div_th r18)
  have h2 := h1.add (o := 106) (m := b 106) (b (43 + 2 * k + 1) * b 18 / 1000) (by omega) (au_n (by omega))
  have qk : (nI k).toNatClampNeg = k := nI_clamp (by omega)
  refine ⟨_, (qX0_passDay_2 v i _).trans ?_, h2, (Fr.up i _ v _).tr (Fr.up i _ _ _)⟩
  simp only [qk]
  refine (if_pos (ltT (n := 8) rfl rfl hk (by omega))).trans ?_
  refine (if_pos (mIn_nI hk (by omega))).trans ?_
  refine (bI_eq (v := v) (x := nI (b (43 + 2 * k + 1) * b 18 / 1000)) (by rw [h _ (show 43 + 2 * k + 1 < 155 by omega), h 18 (by omega)]; exact s_thou (by omega) (by omega))).trans ?_
  refine (if_pos (mIn_nI hk (by omega))).trans ?_
  refine (if_pos (by decide)).trans ?_
  exact if_pos (by decide)
theorem s_dry1 {b : Nat → Nat} (h : St 155 v i b) (hb : DR a b) (hw : Wf B a) {k : Nat} (hk : k < 8) (y : Int32) : ∃ v', gX0_passDay_2_2 v i (nI k) y = gX0_passDay_2_2 v' i (nI k + 1) (nI (b (43 + 2 * k + 1) * b 18 / 1000)) ∧ St 155 v' i (aDry b k) ∧ Fr i v v' := by
  have l1 := (hb.2.2.1 k hk).2
  have l2 := (hw.2.2.1.2 k hk).2.1
  unfold lot at l1 l2
  have r18 : b 18 ≤ 1000 := by rw [hb.1 18 (by omega)]; exact hw.1 18 (by omega)
  have h1 := h.sub (o := 43 + 2 * k + 1) (n := b (43 + 2 * k + 1) * b 18 / 1000) (by omega) rfl (div_th r18)
  have h2 := h1.add (o := 106) (m := b 106) (b (43 + 2 * k + 1) * b 18 / 1000) (by omega) (au_n (by omega))
  have qk : (nI k).toNatClampNeg = k := nI_clamp (by omega)
  refine ⟨_, (qX0_passDay_2_2 v i _ _).trans ?_, h2, (Fr.up i _ v _).tr (Fr.up i _ _ _)⟩
  simp only [qk]
  refine (if_pos (ltT (n := 8) rfl rfl hk (by omega))).trans ?_
  refine (if_pos (mIn_nI hk (by omega))).trans ?_
  refine (bI_eq (v := v) (x := nI (b (43 + 2 * k + 1) * b 18 / 1000)) (by rw [h _ (show 43 + 2 * k + 1 < 155 by omega), h 18 (by omega)]; exact s_thou (by omega) (by omega))).trans ?_
  refine (if_pos (mIn_nI hk (by omega))).trans ?_
  refine (if_pos (by decide)).trans ?_
  exact if_pos (by decide)
theorem s_drys (hw : Wf B a) : ∀ d k (v : MM) (y : Int32), d + k = 8 → St 155 v i (drys a k) → ∃ v' y', gX0_passDay_2_2 v i (nI k) y = gX0_passDay_35_2 v' i 0 y' ∧ St 155 v' i (drys a 8) ∧ Fr i v v'
  | 0, k, v, y, e, h => by
    have e : k = 8 := by omega
    subst e
    exact ⟨v, y, (qX0_passDay_2_2 v i _ _).trans (if_neg (by decide)), h, Fr.rf i v⟩
  | d + 1, k, v, y, e, h => by
    obtain ⟨v1, e1, h1, f1⟩ := s_dry1 h (drys_DR hw k (by omega)) hw (show k < 8 by omega) y
    obtain ⟨v2, y2, e2, h2, f2⟩ := s_drys hw d (k + 1) v1 (nI (drys a k (43 + 2 * k + 1) * drys a k 18 / 1000)) (by omega) h1
    refine ⟨v2, y2, e1.trans (Eq.trans ?_ e2), h2, f1.tr f2⟩
    rw [show nI k + (1 : Int32) = nI (k + 1) from i_add k 1]
theorem s_wrks {b : Nat → Nat} (hw : Wf B a) (hB : B ≤ 1100) (hb : DR a b) : ∀ d k (v : MM) (y : Int32), d + k = 6 → St 155 v i (wrks b k) → ∃ v', gX0_passDay_35_2 v i (nI k) y = some (mUp v' (i, 103) (v'.1 i 103 + 1), some (I (nI (a 103 + 1)))) ∧ St 155 v' i (wrks b 6) ∧ Fr i v v'
  | 0, k, v, y, e, h => by
    have e : k = 6 := by omega
    subst e
    refine ⟨v, (qX0_passDay_35_2 v i _ _).trans ((if_neg (by decide)).trans ?_), h, Fr.rf i v⟩
    have g := (wrks_DR hw hb 6 (by omega)).2.2.2.2.2.2.1
    have k3 := (h.add (o := 103) (m := a 103) 1 (by omega) g).rd (o := 103) (by omega) (au_s _ _ _)
    exact congrArg (fun z => some (_, some (I z))) k3
  | d + 1, k, v, y, e, h => by
    have dr := wrks_DR hw hb k (by omega)
    have sm1 := dr.small hw hB (show k < 6 by omega)
    have k6 : k < 6 := by omega
    have r20 : wrks b k 20 ≤ 1000 := by rw [dr.1 20 (by omega)]; exact hw.1 20 (by omega)
    have r21 : wrks b k 21 ≤ 1000 := by rw [dr.1 21 (by omega)]; exact hw.1 21 (by omega)
    obtain ⟨v1, e1, h1, f1⟩ := s_tday h (show 60 + 7 * k + 6 < 155 by omega) r20 r21 (fun f hf => by have := sm1 f hf; omega) (dr.2.2.2.2.1 k k6).1.2.2.1
    obtain ⟨v2, e2, h2, f2⟩ := s_wrks hw hB hb d (k + 1) v1 y (by omega) h1
    refine ⟨v2, (qX0_passDay_35_2 v i _ _).trans ?_, h2, f1.tr f2⟩
    refine (if_pos (ltT (n := 6) rfl rfl k6 (by omega))).trans ?_
    refine (if_pos (mIn_nI k6 (by omega))).trans ?_
    rw [nI_clamp (show k < 2 ^ 31 by omega), h 20 (by omega), h 21 (by omega)]
    refine (bV_eq e1).trans ?_
    rw [show nI k + (1 : Int32) = nI (k + 1) from i_add k 1]
    exact e2
def aDay (a : Nat → Nat) : Nat → Nat := au (wrks (drys a 8) 6) 103 (a 103 + 1)
theorem s_day (hv : St 155 v i a) (hw : Wf B a) (hB : B ≤ 1100) : ∃ v', fX0_passDay v [nm 2 i 0] = some (v', some (I (nI (a 103 + 1)))) ∧ St 155 v' i (aDay a) ∧ Fr i v v' := by
  obtain ⟨v1, e1, h1, f1⟩ := s_dry0 (k := 0) hv (DR.rf hw) hw (by omega)
  obtain ⟨v2, y2, e2, h2, f2⟩ := s_drys hw 7 1 v1 (nI (a (43 + 2 * 0 + 1) * a 18 / 1000)) (by omega) h1
  obtain ⟨v3, e3, h3, f3⟩ := s_wrks hw hB (drys_DR hw 8 (by omega)) 6 0 v2 y2 (by omega) h2
  refine ⟨_, (qX0_passDay v i).trans (e1.trans (e2.trans e3)), h3.add 1 (by omega) ?_, ((f1.tr f2).tr f3).tr (Fr.up i _ _ _)⟩
  exact (wrks_DR hw (drys_DR hw 8 (by omega)) 6 (by omega)).2.2.2.2.2.2.1
theorem Wf.day (hw : Wf B a) : Wf (B + 1) (aDay a) := by
  obtain ⟨h1, h2, h3, h4, h5, h6, h7, h8⟩ := wrks_DR hw (drys_DR hw 8 (by omega)) 6 (by omega)
  have out : ∀ k, k ≠ 103 → aDay a k = wrks (drys a 8) 6 k := fun k hk => au_n hk
  have ot : ∀ j, j < 6 → ∀ f, f < 7 → aDay a (60 + 7 * j + f) = wrks (drys a 8) 6 (60 + 7 * j + f) := fun j hj f hf => out _ (by omega)
  refine hw.chg (fun k hk => (out k (by omega)).trans (h1 k hk)) ((out _ (by omega)).trans h2) (fun k hk => ⟨(out _ (by omega)).trans (h3 k hk).1, ?_⟩) ((out _ (by omega)).trans h4) (fun j hj => ?_) ?_ ?_ ?_ (bot_same hw (fun k x y => (out k (by omega)).trans (h8 k x y)))
  · have : lot (aDay a) k = lot (wrks (drys a 8) 6) k := out _ (by omega)
    rw [this]
    exact (h3 k hk).2
  · obtain ⟨k1, k2, k3⟩ := h5 j hj
    by_cases z : j < a 59
    · exact Or.inl ⟨z, k1.cg (ot j hj)⟩
    · refine Or.inr (fun f hf => ?_)
      rw [ot j hj f hf, k2 (by omega) f hf, (hw.2.2.2.1.2 j hj).2 (by omega) f hf]
  · have s1 : sm (sug (aDay a)) 6 = sm (sug a) 6 := sm_cg (fun j hj => (sug_cg (ot j hj)).trans (h5 j hj).2.2)
    have l : ∀ j, j < 8 → lot (aDay a) j ≤ lot a j := fun j hj => by
      have : lot (aDay a) j = lot (wrks (drys a 8) 6) j := out _ (by omega)
      rw [this]
      exact (h3 j hj).2
    have s2 : sm (lot (aDay a)) 8 ≤ sm (lot a) 8 := by
      have l0 := l 0 (by omega)
      have l1 := l 1 (by omega)
      have l2 := l 2 (by omega)
      have l3 := l 3 (by omega)
      have l4 := l 4 (by omega)
      have l5 := l 5 (by omega)
      have l6 := l 6 (by omega)
      have l7 := l 7 (by omega)
      simp only [sm]
      omega
    omega
  · rw [out _ (by omega), h6]
    omega
  · unfold aDay
    rw [au_s]
    omega
end
