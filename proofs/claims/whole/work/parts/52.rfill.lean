-- BOTTLE
section
variable {B : Nat} {v u : MM} {i : Nat} {a : Nat → Nat}
theorem aDrop_out {t n k : Nat} (h : ¬ (60 + 7 * t ≤ k ∧ k < 60 + 7 * t + 7)) : aDrop a t n k = a k := by
  unfold aDrop
  (try simp only [au]); (repeat (first | rw [if_pos trivial] | rw [if_pos (by omega)] | rw [if_neg (by omega)]))
theorem aDrop_t {t n : Nat} : aDrop a t n (60 + 7 * t + 0) = a (60 + 7 * t + 0) ∧ aDrop a t n (60 + 7 * t + 1) = a (60 + 7 * t + 1) - n ∧ aDrop a t n (60 + 7 * t + 2) = a (60 + 7 * t + 2) - pt a t 2 n ∧ aDrop a t n (60 + 7 * t + 3) = a (60 + 7 * t + 3) - pt a t 3 n ∧ aDrop a t n (60 + 7 * t + 4) = a (60 + 7 * t + 4) - pt a t 4 n ∧ aDrop a t n (60 + 7 * t + 5) = a (60 + 7 * t + 5) ∧ aDrop a t n (60 + 7 * t + 6) = a (60 + 7 * t + 6) - pt a t 6 n := by
  unfold aDrop
  refine ⟨?_, ?_, ?_, ?_, ?_, ?_, ?_⟩
  all_goals ((try simp only [au]); (repeat (first | rw [if_pos trivial] | rw [if_pos (by omega)] | rw [if_neg (by omega)])))
theorem Wf.drop (hw : Wf B a) {b : Nat → Nat} {t n : Nat} (ht : t < a 59) (h0 : 0 < n) (hn : n ≤ a (60 + 7 * t + 1)) (hb : ∀ k, k < 104 → b k = aDrop a t n k) (c9 : ∀ j, j < 4 → b (151 + j) ≤ a (151 + j) + 5000 ∧ b (151 + j) = sm (fun k => b (111 + 10 * j + k)) 10) : Wf (B + 1) b := by
  have w4 := hw.2.2.2.1
  have ht6 : t < 6 := by omega
  obtain ⟨⟨t0, t1, t4, tz⟩, -⟩ := w4.2 t ht6
  obtain ⟨g0, g1, g2, g3, g4, g5, g6⟩ := aDrop_t (a := a) (t := t) (n := n)
  have p2 : pt a t 2 n ≤ a (60 + 7 * t + 2) := pt_le hn
  have p3 : pt a t 3 n ≤ a (60 + 7 * t + 3) := pt_le hn
  have p4 : pt a t 4 n ≤ a (60 + 7 * t + 4) := pt_le hn
  have p6 : pt a t 6 n ≤ a (60 + 7 * t + 6) := pt_le hn
  have hh : a (60 + 7 * t + 4) + n ≤ a (60 + 7 * t + 1) + pt a t 4 n := hz t4 hn (by omega)
  have out : ∀ k, k < 104 → ¬ (60 + 7 * t ≤ k ∧ k < 60 + 7 * t + 7) → b k = a k := fun k hk h => (hb k hk).trans (aDrop_out h)
  have e : ∀ q, q < 7 → b (60 + 7 * t + q) = aDrop a t n (60 + 7 * t + q) := fun q hq => hb _ (by omega)
  have oth : ∀ j, j < 6 → j ≠ t → ∀ q, q < 7 → b (60 + 7 * j + q) = a (60 + 7 * j + q) := fun j hj hne q hq => out _ (by omega) (by omega)
  refine hw.chg (fun k hk => out k (by omega) (by omega)) (out _ (by omega) (by omega)) (fun k hk => ⟨out _ (by omega) (by omega), ?_⟩) (out _ (by omega) (by omega)) (fun j hj => ?_) ?_ ?_ ?_ c9
  · unfold lot
    rw [out _ (by omega) (by omega)]
    exact Nat.le_refl _
  · by_cases e1 : j = t
    · subst e1
      refine Or.inl ⟨ht, ?_⟩
      unfold WT
      rw [e 0 (by omega), e 1 (by omega), e 2 (by omega), e 3 (by omega), e 4 (by omega), e 5 (by omega), e 6 (by omega), g0, g1, g2, g3, g4, g5, g6]
      refine ⟨t0, by omega, by omega, fun z => ?_⟩
      have eq : n = a (60 + 7 * j + 1) := by omega
      rw [pt_all eq h0, pt_all eq h0, pt_all eq h0, pt_all eq h0]
      omega
    · exact Or.inr (oth j hj e1)
  · have s1 := sm_one (g := sug a) (g' := sug b) ht6 (fun j hj hne => sug_cg (oth j hj hne))
    have s2 : sm (lot b) 8 = sm (lot a) 8 := sm_cg (fun j hj => out _ (by omega) (by omega))
    have s3 : sug b t ≤ sug a t := by
      unfold sug
      rw [e 2 (by omega), e 3 (by omega), e 6 (by omega), g2, g3, g6]
      omega
    omega
  · rw [out _ (by omega) (by omega)]
    omega
  · rw [out _ (by omega) (by omega)]
    omega
def aBot (a : Nat → Nat) (t j s c : Nat) : Nat → Nat := au (au (au (aDrop a t (s * c)) (110 + 10 * j + s) (a (110 + 10 * j + s) + c)) (151 + j) (a (151 + j) + c)) 109 (a 109 + s * c)
theorem Wf.bot (hw : Wf B a) {t j s c : Nat} (ht : t < a 59) (hj : j < 4) (hs : 1 ≤ s ∧ s ≤ 10) (hc : 1 ≤ c ∧ c ≤ 5000) (hn : s * c ≤ a (60 + 7 * t + 1)) : Wf (B + 1) (aBot a t j s c) ∧ aBot a t j s c (151 + j) = a (151 + j) + c := by
  have w59 := hw.2.2.2.1.1
  have h8 := hw.2.2.2.2.2.2.2
  have h0 : 0 < s * c := Nat.mul_pos (by omega) (by omega)
  have e1 : aBot a t j s c (151 + j) = a (151 + j) + c := by
    unfold aBot
    rw [au_n (by omega), au_s]
  have e2 : aBot a t j s c (110 + 10 * j + s) = a (110 + 10 * j + s) + c := by
    unfold aBot
    rw [au_n (by omega), au_n (by omega), au_s]
  have out : ∀ k, 110 ≤ k → k ≠ 110 + 10 * j + s → k ≠ 151 + j → aBot a t j s c k = a k := by
    intro k h1 h2 h3
    unfold aBot
    rw [au_n (by omega), au_n h3, au_n h2, aDrop_out (by omega)]
  refine ⟨hw.drop ht h0 hn (fun k hk => ?_) (fun j' hj' => ?_), e1⟩
  · unfold aBot
    rw [au_n (by omega), au_n (by omega), au_n (by omega)]
  · obtain ⟨b1, b2⟩ := h8 j' hj'
    by_cases e : j' = j
    · subst e
      rw [e1]
      refine ⟨by omega, ?_⟩
      have z := sm_one (g := fun k => a (111 + 10 * j' + k)) (g' := fun k => aBot a t j' s c (111 + 10 * j' + k)) (t := s - 1) (n := 10) (by omega) (fun k hk hne => out _ (by omega) (by omega) (by omega))
      have z1 : aBot a t j' s c (111 + 10 * j' + (s - 1)) = a (110 + 10 * j' + s) + c := by
        rw [show 111 + 10 * j' + (s - 1) = 110 + 10 * j' + s by omega, e2]
      have z2 : a (111 + 10 * j' + (s - 1)) = a (110 + 10 * j' + s) := by
        rw [show 111 + 10 * j' + (s - 1) = 110 + 10 * j' + s by omega]
      rw [z1, z2] at z
      omega
    · rw [out _ (by omega) (by omega) (by omega)]
      refine ⟨by omega, b2.trans (sm_cg (fun k hk => out _ (by omega) (by omega) (by omega))).symm⟩
noncomputable def fTail (w : MM) (x1 x2 x3 x4 : Int32) : MR :=
  bI (fX7_carries w [MO, .inl x1, .inl (x3 * x4), .inl (-1 : Int32)]) (fun w15 r16 =>
    if mIn (109 : Int32) 151 then
    if mIn (109 : Int32) 151 then
    let w17 : MM := mUp w15 (14, (109 : Int32).toNatClampNeg) ((w15.1 14 ((109 : Int32).toNatClampNeg)) + (x3 * x4))
    if mIn ((((111 : Int32) + ((10 : Int32) * x2)) + x3) - (1 : Int32)) 151 then
    if mIn ((((111 : Int32) + ((10 : Int32) * x2)) + x3) - (1 : Int32)) 151 then
    let w18 : MM := mUp w17 (14, ((((111 : Int32) + ((10 : Int32) * x2)) + x3) - (1 : Int32)).toNatClampNeg) ((w17.1 14 (((((111 : Int32) + ((10 : Int32) * x2)) + x3) - (1 : Int32)).toNatClampNeg)) + x4)
    if r16 < 0 then
      some (w18, some (.inl r16))
    else
      bI (fX7_bottled w18 [MO, .inl x2]) (fun w19 r20 =>
        some (w19, some (.inl r20))
      )
    else none
    else none
    else none
    else none
  )
theorem m_tail {w : MM} (hu : St 151 w 14 a) (hw : Wf B a) (hB : B ≤ 1100) {t j s c : Nat} (ht : t < a 59) (hj : j < 4) (hs : 1 ≤ s ∧ s ≤ 10) (hc : 1 ≤ c ∧ c ≤ 5000) (hn : s * c ≤ a (60 + 7 * t + 1)) : ∃ w', fTail w (nI t) (nI j) (nI s) (nI c) = some (w', some (I (nI (a (151 + j) + c)))) ∧ St 151 w' 14 (aBot a t j s c) ∧ Fr 14 w w' := by
  have w4 := hw.2.2.2.1
  have ht6 : t < 6 := by omega
  obtain ⟨⟨t0, t1, t4, tz⟩, -⟩ := w4.2 t ht6
  have h0 : 0 < s * c := Nat.mul_pos (by omega) (by omega)
  have hp : pt a t 4 (s * c) ≤ a (60 + 7 * t + 4) := pt_le hn
  obtain ⟨b1, b2⟩ := hw.bot ht hj hs hc hn
  have b3 := (b1.2.2.2.2.2.2.2 j hj).2
  obtain ⟨u2, e2, h2, f2⟩ := m_carry0 hu (by omega) (hw.mul hB ht6 (by omega)) (by omega) (by omega) hn
  have h3 := h2.add (o := 109) (m := a 109) (s * c) (by omega) (aDrop_out (by omega))
  have h4 := h3.add (o := 110 + 10 * j + s) (m := a (110 + 10 * j + s)) c (by omega) (by rw [au_n (by omega)]; exact aDrop_out (by omega))
  have h5 := h4.cong (b := aBot a t j s c) (fun k hk => by
    unfold aBot
    by_cases c1 : k = 109
    · rw [c1, au_n (by omega), au_s, au_s]
    · by_cases c2 : k = 110 + 10 * j + s
      · rw [c2, au_s, au_n (by omega), au_n (by omega), au_s]
      · rw [au_n c2, au_n c1, au_n c1, au_n (by omega), au_n c2])
  have ix : (((111 : Int32) + ((10 : Int32) * nI j)) + nI s) - (1 : Int32) = nI (110 + 10 * j + s) := by
    rw [ix_o, show nI (111 + 10 * j + s) - (1 : Int32) = nI (111 + 10 * j + s - 1) from i_sub (b := 1) (by omega)]
    exact congrArg nI (by omega)
  refine ⟨_, ?_, h5, (f2.tr (Fr.up 14 _ _ _)).tr (Fr.up 14 _ _ _)⟩
  unfold fTail
  have qx : (nI (110 + 10 * j + s)).toNatClampNeg = 110 + 10 * j + s := nI_clamp (by omega)
  simp only [ix, qx, pk_mul]
  refine (bI_eq e2).trans ?_
  refine (if_pos (by decide)).trans ?_
  refine (if_pos (by decide)).trans ?_
  refine (if_pos (mIn_nI (by omega) (by omega))).trans ?_
  refine (if_pos (mIn_nI (by omega) (by omega))).trans ?_
  refine (if_neg (ltF (n := 0) rfl rfl (by omega) (by omega))).trans ?_
  refine (bI_eq (m_bottled h5 hj)).trans ?_
  rw [← b3, b2]
end
