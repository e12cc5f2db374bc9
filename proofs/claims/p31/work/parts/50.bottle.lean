-- BOTTLE
def fb (a : Nat → Nat) (j J S A H : Nat) : Nat := if J = 0 then 1 else if S * 1000 / J < a (22 + 5 * j + 0) then 2 else if a (22 + 5 * j + 1) < S * 1000 / J then 3 else if A * 1000 / J < a (22 + 5 * j + 2) then 4 else if a (22 + 5 * j + 3) < A * 1000 / J then 5 else if a (22 + 5 * j + 4) < H * 1000 / J then 6 else 0
theorem fb_le (a : Nat → Nat) (j J S A H : Nat) : fb a j J S A H ≤ 6 := by
  unfold fb
  repeat' split
  all_goals omega
theorem div_le1 (S J : Nat) : S * 1000 / J ≤ S * 1000 := Nat.div_le_self _ _
theorem s_rj {v : MM} {i j : Nat} {a : Nat → Nat} (hv : St 155 v i a) (hL : ∀ k, k < 42 → a k ≤ 1000) (hj : j < 4) {J S A H : Nat} (hJ : J < 2 ^ 31) (hS : S ≤ 2000000) (hA : A ≤ 2000000) (hH : H ≤ 2000000) : fX1_reasonAgainstJuice v [nm 9 i j, I (nI J), I (nI S), I (nI A), I (nI H)] = some (v, some (I (nI (fb a j J S A H)))) := by
  have dS := div_le1 S J
  have dA := div_le1 A J
  have dH := div_le1 H J
  have l0 := hL (22 + 5 * j + 0) (by omega)
  have l1 := hL (22 + 5 * j + 1) (by omega)
  have l2 := hL (22 + 5 * j + 2) (by omega)
  have l3 := hL (22 + 5 * j + 3) (by omega)
  have l4 := hL (22 + 5 * j + 4) (by omega)
  refine (qX1_reasonAgainstJuice v i j _ _ _ _).trans ?_
  unfold fb
  by_cases c0 : J = 0
  · rw [if_pos c0, c0]
    exact if_neg (by decide)
  · rw [if_neg c0]
    refine (if_pos (ltT (m := 0) rfl rfl (by omega) hJ)).trans ?_
    refine (bI_eq (s_pert (by omega) (by omega) hJ)).trans ?_
    by_cases c1 : S * 1000 / J < a (22 + 5 * j + 0)
    · rw [if_pos c1]
      exact if_pos (ltT rfl (hv _ (by omega)) c1 (by omega))
    · rw [if_neg c1]
      refine (if_neg (ltF rfl (hv _ (by omega)) (by omega) (by omega))).trans ?_
      by_cases c2 : a (22 + 5 * j + 1) < S * 1000 / J
      · rw [if_pos c2]
        exact if_pos (ltT (hv _ (by omega)) rfl c2 (by omega))
      · rw [if_neg c2]
        refine (if_neg (ltF (hv _ (by omega)) rfl (Nat.not_lt.mp c2) (by omega))).trans ?_
        refine (bI_eq (s_pert (by omega) (by omega) hJ)).trans ?_
        by_cases c3 : A * 1000 / J < a (22 + 5 * j + 2)
        · rw [if_pos c3]
          exact if_pos (ltT rfl (hv _ (by omega)) c3 (by omega))
        · rw [if_neg c3]
          refine (if_neg (ltF rfl (hv _ (by omega)) (by omega) (by omega))).trans ?_
          by_cases c4 : a (22 + 5 * j + 3) < A * 1000 / J
          · rw [if_pos c4]
            exact if_pos (ltT (hv _ (by omega)) rfl c4 (by omega))
          · rw [if_neg c4]
            refine (if_neg (ltF (hv _ (by omega)) rfl (Nat.not_lt.mp c4) (by omega))).trans ?_
            refine (bI_eq (s_pert (by omega) (by omega) hJ)).trans ?_
            by_cases c5 : a (22 + 5 * j + 4) < H * 1000 / J
            · rw [if_pos c5]
              exact if_pos (ltT (hv _ (by omega)) rfl c5 (by omega))
            · rw [if_neg c5]
              exact if_neg (ltF (hv _ (by omega)) rfl (Nat.not_lt.mp c5) (by omega))
section
variable {B : Nat} {v u : MM} {i : Nat} {a : Nat → Nat}
theorem s_addB (hv : St 155 v i a) {j s c : Nat} (hj : j < 4) (hs : 1 ≤ s ∧ s ≤ 10) : ∃ v', fX1_addBottles v [nm 9 i j, I (nI s), I (nI c)] = some (v', none) ∧ St 155 v' i (au (au a (110 + 10 * j + s) (a (110 + 10 * j + s) + c)) (151 + j) (a (151 + j) + c)) ∧ Fr i v v' := by
  have h1 := hv.add (o := 110 + 10 * j + s) c (by omega) rfl
  have h2 := h1.add (o := 151 + j) (m := a (151 + j)) c (by omega) (au_n (by omega))
  refine ⟨_, (qX1_addBottles v i j _ _).trans ?_, h2, (Fr.up i _ v _).tr (Fr.up i _ _ _)⟩
  refine (bI_eq (s_wT ⟨(i_le (a := 1) (by omega) (by omega)).mpr hs.1, (i_le (b := 10) (by omega) (by omega)).mpr hs.2⟩)).trans ((if_neg (by decide)).trans ?_)
  refine (if_pos (mIn_nI (by omega) (by omega))).trans ?_
  refine (if_pos (mIn_nI (by omega) (by omega))).trans ?_
  refine (if_pos (by decide)).trans ?_
  refine (if_pos (by decide)).trans ?_
  rw [show (if (0 : Int32).toNatClampNeg = 0 then 151 + j else 110 + 10 * j + (0 : Int32).toNatClampNeg) = 151 + j from rfl, nI_clamp (show s < 2 ^ 31 by omega), if_neg (show ¬ s = 0 by omega)]
theorem aDrop_out {t n k : Nat} (h : ¬ (60 + 7 * t ≤ k ∧ k < 60 + 7 * t + 7)) : aDrop a t n k = a k := by
  unfold aDrop
  (try simp only [au]); (repeat (first | rw [if_pos trivial] | rw [if_pos (by omega)] | rw [if_neg (by omega)]))
theorem aDrop_t {t n : Nat} : aDrop a t n (60 + 7 * t + 0) = a (60 + 7 * t + 0) ∧ aDrop a t n (60 + 7 * t + 1) = a (60 + 7 * t + 1) - n ∧ aDrop a t n (60 + 7 * t + 2) = a (60 + 7 * t + 2) - pt a t 2 n ∧ aDrop a t n (60 + 7 * t + 3) = a (60 + 7 * t + 3) - pt a t 3 n ∧ aDrop a t n (60 + 7 * t + 4) = a (60 + 7 * t + 4) - pt a t 4 n ∧ aDrop a t n (60 + 7 * t + 5) = a (60 + 7 * t + 5) ∧ aDrop a t n (60 + 7 * t + 6) = a (60 + 7 * t + 6) - pt a t 6 n := by
  unfold aDrop
  refine ⟨?_, ?_, ?_, ?_, ?_, ?_, ?_⟩
  all_goals ((try simp only [au]); (repeat (first | rw [if_pos trivial] | rw [if_pos (by omega)] | rw [if_neg (by omega)])))
theorem Wf.drop (hw : Wf B a) {b : Nat → Nat} {t n : Nat} (ht : t < a 59) (h0 : 0 < n) (hn : n ≤ a (60 + 7 * t + 1)) (hb : ∀ k, k < 104 → b k = aDrop a t n k) (c9 : ∀ j, j < 4 → b (151 + j) ≤ a (151 + j) + 5000 ∧ b (151 + j) = sm (fun k => b (111 + 10 * j + k)) 10) : Wf (B + 1) b := by
  have w4 := hw.2.2.2.1
  have ht6 : t < 6 := by omega
  obtain ⟨⟨t0, t1, t4, tz⟩, -⟩ := w4.2 t ht6
  obtain ⟨g0, g1, g2, g3, g4, g5, g6⟩ := aDrop_t (a := a) (t := t) (n := n)
  have p2 : pt a t 2 n ≤ a (60 + 7 * t + 2) := pt_le hn
  have p3 : pt a t 3 n ≤ a (60 + 7 * t + 3) := pt_le hn
  have p4 : pt a t 4 n ≤ a (60 + 7 * t + 4) := pt_le hn
  have p6 : pt a t 6 n ≤ a (60 + 7 * t + 6) := pt_le hn
  have hh : a (60 + 7 * t + 4) + n ≤ a (60 + 7 * t + 1) + pt a t 4 n := hz t4 hn (by omega)
  have out : ∀ k, k < 104 → ¬ (60 + 7 * t ≤ k ∧ k < 60 + 7 * t + 7) → b k = a k := fun k hk h => (hb k hk).trans (aDrop_out h)
  have e : ∀ q, q < 7 → b (60 + 7 * t + q) = aDrop a t n (60 + 7 * t + q) := fun q hq => hb _ (by omega)
  have oth : ∀ j, j < 6 → j ≠ t → ∀ q, q < 7 → b (60 + 7 * j + q) = a (60 + 7 * j + q) := fun j hj hne q hq => out _ (by omega) (by omega)
  refine hw.chg (fun k hk => out k (by omega) (by omega)) (out _ (by omega) (by omega)) (fun k hk => ⟨out _ (by omega) (by omega), ?_⟩) (out _ (by omega) (by omega)) (fun j hj => ?_) ?_ ?_ ?_ c9
  · unfold lot
    rw [out _ (by omega) (by omega)]
    exact Nat.le_refl _
  · by_cases e1 : j = t
    · subst e1
      refine Or.inl ⟨ht, ?_⟩
      unfold WT
      rw [e 0 (by omega), e 1 (by omega), e 2 (by omega), e 3 (by omega), e 4 (by omega), e 5 (by omega), e 6 (by omega), g0, g1, g2, g3, g4, g5, g6]
      refine ⟨t0, by omega, by omega, fun z => ?_⟩
      have eq : n = a (60 + 7 * j + 1) := by omega
      rw [pt_all eq h0, pt_all eq h0, pt_all eq h0, pt_all eq h0]
      omega
    · exact Or.inr (oth j hj e1)
  · have s1 := sm_one (g := sug a) (g' := sug b) ht6 (fun j hj hne => sug_cg (oth j hj hne))
    have s2 : sm (lot b) 8 = sm (lot a) 8 := sm_cg (fun j hj => out _ (by omega) (by omega))
    have s3 : sug b t ≤ sug a t := by
      unfold sug
      rw [e 2 (by omega), e 3 (by omega), e 6 (by omega), g2, g3, g6]
      omega
    omega
  · rw [out _ (by omega) (by omega)]
    omega
  · rw [out _ (by omega) (by omega)]
    omega
def aBot (a : Nat → Nat) (t j s c : Nat) : Nat → Nat := au (au (au (aDrop a t (s * c)) (110 + 10 * j + s) (a (110 + 10 * j + s) + c)) (151 + j) (a (151 + j) + c)) 109 (a 109 + s * c)
theorem Wf.bot (hw : Wf B a) {t j s c : Nat} (ht : t < a 59) (hj : j < 4) (hs : 1 ≤ s ∧ s ≤ 10) (hc : 1 ≤ c ∧ c ≤ 5000) (hn : s * c ≤ a (60 + 7 * t + 1)) : Wf (B + 1) (aBot a t j s c) ∧ aBot a t j s c (151 + j) = a (151 + j) + c := by
  have w59 := hw.2.2.2.1.1
  have h8 := hw.2.2.2.2.2.2.2
  have h0 : 0 < s * c := Nat.mul_pos (by omega) (by omega)
  have e1 : aBot a t j s c (151 + j) = a (151 + j) + c := by
    unfold aBot
    rw [au_n (by omega), au_s]
  have e2 : aBot a t j s c (110 + 10 * j + s) = a (110 + 10 * j + s) + c := by
    unfold aBot
    rw [au_n (by omega), au_n (by omega), au_s]
  have out : ∀ k, 110 ≤ k → k ≠ 110 + 10 * j + s → k ≠ 151 + j → aBot a t j s c k = a k := by
    intro k h1 h2 h3
    unfold aBot
    rw [au_n (by omega), au_n h3, au_n h2, aDrop_out (by omega)]
  refine ⟨hw.drop ht h0 hn (fun k hk => ?_) (fun j' hj' => ?_), e1⟩
  · unfold aBot
    rw [au_n (by omega), au_n (by omega), au_n (by omega)]
  · obtain ⟨b1, b2⟩ := h8 j' hj'
    by_cases e : j' = j
    · subst e
      rw [e1]
      refine ⟨by omega, ?_⟩
      have z := sm_one (g := fun k => a (111 + 10 * j' + k)) (g' := fun k => aBot a t j' s c (111 + 10 * j' + k)) (t := s - 1) (n := 10) (by omega) (fun k hk hne => out _ (by omega) (by omega) (by omega))
      have z1 : aBot a t j' s c (111 + 10 * j' + (s - 1)) = a (110 + 10 * j' + s) + c := by
        rw [show 111 + 10 * j' + (s - 1) = 110 + 10 * j' + s by omega, e2]
      have z2 : a (111 + 10 * j' + (s - 1)) = a (110 + 10 * j' + s) := by
        rw [show 111 + 10 * j' + (s - 1) = 110 + 10 * j' + s by omega]
      rw [z1, z2] at z
      omega
    · rw [out _ (by omega) (by omega) (by omega)]
      refine ⟨by omega, b2.trans (sm_cg (fun k hk => out _ (by omega) (by omega) (by omega))).symm⟩
theorem s_against {i1 : Nat} {a1 : Nat → Nat} (hv : St 155 v i a) (hv1 : St 67 v i1 a1 ∨ St 155 v i1 a1) (hL : ∀ k, k < 42 → a k ≤ 1000) {j t : Nat} (hj : j < 4) (ht : t < 6) (ht1 : t = 0 ∨ St 155 v i1 a1) (hT : ∀ f, f < 7 → a1 (60 + 7 * t + f) ≤ 2000000) : fX1_reasonAgainst v [nm 9 i j, nm 12 i1 t] = some (v, some (I (nI (fb a j (a1 (60 + 7 * t + 1)) (a1 (60 + 7 * t + 2)) (a1 (60 + 7 * t + 3)) (a1 (60 + 7 * t + 4)))))) := by
  have rd : ∀ f, f < 7 → v.1 i1 (60 + 7 * t + f) = nI (a1 (60 + 7 * t + f)) := by
    intro f hf
    rcases ht1 with e | h
    · rcases hv1 with h | h
      · exact h _ (by omega)
      · exact h _ (by omega)
    · exact h _ (by omega)
  refine (qX1_reasonAgainst v i j i1 t).trans ?_
  rw [rd 1 (by omega), rd 2 (by omega), rd 3 (by omega), rd 4 (by omega)]
  have b1 := hT 1 (by omega)
  exact bI_eq (s_rj hv hL hj (by omega) (hT 2 (by omega)) (hT 3 (by omega)) (hT 4 (by omega)))
theorem o_bottle (hv : St 155 v i a) (hw : Wf B a) (hB : B ≤ 1100) (x1 x2 x3 x4 : Int32) : One B (fX0_bottleJuice v [nm 2 i 0, I x1, I x2, I x3, I x4]) v i a := by
  by_cases c1 : mIn x1 (a 59)
  · by_cases c2 : 0 ≤ x2 ∧ x2 ≤ 3
    · by_cases c3 : 1 ≤ x3 ∧ x3 ≤ 10
      · by_cases c4 : 1 ≤ x4 ∧ x4 ≤ 5000
        · obtain ⟨t, ht, ht31, rfl⟩ := mIn_ex c1
          obtain ⟨j, hj, rfl⟩ := inM (M := 3) (by omega) c2.1 c2.2
          obtain ⟨s, hs, rfl⟩ := inM (M := 10) (by omega) (Int32.le_trans (by decide) c3.1) c3.2
          obtain ⟨c, hc, rfl⟩ := inM (M := 5000) (by omega) (Int32.le_trans (by decide) c4.1) c4.2
          have s1 : 1 ≤ s := (i_le (a := 1) (by omega) (by omega)).mp c3.1
          have c1' : 1 ≤ c := (i_le (a := 1) (by omega) (by omega)).mp c4.1
          have w4 := hw.2.2.2.1
          have ht6 : t < 6 := by omega
          obtain ⟨⟨t0, t1, t4, tz⟩, -⟩ := w4.2 t ht6
          have kf := hv (60 + 7 * t + 1) (by omega)
          have hT : ∀ f, f < 7 → a (60 + 7 * t + f) ≤ 2000000 := fun f hf => by
            have := hw.tk_le hB ht6 f hf
            omega
          have ag := s_against hv (Or.inr hv) hw.1 (show j < 4 by omega) ht6 (Or.inr hv) hT
          obtain ⟨y, hy⟩ : ∃ y, y = fb a j (a (60 + 7 * t + 1)) (a (60 + 7 * t + 2)) (a (60 + 7 * t + 3)) (a (60 + 7 * t + 4)) := ⟨_, rfl⟩
          have y6 : y ≤ 6 := by
            rw [hy]
            exact fb_le a j _ _ _ _
          rw [← hy] at ag
          have hm : s * c ≤ 10 * 5000 := Nat.mul_le_mul hs hc
          have qj : (nI j).toNatClampNeg = j := nI_clamp (by omega)
          by_cases d : y = 0
          · rw [d] at ag
            by_cases e : a (60 + 7 * t + 1) < s * c
            · refine One.ref 7 (by decide) ((qX0_bottleJuice v i _ _ _ _).trans ?_)
              · simp only [nI_clamp ht31, qj]
                refine (bI_eq (s_tT hv hw c1)).trans ((if_neg (by decide)).trans ?_)
                refine (bI_eq (s_wT c2)).trans ((if_neg (by decide)).trans ?_)
                refine (bI_eq (s_wT c3)).trans ((if_neg (by decide)).trans ?_)
                refine (bI_eq (s_wT c4)).trans ((if_neg (by decide)).trans ?_)
                refine (if_pos (mIn_nI (by omega) (by omega))).trans ?_
                refine (if_pos (mIn_nI ht6 (by omega))).trans ?_
                refine (bI_eq ag).trans ((if_pos rfl).trans ?_)
                refine (if_pos (mIn_nI ht6 (by omega))).trans ?_
                refine (if_pos (ltT kf (pk_mul s c) e (by omega))).trans ?_
                exact bI_eq (s_refuse _ _ _)
            · have hn : s * c ≤ a (60 + 7 * t + 1) := by omega
              obtain ⟨b1, b2⟩ := hw.bot ht (show j < 4 by omega) ⟨s1, hs⟩ ⟨c1', hc⟩ hn
              have b3 := (b1.2.2.2.2.2.2.2 j (by omega)).1
              rw [b2] at b3
              obtain ⟨v1, e1, h1, f1⟩ := s_drop hv (by omega) (hw.sml hB ht6) hn
              obtain ⟨v2, e2, h2, f2⟩ := s_addB (c := c) h1 (show j < 4 by omega) ⟨s1, hs⟩
              have h3 := h2.add (o := 109) (m := a 109) (s * c) (by omega) (by rw [au_n (by omega), au_n (by omega)]; exact aDrop_out (by omega))
              rw [aDrop_out (by omega), aDrop_out (by omega)] at h3
              refine One.ok (n := a (151 + j) + c) (a' := aBot a t j s c) (by omega) ((qX0_bottleJuice v i _ _ _ _).trans ?_) (h3) ((f1.tr f2).tr (Fr.up i _ _ _)) (b1) (fun hb => hb.out (n := s * c) (o := 109) ht6 hn (Or.inl rfl) ((au_n (by omega)).trans ((au_n (by omega)).trans ((au_n (by omega)).trans (aDrop_t (a := a) (t := t) (n := s * c)).2.1))) (au_s _ _ _) (fun k x y z => (au_n (by omega)).trans ((au_n (by omega)).trans ((au_n (by omega)).trans (aDrop_out z)))) ((au_n (by omega)).trans ((au_n (by omega)).trans ((au_n (by omega)).trans (aDrop_t (a := a) (t := t) (n := s * c)).2.2.2.2.2.1))))
              · simp only [nI_clamp ht31, qj]
                refine (bI_eq (s_tT hv hw c1)).trans ((if_neg (by decide)).trans ?_)
                refine (bI_eq (s_wT c2)).trans ((if_neg (by decide)).trans ?_)
                refine (bI_eq (s_wT c3)).trans ((if_neg (by decide)).trans ?_)
                refine (bI_eq (s_wT c4)).trans ((if_neg (by decide)).trans ?_)
                refine (if_pos (mIn_nI (by omega) (by omega))).trans ?_
                refine (if_pos (mIn_nI ht6 (by omega))).trans ?_
                refine (bI_eq ag).trans ((if_pos rfl).trans ?_)
                refine (if_pos (mIn_nI ht6 (by omega))).trans ?_
                refine (if_neg (ltF kf (pk_mul s c) hn (by omega))).trans ?_
                refine (if_pos (mIn_nI ht6 (by omega))).trans ?_
                simp only [pk_mul]
                refine (bV_eq e1).trans ?_
                refine (if_pos (mIn_nI (by omega) (by omega))).trans ?_
                refine (bV_eq e2).trans ?_
                refine (if_pos (by decide)).trans ?_
                refine (if_pos (by decide)).trans ?_
                refine (if_pos (mIn_nI (by omega) (by omega))).trans ?_
                refine (if_pos (by decide)).trans ?_
                have r := h3.rd (o := 151 + j) (m := a (151 + j) + c) (by omega) b2
                exact congrArg (fun z => some (_, some (I z))) r
          · refine One.ref (nI y) (fun z => d ((i_eq (b := 0) (by omega) (by omega)).mp z)) ((qX0_bottleJuice v i _ _ _ _).trans ?_)
            · simp only [nI_clamp ht31, qj]
              refine (bI_eq (s_tT hv hw c1)).trans ((if_neg (by decide)).trans ?_)
              refine (bI_eq (s_wT c2)).trans ((if_neg (by decide)).trans ?_)
              refine (bI_eq (s_wT c3)).trans ((if_neg (by decide)).trans ?_)
              refine (bI_eq (s_wT c4)).trans ((if_neg (by decide)).trans ?_)
              refine (if_pos (mIn_nI (by omega) (by omega))).trans ?_
              refine (if_pos (mIn_nI ht6 (by omega))).trans ?_
              refine (bI_eq ag).trans ((if_neg (eqF rfl (n := 0) rfl d (by omega) (by omega))).trans ?_)
              exact bI_eq (s_refuse _ _ _)
        · refine One.no (-1) (by decide) (by decide) ((qX0_bottleJuice v i _ _ _ _).trans ?_)
          · refine (bI_eq (s_tT hv hw c1)).trans ((if_neg (by decide)).trans ?_)
            refine (bI_eq (s_wT c2)).trans ((if_neg (by decide)).trans ?_)
            refine (bI_eq (s_wT c3)).trans ((if_neg (by decide)).trans ?_)
            exact (bI_eq (s_wF c4)).trans (if_pos rfl)
      · refine One.no (-1) (by decide) (by decide) ((qX0_bottleJuice v i _ _ _ _).trans ?_)
        · refine (bI_eq (s_tT hv hw c1)).trans ((if_neg (by decide)).trans ?_)
          refine (bI_eq (s_wT c2)).trans ((if_neg (by decide)).trans ?_)
          exact (bI_eq (s_wF c3)).trans (if_pos rfl)
    · refine One.no (-1) (by decide) (by decide) ((qX0_bottleJuice v i _ _ _ _).trans ?_)
      · refine (bI_eq (s_tT hv hw c1)).trans ((if_neg (by decide)).trans ?_)
        exact (bI_eq (s_wF c2)).trans (if_pos rfl)
  · refine One.no (-1) (by decide) (by decide) ((qX0_bottleJuice v i _ _ _ _).trans ?_)
    · exact (bI_eq (s_tF hv hw c1)).trans (if_pos rfl)
end
