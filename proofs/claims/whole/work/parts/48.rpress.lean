-- PRESS AND WET
section
variable {B : Nat} {v u : MM} {i : Nat} {a : Nat → Nat}
theorem aFill_out {b : Nat → Nat} {t J s1 s2 s3 k : Nat} (h : ¬ (60 + 7 * t + 1 ≤ k ∧ k ≤ 60 + 7 * t + 4)) : aFill b t J s1 s2 s3 k = b k := by
  unfold aFill
  (try simp only [au]); (repeat (first | rw [if_pos trivial] | rw [if_pos (by omega)] | rw [if_neg (by omega)]))
theorem aFill_t {b : Nat → Nat} {t J s1 s2 s3 : Nat} : aFill b t J s1 s2 s3 (60 + 7 * t + 1) = b (60 + 7 * t + 1) + J ∧ aFill b t J s1 s2 s3 (60 + 7 * t + 2) = b (60 + 7 * t + 2) + s1 ∧ aFill b t J s1 s2 s3 (60 + 7 * t + 3) = b (60 + 7 * t + 3) + s2 ∧ aFill b t J s1 s2 s3 (60 + 7 * t + 4) = b (60 + 7 * t + 4) + s3 := by
  unfold aFill
  refine ⟨?_, ?_, ?_, ?_⟩
  all_goals ((try simp only [au]); (repeat (first | rw [if_pos trivial] | rw [if_pos (by omega)] | rw [if_neg (by omega)])))
theorem Wf.fill (hw : Wf B a) {b : Nat → Nat} {t J s1 s2 s3 : Nat} (ht : t < a 59) (h1 : ∀ k, k < 42 → b k = a k) (h2 : b 42 = a 42) (h3 : ∀ k, k < 8 → b (43 + 2 * k + 0) = a (43 + 2 * k + 0) ∧ lot b k ≤ lot a k) (h4 : b 59 = a 59) (h5 : ∀ j, j < 6 → ∀ q, q < 7 → b (60 + 7 * j + q) = a (60 + 7 * j + q)) (h6 : s1 + s2 + sm (lot b) 8 ≤ sm (lot a) 8 + 150) (h7 : b 102 ≤ a 102 + 20000) (h8 : b 103 = a 103) (h9 : ∀ k, 111 ≤ k → k < 155 → b k = a k) (hJ : J ≤ a (60 + 7 * t + 0) - a (60 + 7 * t + 1) - a (60 + 7 * t + 5)) (hs3 : s3 ≤ J) (h0 : J = 0 → s1 = 0 ∧ s2 = 0) : Wf (B + 1) (aFill b t J s1 s2 s3) := by
  have w4 := hw.2.2.2.1
  have ht6 : t < 6 := by omega
  obtain ⟨⟨t0, t1, t4, tz⟩, -⟩ := w4.2 t ht6
  obtain ⟨g1, g2, g3, g4⟩ := aFill_t (b := b) (t := t) (J := J) (s1 := s1) (s2 := s2) (s3 := s3)
  have out : ∀ k, ¬ (60 + 7 * t + 1 ≤ k ∧ k ≤ 60 + 7 * t + 4) → aFill b t J s1 s2 s3 k = b k := fun k h => aFill_out h
  have e0 := (out (60 + 7 * t + 0) (by omega)).trans (h5 t ht6 0 (by omega))
  have e5 := (out (60 + 7 * t + 5) (by omega)).trans (h5 t ht6 5 (by omega))
  have e6 := (out (60 + 7 * t + 6) (by omega)).trans (h5 t ht6 6 (by omega))
  rw [h5 t ht6 1 (by omega)] at g1
  rw [h5 t ht6 2 (by omega)] at g2
  rw [h5 t ht6 3 (by omega)] at g3
  rw [h5 t ht6 4 (by omega)] at g4
  have oth : ∀ j, j < 6 → j ≠ t → ∀ q, q < 7 → aFill b t J s1 s2 s3 (60 + 7 * j + q) = a (60 + 7 * j + q) := fun j hj hne q hq => (out _ (by omega)).trans (h5 j hj q hq)
  have sl : sm (lot (aFill b t J s1 s2 s3)) 8 = sm (lot b) 8 := sm_cg (fun j hj => out _ (by omega))
  refine hw.chg (fun k hk => (out k (by omega)).trans (h1 k hk)) ((out _ (by omega)).trans h2) (fun k hk => ⟨(out _ (by omega)).trans (h3 k hk).1, ?_⟩) ((out _ (by omega)).trans h4) (fun j hj => ?_) ?_ ?_ ?_ (bot_same hw (fun k x y => (out k (by omega)).trans (h9 k x y)))
  · have : lot (aFill b t J s1 s2 s3) k = lot b k := out _ (by omega)
    rw [this]
    exact (h3 k hk).2
  · by_cases e1 : j = t
    · subst e1
      refine Or.inl ⟨ht, ?_⟩
      unfold WT
      rw [e0, g1, g2, g3, g4, e5, e6]
      refine ⟨t0, by omega, by omega, fun z => ?_⟩
      have := h0 (by omega)
      omega
    · exact Or.inr (oth j hj e1)
  · have s1' := sm_one (g := sug a) (g' := sug (aFill b t J s1 s2 s3)) ht6 (fun j hj hne => sug_cg (oth j hj hne))
    have s3' : sug (aFill b t J s1 s2 s3) t = sug a t + s1 + s2 := by
      unfold sug
      rw [g2, g3, e6]
      omega
    omega
  · rw [out _ (by omega)]
    exact h7
  · rw [out _ (by omega), h8]
    omega
theorem ix_l (l : Nat) : (43 : Int32) + (2 : Int32) * nI l = nI (43 + 2 * l + 0) := by
  rw [show (43 : Int32) = nI 43 from rfl, show (2 : Int32) = nI 2 from rfl, pk_mul, i_add]
  rfl
theorem ix_l1 (l : Nat) : nI (43 + 2 * l + 0) + (1 : Int32) = nI (43 + 2 * l + 1) := i_add (43 + 2 * l) 1
theorem ix_v (k : Nat) : (3 : Int32) * nI k = nI (3 * k + 0) := pk_mul 3 k
theorem ix_v1 (k : Nat) : nI (3 * k + 0) + (1 : Int32) = nI (3 * k + 1) := i_add (3 * k) 1
theorem ix_v2 (k : Nat) : nI (3 * k + 0) + (2 : Int32) = nI (3 * k + 2) := i_add (3 * k) 2
theorem i_th {X M : Nat} (h : X * M < 2 ^ 31) : nI X * nI M / (1000 : Int32) = nI (X * M / 1000) := i_md (J := 1000) h (by omega) (by omega)
theorem r_press (hv : St 155 v i a) (hu : St 151 u 14 a) (hw : Wf B a) (x1 x2 x3 : Int32) : Two B (fX0_pressLot v [nm 2 i 0, I x1, I x2, I x3]) (fX7_presses u [MO, I x1, I x2, I x3]) v u i a := by
  by_cases c1 : mIn x1 (a 42)
  · by_cases c3 : mIn x3 (a 59)
    · by_cases c2 : 1 ≤ x2 ∧ x2 ≤ 20000
      · obtain ⟨l, hl, hl31, rfl⟩ := mIn_ex c1
        obtain ⟨t, ht, ht31, rfl⟩ := mIn_ex c3
        obtain ⟨m, hm, rfl⟩ := inM (M := 20000) (by omega) (Int32.le_trans (by decide) c2.1) c2.2
        have n1 : 1 ≤ m := (i_le (a := 1) (by omega) (by omega)).mp c2.1
        have w4 := hw.2.2.2.1
        have w3 := hw.2.2.1
        have hl8 : l < 8 := by omega
        have ht6 : t < 6 := by omega
        obtain ⟨⟨t0, t1, t4, tz⟩, -⟩ := w4.2 t ht6
        obtain ⟨l0, l1, -⟩ := w3.2 l hl8
        unfold lot at l1
        have kl := hv (43 + 2 * l + 1) (by omega)
        have ul := hu (43 + 2 * l + 1) (by omega)
        have q0 : (nI (43 + 2 * l + 0)).toNatClampNeg = 43 + 2 * l + 0 := nI_clamp (by omega)
        have q1 : (nI (43 + 2 * l + 1)).toNatClampNeg = 43 + 2 * l + 1 := nI_clamp (by omega)
        by_cases d : a (43 + 2 * l + 1) < m
        · refine Two.ref 11 hv hu hw ((qX0_pressLot v i _ _ _).trans ?_) ((qX7_presses u _ _ _).trans ?_)
          · simp only [nI_clamp hl31, nI_clamp ht31]
            refine (bI_eq (s_lT hv hw c1)).trans ((if_neg (by decide)).trans ?_)
            refine (bI_eq (s_tT hv hw c3)).trans ((if_neg (by decide)).trans ?_)
            refine (bI_eq (s_wT c2)).trans ((if_neg (by decide)).trans ?_)
            refine (if_pos (mIn_nI hl8 (by omega))).trans ?_
            refine (if_pos (ltT kl rfl d (by omega))).trans ?_
            exact bI_eq (s_refuse _ _ _)
          · simp only [ix_l, ix_l1, q1]
            refine (bI_eq (m_lT hu hw c1)).trans ((if_neg (by decide)).trans ?_)
            refine (bI_eq (m_tT hu hw c3)).trans ((if_neg (by decide)).trans ?_)
            refine (bI_eq (m_inT c2)).trans ((if_neg (by decide)).trans ?_)
            refine (if_pos (mIn_nI (by omega) (by omega))).trans ?_
            refine (if_pos (ltT ul rfl d (by omega))).trans ?_
            exact bI_eq (m_refuses _ _)
        · obtain ⟨k, hk⟩ : ∃ k, k = a (43 + 2 * l + 0) := ⟨_, rfl⟩
          have hk6 : k < 6 := by omega
          obtain ⟨y0, y1, y2⟩ := hw.2.1 k hk6
          have w19 := hw.1 19 (by omega)
          obtain ⟨J, hJ⟩ : ∃ J, J = m * a (3 * k + 0) / 1000 := ⟨_, rfl⟩
          have b0 : m * a (3 * k + 0) ≤ m * 800 := Nat.mul_le_mul_left m y0
          have J1 : J ≤ m * 800 / 1000 := by
            rw [hJ]
            exact Nat.div_le_div_right b0
          have b1 : J * a (3 * k + 1) ≤ J * 200 := Nat.mul_le_mul_left J y1
          have b2 : J * a (3 * k + 2) ≤ J * 100 := Nat.mul_le_mul_left J y2
          have b3 : J * a 19 ≤ J * 1000 := Nat.mul_le_mul_left J w19
          obtain ⟨s1, hs1⟩ : ∃ J', J' = J * a (3 * k + 1) / 1000 := ⟨_, rfl⟩
          obtain ⟨s2, hs2⟩ : ∃ J', J' = J * a (3 * k + 2) / 1000 := ⟨_, rfl⟩
          obtain ⟨s3, hs3⟩ : ∃ J', J' = J * a 19 / 1000 := ⟨_, rfl⟩
          have S1 : s1 ≤ J * 200 / 1000 := by
            rw [hs1]
            exact Nat.div_le_div_right b1
          have S2 : s2 ≤ J * 100 / 1000 := by
            rw [hs2]
            exact Nat.div_le_div_right b2
          have S3 : s3 ≤ J * 1000 / 1000 := by
            rw [hs3]
            exact Nat.div_le_div_right b3
          have kk : v.1 i (43 + 2 * l + 0) = nI k := by rw [hk]; exact hv _ (by omega)
          have uk : u.1 14 (43 + 2 * l + 0) = nI k := by rw [hk]; exact hu _ (by omega)
          have qk : (nI k).toNatClampNeg = k := nI_clamp (by omega)
          have p0 : (nI (3 * k + 0)).toNatClampNeg = 3 * k + 0 := nI_clamp (by omega)
          have p1 : (nI (3 * k + 1)).toNatClampNeg = 3 * k + 1 := nI_clamp (by omega)
          have p2 : (nI (3 * k + 2)).toNatClampNeg = 3 * k + 2 := nI_clamp (by omega)
          have ky := hv (3 * k + 0) (by omega)
          have uy := hu (3 * k + 0) (by omega)
          have hJm : nI m * nI (a (3 * k + 0)) / (1000 : Int32) = nI J := by rw [hJ]; exact i_th (by omega)
          have g1 : fX6_thousandths v [I (nI m), I (v.1 i (3 * k + 0))] = some (v, some (I (nI J))) := by
            rw [ky, hJ]
            exact s_thou (by omega) (by omega)
          have g0 : fX6_within v [I (nI k), I 0, I 5] = some (v, some (I 1)) := s_wT ⟨(i_le (a := 0) (by omega) (by omega)).mpr (by omega), (i_le (b := 5) (by omega) (by omega)).mpr (by omega)⟩
          by_cases e : a (60 + 7 * t + 0) - a (60 + 7 * t + 1) - a (60 + 7 * t + 5) < J
          · refine Two.no (-3) hv hu hw (by decide) ((qX0_pressLot v i _ _ _).trans ?_) ((qX7_presses u _ _ _).trans ?_)
            · simp only [nI_clamp hl31, nI_clamp ht31]
              refine (bI_eq (s_lT hv hw c1)).trans ((if_neg (by decide)).trans ?_)
              refine (bI_eq (s_tT hv hw c3)).trans ((if_neg (by decide)).trans ?_)
              refine (bI_eq (s_wT c2)).trans ((if_neg (by decide)).trans ?_)
              refine (if_pos (mIn_nI hl8 (by omega))).trans ?_
              refine (if_neg (ltF kl rfl (by omega) (by omega))).trans ?_
              refine (if_pos (mIn_nI hl8 (by omega))).trans ?_
              simp only [kk, qk]
              refine (bI_eq g0).trans ((if_neg (by decide)).trans ?_)
              refine (if_pos (mIn_nI hk6 (by omega))).trans ?_
              refine (bI_eq g1).trans ?_
              refine (if_pos (mIn_nI ht6 (by omega))).trans ?_
              refine (bI_eq (s_left hv (by omega) t1)).trans ?_
              exact if_pos (ltT rfl rfl e (by omega))
            · simp only [ix_l, ix_l1, q1, q0]
              refine (bI_eq (m_lT hu hw c1)).trans ((if_neg (by decide)).trans ?_)
              refine (bI_eq (m_tT hu hw c3)).trans ((if_neg (by decide)).trans ?_)
              refine (bI_eq (m_inT c2)).trans ((if_neg (by decide)).trans ?_)
              refine (if_pos (mIn_nI (by omega) (by omega))).trans ?_
              refine (if_neg (ltF ul rfl (by omega) (by omega))).trans ?_
              refine (if_pos (mIn_nI (by omega) (by omega))).trans ?_
              simp only [uk, ix_v, ix_v1, ix_v2, p0, p1, p2, uy, hJm]
              refine (if_pos (mIn_nI (by omega) (by omega))).trans ?_
              refine (bI_eq (m_left hu t (by omega) t1)).trans ?_
              exact if_pos (ltT rfl rfl e (by omega))
          · have hJl : J ≤ a (60 + 7 * t + 0) - a (60 + 7 * t + 1) - a (60 + 7 * t + 5) := by omega
            have v1 := hv.sub (o := 43 + 2 * l + 1) (n := m) (by omega) rfl (by omega)
            have v2 := v1.add (o := 102) (m := a 102) (m - J) (by omega) (au_n (by omega))
            have G1 := v2.rd (o := 3 * k + 1) (m := a (3 * k + 1)) (by omega) (by rw [au_n (by omega), au_n (by omega)])
            have G2 := v2.rd (o := 3 * k + 2) (m := a (3 * k + 2)) (by omega) (by rw [au_n (by omega), au_n (by omega)])
            have G3 := v2.rd (o := 19) (m := a 19) (by omega) (by rw [au_n (by omega), au_n (by omega)])
            obtain ⟨v', ev, hv', fv⟩ := s_fill (j := t) v2 (by omega) J s1 s2 s3
            have u1 := hu.sub (o := 43 + 2 * l + 1) (n := m) (by omega) rfl (by omega)
            have u2 := u1.add (o := 60 + 7 * t + 1) (m := a (60 + 7 * t + 1)) J (by omega) (au_n (by omega))
            have u3 := u2.add (o := 60 + 7 * t + 2) (m := a (60 + 7 * t + 2)) s1 (by omega) (by rw [au_n (by omega), au_n (by omega)])
            have u4 := u3.add (o := 60 + 7 * t + 3) (m := a (60 + 7 * t + 3)) s2 (by omega) (by rw [au_n (by omega), au_n (by omega), au_n (by omega)])
            have u5 := u4.add (o := 60 + 7 * t + 4) (m := a (60 + 7 * t + 4)) s3 (by omega) (by rw [au_n (by omega), au_n (by omega), au_n (by omega), au_n (by omega)])
            have u6 := u5.add (o := 102) (m := a 102) (m - J) (by omega) (by rw [au_n (by omega), au_n (by omega), au_n (by omega), au_n (by omega), au_n (by omega)])
            have M1 := u2.rd (o := 3 * k + 1) (m := a (3 * k + 1)) (by omega) (by rw [au_n (by omega), au_n (by omega)])
            have M2 := u3.rd (o := 3 * k + 2) (m := a (3 * k + 2)) (by omega) (by rw [au_n (by omega), au_n (by omega), au_n (by omega)])
            have M3 := u4.rd (o := 19) (m := a 19) (by omega) (by rw [au_n (by omega), au_n (by omega), au_n (by omega), au_n (by omega)])
            have hs : nI m - nI J = nI (m - J) := i_sub (by omega)
            refine Two.ok (n := J) (by omega) ((qX0_pressLot v i _ _ _).trans ?_) ((qX7_presses u _ _ _).trans ?_) hv' (u6.cong (fun q _ => ?_)) (((Fr.up i _ _ _).tr (Fr.up i _ _ _)).tr fv) ((((((Fr.up 14 _ _ _).tr (Fr.up 14 _ _ _)).tr (Fr.up 14 _ _ _)).tr (Fr.up 14 _ _ _)).tr (Fr.up 14 _ _ _)).tr (Fr.up 14 _ _ _)) ?_
            · simp only [nI_clamp hl31, nI_clamp ht31]
              refine (bI_eq (s_lT hv hw c1)).trans ((if_neg (by decide)).trans ?_)
              refine (bI_eq (s_tT hv hw c3)).trans ((if_neg (by decide)).trans ?_)
              refine (bI_eq (s_wT c2)).trans ((if_neg (by decide)).trans ?_)
              refine (if_pos (mIn_nI hl8 (by omega))).trans ?_
              refine (if_neg (ltF kl rfl (by omega) (by omega))).trans ?_
              refine (if_pos (mIn_nI hl8 (by omega))).trans ?_
              simp only [kk, qk]
              refine (bI_eq g0).trans ((if_neg (by decide)).trans ?_)
              refine (if_pos (mIn_nI hk6 (by omega))).trans ?_
              refine (bI_eq g1).trans ?_
              refine (if_pos (mIn_nI ht6 (by omega))).trans ?_
              refine (bI_eq (s_left hv (by omega) t1)).trans ?_
              refine (if_neg (ltF rfl rfl hJl (by omega))).trans ?_
              refine (if_pos (mIn_nI hl8 (by omega))).trans ?_
              rw [hs]
              refine (if_pos (mIn_nI ht6 (by omega))).trans ?_
              refine (bI_eq (x := nI s1) (by rw [G1, hs1]; exact s_thou (by omega) (by omega))).trans ?_
              refine (bI_eq (x := nI s2) (by rw [G2, hs2]; exact s_thou (by omega) (by omega))).trans ?_
              refine (bI_eq (x := nI s3) (by rw [G3, hs3]; exact s_thou (by omega) (by omega))).trans ?_
              exact bV_eq ev
            · simp only [ix_l, ix_l1, q1, q0]
              refine (bI_eq (m_lT hu hw c1)).trans ((if_neg (by decide)).trans ?_)
              refine (bI_eq (m_tT hu hw c3)).trans ((if_neg (by decide)).trans ?_)
              refine (bI_eq (m_inT c2)).trans ((if_neg (by decide)).trans ?_)
              refine (if_pos (mIn_nI (by omega) (by omega))).trans ?_
              refine (if_neg (ltF ul rfl (by omega) (by omega))).trans ?_
              refine (if_pos (mIn_nI (by omega) (by omega))).trans ?_
              simp only [uk, ix_v, ix_v1, ix_v2, p0, p1, p2, uy, hJm, hs]
              refine (if_pos (mIn_nI (by omega) (by omega))).trans ?_
              refine (bI_eq (m_left hu t (by omega) t1)).trans ?_
              refine (if_neg (ltF rfl rfl hJl (by omega))).trans ?_
              refine (if_pos (mIn_nI (by omega) (by omega))).trans ?_
              refine (if_pos (mIn_nI (by omega) (by omega))).trans ?_
              refine (bV_eq (m_adds _ t 1 (by omega) _)).trans ?_
              refine (if_pos (mIn_nI (by omega) (by omega))).trans ?_
              rw [M1, i_th (X := J) (by omega), ← hs1]
              refine (bV_eq (m_adds _ t 2 (by omega) _)).trans ?_
              refine (if_pos (mIn_nI (by omega) (by omega))).trans ?_
              rw [M2, i_th (X := J) (by omega), ← hs2]
              refine (bV_eq (m_adds _ t 3 (by omega) _)).trans ?_
              refine (if_pos (by decide)).trans ?_
              rw [show (19 : Int32).toNatClampNeg = 19 from rfl, M3, i_th (X := J) (by omega), ← hs3]
              refine (bV_eq (m_adds _ t 4 (by omega) _)).trans ?_
              refine (if_pos (by decide)).trans ?_
              refine (if_pos (by decide)).trans ?_
              rfl
            · unfold aFill
              (repeat refine au_cg (fun _ => ?_) ?_) <;> (first | rfl | ((try simp only [au]); repeat (first | rw [if_pos trivial] | rw [if_pos (by omega)] | rw [if_neg (by omega)])))
            · refine hw.fill ht (fun q hq => by rw [au_n (by omega), au_n (by omega)]) (by rw [au_n (by omega), au_n (by omega)]) (fun q hq => ⟨by rw [au_n (by omega), au_n (by omega)], ?_⟩) (by rw [au_n (by omega), au_n (by omega)]) (fun j hj q hq => by rw [au_n (by omega), au_n (by omega)]) ?_ (by rw [au_s]; omega) (by rw [au_n (by omega), au_n (by omega)]) (fun q x y => by rw [au_n (by omega), au_n (by omega)]) hJl (by omega) (fun z => by omega)
              · unfold lot
                by_cases eq : q = l
                · rw [eq, au_n (by omega), au_s]
                  omega
                · rw [au_n (by omega), au_n (by omega)]
                  exact Nat.le_refl _
              · have z := sm_one (g := lot a) (g' := lot (au (au a (43 + 2 * l + 1) (a (43 + 2 * l + 1) - m)) 102 (a 102 + (m - J)))) hl8 (fun j hj hne => by unfold lot; rw [au_n (by omega), au_n (by omega)])
                have z2 : lot (au (au a (43 + 2 * l + 1) (a (43 + 2 * l + 1) - m)) 102 (a 102 + (m - J))) l = lot a l - m := by
                  unfold lot
                  rw [au_n (by omega), au_s]
                have z3 : m ≤ lot a l := by
                  unfold lot
                  omega
                omega
      · refine Two.no (-1) hv hu hw (by decide) ((qX0_pressLot v i _ _ _).trans ?_) ((qX7_presses u _ _ _).trans ?_)
        · refine (bI_eq (s_lT hv hw c1)).trans ((if_neg (by decide)).trans ?_)
          refine (bI_eq (s_tT hv hw c3)).trans ((if_neg (by decide)).trans ?_)
          exact (bI_eq (s_wF c2)).trans (if_pos rfl)
        · refine (bI_eq (m_lT hu hw c1)).trans ((if_neg (by decide)).trans ?_)
          refine (bI_eq (m_tT hu hw c3)).trans ((if_neg (by decide)).trans ?_)
          exact (bI_eq (m_inF c2)).trans (if_pos rfl)
    · refine Two.no (-1) hv hu hw (by decide) ((qX0_pressLot v i _ _ _).trans ?_) ((qX7_presses u _ _ _).trans ?_)
      · refine (bI_eq (s_lT hv hw c1)).trans ((if_neg (by decide)).trans ?_)
        exact (bI_eq (s_tF hv hw c3)).trans (if_pos rfl)
      · refine (bI_eq (m_lT hu hw c1)).trans ((if_neg (by decide)).trans ?_)
        exact (bI_eq (m_tF hu hw c3)).trans (if_pos rfl)
  · refine Two.no (-1) hv hu hw (by decide) ((qX0_pressLot v i _ _ _).trans ?_) ((qX7_presses u _ _ _).trans ?_)
    · exact (bI_eq (s_lF hv hw c1)).trans (if_pos rfl)
    · exact (bI_eq (m_lF hu hw c1)).trans (if_pos rfl)
end
