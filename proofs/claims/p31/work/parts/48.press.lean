-- PRESS AND WET
section
variable {B : Nat} {v u : MM} {i : Nat} {a : Nat → Nat}
theorem r_press (hv : St 155 v i a) (hw : Wf B a) (x1 x2 x3 : Int32) : One B (fX0_pressLot v [nm 2 i 0, I x1, I x2, I x3]) v i a := by
  by_cases c1 : mIn x1 (a 42)
  · by_cases c3 : mIn x3 (a 59)
    · by_cases c2 : 1 ≤ x2 ∧ x2 ≤ 20000
      · obtain ⟨l, hl, hl31, rfl⟩ := mIn_ex c1
        obtain ⟨t, ht, ht31, rfl⟩ := mIn_ex c3
        obtain ⟨m, hm, rfl⟩ := inM (M := 20000) (by omega) (Int32.le_trans (by decide) c2.1) c2.2
        have n1 : 1 ≤ m := (i_le (a := 1) (by omega) (by omega)).mp c2.1
        have w4 := hw.2.2.2.1
        have w3 := hw.2.2.1
        have hl8 : l < 8 := by omega
        have ht6 : t < 6 := by omega
        obtain ⟨⟨t0, t1, t4, tz⟩, -⟩ := w4.2 t ht6
        obtain ⟨l0, l1, -⟩ := w3.2 l hl8
        unfold lot at l1
        have kl := hv (43 + 2 * l + 1) (by omega)
        have q0 : (nI (43 + 2 * l + 0)).toNatClampNeg = 43 + 2 * l + 0 := nI_clamp (by omega)
        have q1 : (nI (43 + 2 * l + 1)).toNatClampNeg = 43 + 2 * l + 1 := nI_clamp (by omega)
        by_cases d : a (43 + 2 * l + 1) < m
        · refine One.ref 11 (by decide) ((qX0_pressLot v i _ _ _).trans ?_)
          · simp only [nI_clamp hl31, nI_clamp ht31]
            refine (bI_eq (s_lT hv hw c1)).trans ((if_neg (by decide)).trans ?_)
            refine (bI_eq (s_tT hv hw c3)).trans ((if_neg (by decide)).trans ?_)
            refine (bI_eq (s_wT c2)).trans ((if_neg (by decide)).trans ?_)
            refine (if_pos (mIn_nI hl8 (by omega))).trans ?_
            refine (if_pos (ltT kl rfl d (by omega))).trans ?_
            exact bI_eq (s_refuse _ _ _)
        · obtain ⟨k, hk⟩ : ∃ k, k = a (43 + 2 * l + 0) := ⟨_, rfl⟩
          have hk6 : k < 6 := by omega
          obtain ⟨y0, y1, y2⟩ := hw.2.1 k hk6
          have w19 := hw.1 19 (by omega)
          obtain ⟨J, hJ⟩ : ∃ J, J = m * a (3 * k + 0) / 1000 := ⟨_, rfl⟩
          have b0 : m * a (3 * k + 0) ≤ m * 800 := Nat.mul_le_mul_left m y0
          have J1 : J ≤ m * 800 / 1000 := by
            rw [hJ]
            exact Nat.div_le_div_right b0
          have b1 : J * a (3 * k + 1) ≤ J * 200 := Nat.mul_le_mul_left J y1
          have b2 : J * a (3 * k + 2) ≤ J * 100 := Nat.mul_le_mul_left J y2
          have b3 : J * a 19 ≤ J * 1000 := Nat.mul_le_mul_left J w19
          obtain ⟨s1, hs1⟩ : ∃ J', J' = J * a (3 * k + 1) / 1000 := ⟨_, rfl⟩
          obtain ⟨s2, hs2⟩ : ∃ J', J' = J * a (3 * k + 2) / 1000 := ⟨_, rfl⟩
          obtain ⟨s3, hs3⟩ : ∃ J', J' = J * a 19 / 1000 := ⟨_, rfl⟩
          have S1 : s1 ≤ J * 200 / 1000 := by
            rw [hs1]
            exact Nat.div_le_div_right b1
          have S2 : s2 ≤ J * 100 / 1000 := by
            rw [hs2]
            exact Nat.div_le_div_right b2
          have S3 : s3 ≤ J * 1000 / 1000 := by
            rw [hs3]
            exact Nat.div_le_div_right b3
          have kk : v.1 i (43 + 2 * l + 0) = nI k := by rw [hk]; exact hv _ (by omega)
          have qk : (nI k).toNatClampNeg = k := nI_clamp (by omega)
          have p0 : (nI (3 * k + 0)).toNatClampNeg = 3 * k + 0 := nI_clamp (by omega)
          have p1 : (nI (3 * k + 1)).toNatClampNeg = 3 * k + 1 := nI_clamp (by omega)
          have p2 : (nI (3 * k + 2)).toNatClampNeg = 3 * k + 2 := nI_clamp (by omega)
          have ky := hv (3 * k + 0) (by omega)
          have g1 : fX6_thousandths v [I (nI m), I (v.1 i (3 * k + 0))] = some (v, some (I (nI J))) := by
            rw [ky, hJ]
            exact s_thou (by omega) (by omega)
          have g0 : fX6_within v [I (nI k), I 0, I 5] = some (v, some (I 1)) := s_wT ⟨(i_le (a := 0) (by omega) (by omega)).mpr (by omega), (i_le (b := 5) (by omega) (by omega)).mpr (by omega)⟩
          by_cases e : a (60 + 7 * t + 0) - a (60 + 7 * t + 1) - a (60 + 7 * t + 5) < J
          · refine One.no (-3) (by decide) (by decide) ((qX0_pressLot v i _ _ _).trans ?_)
            · simp only [nI_clamp hl31, nI_clamp ht31]
              refine (bI_eq (s_lT hv hw c1)).trans ((if_neg (by decide)).trans ?_)
              refine (bI_eq (s_tT hv hw c3)).trans ((if_neg (by decide)).trans ?_)
              refine (bI_eq (s_wT c2)).trans ((if_neg (by decide)).trans ?_)
              refine (if_pos (mIn_nI hl8 (by omega))).trans ?_
              refine (if_neg (ltF kl rfl (by omega) (by omega))).trans ?_
              refine (if_pos (mIn_nI hl8 (by omega))).trans ?_
              simp only [kk, qk]
              refine (bI_eq g0).trans ((if_neg (by decide)).trans ?_)
              refine (if_pos (mIn_nI hk6 (by omega))).trans ?_
              refine (bI_eq g1).trans ?_
              refine (if_pos (mIn_nI ht6 (by omega))).trans ?_
              refine (bI_eq (s_left hv (by omega) t1)).trans ?_
              exact if_pos (ltT rfl rfl e (by omega))
          · have hJl : J ≤ a (60 + 7 * t + 0) - a (60 + 7 * t + 1) - a (60 + 7 * t + 5) := by omega
            have v1 := hv.sub (o := 43 + 2 * l + 1) (n := m) (by omega) rfl (by omega)
            have v2 := v1.add (o := 102) (m := a 102) (m - J) (by omega) (au_n (by omega))
            have G1 := v2.rd (o := 3 * k + 1) (m := a (3 * k + 1)) (by omega) (by rw [au_n (by omega), au_n (by omega)])
            have G2 := v2.rd (o := 3 * k + 2) (m := a (3 * k + 2)) (by omega) (by rw [au_n (by omega), au_n (by omega)])
            have G3 := v2.rd (o := 19) (m := a 19) (by omega) (by rw [au_n (by omega), au_n (by omega)])
            obtain ⟨v', ev, hv', fv⟩ := s_fill (j := t) v2 (by omega) J s1 s2 s3
            have hs : nI m - nI J = nI (m - J) := i_sub (by omega)
            refine One.ok (n := J) (by omega) ((qX0_pressLot v i _ _ _).trans ?_) hv' (((Fr.up i _ _ _).tr (Fr.up i _ _ _)).tr fv) ?_ (Bal.press hl8 ht6 (by omega) (by omega))
            · simp only [nI_clamp hl31, nI_clamp ht31]
              refine (bI_eq (s_lT hv hw c1)).trans ((if_neg (by decide)).trans ?_)
              refine (bI_eq (s_tT hv hw c3)).trans ((if_neg (by decide)).trans ?_)
              refine (bI_eq (s_wT c2)).trans ((if_neg (by decide)).trans ?_)
              refine (if_pos (mIn_nI hl8 (by omega))).trans ?_
              refine (if_neg (ltF kl rfl (by omega) (by omega))).trans ?_
              refine (if_pos (mIn_nI hl8 (by omega))).trans ?_
              simp only [kk, qk]
              refine (bI_eq g0).trans ((if_neg (by decide)).trans ?_)
              refine (if_pos (mIn_nI hk6 (by omega))).trans ?_
              refine (bI_eq g1).trans ?_
              refine (if_pos (mIn_nI ht6 (by omega))).trans ?_
              refine (bI_eq (s_left hv (by omega) t1)).trans ?_
              refine (if_neg (ltF rfl rfl hJl (by omega))).trans ?_
              refine (if_pos (mIn_nI hl8 (by omega))).trans ?_
              rw [hs]
              refine (if_pos (mIn_nI ht6 (by omega))).trans ?_
              refine (bI_eq (x := nI s1) (by rw [G1, hs1]; exact s_thou (by omega) (by omega))).trans ?_
              refine (bI_eq (x := nI s2) (by rw [G2, hs2]; exact s_thou (by omega) (by omega))).trans ?_
              refine (bI_eq (x := nI s3) (by rw [G3, hs3]; exact s_thou (by omega) (by omega))).trans ?_
              exact bV_eq ev
            · refine hw.fill ht (fun q hq => by rw [au_n (by omega), au_n (by omega)]) (by rw [au_n (by omega), au_n (by omega)]) (fun q hq => ⟨by rw [au_n (by omega), au_n (by omega)], ?_⟩) (by rw [au_n (by omega), au_n (by omega)]) (fun j hj q hq => by rw [au_n (by omega), au_n (by omega)]) ?_ (by rw [au_s]; omega) (by rw [au_n (by omega), au_n (by omega)]) (fun q x y => by rw [au_n (by omega), au_n (by omega)]) hJl (by omega) (fun z => by omega)
              · unfold lot
                by_cases eq : q = l
                · rw [eq, au_n (by omega), au_s]
                  omega
                · rw [au_n (by omega), au_n (by omega)]
                  exact Nat.le_refl _
              · have z := sm_one (g := lot a) (g' := lot (au (au a (43 + 2 * l + 1) (a (43 + 2 * l + 1) - m)) 102 (a 102 + (m - J)))) hl8 (fun j hj hne => by unfold lot; rw [au_n (by omega), au_n (by omega)])
                have z2 : lot (au (au a (43 + 2 * l + 1) (a (43 + 2 * l + 1) - m)) 102 (a 102 + (m - J))) l = lot a l - m := by
                  unfold lot
                  rw [au_n (by omega), au_s]
                have z3 : m ≤ lot a l := by
                  unfold lot
                  omega
                omega
      · refine One.no (-1) (by decide) (by decide) ((qX0_pressLot v i _ _ _).trans ?_)
        · refine (bI_eq (s_lT hv hw c1)).trans ((if_neg (by decide)).trans ?_)
          refine (bI_eq (s_tT hv hw c3)).trans ((if_neg (by decide)).trans ?_)
          exact (bI_eq (s_wF c2)).trans (if_pos rfl)
    · refine One.no (-1) (by decide) (by decide) ((qX0_pressLot v i _ _ _).trans ?_)
      · refine (bI_eq (s_lT hv hw c1)).trans ((if_neg (by decide)).trans ?_)
        exact (bI_eq (s_tF hv hw c3)).trans (if_pos rfl)
  · refine One.no (-1) (by decide) (by decide) ((qX0_pressLot v i _ _ _).trans ?_)
    · exact (bI_eq (s_lF hv hw c1)).trans (if_pos rfl)
theorem i_hw {h w J : Nat} (e : J ≤ h + w) : nI h + (nI w - nI J) = nI (h + w - J) := by
  rw [Int32.sub_eq_add_neg, ← Int32.add_assoc, ← Int32.sub_eq_add_neg, i_add, i_sub e]
theorem r_wet (hv : St 155 v i a) (hw : Wf B a) (hB : B ≤ 1100) (x1 x2 : Int32) : One B (fX0_wetHeap v [nm 2 i 0, I x1, I x2]) v i a := by
  by_cases c2 : 0 ≤ x1 ∧ x1 ≤ 20000
  · by_cases c3 : mIn x2 (a 59)
    · obtain ⟨t, ht, ht31, rfl⟩ := mIn_ex c3
      obtain ⟨w, hwm, rfl⟩ := inM (M := 20000) (by omega) c2.1 c2.2
      have w4 := hw.2.2.2.1
      have ht6 : t < 6 := by omega
      obtain ⟨⟨t0, t1, t4, tz⟩, -⟩ := w4.2 t ht6
      have h102 := hw.2.2.2.2.2.1
      have k2 := hv 102 (by omega)
      by_cases d : a 102 = 0
      · refine One.ref 12 (by decide) ((qX0_wetHeap v i _ _).trans ?_)
        · refine (bI_eq (s_wT c2)).trans ((if_neg (by decide)).trans ?_)
          refine (bI_eq (s_tT hv hw c3)).trans ((if_neg (by decide)).trans ?_)
          refine (if_pos (eqT k2 (n := 0) rfl d)).trans ?_
          exact bI_eq (s_refuse _ _ _)
      · obtain ⟨J, hJ⟩ : ∃ J, J = (a 102 + w) / 4 := ⟨_, rfl⟩
        have hJ4 : (nI (a 102) + nI w) / (4 : Int32) = nI J := by
          rw [i_add, hJ]
          exact show nI (a 102 + w) / nI 4 = nI ((a 102 + w) / 4) from pk_div (by omega) (by omega) (by omega)
        have hJ50 : nI J / (50 : Int32) = nI (J / 50) := show nI J / nI 50 = nI (J / 50) from pk_div (by omega) (by omega) (by omega)
        have hJ100 : nI J / (100 : Int32) = nI (J / 100) := show nI J / nI 100 = nI (J / 100) from pk_div (by omega) (by omega) (by omega)
        have hJ10 : nI J / (10 : Int32) = nI (J / 10) := show nI J / nI 10 = nI (J / 10) from pk_div (by omega) (by omega) (by omega)
        by_cases e : a (60 + 7 * t + 0) - a (60 + 7 * t + 1) - a (60 + 7 * t + 5) < J
        · refine One.no (-3) (by decide) (by decide) ((qX0_wetHeap v i _ _).trans ?_)
          · simp only [nI_clamp ht31]
            refine (bI_eq (s_wT c2)).trans ((if_neg (by decide)).trans ?_)
            refine (bI_eq (s_tT hv hw c3)).trans ((if_neg (by decide)).trans ?_)
            refine (if_neg (eqF k2 (n := 0) rfl d (by omega) (by omega))).trans ?_
            refine (if_pos (mIn_nI ht6 (by omega))).trans ?_
            refine (bI_eq (s_left hv (by omega) t1)).trans ?_
            simp only [k2, hJ4]
            exact if_pos (ltT rfl rfl e (by omega))
        · have hJl : J ≤ a (60 + 7 * t + 0) - a (60 + 7 * t + 1) - a (60 + 7 * t + 5) := by omega
          have v1 := hv.up (o := 102) (x := nI (a 102) + (nI w - nI J)) (i_hw (h := a 102) (w := w) (J := J) (by omega))
          have v2 := v1.add (o := 105) (m := a 105) w (by omega) (au_n (by omega))
          obtain ⟨v', ev, hv', fv⟩ := s_fill (j := t) v2 (by omega) J (J / 50) (J / 100) (J / 10)
          refine One.ok (n := J) (by omega) ((qX0_wetHeap v i _ _).trans ?_) hv' (((Fr.up i _ _ _).tr (Fr.up i _ _ _)).tr fv) ?_ (Bal.wet ht6 (by omega))
          · simp only [nI_clamp ht31]
            refine (bI_eq (s_wT c2)).trans ((if_neg (by decide)).trans ?_)
            refine (bI_eq (s_tT hv hw c3)).trans ((if_neg (by decide)).trans ?_)
            refine (if_neg (eqF k2 (n := 0) rfl d (by omega) (by omega))).trans ?_
            refine (if_pos (mIn_nI ht6 (by omega))).trans ?_
            refine (bI_eq (s_left hv (by omega) t1)).trans ?_
            simp only [k2, hJ4, hJ50, hJ100, hJ10]
            refine (if_neg (ltF rfl rfl hJl (by omega))).trans ?_
            refine (if_pos (by decide)).trans ?_
            refine (if_pos (by decide)).trans ?_
            refine (if_pos (mIn_nI ht6 (by omega))).trans ?_
            exact bV_eq ev
          · have sl : sm (lot (au (au a 102 (a 102 + w - J)) 105 (a 105 + w))) 8 = sm (lot a) 8 := sm_cg (fun j hj => by unfold lot; rw [au_n (by omega), au_n (by omega)])
            refine hw.fill ht (fun q hq => by rw [au_n (by omega), au_n (by omega)]) (by rw [au_n (by omega), au_n (by omega)]) (fun q hq => ⟨by rw [au_n (by omega), au_n (by omega)], ?_⟩) (by rw [au_n (by omega), au_n (by omega)]) (fun j hj q hq => by rw [au_n (by omega), au_n (by omega)]) (by omega) (by rw [au_n (by omega), au_s]; omega) (by rw [au_n (by omega), au_n (by omega)]) (fun q x y => by rw [au_n (by omega), au_n (by omega)]) hJl (by omega) (fun z => by omega)
            unfold lot
            rw [au_n (by omega), au_n (by omega)]
            exact Nat.le_refl _
    · refine One.no (-1) (by decide) (by decide) ((qX0_wetHeap v i _ _).trans ?_)
      · refine (bI_eq (s_wT c2)).trans ((if_neg (by decide)).trans ?_)
        exact (bI_eq (s_tF hv hw c3)).trans (if_pos rfl)
  · refine One.no (-1) (by decide) (by decide) ((qX0_wetHeap v i _ _).trans ?_)
    · exact (bI_eq (s_wF c2)).trans (if_pos rfl)
end
