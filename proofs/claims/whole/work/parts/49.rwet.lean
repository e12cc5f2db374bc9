-- WET
section
variable {B : Nat} {v u : MM} {i : Nat} {a : Nat → Nat}
theorem i_hw {h w J : Nat} (e : J ≤ h + w) : nI h + (nI w - nI J) = nI (h + w - J) := by
  rw [Int32.sub_eq_add_neg, ← Int32.add_assoc, ← Int32.sub_eq_add_neg, i_add, i_sub e]
theorem r_wet (hv : St 155 v i a) (hu : St 151 u 14 a) (hw : Wf B a) (hB : B ≤ 1100) (x1 x2 : Int32) : Two B (fX0_wetHeap v [nm 2 i 0, I x1, I x2]) (fX7_wets u [MO, I x1, I x2]) v u i a := by
  by_cases c2 : 0 ≤ x1 ∧ x1 ≤ 20000
  · by_cases c3 : mIn x2 (a 59)
    · obtain ⟨t, ht, ht31, rfl⟩ := mIn_ex c3
      obtain ⟨w, hwm, rfl⟩ := inM (M := 20000) (by omega) c2.1 c2.2
      have w4 := hw.2.2.2.1
      have ht6 : t < 6 := by omega
      obtain ⟨⟨t0, t1, t4, tz⟩, -⟩ := w4.2 t ht6
      have h102 := hw.2.2.2.2.2.1
      have k2 := hv 102 (by omega)
      have u2 : u.1 14 ((102 : Int32).toNatClampNeg) = nI (a 102) := hu 102 (by omega)
      by_cases d : a 102 = 0
      · refine Two.ref 12 hv hu hw ((qX0_wetHeap v i _ _).trans ?_) ((qX7_wets u _ _).trans ?_)
        · refine (bI_eq (s_wT c2)).trans ((if_neg (by decide)).trans ?_)
          refine (bI_eq (s_tT hv hw c3)).trans ((if_neg (by decide)).trans ?_)
          refine (if_pos (eqT k2 (n := 0) rfl d)).trans ?_
          exact bI_eq (s_refuse _ _ _)
        · refine (bI_eq (m_inT c2)).trans ((if_neg (by decide)).trans ?_)
          refine (bI_eq (m_tT hu hw c3)).trans ((if_neg (by decide)).trans ?_)
          refine (if_pos (by decide)).trans ?_
          refine (if_pos (eqT u2 (n := 0) rfl d)).trans ?_
          exact bI_eq (m_refuses _ _)
      · obtain ⟨J, hJ⟩ : ∃ J, J = (a 102 + w) / 4 := ⟨_, rfl⟩
        have hJ4 : (nI (a 102) + nI w) / (4 : Int32) = nI J := by
          rw [i_add, hJ]
          exact show nI (a 102 + w) / nI 4 = nI ((a 102 + w) / 4) from pk_div (by omega) (by omega) (by omega)
        have hJ50 : nI J / (50 : Int32) = nI (J / 50) := show nI J / nI 50 = nI (J / 50) from pk_div (by omega) (by omega) (by omega)
        have hJ100 : nI J / (100 : Int32) = nI (J / 100) := show nI J / nI 100 = nI (J / 100) from pk_div (by omega) (by omega) (by omega)
        have hJ10 : nI J / (10 : Int32) = nI (J / 10) := show nI J / nI 10 = nI (J / 10) from pk_div (by omega) (by omega) (by omega)
        by_cases e : a (60 + 7 * t + 0) - a (60 + 7 * t + 1) - a (60 + 7 * t + 5) < J
        · refine Two.no (-3) hv hu hw (by decide) ((qX0_wetHeap v i _ _).trans ?_) ((qX7_wets u _ _).trans ?_)
          · simp only [nI_clamp ht31]
            refine (bI_eq (s_wT c2)).trans ((if_neg (by decide)).trans ?_)
            refine (bI_eq (s_tT hv hw c3)).trans ((if_neg (by decide)).trans ?_)
            refine (if_neg (eqF k2 (n := 0) rfl d (by omega) (by omega))).trans ?_
            refine (if_pos (mIn_nI ht6 (by omega))).trans ?_
            refine (bI_eq (s_left hv (by omega) t1)).trans ?_
            simp only [k2, hJ4]
            exact if_pos (ltT rfl rfl e (by omega))
          · refine (bI_eq (m_inT c2)).trans ((if_neg (by decide)).trans ?_)
            refine (bI_eq (m_tT hu hw c3)).trans ((if_neg (by decide)).trans ?_)
            refine (if_pos (by decide)).trans ?_
            refine (if_neg (eqF u2 (n := 0) rfl d (by omega) (by omega))).trans ?_
            refine (if_pos (by decide)).trans ?_
            refine (bI_eq (m_left hu t (by omega) t1)).trans ?_
            simp only [u2, hJ4]
            exact if_pos (ltT rfl rfl e (by omega))
        · have hJl : J ≤ a (60 + 7 * t + 0) - a (60 + 7 * t + 1) - a (60 + 7 * t + 5) := by omega
          have v1 := hv.up (o := 102) (x := nI (a 102) + (nI w - nI J)) (i_hw (h := a 102) (w := w) (J := J) (by omega))
          have v2 := v1.add (o := 105) (m := a 105) w (by omega) (au_n (by omega))
          obtain ⟨v', ev, hv', fv⟩ := s_fill (j := t) v2 (by omega) J (J / 50) (J / 100) (J / 10)
          have m2 := hu.add (o := 60 + 7 * t + 1) (m := a (60 + 7 * t + 1)) J (by omega) rfl
          have m3 := m2.add (o := 60 + 7 * t + 2) (m := a (60 + 7 * t + 2)) (J / 50) (by omega) (by rw [au_n (by omega)])
          have m4 := m3.add (o := 60 + 7 * t + 3) (m := a (60 + 7 * t + 3)) (J / 100) (by omega) (by rw [au_n (by omega), au_n (by omega)])
          have m5 := m4.add (o := 60 + 7 * t + 4) (m := a (60 + 7 * t + 4)) (J / 10) (by omega) (by rw [au_n (by omega), au_n (by omega), au_n (by omega)])
          have M2 := m5.rd (o := 102) (m := a 102) (by omega) (by rw [au_n (by omega), au_n (by omega), au_n (by omega), au_n (by omega)])
          have m6 := m5.up (o := 102) (x := nI (a 102) + (nI w - nI J)) (i_hw (h := a 102) (w := w) (J := J) (by omega))
          have m7 := m6.add (o := 105) (m := a 105) w (by omega) (by rw [au_n (by omega), au_n (by omega), au_n (by omega), au_n (by omega), au_n (by omega)])
          refine Two.ok (n := J) (by omega) ((qX0_wetHeap v i _ _).trans ?_) ((qX7_wets u _ _).trans ?_) hv' (m7.cong (fun q _ => ?_)) (((Fr.up i _ _ _).tr (Fr.up i _ _ _)).tr fv) ((((((Fr.up 14 _ _ _).tr (Fr.up 14 _ _ _)).tr (Fr.up 14 _ _ _)).tr (Fr.up 14 _ _ _)).tr (Fr.up 14 _ _ _)).tr (Fr.up 14 _ _ _)) ?_
          · simp only [nI_clamp ht31]
            refine (bI_eq (s_wT c2)).trans ((if_neg (by decide)).trans ?_)
            refine (bI_eq (s_tT hv hw c3)).trans ((if_neg (by decide)).trans ?_)
            refine (if_neg (eqF k2 (n := 0) rfl d (by omega) (by omega))).trans ?_
            refine (if_pos (mIn_nI ht6 (by omega))).trans ?_
            refine (bI_eq (s_left hv (by omega) t1)).trans ?_
            simp only [k2, hJ4, hJ50, hJ100, hJ10]
            refine (if_neg (ltF rfl rfl hJl (by omega))).trans ?_
            refine (if_pos (by decide)).trans ?_
            refine (if_pos (by decide)).trans ?_
            refine (if_pos (mIn_nI ht6 (by omega))).trans ?_
            exact bV_eq ev
          · refine (bI_eq (m_inT c2)).trans ((if_neg (by decide)).trans ?_)
            refine (bI_eq (m_tT hu hw c3)).trans ((if_neg (by decide)).trans ?_)
            refine (if_pos (by decide)).trans ?_
            refine (if_neg (eqF u2 (n := 0) rfl d (by omega) (by omega))).trans ?_
            refine (if_pos (by decide)).trans ?_
            refine (bI_eq (m_left hu t (by omega) t1)).trans ?_
            simp only [u2, hJ4, hJ50, hJ100, hJ10]
            refine (if_neg (ltF rfl rfl hJl (by omega))).trans ?_
            refine (bV_eq (m_adds _ t 1 (by omega) _)).trans ?_
            refine (bV_eq (m_adds _ t 2 (by omega) _)).trans ?_
            refine (bV_eq (m_adds _ t 3 (by omega) _)).trans ?_
            refine (bV_eq (m_adds _ t 4 (by omega) _)).trans ?_
            refine (if_pos (by decide)).trans ?_
            refine (if_pos (by decide)).trans ?_
            refine (if_pos (by decide)).trans ?_
            refine (if_pos (by decide)).trans ?_
            rw [show (102 : Int32).toNatClampNeg = 102 from rfl, M2]
            rfl
          · unfold aFill
            (repeat refine au_cg (fun _ => ?_) ?_) <;> (first | rfl | ((try simp only [au]); repeat (first | rw [if_pos trivial] | rw [if_pos (by omega)] | rw [if_neg (by omega)])))
          · have sl : sm (lot (au (au a 102 (a 102 + w - J)) 105 (a 105 + w))) 8 = sm (lot a) 8 := sm_cg (fun j hj => by unfold lot; rw [au_n (by omega), au_n (by omega)])
            refine hw.fill ht (fun q hq => by rw [au_n (by omega), au_n (by omega)]) (by rw [au_n (by omega), au_n (by omega)]) (fun q hq => ⟨by rw [au_n (by omega), au_n (by omega)], ?_⟩) (by rw [au_n (by omega), au_n (by omega)]) (fun j hj q hq => by rw [au_n (by omega), au_n (by omega)]) (by omega) (by rw [au_n (by omega), au_s]; omega) (by rw [au_n (by omega), au_n (by omega)]) (fun q x y => by rw [au_n (by omega), au_n (by omega)]) hJl (by omega) (fun z => by omega)
            unfold lot
            rw [au_n (by omega), au_n (by omega)]
            exact Nat.le_refl _
    · refine Two.no (-1) hv hu hw (by decide) ((qX0_wetHeap v i _ _).trans ?_) ((qX7_wets u _ _).trans ?_)
      · refine (bI_eq (s_wT c2)).trans ((if_neg (by decide)).trans ?_)
        exact (bI_eq (s_tF hv hw c3)).trans (if_pos rfl)
      · refine (bI_eq (m_inT c2)).trans ((if_neg (by decide)).trans ?_)
        exact (bI_eq (m_tF hu hw c3)).trans (if_pos rfl)
  · refine Two.no (-1) hv hu hw (by decide) ((qX0_wetHeap v i _ _).trans ?_) ((qX7_wets u _ _).trans ?_)
    · exact (bI_eq (s_wF c2)).trans (if_pos rfl)
    · exact (bI_eq (m_inF c2)).trans (if_pos rfl)
end
