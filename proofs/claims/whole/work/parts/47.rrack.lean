-- RACK AND CLEAN
section
variable {B : Nat} {v u : MM} {i : Nat} {a : Nat → Nat}
theorem r_rack (hv : St 155 v i a) (hu : St 151 u 14 a) (hw : Wf B a) (hB : B ≤ 1100) (x1 x2 : Int32) : Two B (fX0_rackJuice v [nm 2 i 0, I x1, I x2]) (fX7_racks u [MO, I x1, I x2]) v u i a := by
  by_cases c1 : mIn x1 (a 59)
  · by_cases c3 : mIn x2 (a 59)
    · by_cases c : x1 = x2
      · refine Two.no (-1) hv hu hw (by decide) ((qX0_rackJuice v i _ _).trans ?_) ((qX7_racks u _ _).trans ?_)
        · refine (bI_eq (s_tT hv hw c1)).trans ((if_neg (by decide)).trans ?_)
          refine (bI_eq (s_tT hv hw c3)).trans ((if_neg (by decide)).trans ?_)
          exact if_pos c
        · exact (bI_eq (m_2F hu hw (fun z => z.2.2 c))).trans (if_pos rfl)
      · obtain ⟨f, hf, hf31, rfl⟩ := mIn_ex c1
        obtain ⟨t, ht, ht31, rfl⟩ := mIn_ex c3
        have ne := ne_nI c
        have w4 := hw.2.2.2.1
        have hf6 : f < 6 := by omega
        have ht6 : t < 6 := by omega
        obtain ⟨⟨f0, f1, f4, fz⟩, -⟩ := w4.2 f hf6
        obtain ⟨⟨t0, t1, t4, tz⟩, -⟩ := w4.2 t ht6
        have kf := hv (60 + 7 * f + 1) (by omega)
        by_cases d : a (60 + 7 * f + 1) = 0
        · refine Two.ref 1 hv hu hw ((qX0_rackJuice v i _ _).trans ?_) ((qX7_racks u _ _).trans ?_)
          · simp only [nI_clamp hf31, nI_clamp ht31]
            refine (bI_eq (s_tT hv hw c1)).trans ((if_neg (by decide)).trans ?_)
            refine (bI_eq (s_tT hv hw c3)).trans ((if_neg (by decide)).trans ?_)
            refine (if_neg c).trans ?_
            refine (if_pos (mIn_nI hf6 (by omega))).trans ?_
            refine (if_pos (eqT kf (n := 0) rfl d)).trans ?_
            exact bI_eq (s_refuse _ _ _)
          · refine (bI_eq (m_2T hu hw c1 c3 c)).trans ((if_neg (by decide)).trans ?_)
            refine (bI_eq (m_of hu f 1 (by omega))).trans ?_
            refine (if_pos (eqT rfl (n := 0) rfl d)).trans ?_
            exact bI_eq (m_refuses _ _)
        · by_cases e : a (60 + 7 * t + 0) - a (60 + 7 * t + 1) - a (60 + 7 * t + 5) = 0
          · refine Two.no (-3) hv hu hw (by decide) ((qX0_rackJuice v i _ _).trans ?_) ((qX7_racks u _ _).trans ?_)
            · simp only [nI_clamp hf31, nI_clamp ht31]
              refine (bI_eq (s_tT hv hw c1)).trans ((if_neg (by decide)).trans ?_)
              refine (bI_eq (s_tT hv hw c3)).trans ((if_neg (by decide)).trans ?_)
              refine (if_neg c).trans ?_
              refine (if_pos (mIn_nI hf6 (by omega))).trans ?_
              refine (if_neg (eqF kf (n := 0) rfl d (by omega) (by omega))).trans ?_
              refine (if_pos (mIn_nI hf6 (by omega))).trans ?_
              refine (if_pos (mIn_nI ht6 (by omega))).trans ?_
              refine (bI_eq (s_left hv (by omega) t1)).trans ?_
              refine (bI_eq (by rw [kf]; exact s_min (by omega) (by omega))).trans ?_
              exact if_neg (ltF (m := 0) rfl rfl (by omega) (by omega))
            · refine (bI_eq (m_2T hu hw c1 c3 c)).trans ((if_neg (by decide)).trans ?_)
              refine (bI_eq (m_of hu f 1 (by omega))).trans ?_
              refine (if_neg (eqF rfl (n := 0) rfl d (by omega) (by omega))).trans ?_
              refine (bI_eq (m_left hu t (by omega) t1)).trans ?_
              exact if_pos (eqT rfl (n := 0) rfl e)
          · obtain ⟨n, hne⟩ : ∃ n, n = min (a (60 + 7 * f + 1)) (a (60 + 7 * t + 0) - a (60 + 7 * t + 1) - a (60 + 7 * t + 5)) := ⟨_, rfl⟩
            have hnf : n ≤ a (60 + 7 * f + 1) := by omega
            have hnt : n ≤ a (60 + 7 * t + 0) - a (60 + 7 * t + 1) - a (60 + 7 * t + 5) := by omega
            have n1 : 0 < n := by omega
            have hs := hw.sml hB hf6
            obtain ⟨v', ev, hv', fv⟩ := s_give (t := t) hv (by omega) (by omega) ne hs hnf
            obtain ⟨u', eu, hu', fu⟩ := m_carry (t := t) hu (by omega) (by omega) ne (hw.mul hB hf6 (by omega)) (by omega) (by omega) hnf
            have hp : pt a f 4 n ≤ a (60 + 7 * f + 4) := pt_le hnf
            refine Two.ok (n := n) (by omega) ((qX0_rackJuice v i _ _).trans ?_) ((qX7_racks u _ _).trans ?_) hv' hu' fv fu (hw.give hf ht ne n1 hnf hnt)
            · simp only [nI_clamp hf31, nI_clamp ht31]
              refine (bI_eq (s_tT hv hw c1)).trans ((if_neg (by decide)).trans ?_)
              refine (bI_eq (s_tT hv hw c3)).trans ((if_neg (by decide)).trans ?_)
              refine (if_neg c).trans ?_
              refine (if_pos (mIn_nI hf6 (by omega))).trans ?_
              refine (if_neg (eqF kf (n := 0) rfl d (by omega) (by omega))).trans ?_
              refine (if_pos (mIn_nI hf6 (by omega))).trans ?_
              refine (if_pos (mIn_nI ht6 (by omega))).trans ?_
              refine (bI_eq (s_left hv (by omega) t1)).trans ?_
              refine (bI_eq (x := nI n) (v := v) (by rw [kf, hne]; exact s_min (by omega) (by omega))).trans ?_
              refine (if_pos (ltT (m := 0) rfl rfl n1 (by omega))).trans ?_
              refine (if_pos (mIn_nI hf6 (by omega))).trans ?_
              refine (if_pos (mIn_nI ht6 (by omega))).trans ?_
              exact bV_eq ev
            · refine (bI_eq (m_2T hu hw c1 c3 c)).trans ((if_neg (by decide)).trans ?_)
              refine (bI_eq (m_of hu f 1 (by omega))).trans ?_
              refine (if_neg (eqF rfl (n := 0) rfl d (by omega) (by omega))).trans ?_
              refine (bI_eq (m_left hu t (by omega) t1)).trans ?_
              refine (if_neg (eqF rfl (n := 0) rfl e (by omega) (by omega))).trans ?_
              refine (bI_eq (m_of hu f 1 (by omega))).trans ?_
              refine (bI_eq (m_left hu t (by omega) t1)).trans ?_
              by_cases g : a (60 + 7 * f + 1) < a (60 + 7 * t + 0) - a (60 + 7 * t + 1) - a (60 + 7 * t + 5)
              · refine (if_pos (ltT rfl rfl g (by omega))).trans ?_
                refine (bI_eq (m_of hu f 1 (by omega))).trans ?_
                have hq : a (60 + 7 * f + 1) = n := by omega
                rw [hq]
                refine (bI_eq eu).trans ?_
                exact if_neg (ltF (n := 0) rfl rfl (by omega) (by omega))
              · refine (if_neg (ltF rfl rfl (by omega) (by omega))).trans ?_
                refine (bI_eq (m_left hu t (by omega) t1)).trans ?_
                have hq : a (60 + 7 * t + 0) - a (60 + 7 * t + 1) - a (60 + 7 * t + 5) = n := by omega
                rw [hq]
                refine (bI_eq eu).trans ?_
                exact if_neg (ltF (n := 0) rfl rfl (by omega) (by omega))
    · refine Two.no (-1) hv hu hw (by decide) ((qX0_rackJuice v i _ _).trans ?_) ((qX7_racks u _ _).trans ?_)
      · refine (bI_eq (s_tT hv hw c1)).trans ((if_neg (by decide)).trans ?_)
        exact (bI_eq (s_tF hv hw c3)).trans (if_pos rfl)
      · exact (bI_eq (m_2F hu hw (fun z => c3 z.2.1))).trans (if_pos rfl)
  · refine Two.no (-1) hv hu hw (by decide) ((qX0_rackJuice v i _ _).trans ?_) ((qX7_racks u _ _).trans ?_)
    · exact (bI_eq (s_tF hv hw c1)).trans (if_pos rfl)
    · exact (bI_eq (m_2F hu hw (fun z => c1 z.1))).trans (if_pos rfl)
theorem Wf.clean (hw : Wf B a) {t : Nat} (ht : t < a 59) : Wf (B + 1) (au (au a (60 + 7 * t + 5) 0) 107 (a 107 + a (60 + 7 * t + 5))) := by
  have w4 := hw.2.2.2.1
  have ht6 : t < 6 := by omega
  obtain ⟨⟨t0, t1, t4, tz⟩, -⟩ := w4.2 t ht6
  have out : ∀ k, k ≠ 60 + 7 * t + 5 → k ≠ 107 → au (au a (60 + 7 * t + 5) 0) 107 (a 107 + a (60 + 7 * t + 5)) k = a k := fun k x y => by
    rw [au_n y, au_n x]
  have e5 : au (au a (60 + 7 * t + 5) 0) 107 (a 107 + a (60 + 7 * t + 5)) (60 + 7 * t + 5) = 0 := by
    rw [au_n (by omega), au_s]
  refine hw.chg (fun k hk => out k (by omega) (by omega)) (out _ (by omega) (by omega)) (fun k hk => ⟨out _ (by omega) (by omega), ?_⟩) (out _ (by omega) (by omega)) (fun j hj => ?_) ?_ ?_ ?_ (bot_same hw (fun k x y => out k (by omega) (by omega)))
  · unfold lot
    rw [out _ (by omega) (by omega)]
    exact Nat.le_refl _
  · by_cases e1 : j = t
    · subst e1
      refine Or.inl ⟨ht, ?_⟩
      unfold WT
      rw [e5, out _ (by omega) (by omega), out _ (by omega) (by omega), out _ (by omega) (by omega), out _ (by omega) (by omega), out _ (by omega) (by omega), out _ (by omega) (by omega)]
      exact ⟨t0, by omega, t4, tz⟩
    · exact Or.inr (fun q hq => out _ (by omega) (by omega))
  · have s1 : sm (sug (au (au a (60 + 7 * t + 5) 0) 107 (a 107 + a (60 + 7 * t + 5)))) 6 = sm (sug a) 6 := sm_cg (fun j hj => by
      unfold sug
      rw [out _ (by omega) (by omega), out _ (by omega) (by omega), out _ (by omega) (by omega)])
    have s2 : sm (lot (au (au a (60 + 7 * t + 5) 0) 107 (a 107 + a (60 + 7 * t + 5)))) 8 = sm (lot a) 8 := sm_cg (fun j hj => out _ (by omega) (by omega))
    omega
  · rw [out _ (by omega) (by omega)]
    omega
  · rw [out _ (by omega) (by omega)]
    omega
theorem r_clean (hv : St 155 v i a) (hu : St 151 u 14 a) (hw : Wf B a) (x1 : Int32) : Two B (fX0_cleanTank v [nm 2 i 0, I x1]) (fX7_cleans u [MO, I x1]) v u i a := by
  by_cases c1 : mIn x1 (a 59)
  · obtain ⟨t, ht, ht31, rfl⟩ := mIn_ex c1
    have w4 := hw.2.2.2.1
    have ht6 : t < 6 := by omega
    obtain ⟨⟨t0, t1, t4, tz⟩, -⟩ := w4.2 t ht6
    have kf := hv (60 + 7 * t + 1) (by omega)
    have k5 := hv (60 + 7 * t + 5) (by omega)
    by_cases d : 0 < a (60 + 7 * t + 1)
    · refine Two.ref 13 hv hu hw ((qX0_cleanTank v i _).trans ?_) ((qX7_cleans u _).trans ?_)
      · simp only [nI_clamp ht31]
        refine (bI_eq (s_tT hv hw c1)).trans ((if_neg (by decide)).trans ?_)
        refine (if_pos (mIn_nI ht6 (by omega))).trans ?_
        refine (if_pos (ltT (m := 0) rfl kf d (by omega))).trans ?_
        exact bI_eq (s_refuse _ _ _)
      · refine (bI_eq (m_tT hu hw c1)).trans ((if_neg (by decide)).trans ?_)
        refine (bI_eq (m_of hu t 1 (by omega))).trans ?_
        refine (if_pos (ltT (m := 0) rfl rfl d (by omega))).trans ?_
        exact bI_eq (m_refuses _ _)
    · have h1 := hv.up (o := 60 + 7 * t + 5) (x := 0) (n := 0) rfl
      have h2 := h1.add (o := 107) (m := a 107) (a (60 + 7 * t + 5)) (by omega) (au_n (by omega))
      have g1 := hu.adn (o := 60 + 7 * t + 5) (n := a (60 + 7 * t + 5)) (by omega) rfl (Nat.le_refl _)
      have g2 := g1.add (o := 107) (m := a 107) (a (60 + 7 * t + 5)) (by omega) (au_n (by omega))
      rw [Nat.sub_self] at g2
      refine Two.ok (n := a (60 + 7 * t + 5)) (by omega) ((qX0_cleanTank v i _).trans ?_) ((qX7_cleans u _).trans ?_) h2 g2 ((Fr.up i _ _ _).tr (Fr.up i _ _ _)) ((Fr.up 14 _ _ _).tr (Fr.up 14 _ _ _)) (hw.clean ht)
      · simp only [nI_clamp ht31]
        refine (bI_eq (s_tT hv hw c1)).trans ((if_neg (by decide)).trans ?_)
        refine (if_pos (mIn_nI ht6 (by omega))).trans ?_
        refine (if_neg (ltF (n := a (60 + 7 * t + 1)) (m := 0) rfl kf (by omega) (by omega))).trans ?_
        refine (if_pos (mIn_nI ht6 (by omega))).trans ?_
        refine (if_pos (mIn_nI ht6 (by omega))).trans ?_
        refine (if_pos (by decide)).trans ?_
        refine (if_pos (by decide)).trans ?_
        simp only [k5]
        rfl
      · refine (bI_eq (m_tT hu hw c1)).trans ((if_neg (by decide)).trans ?_)
        refine (bI_eq (m_of hu t 1 (by omega))).trans ?_
        refine (if_neg (ltF (m := 0) rfl rfl (by omega) (by omega))).trans ?_
        refine (bI_eq (m_of hu t 5 (by omega))).trans ?_
        refine (bV_eq (m_adds _ t 5 (by omega) _)).trans ?_
        refine (if_pos (by decide)).trans ?_
        refine (if_pos (by decide)).trans ?_
        rfl
  · refine Two.no (-1) hv hu hw (by decide) ((qX0_cleanTank v i _).trans ?_) ((qX7_cleans u _).trans ?_)
    · exact (bI_eq (s_tF hv hw c1)).trans (if_pos rfl)
    · exact (bI_eq (m_tF hu hw c1)).trans (if_pos rfl)
end
