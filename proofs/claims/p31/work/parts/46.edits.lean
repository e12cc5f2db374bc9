-- AN EDIT OF THE CLASS

/-- an edit: refused, refused with a reason, or the page is another one, good as the one before -/
def One (B : Nat) (o : MR) (v : MM) (i : Nat) (a : Nat → Nat) : Prop :=
  (∃ r : Int32, r < 0 ∧ r ≠ -2 ∧ o = some (v, some (I r))) ∨
  (∃ y : Int32, y ≠ 0 ∧ o = some (mUp v (i, 155) y, some (I (-2)))) ∨
  ∃ (n : Nat) (a' : Nat → Nat) (v' : MM), n < 2 ^ 31 ∧ o = some (v', some (I (nI n))) ∧ St 155 v' i a' ∧ Fr i v v' ∧ Wf (B + 1) a' ∧ (Bal a → Bal a')
theorem One.no {B : Nat} {o : MR} {v : MM} {i : Nat} {a : Nat → Nat} (r : Int32) (h0 : r < 0) (hr : r ≠ -2) (e : o = some (v, some (I r))) : One B o v i a := Or.inl ⟨r, h0, hr, e⟩
theorem One.ref {B : Nat} {o : MR} {v : MM} {i : Nat} {a : Nat → Nat} (y : Int32) (hy : y ≠ 0) (e : o = some (mUp v (i, 155) y, some (I (-2)))) : One B o v i a := Or.inr (Or.inl ⟨y, hy, e⟩)
theorem One.ok {B : Nat} {o : MR} {v v' : MM} {i : Nat} {a a' : Nat → Nat} {n : Nat} (hn : n < 2 ^ 31) (e : o = some (v', some (I (nI n)))) (hv : St 155 v' i a') (hf : Fr i v v') (hw : Wf (B + 1) a') (hb : Bal a → Bal a') : One B o v i a := Or.inr (Or.inr ⟨n, a', v', hn, e, hv, hf, hw, hb⟩)
-- MOVE, RACK, CLEAN
section
variable {B : Nat} {v u : MM} {i : Nat} {a : Nat → Nat}
theorem r_move (hv : St 155 v i a) (hw : Wf B a) (hB : B ≤ 1100) (x1 x2 x3 : Int32) : One B (fX0_moveJuice v [nm 2 i 0, I x1, I x2, I x3]) v i a := by
  by_cases c1 : mIn x1 (a 59)
  · by_cases c3 : mIn x3 (a 59)
    · by_cases c : x1 = x3
      · refine One.no (-1) (by decide) (by decide) ((qX0_moveJuice v i _ _ _).trans ?_)
        · refine (bI_eq (s_tT hv hw c1)).trans ((if_neg (by decide)).trans ?_)
          refine (bI_eq (s_tT hv hw c3)).trans ((if_neg (by decide)).trans ?_)
          exact if_pos c
      · by_cases c2 : 1 ≤ x2 ∧ x2 ≤ 5000
        · obtain ⟨f, hf, hf31, rfl⟩ := mIn_ex c1
          obtain ⟨t, ht, ht31, rfl⟩ := mIn_ex c3
          obtain ⟨n, hn, rfl⟩ := inM (M := 5000) (by omega) (Int32.le_trans (by decide) c2.1) c2.2
          have n1 : 1 ≤ n := (i_le (a := 1) (by omega) (by omega)).mp c2.1
          have ne := ne_nI c
          have w4 := hw.2.2.2.1
          have hf6 : f < 6 := by omega
          have ht6 : t < 6 := by omega
          obtain ⟨⟨f0, f1, f4, fz⟩, -⟩ := w4.2 f hf6
          obtain ⟨⟨t0, t1, t4, tz⟩, -⟩ := w4.2 t ht6
          have kf := hv (60 + 7 * f + 1) (by omega)
          by_cases d : a (60 + 7 * f + 1) < n
          · refine One.ref 7 (by decide) ((qX0_moveJuice v i _ _ _).trans ?_)
            · simp only [nI_clamp hf31, nI_clamp ht31]
              refine (bI_eq (s_tT hv hw c1)).trans ((if_neg (by decide)).trans ?_)
              refine (bI_eq (s_tT hv hw c3)).trans ((if_neg (by decide)).trans ?_)
              refine (if_neg c).trans ?_
              refine (bI_eq (s_wT c2)).trans ((if_neg (by decide)).trans ?_)
              refine (if_pos (mIn_nI hf6 (by omega))).trans ?_
              refine (if_pos (ltT kf rfl d (by omega))).trans ?_
              exact bI_eq (s_refuse _ _ _)
          · by_cases e : a (60 + 7 * t + 0) - a (60 + 7 * t + 1) - a (60 + 7 * t + 5) < n
            · refine One.no (-3) (by decide) (by decide) ((qX0_moveJuice v i _ _ _).trans ?_)
              · simp only [nI_clamp hf31, nI_clamp ht31]
                refine (bI_eq (s_tT hv hw c1)).trans ((if_neg (by decide)).trans ?_)
                refine (bI_eq (s_tT hv hw c3)).trans ((if_neg (by decide)).trans ?_)
                refine (if_neg c).trans ?_
                refine (bI_eq (s_wT c2)).trans ((if_neg (by decide)).trans ?_)
                refine (if_pos (mIn_nI hf6 (by omega))).trans ?_
                refine (if_neg (ltF kf rfl (by omega) (by omega))).trans ?_
                refine (if_pos (mIn_nI ht6 (by omega))).trans ?_
                refine (bI_eq (s_left hv (by omega) t1)).trans ?_
                exact if_pos (ltT rfl rfl e (by omega))
            · have hnf : n ≤ a (60 + 7 * f + 1) := by omega
              have hnt : n ≤ a (60 + 7 * t + 0) - a (60 + 7 * t + 1) - a (60 + 7 * t + 5) := by omega
              have hs := hw.sml hB hf6
              obtain ⟨v', ev, hv', fv⟩ := s_give (t := t) hv (by omega) (by omega) ne hs hnf
              have hp : pt a f 4 n ≤ a (60 + 7 * f + 4) := pt_le hnf
              refine One.ok (n := pt a f 4 n) (by omega) ((qX0_moveJuice v i _ _ _).trans ?_) hv' fv (hw.give hf ht ne n1 hnf hnt) (Bal.give hf6 ht6 ne hnf)
              · simp only [nI_clamp hf31, nI_clamp ht31]
                refine (bI_eq (s_tT hv hw c1)).trans ((if_neg (by decide)).trans ?_)
                refine (bI_eq (s_tT hv hw c3)).trans ((if_neg (by decide)).trans ?_)
                refine (if_neg c).trans ?_
                refine (bI_eq (s_wT c2)).trans ((if_neg (by decide)).trans ?_)
                refine (if_pos (mIn_nI hf6 (by omega))).trans ?_
                refine (if_neg (ltF kf rfl (by omega) (by omega))).trans ?_
                refine (if_pos (mIn_nI ht6 (by omega))).trans ?_
                refine (bI_eq (s_left hv (by omega) t1)).trans ?_
                refine (if_neg (ltF rfl rfl hnt (by omega))).trans ?_
                refine (if_pos (mIn_nI hf6 (by omega))).trans ?_
                refine (if_pos (mIn_nI hf6 (by omega))).trans ?_
                refine (bI_eq (s_pt hv (by omega) hs (by omega) 4 (by omega) rfl rfl)).trans ?_
                refine (if_pos (mIn_nI hf6 (by omega))).trans ?_
                refine (if_pos (mIn_nI ht6 (by omega))).trans ?_
                exact bV_eq ev
        · refine One.no (-1) (by decide) (by decide) ((qX0_moveJuice v i _ _ _).trans ?_)
          · refine (bI_eq (s_tT hv hw c1)).trans ((if_neg (by decide)).trans ?_)
            refine (bI_eq (s_tT hv hw c3)).trans ((if_neg (by decide)).trans ?_)
            refine (if_neg c).trans ?_
            exact (bI_eq (s_wF c2)).trans (if_pos rfl)
    · refine One.no (-1) (by decide) (by decide) ((qX0_moveJuice v i _ _ _).trans ?_)
      · refine (bI_eq (s_tT hv hw c1)).trans ((if_neg (by decide)).trans ?_)
        exact (bI_eq (s_tF hv hw c3)).trans (if_pos rfl)
  · refine One.no (-1) (by decide) (by decide) ((qX0_moveJuice v i _ _ _).trans ?_)
    · exact (bI_eq (s_tF hv hw c1)).trans (if_pos rfl)
theorem r_rack (hv : St 155 v i a) (hw : Wf B a) (hB : B ≤ 1100) (x1 x2 : Int32) : One B (fX0_rackJuice v [nm 2 i 0, I x1, I x2]) v i a := by
  by_cases c1 : mIn x1 (a 59)
  · by_cases c3 : mIn x2 (a 59)
    · by_cases c : x1 = x2
      · refine One.no (-1) (by decide) (by decide) ((qX0_rackJuice v i _ _).trans ?_)
        · refine (bI_eq (s_tT hv hw c1)).trans ((if_neg (by decide)).trans ?_)
          refine (bI_eq (s_tT hv hw c3)).trans ((if_neg (by decide)).trans ?_)
          exact if_pos c
      · obtain ⟨f, hf, hf31, rfl⟩ := mIn_ex c1
        obtain ⟨t, ht, ht31, rfl⟩ := mIn_ex c3
        have ne := ne_nI c
        have w4 := hw.2.2.2.1
        have hf6 : f < 6 := by omega
        have ht6 : t < 6 := by omega
        obtain ⟨⟨f0, f1, f4, fz⟩, -⟩ := w4.2 f hf6
        obtain ⟨⟨t0, t1, t4, tz⟩, -⟩ := w4.2 t ht6
        have kf := hv (60 + 7 * f + 1) (by omega)
        by_cases d : a (60 + 7 * f + 1) = 0
        · refine One.ref 1 (by decide) ((qX0_rackJuice v i _ _).trans ?_)
          · simp only [nI_clamp hf31, nI_clamp ht31]
            refine (bI_eq (s_tT hv hw c1)).trans ((if_neg (by decide)).trans ?_)
            refine (bI_eq (s_tT hv hw c3)).trans ((if_neg (by decide)).trans ?_)
            refine (if_neg c).trans ?_
            refine (if_pos (mIn_nI hf6 (by omega))).trans ?_
            refine (if_pos (eqT kf (n := 0) rfl d)).trans ?_
            exact bI_eq (s_refuse _ _ _)
        · by_cases e : a (60 + 7 * t + 0) - a (60 + 7 * t + 1) - a (60 + 7 * t + 5) = 0
          · refine One.no (-3) (by decide) (by decide) ((qX0_rackJuice v i _ _).trans ?_)
            · simp only [nI_clamp hf31, nI_clamp ht31]
              refine (bI_eq (s_tT hv hw c1)).trans ((if_neg (by decide)).trans ?_)
              refine (bI_eq (s_tT hv hw c3)).trans ((if_neg (by decide)).trans ?_)
              refine (if_neg c).trans ?_
              refine (if_pos (mIn_nI hf6 (by omega))).trans ?_
              refine (if_neg (eqF kf (n := 0) rfl d (by omega) (by omega))).trans ?_
              refine (if_pos (mIn_nI hf6 (by omega))).trans ?_
              refine (if_pos (mIn_nI ht6 (by omega))).trans ?_
              refine (bI_eq (s_left hv (by omega) t1)).trans ?_
              refine (bI_eq (by rw [kf]; exact s_min (by omega) (by omega))).trans ?_
              exact if_neg (ltF (m := 0) rfl rfl (by omega) (by omega))
          · obtain ⟨n, hne⟩ : ∃ n, n = min (a (60 + 7 * f + 1)) (a (60 + 7 * t + 0) - a (60 + 7 * t + 1) - a (60 + 7 * t + 5)) := ⟨_, rfl⟩
            have hnf : n ≤ a (60 + 7 * f + 1) := by omega
            have hnt : n ≤ a (60 + 7 * t + 0) - a (60 + 7 * t + 1) - a (60 + 7 * t + 5) := by omega
            have n1 : 0 < n := by omega
            have hs := hw.sml hB hf6
            obtain ⟨v', ev, hv', fv⟩ := s_give (t := t) hv (by omega) (by omega) ne hs hnf
            have hp : pt a f 4 n ≤ a (60 + 7 * f + 4) := pt_le hnf
            refine One.ok (n := n) (by omega) ((qX0_rackJuice v i _ _).trans ?_) hv' fv (hw.give hf ht ne n1 hnf hnt) (Bal.give hf6 ht6 ne hnf)
            · simp only [nI_clamp hf31, nI_clamp ht31]
              refine (bI_eq (s_tT hv hw c1)).trans ((if_neg (by decide)).trans ?_)
              refine (bI_eq (s_tT hv hw c3)).trans ((if_neg (by decide)).trans ?_)
              refine (if_neg c).trans ?_
              refine (if_pos (mIn_nI hf6 (by omega))).trans ?_
              refine (if_neg (eqF kf (n := 0) rfl d (by omega) (by omega))).trans ?_
              refine (if_pos (mIn_nI hf6 (by omega))).trans ?_
              refine (if_pos (mIn_nI ht6 (by omega))).trans ?_
              refine (bI_eq (s_left hv (by omega) t1)).trans ?_
              refine (bI_eq (x := nI n) (v := v) (by rw [kf, hne]; exact s_min (by omega) (by omega))).trans ?_
              refine (if_pos (ltT (m := 0) rfl rfl n1 (by omega))).trans ?_
              refine (if_pos (mIn_nI hf6 (by omega))).trans ?_
              refine (if_pos (mIn_nI ht6 (by omega))).trans ?_
              exact bV_eq ev
    · refine One.no (-1) (by decide) (by decide) ((qX0_rackJuice v i _ _).trans ?_)
      · refine (bI_eq (s_tT hv hw c1)).trans ((if_neg (by decide)).trans ?_)
        exact (bI_eq (s_tF hv hw c3)).trans (if_pos rfl)
  · refine One.no (-1) (by decide) (by decide) ((qX0_rackJuice v i _ _).trans ?_)
    · exact (bI_eq (s_tF hv hw c1)).trans (if_pos rfl)
theorem Wf.clean (hw : Wf B a) {t : Nat} (ht : t < a 59) : Wf (B + 1) (au (au a (60 + 7 * t + 5) 0) 107 (a 107 + a (60 + 7 * t + 5))) := by
  have w4 := hw.2.2.2.1
  have ht6 : t < 6 := by omega
  obtain ⟨⟨t0, t1, t4, tz⟩, -⟩ := w4.2 t ht6
  have out : ∀ k, k ≠ 60 + 7 * t + 5 → k ≠ 107 → au (au a (60 + 7 * t + 5) 0) 107 (a 107 + a (60 + 7 * t + 5)) k = a k := fun k x y => by
    rw [au_n y, au_n x]
  have e5 : au (au a (60 + 7 * t + 5) 0) 107 (a 107 + a (60 + 7 * t + 5)) (60 + 7 * t + 5) = 0 := by
    rw [au_n (by omega), au_s]
  refine hw.chg (fun k hk => out k (by omega) (by omega)) (out _ (by omega) (by omega)) (fun k hk => ⟨out _ (by omega) (by omega), ?_⟩) (out _ (by omega) (by omega)) (fun j hj => ?_) ?_ ?_ ?_ (bot_same hw (fun k x y => out k (by omega) (by omega)))
  · unfold lot
    rw [out _ (by omega) (by omega)]
    exact Nat.le_refl _
  · by_cases e1 : j = t
    · subst e1
      refine Or.inl ⟨ht, ?_⟩
      unfold WT
      rw [e5, out _ (by omega) (by omega), out _ (by omega) (by omega), out _ (by omega) (by omega), out _ (by omega) (by omega), out _ (by omega) (by omega), out _ (by omega) (by omega)]
      exact ⟨t0, by omega, t4, tz⟩
    · exact Or.inr (fun q hq => out _ (by omega) (by omega))
  · have s1 : sm (sug (au (au a (60 + 7 * t + 5) 0) 107 (a 107 + a (60 + 7 * t + 5)))) 6 = sm (sug a) 6 := sm_cg (fun j hj => by
      unfold sug
      rw [out _ (by omega) (by omega), out _ (by omega) (by omega), out _ (by omega) (by omega)])
    have s2 : sm (lot (au (au a (60 + 7 * t + 5) 0) 107 (a 107 + a (60 + 7 * t + 5)))) 8 = sm (lot a) 8 := sm_cg (fun j hj => out _ (by omega) (by omega))
    omega
  · rw [out _ (by omega) (by omega)]
    omega
  · rw [out _ (by omega) (by omega)]
    omega
theorem r_clean (hv : St 155 v i a) (hw : Wf B a) (x1 : Int32) : One B (fX0_cleanTank v [nm 2 i 0, I x1]) v i a := by
  by_cases c1 : mIn x1 (a 59)
  · obtain ⟨t, ht, ht31, rfl⟩ := mIn_ex c1
    have w4 := hw.2.2.2.1
    have ht6 : t < 6 := by omega
    obtain ⟨⟨t0, t1, t4, tz⟩, -⟩ := w4.2 t ht6
    have kf := hv (60 + 7 * t + 1) (by omega)
    have k5 := hv (60 + 7 * t + 5) (by omega)
    by_cases d : 0 < a (60 + 7 * t + 1)
    · refine One.ref 13 (by decide) ((qX0_cleanTank v i _).trans ?_)
      · simp only [nI_clamp ht31]
        refine (bI_eq (s_tT hv hw c1)).trans ((if_neg (by decide)).trans ?_)
        refine (if_pos (mIn_nI ht6 (by omega))).trans ?_
        refine (if_pos (ltT (m := 0) rfl kf d (by omega))).trans ?_
        exact bI_eq (s_refuse _ _ _)
    · have h1 := hv.up (o := 60 + 7 * t + 5) (x := 0) (n := 0) rfl
      have h2 := h1.add (o := 107) (m := a 107) (a (60 + 7 * t + 5)) (by omega) (au_n (by omega))
      refine One.ok (n := a (60 + 7 * t + 5)) (by omega) ((qX0_cleanTank v i _).trans ?_) h2 ((Fr.up i _ _ _).tr (Fr.up i _ _ _)) (hw.clean ht) (Bal.clean ht6)
      · simp only [nI_clamp ht31]
        refine (bI_eq (s_tT hv hw c1)).trans ((if_neg (by decide)).trans ?_)
        refine (if_pos (mIn_nI ht6 (by omega))).trans ?_
        refine (if_neg (ltF (n := a (60 + 7 * t + 1)) (m := 0) rfl kf (by omega) (by omega))).trans ?_
        refine (if_pos (mIn_nI ht6 (by omega))).trans ?_
        refine (if_pos (mIn_nI ht6 (by omega))).trans ?_
        refine (if_pos (by decide)).trans ?_
        refine (if_pos (by decide)).trans ?_
        simp only [k5]
        rfl
  · refine One.no (-1) (by decide) (by decide) ((qX0_cleanTank v i _).trans ?_)
    · exact (bI_eq (s_tF hv hw c1)).trans (if_pos rfl)
end
