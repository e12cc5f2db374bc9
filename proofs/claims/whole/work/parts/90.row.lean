-- A ROW OF THE SCRIPT
section
variable {B i k c n m : Nat} {a b T : Nat → Nat} {v w u : MM}
theorem Two.eq {o o' q q' : MR} (e : q = o) (e' : q' = o') (h : Two B o o' v u i a) : Two B q q' v u i a := by
  rw [e, e']
  exact h
theorem Two.wrap {o o' : MR} (h : Two B o o' v u i a) : Two B (bI o (fun w r => some (w, some (I r)))) (bI o' (fun w r => some (w, some (I r)))) v u i a := by
  obtain ⟨r, a', v', u', e, e', g⟩ := h
  exact ⟨r, a', v', u', bI_eq e, bI_eq e', g⟩
theorem s_number (hk : k * 5 + c < 125) : fX3_number v [SC, I (nI k), I (nI c)] = some (v, some (I (v.1 11 (k * 5 + c)))) := by
  have ix : nI k * (5 : Int32) + nI c = nI (k * 5 + c) := (congrArg (fun z => z + nI c) (pk_mul k 5)).trans (i_add _ _)
  have q : (nI (k * 5 + c)).toNatClampNeg = k * 5 + c := nI_clamp (by omega)
  refine (qX3_number v _ _).trans ?_
  simp only [ix, q]
  refine (bI_eq (s_wT ⟨(i_le (a := 0) (by omega) (by omega)).mpr (by omega), (i_le (b := 124) (by omega) (by omega)).mpr (by omega)⟩)).trans ((if_neg (by decide)).trans ?_)
  exact if_pos (mIn_nI hk (by omega))
theorem r_row (hv : St 155 w i b) (hu : St 151 u 14 b) (hw : Wf B b) (hB : B ≤ 1100) (hr : Rw w u) (hk : k ≤ 24) : Two B (fX6_perform w [SH, nm 2 i 0, I (nI k)]) (fX7_does u [MO, I (nI k)]) w u i b := by
  have n0 := s_number (v := w) (k := k) (c := 0) (by omega)
  have n1 := s_number (v := w) (k := k) (c := 1) (by omega)
  have n2 := s_number (v := w) (k := k) (c := 2) (by omega)
  have n3 := s_number (v := w) (k := k) (c := 3) (by omega)
  have n4 := s_number (v := w) (k := k) (c := 4) (by omega)
  have y0 := (hr (k * 5 + 0) (by omega)).symm
  have y1 := (hr (k * 5 + 1) (by omega)).symm
  have y2 := (hr (k * 5 + 2) (by omega)).symm
  have y3 := (hr (k * 5 + 3) (by omega)).symm
  have y4 := (hr (k * 5 + 4) (by omega)).symm
  obtain ⟨x0, hx0⟩ : ∃ x, x = w.1 11 (k * 5 + 0) := ⟨_, rfl⟩
  rw [← hx0] at n0 y0
  obtain ⟨x1, hx1⟩ : ∃ x, x = w.1 11 (k * 5 + 1) := ⟨_, rfl⟩
  rw [← hx1] at n1 y1
  obtain ⟨x2, hx2⟩ : ∃ x, x = w.1 11 (k * 5 + 2) := ⟨_, rfl⟩
  rw [← hx2] at n2 y2
  obtain ⟨x3, hx3⟩ : ∃ x, x = w.1 11 (k * 5 + 3) := ⟨_, rfl⟩
  rw [← hx3] at n3 y3
  obtain ⟨x4, hx4⟩ : ∃ x, x = w.1 11 (k * 5 + 4) := ⟨_, rfl⟩
  rw [← hx4] at n4 y4
  have i0 : (5 : Int32) * nI k = nI (k * 5 + 0) := (pk_mul 5 k).trans (congrArg nI (by omega))
  have i1 : nI (k * 5 + 0) + (1 : Int32) = nI (k * 5 + 1) := i_add (k * 5) 1
  have i2 : nI (k * 5 + 0) + (2 : Int32) = nI (k * 5 + 2) := i_add (k * 5) 2
  have i3 : nI (k * 5 + 0) + (3 : Int32) = nI (k * 5 + 3) := i_add (k * 5) 3
  have i4 : nI (k * 5 + 0) + (4 : Int32) = nI (k * 5 + 4) := i_add (k * 5) 4
  have q0 : (nI (k * 5 + 0)).toNatClampNeg = k * 5 + 0 := nI_clamp (by omega)
  have q1 : (nI (k * 5 + 1)).toNatClampNeg = k * 5 + 1 := nI_clamp (by omega)
  have q2 : (nI (k * 5 + 2)).toNatClampNeg = k * 5 + 2 := nI_clamp (by omega)
  have q3 : (nI (k * 5 + 3)).toNatClampNeg = k * 5 + 3 := nI_clamp (by omega)
  have q4 : (nI (k * 5 + 4)).toNatClampNeg = k * 5 + 4 := nI_clamp (by omega)
  have d0 : mIn (nI (k * 5 + 0)) 165 := mIn_nI (by omega) (by omega)
  have d1 : mIn (nI (k * 5 + 1)) 165 := mIn_nI (by omega) (by omega)
  have d2 : mIn (nI (k * 5 + 2)) 165 := mIn_nI (by omega) (by omega)
  have d3 : mIn (nI (k * 5 + 3)) 165 := mIn_nI (by omega) (by omega)
  have d4 : mIn (nI (k * 5 + 4)) 165 := mIn_nI (by omega) (by omega)
  have C : ∀ o, (if x0 = (0 : Int32) then _ else _) = o → fX6_perform w [SH, nm 2 i 0, I (nI k)] = o := fun o e => (qX6_perform w i _).trans ((bI_eq n1).trans ((bI_eq n2).trans ((bI_eq n3).trans ((bI_eq n0).trans e))))
  have M : ∀ o, _ = o → fX7_does u [MO, I (nI k)] = o := fun o e => (qX7_does u _).trans (Eq.trans (by simp only [i0, i1, i2, i3, i4, q0, q1, q2, q3, q4, y0, y1, y2, y3, y4]; exact if_pos d0) e)
  by_cases c0 : x0 = 0
  · exact Two.eq (C _ (if_pos c0)) (M _ ((if_pos c0).trans ((if_pos d1).trans ((if_pos d2).trans (if_pos d3))))) (r_press hv hu hw x1 x2 x3).wrap
  by_cases c1 : x0 = 1
  · exact Two.eq (C _ ((if_neg c0).trans (if_pos c1))) (M _ ((if_neg c0).trans ((if_pos c1).trans ((if_pos d1).trans (if_pos d2))))) (r_wet hv hu hw hB x1 x2).wrap
  by_cases c2 : x0 = 2
  · exact Two.eq (C _ ((if_neg c0).trans ((if_neg c1).trans (if_pos c2)))) (M _ ((if_neg c0).trans ((if_neg c1).trans ((if_pos c2).trans ((if_pos d1).trans ((if_pos d2).trans (if_pos d3))))))) (r_move hv hu hw hB x1 x2 x3).wrap
  by_cases c3 : x0 = 3
  · exact Two.eq (C _ ((if_neg c0).trans ((if_neg c1).trans ((if_neg c2).trans (if_pos c3))))) (M _ ((if_neg c0).trans ((if_neg c1).trans ((if_neg c2).trans ((if_pos c3).trans ((if_pos d1).trans (if_pos d2))))))) (r_rack hv hu hw hB x1 x2).wrap
  by_cases c4 : x0 = 4
  · exact Two.eq (C _ ((if_neg c0).trans ((if_neg c1).trans ((if_neg c2).trans ((if_neg c3).trans (if_pos c4)))))) (M _ ((if_neg c0).trans ((if_neg c1).trans ((if_neg c2).trans ((if_neg c3).trans ((if_pos c4).trans (if_pos d1))))))) (r_clean hv hu hw x1).wrap
  by_cases c5 : x0 = 5
  · exact Two.eq (C _ ((if_neg c0).trans ((if_neg c1).trans ((if_neg c2).trans ((if_neg c3).trans ((if_neg c4).trans ((if_pos c5).trans (bI_eq n4)))))))) (M _ ((if_neg c0).trans ((if_neg c1).trans ((if_neg c2).trans ((if_neg c3).trans ((if_neg c4).trans ((if_pos c5).trans ((if_pos d1).trans ((if_pos d2).trans ((if_pos d3).trans (if_pos d4))))))))))) (r_bottle hv hu hw hB x1 x2 x3 x4).wrap
  exact Two.eq (C _ ((if_neg c0).trans ((if_neg c1).trans ((if_neg c2).trans ((if_neg c3).trans ((if_neg c4).trans (if_neg c5))))))) (M _ ((if_neg c0).trans ((if_neg c1).trans ((if_neg c2).trans ((if_neg c3).trans ((if_neg c4).trans (if_neg c5))))))) (r_day hv hu hw hB).wrap
end
