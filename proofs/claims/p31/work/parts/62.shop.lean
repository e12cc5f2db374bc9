-- THE SHOP: pages, drafts
section
abbrev SH : MV := nm 0 0 0
variable {v : MM} {p c : Nat}
theorem s_next (hp : v.1 12 3 = nI p) (h8 : p < 8) : fX6_nextPage v [SH] = some (v, some (I (nI ((p + 1) % 8)))) := by
  refine (qX6_nextPage v).trans ?_
  rw [hp]
  have hc : p = 0 ∨ p = 1 ∨ p = 2 ∨ p = 3 ∨ p = 4 ∨ p = 5 ∨ p = 6 ∨ p = 7 := by omega
  rcases hc with rfl | rfl | rfl | rfl | rfl | rfl | rfl | rfl <;> rfl
theorem s_books (hp : v.1 12 3 = nI p) (h8 : p < 8) : fX6_books v [SH] = some (v, some (nm 2 p 0)) := by
  refine (qX6_books v).trans ?_
  rw [hp]
  refine (if_pos (mIn_nI h8 (by omega))).trans ?_
  rw [nI_clamp (show p < 2 ^ 31 by omega)]
  have hc : p = 0 ∨ p = 1 ∨ p = 2 ∨ p = 3 ∨ p = 4 ∨ p = 5 ∨ p = 6 ∨ p = 7 := by omega
  rcases hc with rfl | rfl | rfl | rfl | rfl | rfl | rfl | rfl <;> rfl
theorem s_draft (hp : v.1 12 3 = nI p) (h8 : p < 8) : ∃ v', fX6_draft v [SH] = some (v', some (nm 2 ((p + 1) % 8) 0)) ∧ (∀ o, o < 155 → v'.1 ((p + 1) % 8) o = v.1 p o) ∧ Fr ((p + 1) % 8) v v' := by
  obtain ⟨n, hn⟩ : ∃ n, n = (p + 1) % 8 := ⟨_, rfl⟩
  have ex := s_next hp h8
  rw [← hn] at ex ⊢
  have n8 : n < 8 := by omega
  obtain ⟨v', e, h, f⟩ := s_copy (i := n) (i1 := p) v (by omega)
  refine ⟨v', (qX6_draft v).trans ?_, h, f⟩
  refine (bI_eq ex).trans ?_
  refine (if_pos (mIn_nI n8 (by omega))).trans ?_
  refine (bN_eq (s_books hp h8)).trans ?_
  rw [nI_clamp (show n < 2 ^ 31 by omega)]
  refine (uX6_draft_9 v n p).trans ((qX6_draft_9 v n p).trans ?_)
  refine (bV_eq e).trans ?_
  have hc : n = 0 ∨ n = 1 ∨ n = 2 ∨ n = 3 ∨ n = 4 ∨ n = 5 ∨ n = 6 ∨ n = 7 := by omega
  rcases hc with rfl | rfl | rfl | rfl | rfl | rfl | rfl | rfl <;> rfl
theorem s_finN (i : Nat) {r : Int32} (h0 : r < 0) (h2 : r ≠ -2) : fX6_finish v [SH, nm 2 i 0, I r] = some (v, some (I r)) := (qX6_finish v i r).trans ((if_pos h0).trans (if_neg h2))
theorem s_finR (i : Nat) : fX6_finish v [SH, nm 2 i 0, I (-2)] = some (mUp v (12, 5) (v.1 i 155), some (I (-2))) := (qX6_finish v i (-2)).trans ((if_pos (by decide)).trans (if_pos rfl))
theorem s_finY (i : Nat) {r : Int32} (h0 : ¬ r < 0) (hp : v.1 12 3 = nI p) (h8 : p < 8) (hc : v.1 12 4 = nI c) (c6 : c ≤ 6) : ∃ v', fX6_finish v [SH, nm 2 i 0, I r] = some (v', some (I r)) ∧ v'.1 12 3 = nI ((p + 1) % 8) ∧ v'.1 12 4 = nI (min (c + 1) 6) ∧ v'.1 12 5 = 0 ∧ Fr 12 v v' := by
  have g4 : (mUp v (12, 3) (nI ((p + 1) % 8))).1 12 4 = nI c := (mUp_o _ 12 3 4 _ (by decide)).trans hc
  refine ⟨_, (qX6_finish v i r).trans ((if_neg h0).trans ((bI_eq (s_next hp h8)).trans (bI_eq (v := mUp v (12, 3) (nI ((p + 1) % 8))) (x := nI (min (c + 1) 6)) ?_))), ?_, ?_, mUp_s _ _ _ _, ((Fr.up 12 3 v _).tr (Fr.up 12 4 _ _)).tr (Fr.up 12 5 _ _)⟩
  · rw [g4, show nI c + (1 : Int32) = nI (c + 1) from i_add c 1]
    exact s_min (Y := 6) (by omega) (by omega)
  · exact (mUp_o _ 12 5 3 _ (by decide)).trans ((mUp_o _ 12 4 3 _ (by decide)).trans (mUp_s _ _ _ _))
  · exact (mUp_o _ 12 5 4 _ (by decide)).trans (mUp_s _ _ _ _)
end
