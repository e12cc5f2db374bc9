-- THE CALLS press, wet, move, rack, clean
section
variable {B p c : Nat} {a : Nat → Nat} {v : MM}
/-- both sides of a call give the same answer and stay side by side -/
def Same (B : Nat) (v : MM) (o : MR) (o' : MM → MR) : Prop := ∃ (r : Int32) (v1 v2 : MM) (p' c' : Nat) (a' : Nat → Nat), o = some (v1, some (I r)) ∧ o' v1 = some (v2, some (I r)) ∧ Rel (B + 1) v2 p' c' a' ∧ Oth v v2
theorem k_press (h : Rel B v p c a) (hB : B ≤ 1100) (x1 x2 x3 : Int32) : Same B v (fX6_press v [SH, I x1, I x2, I x3]) (fun w => fX7_press w [MO, I x1, I x2, I x3]) := by
  obtain ⟨r, w, v1, v2, p', c', a', e1, e2, e3, h2, ho⟩ := call_two (C := fun w => fX0_pressLot w [nm 2 ((p + 1) % 8) 0, I x1, I x2, I x3]) (M := fun u => fX7_presses u [MO, I x1, I x2, I x3]) h (fun w u hw hu => r_press hw hu h.2.2.2.2.2.2.2.2.1 x1 x2 x3)
  refine ⟨r, v1, v2, p', c', a', (qX6_press v _ _ _).trans ((bN_eq e1).trans ((uX6_press_2 w _ _ _ _).trans ((qX6_press_2 w _ _ _ _).trans e2))), (qX7_press v1 _ _ _).trans e3, h2, ho⟩
theorem k_wet (h : Rel B v p c a) (hB : B ≤ 1100) (x1 x2 : Int32) : Same B v (fX6_wet v [SH, I x1, I x2]) (fun w => fX7_wet w [MO, I x1, I x2]) := by
  obtain ⟨r, w, v1, v2, p', c', a', e1, e2, e3, h2, ho⟩ := call_two (C := fun w => fX0_wetHeap w [nm 2 ((p + 1) % 8) 0, I x1, I x2]) (M := fun u => fX7_wets u [MO, I x1, I x2]) h (fun w u hw hu => r_wet hw hu h.2.2.2.2.2.2.2.2.1 hB x1 x2)
  refine ⟨r, v1, v2, p', c', a', (qX6_wet v _ _).trans ((bN_eq e1).trans ((uX6_wet_2 w _ _ _).trans ((qX6_wet_2 w _ _ _).trans e2))), (qX7_wet v1 _ _).trans e3, h2, ho⟩
theorem k_move (h : Rel B v p c a) (hB : B ≤ 1100) (x1 x2 x3 : Int32) : Same B v (fX6_move v [SH, I x1, I x2, I x3]) (fun w => fX7_move w [MO, I x1, I x2, I x3]) := by
  obtain ⟨r, w, v1, v2, p', c', a', e1, e2, e3, h2, ho⟩ := call_two (C := fun w => fX0_moveJuice w [nm 2 ((p + 1) % 8) 0, I x1, I x2, I x3]) (M := fun u => fX7_moves u [MO, I x1, I x2, I x3]) h (fun w u hw hu => r_move hw hu h.2.2.2.2.2.2.2.2.1 hB x1 x2 x3)
  refine ⟨r, v1, v2, p', c', a', (qX6_move v _ _ _).trans ((bN_eq e1).trans ((uX6_move_2 w _ _ _ _).trans ((qX6_move_2 w _ _ _ _).trans e2))), (qX7_move v1 _ _ _).trans e3, h2, ho⟩
theorem k_rack (h : Rel B v p c a) (hB : B ≤ 1100) (x1 x2 : Int32) : Same B v (fX6_rack v [SH, I x1, I x2]) (fun w => fX7_rack w [MO, I x1, I x2]) := by
  obtain ⟨r, w, v1, v2, p', c', a', e1, e2, e3, h2, ho⟩ := call_two (C := fun w => fX0_rackJuice w [nm 2 ((p + 1) % 8) 0, I x1, I x2]) (M := fun u => fX7_racks u [MO, I x1, I x2]) h (fun w u hw hu => r_rack hw hu h.2.2.2.2.2.2.2.2.1 hB x1 x2)
  refine ⟨r, v1, v2, p', c', a', (qX6_rack v _ _).trans ((bN_eq e1).trans ((uX6_rack_2 w _ _ _).trans ((qX6_rack_2 w _ _ _).trans e2))), (qX7_rack v1 _ _).trans e3, h2, ho⟩
theorem k_clean (h : Rel B v p c a) (hB : B ≤ 1100) (x1 : Int32) : Same B v (fX6_clean v [SH, I x1]) (fun w => fX7_clean w [MO, I x1]) := by
  obtain ⟨r, w, v1, v2, p', c', a', e1, e2, e3, h2, ho⟩ := call_two (C := fun w => fX0_cleanTank w [nm 2 ((p + 1) % 8) 0, I x1]) (M := fun u => fX7_cleans u [MO, I x1]) h (fun w u hw hu => r_clean hw hu h.2.2.2.2.2.2.2.2.1 x1)
  refine ⟨r, v1, v2, p', c', a', (qX6_clean v _).trans ((bN_eq e1).trans ((uX6_clean_2 w _ _).trans ((qX6_clean_2 w _ _).trans e2))), (qX7_clean v1 _).trans e3, h2, ho⟩
end
