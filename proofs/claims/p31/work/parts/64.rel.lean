-- THE SHOP BETWEEN TWO CALLS
section
theorem St.row {N : Nat} {v v' : MM} {r : Nat} {a : Nat → Nat} (h : St N v r a) (e : v'.1 r = v.1 r) : St N v' r a := fun k hk => by rw [e]; exact h k hk
/-- a page that can come up, its accounts in order -/
def Pg (B : Nat) (v : MM) (q : Nat) (b : Nat → Nat) : Prop := St 155 v q b ∧ Wf B b ∧ Bal b
theorem Pg.row {B : Nat} {v v' : MM} {q : Nat} {b : Nat → Nat} (h : Pg B v q b) (e : v'.1 q = v.1 q) : Pg B v' q b := ⟨h.1.row e, h.2⟩
theorem Pg.mono {B : Nat} {v : MM} {q : Nat} {b : Nat → Nat} (h : Pg B v q b) : Pg (B + 1) v q b := ⟨h.1, h.2.1.mono, h.2.2⟩
/-- page p holds the numbers a, c states are saved -/
def Rel (B : Nat) (v : MM) (p c : Nat) (a : Nat → Nat) : Prop :=
  p < 8 ∧ c ≤ 6 ∧ v.1 12 3 = nI p ∧ v.1 12 4 = nI c ∧ v.1 9 1 = 0 ∧ Pg B v p a ∧ ∀ q, q < c → ∃ b, Pg B v ((p + 8 - c + q) % 8) b
section
variable {B p c : Nat} {v v' : MM} {a a' : Nat → Nat}
/-- what the states before say is left alone -/
theorem Rel.keep (h : Rel B v p c a) (h1 : v'.1 12 3 = v.1 12 3) (h2 : v'.1 12 4 = v.1 12 4) (h9 : v'.1 9 = v.1 9) (h8 : ∀ q, q < 8 → q ≠ (p + 1) % 8 → v'.1 q = v.1 q) : Rel (B + 1) v' p c a := by
  obtain ⟨g1, g2, g3, g4, g5, g6, g7⟩ := h
  refine ⟨g1, g2, h1.trans g3, h2.trans g4, by rw [h9]; exact g5, (g6.row (h8 p g1 (by omega))).mono, fun q hq => ?_⟩
  obtain ⟨b, hb⟩ := g7 q hq
  exact ⟨b, (hb.row (h8 _ (by omega) (by omega))).mono⟩
theorem Rel.push (h : Rel B v p c a) (h1 : v'.1 12 3 = nI ((p + 1) % 8)) (h2 : v'.1 12 4 = nI (min (c + 1) 6)) (h9 : v'.1 9 = v.1 9) (h8 : ∀ q, q < 8 → q ≠ (p + 1) % 8 → v'.1 q = v.1 q) (hp : Pg (B + 1) v' ((p + 1) % 8) a') : Rel (B + 1) v' ((p + 1) % 8) (min (c + 1) 6) a' := by
  obtain ⟨g1, g2, g3, g4, g5, g6, g7⟩ := h
  refine ⟨by omega, by omega, h1, h2, by rw [h9]; exact g5, hp, fun q hq => ?_⟩
  by_cases e : q + 1 = min (c + 1) 6
  · have ep : ((p + 1) % 8 + 8 - min (c + 1) 6 + q) % 8 = p := by omega
    rw [ep]
    exact ⟨a, (g6.row (h8 p g1 (by omega))).mono⟩
  · by_cases z : c = 6
    · obtain ⟨b, hb⟩ := g7 (q + 1) (by omega)
      have ep : ((p + 1) % 8 + 8 - min (c + 1) 6 + q) % 8 = (p + 8 - c + (q + 1)) % 8 := by omega
      rw [ep]
      exact ⟨b, (hb.row (h8 _ (by omega) (by omega))).mono⟩
    · obtain ⟨b, hb⟩ := g7 q (by omega)
      have ep : ((p + 1) % 8 + 8 - min (c + 1) 6 + q) % 8 = (p + 8 - c + q) % 8 := by omega
      rw [ep]
      exact ⟨b, (hb.row (h8 _ (by omega) (by omega))).mono⟩
/-- what a call that edits does: a refusal changes at most the reason; else there is a next page, and the one before stands -/
def Ed (B : Nat) (v : MM) (p c : Nat) (a : Nat → Nat) (r : Int32) (v1 : MM) : Prop :=
  (r < 0 ∧ r ≠ -2 ∧ Rel (B + 1) v1 p c a ∧ v1.1 12 5 = v.1 12 5) ∨
  (r = -2 ∧ Rel (B + 1) v1 p c a ∧ v1.1 12 5 ≠ 0) ∨
  (¬ r < 0 ∧ v1.1 12 5 = 0 ∧ Pg (B + 1) v1 p a ∧ ∃ a', Rel (B + 1) v1 ((p + 1) % 8) (min (c + 1) 6) a')
theorem call_one {C : MM → MR} (h : Rel B v p c a) (one : ∀ w, St 155 w ((p + 1) % 8) a → One B (C w) w ((p + 1) % 8) a) : ∃ (r : Int32) (w v1 : MM), fX6_draft v [SH] = some (w, some (nm 2 ((p + 1) % 8) 0)) ∧ bI (C w) (fun w1 r2 => bI (fX6_finish w1 [SH, nm 2 ((p + 1) % 8) 0, I r2]) (fun w3 r4 => some (w3, some (I r4)))) = some (v1, some (I r)) ∧ Ed B v p c a r v1 := by
  have hR := h
  obtain ⟨g1, g2, g3, g4, g5, g6, g7⟩ := h
  obtain ⟨w, ed, dw, fw⟩ := s_draft g3 g1
  obtain ⟨n, hn⟩ : ∃ n, n = (p + 1) % 8 := ⟨_, rfl⟩
  rw [← hn] at one ed dw fw ⊢
  have n8 : n < 8 := by omega
  have w155 : St 155 w n a := fun k hk => (dw k hk).trans (g6.1 k hk)
  have row : ∀ q, q ≠ n → w.1 q = v.1 q := fun q hq => fw.1 q hq
  rcases one w w155 with ⟨r, r0, r2, eC⟩ | ⟨y, y0, eC⟩ | ⟨m, a', w', hm, eC, hw', fC, hwf, hbal⟩
  · refine ⟨r, w, w, ed, (bI_eq eC).trans (bI_eq (s_finN n r0 r2)), Or.inl ⟨r0, r2, hR.keep (by rw [row 12 (by omega)]) (by rw [row 12 (by omega)]) (row 9 (by omega)) (fun q x y => row q (by omega)), by rw [row 12 (by omega)]⟩⟩
  · have r1 : ∀ q, q ≠ n → q ≠ 12 → (mUp (mUp w (n, 155) y) (12, 5) ((mUp w (n, 155) y).1 n 155)).1 q = v.1 q := fun q x z => ((Fr.up 12 5 _ _).1 q z).trans (((Fr.up n 155 w y).1 q x).trans (row q x))
    have r12 : ∀ o, o ≠ 5 → (mUp (mUp w (n, 155) y) (12, 5) ((mUp w (n, 155) y).1 n 155)).1 12 o = v.1 12 o := fun o ho => (mUp_o _ 12 5 o _ ho).trans ((congrFun ((Fr.up n 155 w y).1 12 (by omega)) o).trans (congrFun (row 12 (by omega)) o))
    refine ⟨-2, w, _, ed, (bI_eq eC).trans (bI_eq (s_finR n)), Or.inr (Or.inl ⟨rfl, hR.keep (r12 3 (by decide)) (r12 4 (by decide)) (r1 9 (by omega) (by decide)) (fun q x z => r1 q (by omega) (by omega)), ?_⟩)⟩
    rw [mUp_s, mUp_s]
    exact y0
  · have neg : ¬ nI m < 0 := ltF (n := 0) rfl rfl (by omega) hm
    have f : ∀ q, q ≠ n → w'.1 q = v.1 q := fun q hq => (fC.1 q hq).trans (row q hq)
    obtain ⟨v1, ef, x3, x4, x5, f1⟩ := s_finY (v := w') (p := p) (c := c) n neg ((congrFun (f 12 (by omega)) 3).trans g3) g1 ((congrFun (f 12 (by omega)) 4).trans g4) g2
    have fr : ∀ q, q ≠ n → q ≠ 12 → v1.1 q = v.1 q := fun q x z => (f1.1 q z).trans (f q x)
    refine ⟨nI m, w, v1, ed, (bI_eq eC).trans (bI_eq ef), Or.inr (Or.inr ⟨neg, x5, (g6.row (fr p (by omega) (by omega))).mono, a', ?_⟩)⟩
    refine hR.push x3 x4 (fr 9 (by omega) (by decide)) (fun q x z => fr q (by omega) (by omega)) ?_
    rw [← hn]
    exact ⟨hw'.row (f1.1 n (by omega)), hwf, hbal g6.2.2⟩
end
end
-- THE CALLS THAT EDIT
section
variable {B p c : Nat} {v : MM} {a : Nat → Nat}
/-- a call that edits, as the law sees it -/
def Cal (B : Nat) (v : MM) (p c : Nat) (a : Nat → Nat) (o : MR) : Prop := ∃ (r : Int32) (v1 : MM), o = some (v1, some (I r)) ∧ Ed B v p c a r v1
theorem l_setVariety (h : Rel B v p c a) (x1 x2 x3 x4 : Int32) : Cal B v p c a (fX6_setVariety v [SH, I x1, I x2, I x3, I x4]) := by
  obtain ⟨r, w, v1, e1, e2, e3⟩ := call_one (C := fun w => fX0_changeVariety w [nm 2 ((p + 1) % 8) 0, I x1, I x2, I x3, I x4]) h (fun w hw => o_setVariety hw h.2.2.2.2.2.1.2.1 x1 x2 x3 x4)
  exact ⟨r, v1, (qX6_setVariety v _ _ _ _).trans ((bN_eq e1).trans ((uX6_setVariety_2 w _ _ _ _ _).trans ((qX6_setVariety_2 w _ _ _ _ _).trans e2))), e3⟩
theorem l_setRates (h : Rel B v p c a) (x1 x2 x3 x4 : Int32) : Cal B v p c a (fX6_setRates v [SH, I x1, I x2, I x3, I x4]) := by
  obtain ⟨r, w, v1, e1, e2, e3⟩ := call_one (C := fun w => fX0_changeRates w [nm 2 ((p + 1) % 8) 0, I x1, I x2, I x3, I x4]) h (fun w hw => o_setRates hw h.2.2.2.2.2.1.2.1 x1 x2 x3 x4)
  exact ⟨r, v1, (qX6_setRates v _ _ _ _).trans ((bN_eq e1).trans ((uX6_setRates_2 w _ _ _ _ _).trans ((qX6_setRates_2 w _ _ _ _ _).trans e2))), e3⟩
theorem l_setLabel (h : Rel B v p c a) (x1 x2 x3 x4 x5 x6 : Int32) : Cal B v p c a (fX6_setLabel v [SH, I x1, I x2, I x3, I x4, I x5, I x6]) := by
  obtain ⟨r, w, v1, e1, e2, e3⟩ := call_one (C := fun w => fX0_changeLabel w [nm 2 ((p + 1) % 8) 0, I x1, I x2, I x3, I x4, I x5, I x6]) h (fun w hw => o_setLabel hw h.2.2.2.2.2.1.2.1 x1 x2 x3 x4 x5 x6)
  exact ⟨r, v1, (qX6_setLabel v _ _ _ _ _ _).trans ((bN_eq e1).trans ((uX6_setLabel_2 w _ _ _ _ _ _ _).trans ((qX6_setLabel_2 w _ _ _ _ _ _ _).trans e2))), e3⟩
theorem l_buy (h : Rel B v p c a) (x1 x2 : Int32) : Cal B v p c a (fX6_buy v [SH, I x1, I x2]) := by
  obtain ⟨r, w, v1, e1, e2, e3⟩ := call_one (C := fun w => fX0_buyLot w [nm 2 ((p + 1) % 8) 0, I x1, I x2]) h (fun w hw => o_buy hw h.2.2.2.2.2.1.2.1 x1 x2)
  exact ⟨r, v1, (qX6_buy v _ _).trans ((bN_eq e1).trans ((uX6_buy_2 w _ _ _).trans ((qX6_buy_2 w _ _ _).trans e2))), e3⟩
theorem l_addTank (h : Rel B v p c a) (x1 : Int32) : Cal B v p c a (fX6_addTank v [SH, I x1]) := by
  obtain ⟨r, w, v1, e1, e2, e3⟩ := call_one (C := fun w => fX0_openTank w [nm 2 ((p + 1) % 8) 0, I x1]) h (fun w hw => o_addTank hw h.2.2.2.2.2.1.2.1 x1)
  exact ⟨r, v1, (qX6_addTank v _).trans ((bN_eq e1).trans ((uX6_addTank_2 w _ _).trans ((qX6_addTank_2 w _ _).trans e2))), e3⟩
theorem l_press (h : Rel B v p c a) (x1 x2 x3 : Int32) : Cal B v p c a (fX6_press v [SH, I x1, I x2, I x3]) := by
  obtain ⟨r, w, v1, e1, e2, e3⟩ := call_one (C := fun w => fX0_pressLot w [nm 2 ((p + 1) % 8) 0, I x1, I x2, I x3]) h (fun w hw => r_press hw h.2.2.2.2.2.1.2.1 x1 x2 x3)
  exact ⟨r, v1, (qX6_press v _ _ _).trans ((bN_eq e1).trans ((uX6_press_2 w _ _ _ _).trans ((qX6_press_2 w _ _ _ _).trans e2))), e3⟩
theorem l_wet (h : Rel B v p c a) (hB : B ≤ 1100) (x1 x2 : Int32) : Cal B v p c a (fX6_wet v [SH, I x1, I x2]) := by
  obtain ⟨r, w, v1, e1, e2, e3⟩ := call_one (C := fun w => fX0_wetHeap w [nm 2 ((p + 1) % 8) 0, I x1, I x2]) h (fun w hw => r_wet hw h.2.2.2.2.2.1.2.1 hB x1 x2)
  exact ⟨r, v1, (qX6_wet v _ _).trans ((bN_eq e1).trans ((uX6_wet_2 w _ _ _).trans ((qX6_wet_2 w _ _ _).trans e2))), e3⟩
theorem l_sellPomace (h : Rel B v p c a) (hB : B ≤ 1100) : Cal B v p c a (fX6_sellPomace v [SH]) := by
  obtain ⟨r, w, v1, e1, e2, e3⟩ := call_one (C := fun w => fX0_sellHeap w [nm 2 ((p + 1) % 8) 0]) h (fun w hw => o_sellPomace hw h.2.2.2.2.2.1.2.1 hB)
  exact ⟨r, v1, (qX6_sellPomace v).trans ((bN_eq e1).trans ((uX6_sellPomace_2 w _).trans ((qX6_sellPomace_2 w _).trans e2))), e3⟩
theorem l_move (h : Rel B v p c a) (hB : B ≤ 1100) (x1 x2 x3 : Int32) : Cal B v p c a (fX6_move v [SH, I x1, I x2, I x3]) := by
  obtain ⟨r, w, v1, e1, e2, e3⟩ := call_one (C := fun w => fX0_moveJuice w [nm 2 ((p + 1) % 8) 0, I x1, I x2, I x3]) h (fun w hw => r_move hw h.2.2.2.2.2.1.2.1 hB x1 x2 x3)
  exact ⟨r, v1, (qX6_move v _ _ _).trans ((bN_eq e1).trans ((uX6_move_2 w _ _ _ _).trans ((qX6_move_2 w _ _ _ _).trans e2))), e3⟩
theorem l_rack (h : Rel B v p c a) (hB : B ≤ 1100) (x1 x2 : Int32) : Cal B v p c a (fX6_rack v [SH, I x1, I x2]) := by
  obtain ⟨r, w, v1, e1, e2, e3⟩ := call_one (C := fun w => fX0_rackJuice w [nm 2 ((p + 1) % 8) 0, I x1, I x2]) h (fun w hw => r_rack hw h.2.2.2.2.2.1.2.1 hB x1 x2)
  exact ⟨r, v1, (qX6_rack v _ _).trans ((bN_eq e1).trans ((uX6_rack_2 w _ _ _).trans ((qX6_rack_2 w _ _ _).trans e2))), e3⟩
theorem l_clean (h : Rel B v p c a) (x1 : Int32) : Cal B v p c a (fX6_clean v [SH, I x1]) := by
  obtain ⟨r, w, v1, e1, e2, e3⟩ := call_one (C := fun w => fX0_cleanTank w [nm 2 ((p + 1) % 8) 0, I x1]) h (fun w hw => r_clean hw h.2.2.2.2.2.1.2.1 x1)
  exact ⟨r, v1, (qX6_clean v _).trans ((bN_eq e1).trans ((uX6_clean_2 w _ _).trans ((qX6_clean_2 w _ _).trans e2))), e3⟩
theorem l_pour (h : Rel B v p c a) (hB : B ≤ 1100) (x1 : Int32) : Cal B v p c a (fX6_pour v [SH, I x1]) := by
  obtain ⟨r, w, v1, e1, e2, e3⟩ := call_one (C := fun w => fX0_pourJuice w [nm 2 ((p + 1) % 8) 0, I x1]) h (fun w hw => o_pour hw h.2.2.2.2.2.1.2.1 hB x1)
  exact ⟨r, v1, (qX6_pour v _).trans ((bN_eq e1).trans ((uX6_pour_2 w _ _).trans ((qX6_pour_2 w _ _).trans e2))), e3⟩
theorem l_bottle (h : Rel B v p c a) (hB : B ≤ 1100) (x1 x2 x3 x4 : Int32) : Cal B v p c a (fX6_bottle v [SH, I x1, I x2, I x3, I x4]) := by
  obtain ⟨r, w, v1, e1, e2, e3⟩ := call_one (C := fun w => fX0_bottleJuice w [nm 2 ((p + 1) % 8) 0, I x1, I x2, I x3, I x4]) h (fun w hw => o_bottle hw h.2.2.2.2.2.1.2.1 hB x1 x2 x3 x4)
  exact ⟨r, v1, (qX6_bottle v _ _ _ _).trans ((bN_eq e1).trans ((uX6_bottle_2 w _ _ _ _ _).trans ((qX6_bottle_2 w _ _ _ _ _).trans e2))), e3⟩
theorem l_day (h : Rel B v p c a) (hB : B ≤ 1100) : Cal B v p c a (fX6_day v [SH]) := by
  obtain ⟨r, w, v1, e1, e2, e3⟩ := call_one (C := fun w => fX0_passDay w [nm 2 ((p + 1) % 8) 0]) h (fun w hw => o_day hw h.2.2.2.2.2.1.2.1 hB)
  exact ⟨r, v1, (qX6_day v).trans ((bN_eq e1).trans ((uX6_day_2 w _).trans ((qX6_day_2 w _).trans e2))), e3⟩
theorem back_page (p : Nat) (h8 : p < 8) : ((nI p + (8 : Int32)) - (1 : Int32)) - ((nI p + (8 : Int32)) - (1 : Int32)) / (8 : Int32) * (8 : Int32) = nI ((p + 7) % 8) := by
  have hc : p = 0 ∨ p = 1 ∨ p = 2 ∨ p = 3 ∨ p = 4 ∨ p = 5 ∨ p = 6 ∨ p = 7 := by omega
  rcases hc with rfl | rfl | rfl | rfl | rfl | rfl | rfl | rfl <;> rfl
theorem l_undo0 (h : Rel B v p 0 a) : fX6_undo v [SH] = some (v, some (I (-2))) := (qX6_undo v).trans (if_neg (by rw [h.2.2.2.1]; decide))
theorem l_undo (h : Rel B v p c a) (hc : 0 < c) {b : Nat → Nat} (hb : Pg B v ((p + 7) % 8) b) : ∃ v1, fX6_undo v [SH] = some (v1, some (I (nI (c - 1)))) ∧ Rel B v1 ((p + 7) % 8) (c - 1) b ∧ v1.1 12 5 = v.1 12 5 := by
  obtain ⟨g1, g2, g3, g4, g5, g6, g7⟩ := h
  have hs : nI c - (1 : Int32) = nI (c - 1) := i_sub (b := 1) (by omega)
  have w4 : (mUp v (12, 3) (nI ((p + 7) % 8))).1 12 4 = nI c := (mUp_o _ 12 3 4 _ (by decide)).trans g4
  obtain ⟨v1, hv1⟩ : ∃ v1, v1 = mUp (mUp v (12, 3) (nI ((p + 7) % 8))) (12, 4) (nI (c - 1)) := ⟨_, rfl⟩
  have f1 : Fr 12 v v1 := by
    rw [hv1]
    exact (Fr.up 12 3 v _).tr (Fr.up 12 4 _ _)
  have x4 : v1.1 12 4 = nI (c - 1) := by
    rw [hv1]
    exact mUp_s _ _ _ _
  have x3 : v1.1 12 3 = nI ((p + 7) % 8) := by
    rw [hv1]
    exact (mUp_o _ 12 4 3 _ (by decide)).trans (mUp_s _ _ _ _)
  have x5 : v1.1 12 5 = v.1 12 5 := by
    rw [hv1]
    exact (mUp_o _ 12 4 5 _ (by decide)).trans (mUp_o _ 12 3 5 _ (by decide))
  refine ⟨v1, (qX6_undo v).trans ((if_pos (ltT (m := 0) rfl g4 (by omega) (by omega))).trans ?_), ⟨by omega, by omega, x3, x4, by rw [f1.1 9 (by decide)]; exact g5, hb.row (f1.1 _ (by omega)), fun q hq => ?_⟩, x5⟩
  · simp only [g3, back_page p g1, w4, hs, mUp_s]
    rw [hv1]
  · obtain ⟨d, d1⟩ := g7 q (by omega)
    have eq : ((p + 7) % 8 + 8 - (c - 1) + q) % 8 = (p + 8 - c + q) % 8 := by omega
    rw [eq]
    exact ⟨d, d1.row (f1.1 _ (by omega))⟩
end
