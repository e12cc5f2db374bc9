-- THE CALL daysTo
section
variable {B p c : Nat} {a : Nat → Nat} {v u : MM} {i j t : Nat}
def Ot9 (v v' : MM) : Prop := (∀ r, 9 ≤ r → r ≠ 12 → r ≠ 13 → r ≠ 14 → r ≠ 15 → r ≠ 16 → v'.1 r = v.1 r) ∧ (∀ o, o ≠ 2 → o ≠ 4 → v'.1 13 o = v.1 13 o) ∧ v'.2 = v.2
def Same9 (B : Nat) (v : MM) (o : MR) (o' : MM → MR) : Prop := ∃ (r : Int32) (v1 v2 : MM) (p' c' : Nat) (a' : Nat → Nat), o = some (v1, some (I r)) ∧ o' v1 = some (v2, some (I r)) ∧ Rel (B + 1) v2 p' c' a' ∧ Ot9 v v2
theorem Same.to9 {o : MR} {o' : MM → MR} (h : Same B v o o') : Same9 B v o o' := by
  obtain ⟨r, v1, v2, p', c', a', e, e', h2, ho⟩ := h
  exact ⟨r, v1, v2, p', c', a', e, e', h2, fun r h9 => ho.1 r (by omega), ho.2⟩
theorem I_any (x : Int32) : x = nI x.toBitVec.toNat := by
  apply Int32.toBitVec_inj.mp
  show x.toBitVec = BitVec.ofNat 32 x.toBitVec.toNat
  simp
theorem St.any (N : Nat) (v : MM) (r : Nat) : St N v r (fun k => (v.1 r k).toBitVec.toNat) := fun k _ => I_any _
theorem fb_cg {b : Nat → Nat} (e : ∀ k, k < 42 → b k = a k) (hj : j < 4) (J S A H : Nat) : fb b j J S A H = fb a j J S A H := by
  unfold fb
  rw [e (22 + 5 * j + 0) (by omega), e (22 + 5 * j + 1) (by omega), e (22 + 5 * j + 2) (by omega), e (22 + 5 * j + 3) (by omega), e (22 + 5 * j + 4) (by omega)]
def wk (a : Nat → Nat) (t : Nat) : Nat → Nat → Nat
  | 0 => a
  | n + 1 => aWork (wk a t n) t
theorem wk_DR (hw : Wf B a) (ht : t < 6) : ∀ n, DR a (wk a t n)
  | 0 => DR.rf hw
  | n + 1 => (wk_DR hw ht n).work hw ht
def fw (a : Nat → Nat) (j t n : Nat) : Nat := fb a j (wk a t n (60 + 7 * t + 1)) (wk a t n (60 + 7 * t + 2)) (wk a t n (60 + 7 * t + 3)) (wk a t n (60 + 7 * t + 4))
/-- the trial tank holds what the tank holds after n days -/
def Tr (v : MM) (a : Nat → Nat) (t n : Nat) : Prop := ∃ b, St 67 v 8 b ∧ ∀ f, f < 7 → b (60 + 7 * 0 + f) = wk a t n (60 + 7 * t + f)
theorem s_try {n : Nat} (hv : St 155 v p a) (hp : p < 8) (hw : Wf B a) (hB : B ≤ 1100) (ht : t < 6) (hj : j < 4) (h : Tr v a t n) : fX1_reasonAgainst v [nm 9 p j, nm 12 8 0] = some (v, some (I (nI (fw a j t n)))) := by
  obtain ⟨b, hb, e⟩ := h
  have sm := DR.small hw hB (wk_DR hw ht n) ht
  have ag := s_against hv (Or.inl hb) hw.1 hj (show 0 < 6 by omega) (Or.inl rfl) (fun f hf => by rw [e f hf]; have := sm f hf; omega)
  rw [e 1 (by omega), e 2 (by omega), e 3 (by omega), e 4 (by omega)] at ag
  exact ag
theorem s_tryday {n : Nat} (hv : St 155 v p a) (hp : p < 8) (hw : Wf B a) (hB : B ≤ 1100) (ht : t < 6) (h : Tr v a t n) : ∃ v', fX4_passDay v [nm 12 8 0, I (v.1 p 20), I (v.1 p 21)] = some (v', none) ∧ Tr v' a t (n + 1) ∧ Fr 8 v v' := by
  obtain ⟨b, hb, e⟩ := h
  have dr := wk_DR hw ht n
  have sm := DR.small hw hB dr ht
  have r20 : a 20 ≤ 1000 := hw.1 20 (by omega)
  have r21 : a 21 ≤ 1000 := hw.1 21 (by omega)
  obtain ⟨v', ev, hv', fv⟩ := s_tday (t := 0) hb (by omega) r20 r21 (fun f hf => by rw [e f hf]; have := sm f hf; omega) (by rw [e 4 (by omega), e 1 (by omega)]; exact (dr.2.2.2.2.1 t ht).1.2.2.1)
  rw [hv 20 (by omega), hv 21 (by omega)]
  refine ⟨v', ev, ⟨_, hv', ?_⟩, fv⟩
  have w20 : wk a t n 20 = a 20 := dr.1 20 (by omega)
  have w21 : wk a t n 21 = a 21 := dr.1 21 (by omega)
  obtain ⟨t0, t1, t2, t3, t4, t5, t6⟩ := aWork_t (b := wk a t n) (t := t)
  rw [w20] at t1 t4 t5
  rw [w21] at t2 t6
  have e0 := e 0 (by omega)
  have e1 := e 1 (by omega)
  have e2 := e 2 (by omega)
  have e3 := e 3 (by omega)
  have e4 := e 4 (by omega)
  have e5 := e 5 (by omega)
  have e6 := e 6 (by omega)
  intro f hf
  show aWrk b 0 (a 20) (a 21) (60 + 7 * 0 + f) = aWork (wk a t n) t (60 + 7 * t + f)
  unfold aWrk
  rcases (show f = 0 ∨ f = 1 ∨ f = 2 ∨ f = 3 ∨ f = 4 ∨ f = 5 ∨ f = 6 by omega) with rfl | rfl | rfl | rfl | rfl | rfl | rfl
  · rw [t0, ← e0]
    (try simp only [au]); (repeat (first | rw [if_pos trivial] | rw [if_pos (by omega)] | rw [if_neg (by omega)]))
  · rw [t1, ← e1, ← e4]
    (try simp only [au]); (repeat (first | rw [if_pos trivial] | rw [if_pos (by omega)] | rw [if_neg (by omega)]))
  · rw [t2, ← e2]
    (try simp only [au]); (repeat (first | rw [if_pos trivial] | rw [if_pos (by omega)] | rw [if_neg (by omega)]))
  · rw [t3, ← e3]
    (try simp only [au]); (repeat (first | rw [if_pos trivial] | rw [if_pos (by omega)] | rw [if_neg (by omega)]))
  · rw [t4, ← e4]
    (try simp only [au]); (repeat (first | rw [if_pos trivial] | rw [if_pos (by omega)] | rw [if_neg (by omega)]))
  · rw [t5, ← e5, ← e4]
    (try simp only [au]); (repeat (first | rw [if_pos trivial] | rw [if_pos (by omega)] | rw [if_neg (by omega)]))
  · rw [t6, ← e6, ← e2]
    (try simp only [au]); (repeat (first | rw [if_pos trivial] | rw [if_pos (by omega)] | rw [if_neg (by omega)]))
theorem m_try {n : Nat} (hu : St 151 u 14 (wk a t n)) (hw : Wf B a) (hB : B ≤ 1100) (ht : t < 6) (hj : j < 4) : fX7_forbids u [MO, I (nI t), I (nI j)] = some (u, some (I (nI (fw a j t n)))) := by
  have dr := wk_DR hw ht n
  have sm := DR.small hw hB dr ht
  have f := m_forbids hu (fun k hk => by rw [dr.1 k hk]; exact hw.1 k hk) hj ht (fun f hf => by have := sm f hf; omega)
  rw [fb_cg dr.1 hj] at f
  exact f
theorem m_back (h16 : St 151 u 16 a) : ∃ u', fX7_restores u [MO] = some (u', none) ∧ St 151 u' 14 a ∧ Fr 14 u u' := by
  obtain ⟨u', e, h, f⟩ := m_restores u
  exact ⟨u', e, fun k hk => (h k hk).trans (h16 k hk), f⟩
theorem days_loop (hp : p < 8) (hw : Wf B a) (hB : B ≤ 1100) (ht : t < 6) (hj : j < 4) : ∀ d n (v : MM), d + n = 60 → St 155 v p a → Tr v a t n → ∃ r v', gX6_daysTo_23 v p (nI n) (nI t) (nI j) = some (v', some (I r)) ∧ Fr 8 v v' ∧ ∀ u, St 151 u 14 (wk a t n) → St 151 u 16 a → ∃ u', gX7_daysTo_15 u (nI n) (nI t) (nI j) = some (u', some (I r)) ∧ St 151 u' 14 a ∧ Fr 14 u u'
  | d, n, v, e, hv, hT => by
    have q : (nI j).toNatClampNeg = j := nI_clamp (by omega)
    have n60 : ¬ (60 : Int32) < nI n := ltF (m := 60) rfl rfl (by omega) (by omega)
    have ag := s_try hv hp hw hB ht hj hT
    have f6 : fw a j t n ≤ 6 := fb_le _ _ _ _ _ _
    by_cases z : fw a j t n = 0
    · refine ⟨nI n, v, (qX6_daysTo_23 v p _ _ _).trans ((if_neg n60).trans ?_), Fr.rf 8 v, fun u hu h16 => ?_⟩
      · simp only [q]
        refine (if_pos (mIn_nI hj (by omega))).trans ((bI_eq ag).trans ?_)
        exact if_pos (eqT (n := 0) rfl rfl z)
      · have fg := m_try hu hw hB ht hj
        obtain ⟨ur, er, hr, fr⟩ := m_back h16
        refine ⟨ur, (qX7_daysTo_15 u _ _ _).trans ?_, hr, fr⟩
        by_cases n6 : n < 60
        · refine (if_pos (ltT (n := 60) rfl rfl n6 (by omega))).trans ((bI_eq fg).trans ?_)
          refine (if_neg (ltF (m := 0) rfl rfl (by omega) (by omega))).trans ((bI_eq fg).trans ?_)
          exact (if_pos (eqT (n := 0) rfl rfl z)).trans ((bV_eq er).trans (if_neg (by decide)))
        · refine (if_neg (ltF (n := 60) rfl rfl (by omega) (by omega))).trans ((bI_eq fg).trans ?_)
          exact (if_pos (eqT (n := 0) rfl rfl z)).trans ((bV_eq er).trans (if_neg (by decide)))
    · obtain ⟨v', ev, hT', fv⟩ := s_tryday hv hp hw hB ht hT
      have hv' : St 155 v' p a := hv.fr fv (by omega)
      have go : gX6_daysTo_23 v p (nI n) (nI t) (nI j) = gX6_daysTo_23 v' p (nI (n + 1)) (nI t) (nI j) := by
        refine (qX6_daysTo_23 v p _ _ _).trans ((if_neg n60).trans ?_)
        simp only [q]
        refine (if_pos (mIn_nI hj (by omega))).trans ((bI_eq ag).trans ?_)
        refine (if_neg (eqF (n := 0) rfl rfl z (by omega) (by omega))).trans ((bV_eq ev).trans ?_)
        exact congrArg (fun z => gX6_daysTo_23 v' p z (nI t) (nI j)) (i_add n 1)
      match d, e with
      | 0, e =>
        have e60 : n = 60 := by omega
        refine ⟨-9, v', go.trans ((qX6_daysTo_23 v' p _ _ _).trans (if_pos (ltT (m := 60) rfl rfl (by omega) (by omega)))), fv, fun u hu h16 => ?_⟩
        have fg := m_try hu hw hB ht hj
        obtain ⟨ur, er, hr, fr⟩ := m_back h16
        refine ⟨ur, (qX7_daysTo_15 u _ _ _).trans ?_, hr, fr⟩
        refine (if_neg (ltF (n := 60) rfl rfl (by omega) (by omega))).trans ((bI_eq fg).trans ?_)
        exact (if_neg (eqF (n := 0) rfl rfl z (by omega) (by omega))).trans ((bV_eq er).trans (if_pos rfl))
      | d + 1, e =>
        obtain ⟨r, v2, y1, y2, y3⟩ := days_loop hp hw hB ht hj d (n + 1) v' (by omega) hv' hT'
        refine ⟨r, v2, go.trans y1, fv.tr y2, fun u hu h16 => ?_⟩
        have fg := m_try hu hw hB ht hj
        have dr := wk_DR hw ht n
        have sm := DR.small hw hB dr ht
        obtain ⟨u1, e1, h1, f1⟩ := m_works hu ht (by rw [dr.1 20 (by omega)]; exact hw.1 20 (by omega)) (by rw [dr.1 21 (by omega)]; exact hw.1 21 (by omega)) sm (dr.2.2.2.2.1 t ht).1.2.2.1
        obtain ⟨u2, y4, y5, y6⟩ := y3 u1 h1 (h16.fr f1 (by decide))
        refine ⟨u2, (qX7_daysTo_15 u _ _ _).trans ?_, y5, f1.tr y6⟩
        refine (if_pos (ltT (n := 60) rfl rfl (by omega) (by omega))).trans ((bI_eq fg).trans ?_)
        refine (if_pos (ltT (m := 0) rfl rfl (by omega) (by omega))).trans ((bV_eq e1).trans ?_)
        exact (congrArg (fun z => gX7_daysTo_15 u1 z (nI t) (nI j)) (i_add n 1)).trans y4
/-- a call that puts everything back -/
theorem Same9.back (h : Rel B v p c a) {o : MR} {o' : MM → MR} {v1 v2 : MM} (r : Int32) (e : o = some (v1, some (I r))) (f : Fr 8 v v1) (e' : o' v1 = some (v2, some (I r))) (s : St 151 v2 14 a) (g : ∀ q, q ≠ 14 → q ≠ 16 → v2.1 q = v1.1 q) (g2 : v2.2 = v1.2) : Same9 B v o o' := by
  have w : ∀ q, q ≠ 8 → q ≠ 14 → q ≠ 16 → v2.1 q = v.1 q := fun q a1 a2 a3 => (g q a2 a3).trans (f.1 q a1)
  have w12 := w 12 (by decide) (by decide) (by decide)
  have w13 := w 13 (by decide) (by decide) (by decide)
  exact ⟨r, v1, v2, p, c, a, e, e', h.keep (by rw [w12]) (by rw [w12]) (by rw [w13]) (by rw [w12, w13]; exact h.2.2.2.2.2.1) s (fun q hq _ => w q (by omega) (by omega) (by omega)) (w 15 (by decide) (by decide) (by decide)), fun q h9 _ _ h14 _ h16 => w q (by omega) h14 h16, fun o _ _ => by rw [w13], g2.trans f.2⟩
theorem k_daysTo (h : Rel B v p c a) (hB : B ≤ 1100) (x1 x2 : Int32) : Same9 B v (fX6_daysTo v [SH, I x1, I x2]) (fun w => fX7_daysTo w [MO, I x1, I x2]) := by
  have hR := h
  obtain ⟨g1, g2, g3, g4, g5, g6, hv, hu, hw, -⟩ := h
  have st : ∀ r, gX6_daysTo_2 v p x1 x2 = some (v, some (I r)) → fX7_daysTo v [MO, I x1, I x2] = some (v, some (I r)) → Same9 B v (fX6_daysTo v [SH, I x1, I x2]) (fun w => fX7_daysTo w [MO, I x1, I x2]) := fun r e e' => (Same.of hR r ((qX6_daysTo v _ _).trans ((bN_eq (s_books g3 g1)).trans ((uX6_daysTo_2 v p _ _).trans e))) e').to9
  by_cases c1 : mIn x1 (a 59)
  · by_cases c2 : 0 ≤ x2 ∧ x2 ≤ 3
    · obtain ⟨t, ht, ht31, rfl⟩ := mIn_ex c1
      obtain ⟨j, hj, rfl⟩ := inM (M := 3) (by omega) c2.1 c2.2
      have h6 : a 59 ≤ 6 := hw.2.2.2.1.1
      have ht6 : t < 6 := by omega
      have qt := nI_clamp ht31
      have rd : ∀ f, f < 7 → v.1 p (60 + 7 * t + f) = nI (a (60 + 7 * t + f)) := fun f hf => hv _ (by omega)
      obtain ⟨v0, e0, s0, f0⟩ : ∃ v0, fX4_copyFrom v [nm 12 8 0, nm 12 p t] = some (v0, none) ∧ Tr v0 a t 0 ∧ Fr 8 v v0 := by
        have nr : ∀ (w : MM) (o : Nat) (x : Int32), (mUp w (8, o) x).1 p = w.1 p := fun w o x => (Fr.up 8 o w x).1 p (by omega)
        refine ⟨_, (qX4_copyFrom v 8 0 p t).trans rfl, ?_, ((((((Fr.up _ _ _ _).tr (Fr.up _ _ _ _)).tr (Fr.up _ _ _ _)).tr (Fr.up _ _ _ _)).tr (Fr.up _ _ _ _)).tr (Fr.up _ _ _ _)).tr (Fr.up _ _ _ _)⟩
        simp only [nr]
        rw [rd 0 (by omega), rd 1 (by omega), rd 2 (by omega), rd 3 (by omega), rd 4 (by omega), rd 5 (by omega), rd 6 (by omega)]
        refine ⟨_, (((((((St.any 67 v 8).up rfl).up rfl).up rfl).up rfl).up rfl).up rfl).up rfl, fun f hf => ?_⟩
        show _ = a (60 + 7 * t + f)
        rcases (show f = 0 ∨ f = 1 ∨ f = 2 ∨ f = 3 ∨ f = 4 ∨ f = 5 ∨ f = 6 by omega) with rfl | rfl | rfl | rfl | rfl | rfl | rfl
        all_goals ((try simp only [au]); (repeat (first | rw [if_pos trivial] | rw [if_pos (by omega)] | rw [if_neg (by omega)])))
      have hv0 : St 155 v0 p a := hv.fr f0 (by omega)
      obtain ⟨r, v1, y1, y2, y3⟩ := days_loop g1 hw hB ht6 (show j < 4 by omega) 60 0 v0 rfl hv0 s0
      have u1 : St 151 v1 14 a := (hu.fr f0 (by decide)).fr y2 (by decide)
      obtain ⟨ue, ee, he, fe⟩ := m_keeps v1
      obtain ⟨u2, y4, y5, y6⟩ := y3 ue (u1.fr fe (by decide)) (fun k hk => (he k hk).trans (u1 k hk))
      refine Same9.back hR r ((qX6_daysTo v _ _).trans ((bN_eq (s_books g3 g1)).trans ((uX6_daysTo_2 v p _ _).trans ((qX6_daysTo_2 v p _ _).trans ?_)))) (f0.tr y2) ((qX7_daysTo v1 _ _).trans ?_) y5 (fun q a1 a2 => (y6.1 q a1).trans (fe.1 q a2)) (y6.2.trans fe.2)
      · refine (bI_eq (s_tT hv hw c1)).trans ((if_neg (by decide)).trans ((bI_eq (s_wT c2)).trans ((if_neg (by decide)).trans ?_)))
        simp only [qt]
        exact (if_pos (mIn_nI ht6 (by omega))).trans ((bV_eq e0).trans y1)
      · refine (bI_eq (m_tT u1 hw c1)).trans ((if_neg (by decide)).trans ((bI_eq (m_inT c2)).trans ((if_neg (by decide)).trans ?_)))
        exact (bV_eq ee).trans y4
    · exact st (-1) ((qX6_daysTo_2 v p _ _).trans ((bI_eq (s_tT hv hw c1)).trans ((if_neg (by decide)).trans ((bI_eq (s_wF c2)).trans (if_pos rfl))))) ((qX7_daysTo v _ _).trans ((bI_eq (m_tT hu hw c1)).trans ((if_neg (by decide)).trans ((bI_eq (m_inF c2)).trans (if_pos rfl)))))
  · exact st (-1) ((qX6_daysTo_2 v p _ _).trans ((bI_eq (s_tF hv hw c1)).trans (if_pos rfl))) ((qX7_daysTo v _ _).trans ((bI_eq (m_tF hu hw c1)).trans (if_pos rfl)))
end
