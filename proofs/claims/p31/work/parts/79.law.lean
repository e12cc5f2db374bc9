-- THE LAW'S LOOP
section
variable {B p c : Nat} {v : MM} {a : Nat → Nat} {S : MSc}
abbrev SC : MV := nm 22 0 0
/-- comes to an end with true -/
def W1 (o : MR) : Prop := ∃ v', o = some (v', some (I 1))
theorem W1.eq {o o' : MR} (e : o = o') (h : W1 o') : W1 o := by
  rw [e]
  exact h
theorem W1.sub {F : Nat → MF} {cd : List MI} {i : Nat} {l l' : ML} {v : MM} (ps : List Nat) (hp : ps.map (fun k => l'[k]?) = l.map some) (hd : dupF l' = true) (h : W1 (rLim F cd i l [] v)) : W1 (rLim F cd i l' [] v) := by
  obtain ⟨v', e⟩ := h
  exact ⟨v', rL_sub ps hp hd e⟩
theorem law_198 (h : Rel B v p c a) : W1 (rLim (FL_law S) cdL_law 198 [(2, I (nI c)), (1, SH), (0, SC)] [] v) := by
  refine W1.eq (qL_law_198 S v _) ?_
  have hc6 := h.2.1
  by_cases z : c = 0
  · subst z
    exact W1.eq (bI_eq (l_undo0 h)) (W1.eq (if_pos rfl) (W1.eq (if_pos rfl) ⟨v, rfl⟩))
  · obtain ⟨b, hb⟩ := h.2.2.2.2.2.2 (c - 1) (by omega)
    have ep : (p + 8 - c + (c - 1)) % 8 = (p + 7) % 8 := by omega
    rw [ep] at hb
    obtain ⟨v1, e1, -, -⟩ := l_undo h (by omega) hb
    refine W1.eq (bI_eq e1) (W1.eq (if_neg (eqF (n := 0) rfl rfl z (by omega) (by omega))) (W1.eq (if_pos ?_) ⟨v1, rfl⟩))
    exact (i_sub (a := c) (b := 1) (by omega)).symm
/-- what is asked of each tank -/
theorem law_152 (h : Rel B v p c a) (hB : B ≤ 1100) {t : Nat} (ht : t < a 59) (e : Int32) (next : W1 (rLim (FL_law S) cdL_law 164 [(10, I (nI t)), (3, I e), (2, I (nI c)), (1, SH), (0, SC)] [] v)) : ∀ d k, d + k = 8 → 1 ≤ k → W1 (rLim (FL_law S) cdL_law 152 [(11, I (nI k)), (10, I (nI t)), (3, I e), (2, I (nI c)), (1, SH), (0, SC)] [] v)
  | 0, k, ek, _ => by
    have ek : k = 8 := by omega
    subst ek
    exact W1.eq (qL_law_152 S v _ _ _ _) (W1.eq (if_neg (by decide)) (next.sub [1, 2, 3, 4, 5] rfl rfl))
  | d + 1, k, ek, h1 => by
    have hk : k < 8 := by omega
    have h6 := h.2.2.2.2.2.1.2.1.2.2.2.1.1
    have tl := h.2.2.2.2.2.1.2.1.tk_le hB (show t < 6 by omega)
    refine W1.eq (qL_law_152 S v _ _ _ _) (W1.eq (if_pos (ltT (n := 8) rfl rfl hk (by omega))) (W1.eq (bI_eq (u_tank h (show t < 6 by omega) (n := k) (by omega))) ?_))
    have hn : ¬ tnk a t k < 0 := by
      unfold tnk
      rw [if_pos ht]
      refine ltF (n := 0) rfl rfl (by omega) ?_
      by_cases z : k = 7
      · rw [if_pos z]
        have := tl 0 (by omega)
        omega
      · rw [if_neg z]
        have := tl k (by omega)
        omega
    refine W1.eq (if_neg hn) ?_
    rw [nx]
    exact law_152 h hB ht e next d (k + 1) (by omega) (by omega)
theorem law_145 (h : Rel B v p c a) (hB : B ≤ 1100) (e : Int32) (next : W1 (rLim (FL_law S) cdL_law 12 [(3, I (e + 1)), (2, I (nI c)), (1, SH), (0, SC)] [] v)) : ∀ d t, d + t = a 59 → W1 (rLim (FL_law S) cdL_law 145 [(10, I (nI t)), (3, I e), (2, I (nI c)), (1, SH), (0, SC)] [] v)
  | 0, t, et => by
    have h6 := h.2.2.2.2.2.1.2.1.2.2.2.1.1
    refine W1.eq (qL_law_145 S v _ _ _) (W1.eq (bI_eq (u_count h (k := 1) (by omega) (by omega) (by omega))) (W1.eq (if_neg (ltF (m := t) (n := a 59) rfl rfl (by omega) (by omega))) (W1.sub (l := [(3, I e), (2, I (nI c)), (1, SH), (0, SC)]) [1, 2, 3, 4] rfl rfl ?_)))
    exact W1.eq (qL_law_196 S v _ _) next
  | d + 1, t, et => by
    have h6 := h.2.2.2.2.2.1.2.1.2.2.2.1.1
    have ht : t < a 59 := by omega
    have t6 : t < 6 := by omega
    have tl := h.2.2.2.2.2.1.2.1.tk_le hB t6
    obtain ⟨⟨w0, w1, w4, wz⟩, -⟩ := h.2.2.2.2.2.1.2.1.2.2.2.1.2 t t6
    have v0 : tnk a t 0 = nI (a (60 + 7 * t + 0)) := if_pos ht
    have v1 : tnk a t 1 = nI (a (60 + 7 * t + 1)) := if_pos ht
    have v4 : tnk a t 4 = nI (a (60 + 7 * t + 4)) := if_pos ht
    have v5 : tnk a t 5 = nI (a (60 + 7 * t + 5)) := if_pos ht
    have v7 : tnk a t 7 = nI (a (60 + 7 * t + 0) - a (60 + 7 * t + 1) - a (60 + 7 * t + 5)) := if_pos ht
    have ih := law_145 h hB e next d (t + 1) (by omega)
    have mid : W1 (rLim (FL_law S) cdL_law 164 [(10, I (nI t)), (3, I e), (2, I (nI c)), (1, SH), (0, SC)] [] v) := by
      refine W1.eq (qL_law_164 S v _ _ _) (W1.eq (bI_eq (u_tank h t6 (n := 1) (by omega))) (W1.eq (bI_eq (u_tank h t6 (n := 5) (by omega))) (W1.eq (bI_eq (u_tank h t6 (n := 7) (by omega))) (W1.eq (bI_eq (u_tank h t6 (n := 0) (by omega))) (W1.eq (if_pos ?_) (W1.eq (bI_eq (u_tank h t6 (n := 4) (by omega))) (W1.eq (bI_eq (u_tank h t6 (n := 1) (by omega))) (W1.eq (if_neg ?_) ?_))))))))
      · rw [v1, v5, v7, v0, i_add, i_add]
        exact congrArg nI (by omega)
      · rw [v1, v4]
        have := tl 1 (by omega)
        exact ltF rfl rfl w4 (by omega)
      · rw [nx]
        exact ih
    refine W1.eq (qL_law_145 S v _ _ _) (W1.eq (bI_eq (u_count h (k := 1) (by omega) (by omega) (by omega))) (W1.eq (if_pos (ltT (m := t) (n := a 59) rfl rfl ht (by omega))) ?_))
    exact law_152 h hB ht e mid 7 1 rfl (by omega)
theorem law_125 (h : Rel B v p c a) (hB : B ≤ 1100) (e : Int32) (next : W1 (rLim (FL_law S) cdL_law 12 [(3, I (e + 1)), (2, I (nI c)), (1, SH), (0, SC)] [] v)) : W1 (rLim (FL_law S) cdL_law 125 [(9, I (nI (sm (fun j => acc a (2 + j)) 9))), (3, I e), (2, I (nI c)), (1, SH), (0, SC)] [] v) := by
  have hb : Bal a := h.2.2.2.2.2.1.2.2
  refine W1.eq (qL_law_125 S v _ _ _) (W1.eq (bI_eq (u_acc h (k := 0) (by omega))) (W1.eq (bI_eq (u_acc h (k := 1) (by omega))) (W1.eq (if_pos ?_) (W1.eq (bI_eq (u_acc h (k := 8) (by omega))) (W1.eq (bI_eq (u_count h (k := 2) (by omega) (by omega) (by omega))) (W1.eq (if_pos rfl) ?_))))))
  · rw [i_add]
    refine congrArg nI ?_
    unfold Bal at hb
    show a 104 + a 105 = 0 + a 106 + a 107 + a 108 + a 109 + a 110 + SL a + a 102 + SJ a + SE a
    omega
  · exact (law_145 h hB e next (a 59) 0 rfl).sub [0, 2, 3, 4, 5] rfl rfl
theorem law_114 (h : Rel B v p c a) (hB : B ≤ 1100) (e : Int32) (next : W1 (rLim (FL_law S) cdL_law 12 [(3, I (e + 1)), (2, I (nI c)), (1, SH), (0, SC)] [] v)) : ∀ d k, d + k = 9 → W1 (rLim (FL_law S) cdL_law 114 [(10, I (nI (2 + k))), (9, I (nI (sm (fun j => acc a (2 + j)) k))), (3, I e), (2, I (nI c)), (1, SH), (0, SC)] [] v)
  | 0, k, ek => by
    have ek : k = 9 := by omega
    subst ek
    exact W1.eq (qL_law_114 S v _ _ _ _) (W1.eq (if_neg (by decide)) ((law_125 h hB e next).sub [1, 2, 3, 4, 5] rfl rfl))
  | d + 1, k, ek => by
    have hk : k < 9 := by omega
    have ih := law_114 h hB e next d (k + 1) (by omega)
    refine W1.eq (qL_law_114 S v _ _ _ _) (W1.eq (if_pos (ltT (m := 2 + k) (n := 11) rfl rfl (by omega) (by omega))) (W1.eq (bI_eq (u_acc h (k := 2 + k) (by omega))) ?_))
    rw [nx, i_add]
    exact ih
theorem law_103 (h : Rel B v p c a) (hB : B ≤ 1100) (e : Int32) (next : W1 (rLim (FL_law S) cdL_law 12 [(3, I (e + 1)), (2, I (nI c)), (1, SH), (0, SC)] [] v)) : W1 (rLim (FL_law S) cdL_law 103 [(3, I e), (2, I (nI c)), (1, SH), (0, SC)] [] v) :=
  W1.eq (qL_law_103 S v _ _) (W1.eq (bI_eq (u_saved h)) (W1.eq (if_pos rfl) (law_114 h hB e next 9 0 rfl)))
theorem cell_ex {S : MSc} (hS : S.1 ≤ 260) (v : MM) {e : Nat} (he : e < 44) : ∃ w, fL_cell S v [SC, I (nI e)] = some (v, some (I w)) := by
  have e98 : FL_cell S 98 v [] = some (v, some (I (nI S.1))) := rfl
  by_cases c : e < S.1
  · exact ⟨_, (qL_cell S v _).trans ((bI_eq e98).trans ((if_pos (ltT rfl rfl c (by omega))).trans (bI_eq (f99_eq (mIn_nI c (by omega))))))⟩
  · exact ⟨_, (qL_cell S v _).trans ((bI_eq e98).trans (if_neg (ltF rfl rfl (Nat.not_lt.mp c) (by omega))))⟩
theorem cmp0 (x : Int64) : lg_cmp x x = 0 := (lg_cmp_eq x x).mpr rfl
/-- behind an edit that was refused -/
theorem law_64n (h : Rel B v p c a) (hB : B ≤ 1100) {r : Int32} (hr : r < 0) (e w : Int32) (z : Int64) (next : W1 (rLim (FL_law S) cdL_law 12 [(3, I (e + 1)), (2, I (nI c)), (1, SH), (0, SC)] [] v)) : W1 (rLim (FL_law S) cdL_law 64 [(8, I r), (5, L z), (4, I w), (3, I e), (2, I (nI c)), (1, SH), (0, SC)] [] v) := by
  refine W1.eq (qL_law_64 S v _ _ _ _ _) (W1.eq (if_pos hr) (W1.sub (l := [(8, I r), (5, L z), (4, I w), (3, I e), (2, I (nI c)), (1, SH), (0, SC)]) [1, 2, 3, 4, 0, 5, 6] rfl rfl ?_))
  exact W1.eq (qL_law_77 S v _ _ _ _ _) (W1.eq (if_pos hr) ((law_103 h hB e next).sub [3, 4, 5, 6] rfl rfl))
/-- behind an edit -/
theorem law_64y {v : MM} {p c : Nat} {a a' : Nat → Nat} (hp8 : p < 8) (hc6 : c ≤ 6) (h : Rel B v ((p + 1) % 8) (min (c + 1) 6) a') (hp : Pg B v p a) (h5 : v.1 12 5 = 0) (hB : B ≤ 1100) {r : Int32} (hr : ¬ r < 0) (e w : Int32) {x : Int64} (hx : ∀ (B : Nat) (v : MM) (p c : Nat), Rel B v p c a → fL_tale v [SH] = some (v, some (L x))) (next : ∀ (v : MM) (p c : Nat) (a : Nat → Nat), Rel B v p c a → W1 (rLim (FL_law S) cdL_law 12 [(3, I (e + 1)), (2, I (nI c)), (1, SH), (0, SC)] [] v)) : W1 (rLim (FL_law S) cdL_law 64 [(8, I r), (5, L x), (4, I w), (3, I e), (2, I (nI c)), (1, SH), (0, SC)] [] v) := by
  have mid : W1 (rLim (FL_law S) cdL_law 77 [(8, I r), (5, L x), (4, I w), (3, I e), (2, I (nI (min (c + 1) 6))), (1, SH), (0, SC)] [] v) := by
    refine W1.eq (qL_law_77 S v _ _ _ _ _) (W1.eq (if_neg hr) ?_)
    by_cases d : ((w >>> ((28 : Int32) &&& 31)) &&& (3 : Int32)) = 0
    · have ep : ((p + 1) % 8 + 7) % 8 = p := by omega
      obtain ⟨v2, e2, h2, y5⟩ := l_undo h (by omega) (b := a) (by rw [ep]; exact hp)
      rw [ep] at h2
      refine W1.eq (if_pos d) (W1.eq (bI_eq e2) (W1.eq (if_pos ?_) (W1.eq (bL_eq (hx _ v2 p _ h2)) (W1.eq (if_pos (cmp0 x)) (W1.eq (bI_eq (u_why h2)) (W1.eq (if_pos (y5.trans h5)) (W1.sub (l := [(3, I e), (2, I (nI (min (c + 1) 6) + (-1 : Int32))), (1, SH), (0, SC)]) [4, 0, 5, 6] rfl rfl ?_)))))))
      · exact (i_sub (a := min (c + 1) 6) (b := 1) (by omega)).symm
      · have e1 : nI (min (c + 1) 6) + (-1 : Int32) = nI (min (c + 1) 6 - 1) := (i_addneg (nI (min (c + 1) 6)) 1).trans (i_sub (a := min (c + 1) 6) (b := 1) (by omega))
        rw [e1]
        exact law_103 h2 hB e (next _ _ _ _ h2)
    · exact W1.eq (if_neg d) ((law_103 h hB e (next _ _ _ _ h)).sub [3, 4, 5, 6] rfl rfl)
  refine W1.eq (qL_law_64 S v _ _ _ _ _) (W1.eq (if_neg hr) ?_)
  by_cases z : c < 6
  · refine W1.eq (if_pos (ltT (n := 6) rfl rfl z (by omega))) (W1.sub (l := [(8, I r), (5, L x), (4, I w), (3, I e), (2, I (nI c + (1 : Int32))), (1, SH), (0, SC)]) [1, 2, 3, 4, 0, 5, 6] rfl rfl ?_)
    rw [nx, show c + 1 = min (c + 1) 6 by omega]
    exact mid
  · refine W1.eq (if_neg (ltF (n := 6) rfl rfl (by omega) (by omega))) (W1.sub (l := [(8, I r), (5, L x), (4, I w), (3, I e), (2, I (nI 6)), (1, SH), (0, SC)]) [1, 2, 3, 4, 0, 5, 6] rfl rfl ?_)
    rw [show min (c + 1) 6 = 6 by omega] at mid
    exact mid
theorem law_loop {S : MSc} (hS : S.1 ≤ 260) : ∀ d e, d + e = 44 → ∀ (v : MM) (p c : Nat) (a : Nat → Nat), Rel e v p c a → W1 (rLim (FL_law S) cdL_law 12 [(3, I (nI e)), (2, I (nI c)), (1, SH), (0, SC)] [] v)
  | 0, e, ee => by
    intro v p c a h
    have ee : e = 44 := by omega
    subst ee
    exact W1.eq (qL_law_12 S v _ _) (W1.eq (if_neg (by decide)) ((law_198 h).sub [1, 2, 3] rfl rfl))
  | d + 1, e, ee => by
    intro v p c a h
    have he : e < 44 := by omega
    have next : ∀ (v : MM) (p c : Nat) (a : Nat → Nat), Rel (e + 1) v p c a → W1 (rLim (FL_law S) cdL_law 12 [(3, I (nI e + 1)), (2, I (nI c)), (1, SH), (0, SC)] [] v) := by
      intro v p c a h
      rw [nx]
      exact law_loop hS d (e + 1) (by omega) v p c a h
    obtain ⟨w, ew⟩ := cell_ex hS v he
    obtain ⟨x, hx⟩ := tale_ex a
    obtain ⟨r, v1, e1, ed⟩ := does_ex h (by omega) w
    refine W1.eq (qL_law_12 S v _ _) (W1.eq (if_pos (ltT (n := 44) rfl rfl he (by omega))) (W1.eq (bI_eq ew) (W1.eq (bL_eq (hx _ v p c h)) (W1.eq (bI_eq (u_why h)) (W1.eq (bI_eq e1) ?_)))))
    rcases ed with ⟨r0, r2, h1, y5⟩ | ⟨r2, h1, y5⟩ | ⟨r0, y5, hp, a', h1⟩
    · refine W1.eq (if_pos r0) (W1.eq (bL_eq (hx _ v1 p c h1)) (W1.eq (if_pos (cmp0 x)) ?_))
      refine W1.eq (qL_law_39 S v1 _ _ _ _ _ _) (W1.eq (if_pos r0) (W1.eq (if_pos r0) (W1.eq (if_neg r2) (W1.eq (bI_eq (u_why h1)) (W1.eq (if_pos y5) (W1.eq (if_neg r2) (W1.sub (l := [(8, I r), (5, L x), (4, I w), (3, I (nI e)), (2, I (nI c)), (1, SH), (0, SC)]) [0, 2, 3, 4, 5, 6, 7] rfl rfl ?_)))))))
      exact law_64n h1 (by omega) r0 _ _ _ (next _ _ _ _ h1)
    · have r0 : r < 0 := by
        rw [r2]
        decide
      refine W1.eq (if_pos r0) (W1.eq (bL_eq (hx _ v1 p c h1)) (W1.eq (if_pos (cmp0 x)) ?_))
      refine W1.eq (qL_law_39 S v1 _ _ _ _ _ _) (W1.eq (if_pos r0) (W1.eq (if_pos r0) (W1.eq (if_pos r2) (W1.eq (if_pos r2) (W1.eq (bI_eq (u_why h1)) (W1.eq (if_neg y5) (W1.sub (l := [(8, I r), (5, L x), (4, I w), (3, I (nI e)), (2, I (nI c)), (1, SH), (0, SC)]) [0, 2, 3, 4, 5, 6, 7] rfl rfl ?_)))))))
      exact law_64n h1 (by omega) r0 _ _ _ (next _ _ _ _ h1)
    · have r2 : ¬ r = (-2 : Int32) := fun z => r0 (by rw [z]; decide)
      refine W1.eq (if_neg r0) ?_
      refine W1.eq (qL_law_39 S v1 _ _ _ _ _ _) (W1.eq (if_neg r0) (W1.eq (bI_eq (u_why h1)) (W1.eq (if_pos y5) (W1.eq (if_neg r0) (W1.eq (if_neg r2) (W1.sub (l := [(8, I r), (5, L x), (4, I w), (3, I (nI e)), (2, I (nI c)), (1, SH), (0, SC)]) [0, 2, 3, 4, 5, 6, 7] rfl rfl ?_))))))
      exact law_64y h.1 h.2.1 h1 hp y5 (by omega) r0 _ _ hx next
end
