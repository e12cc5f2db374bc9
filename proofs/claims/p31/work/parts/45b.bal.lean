-- THE ACCOUNTS ADD UP
def SL (a : Nat → Nat) : Nat := sm (lot a) 8
def SJ (a : Nat → Nat) : Nat := sm (fun j => a (60 + 7 * j + 1)) 6
def SE (a : Nat → Nat) : Nat := sm (fun j => a (60 + 7 * j + 5)) 6
def Bal (a : Nat → Nat) : Prop := a 104 + a 105 = a 106 + a 107 + a 108 + a 109 + a 110 + SL a + a 102 + SJ a + SE a
section
variable {a b : Nat → Nat}
theorem SL_cg (e : ∀ j, j < 8 → b (43 + 2 * j + 1) = a (43 + 2 * j + 1)) : SL b = SL a := sm_cg (fun j hj => e j hj)
theorem SJ_cg (e : ∀ j, j < 6 → b (60 + 7 * j + 1) = a (60 + 7 * j + 1)) : SJ b = SJ a := sm_cg (fun j hj => e j hj)
theorem SE_cg (e : ∀ j, j < 6 → b (60 + 7 * j + 5) = a (60 + 7 * j + 5)) : SE b = SE a := sm_cg (fun j hj => e j hj)
theorem SL_one {t : Nat} (ht : t < 8) (e : ∀ j, j < 8 → j ≠ t → b (43 + 2 * j + 1) = a (43 + 2 * j + 1)) : SL b + a (43 + 2 * t + 1) = SL a + b (43 + 2 * t + 1) := sm_one (g := lot a) (g' := lot b) ht (fun j hj hne => e j hj hne)
theorem SJ_one {t : Nat} (ht : t < 6) (e : ∀ j, j < 6 → j ≠ t → b (60 + 7 * j + 1) = a (60 + 7 * j + 1)) : SJ b + a (60 + 7 * t + 1) = SJ a + b (60 + 7 * t + 1) := sm_one (g := fun j => a (60 + 7 * j + 1)) (g' := fun j => b (60 + 7 * j + 1)) ht (fun j hj hne => e j hj hne)
theorem SE_one {t : Nat} (ht : t < 6) (e : ∀ j, j < 6 → j ≠ t → b (60 + 7 * j + 5) = a (60 + 7 * j + 5)) : SE b + a (60 + 7 * t + 5) = SE a + b (60 + 7 * t + 5) := sm_one (g := fun j => a (60 + 7 * j + 5)) (g' := fun j => b (60 + 7 * j + 5)) ht (fun j hj hne => e j hj hne)
theorem SJ_two {f t : Nat} (hf : f < 6) (ht : t < 6) (ne : f ≠ t) (e : ∀ j, j < 6 → j ≠ f → j ≠ t → b (60 + 7 * j + 1) = a (60 + 7 * j + 1)) : SJ b + a (60 + 7 * f + 1) + a (60 + 7 * t + 1) = SJ a + b (60 + 7 * f + 1) + b (60 + 7 * t + 1) := sm_two (g := fun j => a (60 + 7 * j + 1)) (g' := fun j => b (60 + 7 * j + 1)) hf ht ne (fun j hj x y => e j hj x y)
theorem Bal.cg (h : Bal a) (e : ∀ k, 104 ≤ k → k ≤ 110 → b k = a k) (e2 : b 102 = a 102) (el : ∀ j, j < 8 → b (43 + 2 * j + 1) = a (43 + 2 * j + 1)) (e1 : ∀ j, j < 6 → b (60 + 7 * j + 1) = a (60 + 7 * j + 1)) (e5 : ∀ j, j < 6 → b (60 + 7 * j + 5) = a (60 + 7 * j + 5)) : Bal b := by
  unfold Bal at h ⊢
  rw [SL_cg el, SJ_cg e1, SE_cg e5, e2, e 104 (by omega) (by omega), e 105 (by omega) (by omega), e 106 (by omega) (by omega), e 107 (by omega) (by omega), e 108 (by omega) (by omega), e 109 (by omega) (by omega), e 110 (by omega) (by omega)]
  exact h
/-- a tank gives juice to another one -/
theorem Bal.give {f n t : Nat} (hf : f < 6) (ht : t < 6) (ne : f ≠ t) (hn : n ≤ a (60 + 7 * f + 1)) (h : Bal a) : Bal (aGive a f n t) := by
  obtain ⟨gf0, gf1, gf2, gf3, gf4, gf5, gf6⟩ := aGive_f (a := a) (n := n) ne
  obtain ⟨gt0, gt1, gt2, gt3, gt4, gt5, gt6⟩ := aGive_t (a := a) (n := n) ne
  have out : ∀ k, ¬ (60 + 7 * f ≤ k ∧ k < 60 + 7 * f + 7) → ¬ (60 + 7 * t ≤ k ∧ k < 60 + 7 * t + 7) → aGive a f n t k = a k := fun k x y => aGive_out ne x y
  have j2 := SJ_two (b := aGive a f n t) hf ht ne (fun j hj x y => out _ (by omega) (by omega))
  rw [gf1, gt1] at j2
  have l2 : SL (aGive a f n t) = SL a := SL_cg (fun j hj => out _ (by omega) (by omega))
  have e2 : SE (aGive a f n t) = SE a := SE_cg (fun j hj => by
    by_cases x : j = f
    · rw [x, gf5]
    · by_cases y : j = t
      · rw [y, gt5]
      · exact out _ (by omega) (by omega))
  unfold Bal at h ⊢
  rw [l2, e2, out 102 (by omega) (by omega), out 104 (by omega) (by omega), out 105 (by omega) (by omega), out 106 (by omega) (by omega), out 107 (by omega) (by omega), out 108 (by omega) (by omega), out 109 (by omega) (by omega), out 110 (by omega) (by omega)]
  omega
theorem Bal.clean {t : Nat} (ht : t < 6) (h : Bal a) : Bal (au (au a (60 + 7 * t + 5) 0) 107 (a 107 + a (60 + 7 * t + 5))) := by
  have out : ∀ k, k ≠ 60 + 7 * t + 5 → k ≠ 107 → au (au a (60 + 7 * t + 5) 0) 107 (a 107 + a (60 + 7 * t + 5)) k = a k := fun k x y => by
    rw [au_n y, au_n x]
  have e5 : au (au a (60 + 7 * t + 5) 0) 107 (a 107 + a (60 + 7 * t + 5)) (60 + 7 * t + 5) = 0 := by
    rw [au_n (by omega), au_s]
  have e7 : au (au a (60 + 7 * t + 5) 0) 107 (a 107 + a (60 + 7 * t + 5)) 107 = a 107 + a (60 + 7 * t + 5) := au_s _ _ _
  have s5 := SE_one (b := au (au a (60 + 7 * t + 5) 0) 107 (a 107 + a (60 + 7 * t + 5))) ht (fun j hj x => out _ (by omega) (by omega))
  rw [e5] at s5
  unfold Bal at h ⊢
  rw [SL_cg (fun j hj => out _ (by omega) (by omega)), SJ_cg (fun j hj => out _ (by omega) (by omega)), e7, out 102 (by omega) (by omega), out 104 (by omega) (by omega), out 105 (by omega) (by omega), out 106 (by omega) (by omega), out 108 (by omega) (by omega), out 109 (by omega) (by omega), out 110 (by omega) (by omega)]
  omega
/-- juice comes into a tank -/
theorem Bal.fill {t J s1 s2 s3 : Nat} (ht : t < 6) (h : b 104 + b 105 = b 106 + b 107 + b 108 + b 109 + b 110 + SL b + b 102 + (SJ b + J) + SE b) : Bal (aFill b t J s1 s2 s3) := by
  obtain ⟨g1, g2, g3, g4⟩ := aFill_t (b := b) (t := t) (J := J) (s1 := s1) (s2 := s2) (s3 := s3)
  have out : ∀ k, ¬ (60 + 7 * t + 1 ≤ k ∧ k ≤ 60 + 7 * t + 4) → aFill b t J s1 s2 s3 k = b k := fun k h => aFill_out h
  have j1 := SJ_one (b := aFill b t J s1 s2 s3) ht (fun j hj x => out _ (by omega))
  rw [g1] at j1
  unfold Bal
  rw [SL_cg (fun j hj => out _ (by omega)), SE_cg (fun j hj => out _ (by omega)), out 102 (by omega), out 104 (by omega), out 105 (by omega), out 106 (by omega), out 107 (by omega), out 108 (by omega), out 109 (by omega), out 110 (by omega)]
  omega
theorem Bal.press {l m J t s1 s2 s3 : Nat} (hl : l < 8) (ht : t < 6) (hm : m ≤ a (43 + 2 * l + 1)) (hJ : J ≤ m) (h : Bal a) : Bal (aFill (au (au a (43 + 2 * l + 1) (a (43 + 2 * l + 1) - m)) 102 (a 102 + (m - J))) t J s1 s2 s3) := by
  have out : ∀ k, k ≠ 43 + 2 * l + 1 → k ≠ 102 → au (au a (43 + 2 * l + 1) (a (43 + 2 * l + 1) - m)) 102 (a 102 + (m - J)) k = a k := fun k x y => by
    rw [au_n y, au_n x]
  have e2 : au (au a (43 + 2 * l + 1) (a (43 + 2 * l + 1) - m)) 102 (a 102 + (m - J)) 102 = a 102 + (m - J) := au_s _ _ _
  have el : au (au a (43 + 2 * l + 1) (a (43 + 2 * l + 1) - m)) 102 (a 102 + (m - J)) (43 + 2 * l + 1) = a (43 + 2 * l + 1) - m := by
    rw [au_n (by omega), au_s]
  have s := SL_one (b := au (au a (43 + 2 * l + 1) (a (43 + 2 * l + 1) - m)) 102 (a 102 + (m - J))) hl (fun j hj x => out _ (by omega) (by omega))
  rw [el] at s
  refine Bal.fill ht ?_
  unfold Bal at h
  rw [SJ_cg (fun j hj => out _ (by omega) (by omega)), SE_cg (fun j hj => out _ (by omega) (by omega)), e2, out 104 (by omega) (by omega), out 105 (by omega) (by omega), out 106 (by omega) (by omega), out 107 (by omega) (by omega), out 108 (by omega) (by omega), out 109 (by omega) (by omega), out 110 (by omega) (by omega)]
  omega
theorem Bal.wet {w J t s1 s2 s3 : Nat} (ht : t < 6) (hJ : J ≤ a 102 + w) (h : Bal a) : Bal (aFill (au (au a 102 (a 102 + w - J)) 105 (a 105 + w)) t J s1 s2 s3) := by
  have out : ∀ k, k ≠ 102 → k ≠ 105 → au (au a 102 (a 102 + w - J)) 105 (a 105 + w) k = a k := fun k x y => by
    rw [au_n y, au_n x]
  have e2 : au (au a 102 (a 102 + w - J)) 105 (a 105 + w) 102 = a 102 + w - J := by
    rw [au_n (by omega), au_s]
  have e5 : au (au a 102 (a 102 + w - J)) 105 (a 105 + w) 105 = a 105 + w := au_s _ _ _
  refine Bal.fill ht ?_
  unfold Bal at h
  rw [SL_cg (fun j hj => out _ (by omega) (by omega)), SJ_cg (fun j hj => out _ (by omega) (by omega)), SE_cg (fun j hj => out _ (by omega) (by omega)), e2, e5, out 104 (by omega) (by omega), out 106 (by omega) (by omega), out 107 (by omega) (by omega), out 108 (by omega) (by omega), out 109 (by omega) (by omega), out 110 (by omega) (by omega)]
  omega
theorem Bal.low (h : Bal a) (e : ∀ k, 42 ≤ k → b k = a k) : Bal b := h.cg (fun k x _ => e k (by omega)) (e _ (by omega)) (fun j _ => e _ (by omega)) (fun j _ => e _ (by omega)) (fun j _ => e _ (by omega))
/-- juice goes out of a tank to where it is written down -/
theorem Bal.out {t n o : Nat} (ht : t < 6) (hn : n ≤ a (60 + 7 * t + 1)) (h : Bal a) (ho : o = 109 ∨ o = 110) (e1 : b (60 + 7 * t + 1) = a (60 + 7 * t + 1) - n) (eo : b o = a o + n) (e : ∀ k, k ≤ 110 → k ≠ o → ¬ (60 + 7 * t ≤ k ∧ k < 60 + 7 * t + 7) → b k = a k) (e5 : b (60 + 7 * t + 5) = a (60 + 7 * t + 5)) : Bal b := by
  have s := SJ_one (a := a) (b := b) ht (fun j hj x => e _ (by omega) (by omega) (by omega))
  rw [e1] at s
  have s5 : SE b = SE a := SE_cg (fun j hj => by
    by_cases x : j = t
    · rw [x, e5]
    · exact e _ (by omega) (by omega) (by omega))
  unfold Bal at h ⊢
  rw [SL_cg (fun j hj => e _ (by omega) (by omega) (by omega)), s5, e 102 (by omega) (by omega) (by omega), e 104 (by omega) (by omega) (by omega), e 105 (by omega) (by omega) (by omega), e 106 (by omega) (by omega) (by omega), e 107 (by omega) (by omega) (by omega), e 108 (by omega) (by omega) (by omega)]
  rcases ho with rfl | rfl
  · rw [eo, e 110 (by omega) (by omega) (by omega)]
    omega
  · rw [eo, e 109 (by omega) (by omega) (by omega)]
    omega
end
