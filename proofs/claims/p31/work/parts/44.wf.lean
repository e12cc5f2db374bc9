-- PAGES THAT CAN COME UP
def sm (g : Nat → Nat) : Nat → Nat
  | 0 => 0
  | n + 1 => sm g n + g n
theorem sm_cg {g g' : Nat → Nat} : ∀ {n : Nat}, (∀ j, j < n → g' j = g j) → sm g' n = sm g n
  | 0, _ => rfl
  | n + 1, h => by
    show sm g' n + g' n = sm g n + g n
    rw [sm_cg (fun j hj => h j (by omega)), h n (by omega)]
theorem sm_one {g g' : Nat → Nat} {t : Nat} : ∀ {n : Nat}, t < n → (∀ j, j < n → j ≠ t → g' j = g j) → sm g' n + g t = sm g n + g' t
  | 0, ht, _ => absurd ht (Nat.not_lt_zero _)
  | n + 1, ht, h => by
    show sm g' n + g' n + g t = sm g n + g n + g' t
    by_cases e : t = n
    · subst e
      rw [sm_cg (fun j hj => h j (by omega) (by omega))]
      omega
    · have ih := sm_one (n := n) (by omega) (fun j hj => h j (by omega))
      have := h n (by omega) (by omega)
      omega
theorem sm_le1 {g : Nat → Nat} {t : Nat} : ∀ {n : Nat}, t < n → g t ≤ sm g n
  | 0, ht => absurd ht (Nat.not_lt_zero _)
  | n + 1, ht => by
    show g t ≤ sm g n + g n
    by_cases e : t = n
    · subst e
      omega
    · have := sm_le1 (g := g) (t := t) (n := n) (by omega)
      omega
theorem sm_two {g g' : Nat → Nat} {f t n : Nat} (hf : f < n) (ht : t < n) (ne : f ≠ t) (h : ∀ j, j < n → j ≠ f → j ≠ t → g' j = g j) : sm g' n + g f + g t = sm g n + g' f + g' t := by
  have h1 := sm_one (g := g) (g' := fun j => if j = f then g' f else g j) hf (fun j _ hj => if_neg hj)
  have h2 := sm_one (g := fun j => if j = f then g' f else g j) (g' := g') (t := t) ht (fun j hj hne => by
    by_cases e : j = f
    · rw [e]
      exact (if_pos rfl).symm
    · exact (h j hj e hne).trans (if_neg e).symm)
  rw [if_pos (rfl : f = f)] at h1
  rw [if_neg (fun z : t = f => ne z.symm)] at h2
  omega
def sug (a : Nat → Nat) (j : Nat) : Nat := a (60 + 7 * j + 2) + a (60 + 7 * j + 3) + a (60 + 7 * j + 6)
def lot (a : Nat → Nat) (j : Nat) : Nat := a (43 + 2 * j + 1)
def WT (a : Nat → Nat) (j : Nat) : Prop := a (60 + 7 * j + 0) ≤ 5000 ∧ a (60 + 7 * j + 1) + a (60 + 7 * j + 5) ≤ a (60 + 7 * j + 0) ∧ a (60 + 7 * j + 4) ≤ a (60 + 7 * j + 1) ∧ (a (60 + 7 * j + 1) = 0 → a (60 + 7 * j + 2) = 0 ∧ a (60 + 7 * j + 3) = 0 ∧ a (60 + 7 * j + 4) = 0 ∧ a (60 + 7 * j + 6) = 0)
def Wf (B : Nat) (a : Nat → Nat) : Prop :=
  (∀ k, k < 42 → a k ≤ 1000) ∧ (∀ k, k < 6 → a (3 * k + 0) ≤ 800 ∧ a (3 * k + 1) ≤ 200 ∧ a (3 * k + 2) ≤ 100) ∧
  (a 42 ≤ 8 ∧ ∀ k, k < 8 → a (43 + 2 * k + 0) ≤ 5 ∧ lot a k ≤ 20000 ∧ (a 42 ≤ k → a (43 + 2 * k + 0) = 0 ∧ lot a k = 0)) ∧
  (a 59 ≤ 6 ∧ ∀ j, j < 6 → WT a j ∧ (a 59 ≤ j → ∀ f, f < 7 → a (60 + 7 * j + f) = 0)) ∧
  sm (sug a) 6 + sm (lot a) 8 ≤ 20000 * a 42 + 150 * B ∧ a 102 ≤ 20000 * B ∧ (a 103 ≤ B ∧ a 20 ≤ 500) ∧
  ∀ j, j < 4 → a (151 + j) ≤ 5000 * B ∧ a (151 + j) = sm (fun k => a (111 + 10 * j + k)) 10
theorem WT.cg {a a' : Nat → Nat} {j : Nat} (h : WT a j) (e : ∀ f, f < 7 → a' (60 + 7 * j + f) = a (60 + 7 * j + f)) : WT a' j := by
  unfold WT
  rw [e 0 (by omega), e 1 (by omega), e 2 (by omega), e 3 (by omega), e 4 (by omega), e 5 (by omega), e 6 (by omega)]
  exact h
theorem sug_cg {a a' : Nat → Nat} {j : Nat} (e : ∀ f, f < 7 → a' (60 + 7 * j + f) = a (60 + 7 * j + f)) : sug a' j = sug a j := by
  unfold sug
  rw [e 2 (by omega), e 3 (by omega), e 6 (by omega)]
theorem Wf.mono {B : Nat} {a : Nat → Nat} (h : Wf B a) : Wf (B + 1) a := by
  obtain ⟨h1, h2, h3, h4, h5, h6, h7, h8⟩ := h
  exact ⟨h1, h2, h3, h4, by omega, by omega, by omega, fun j hj => ⟨by have := (h8 j hj).1; omega, (h8 j hj).2⟩⟩
/-- the numbers of a tank stay small -/
theorem Wf.sug_le {B : Nat} {a : Nat → Nat} (h : Wf B a) (hB : B ≤ 1100) {j : Nat} (hj : j < 6) : sug a j ≤ 325000 := by
  obtain ⟨h1, h2, h3, h4, h5, h6, h7, h8⟩ := h
  have := sm_le1 (g := sug a) hj
  have := h3.1
  omega
theorem Wf.tk_le {B : Nat} {a : Nat → Nat} (h : Wf B a) (hB : B ≤ 1100) {j : Nat} (hj : j < 6) : ∀ f, f < 7 → a (60 + 7 * j + f) ≤ 325000 := by
  have h1 := h.sug_le hB hj
  obtain ⟨⟨w1, w2, w3, w4⟩, -⟩ := h.2.2.2.1.2 j hj
  unfold sug at h1
  intro f hf
  have hc : f = 0 ∨ f = 1 ∨ f = 2 ∨ f = 3 ∨ f = 4 ∨ f = 5 ∨ f = 6 := by omega
  rcases hc with rfl | rfl | rfl | rfl | rfl | rfl | rfl <;> omega
theorem Wf.sml {B : Nat} {a : Nat → Nat} (h : Wf B a) (hB : B ≤ 1100) {j : Nat} (hj : j < 6) : Sm a j := fun f hf => by
  have := h.tk_le hB hj f hf
  omega
theorem Wf.mul {B : Nat} {a : Nat → Nat} (h : Wf B a) (hB : B ≤ 1100) {j n : Nat} (hj : j < 6) (hn : n ≤ 5000) : ∀ f, f < 7 → a (60 + 7 * j + f) * n < 2 ^ 31 := fun f hf => by
  have h1 := h.tk_le hB hj f hf
  have h2 : a (60 + 7 * j + f) * n ≤ 325000 * 5000 := Nat.mul_le_mul h1 hn
  omega
theorem hz {H J n : Nat} (h : H ≤ J) (hn : n ≤ J) (h0 : 0 < J) : H + n ≤ J + H * n / J := by
  by_cases c : H + n ≤ J
  · exact Nat.le_trans c (Nat.le_add_right _ _)
  · have : H + n - J ≤ H * n / J := by
      rw [Nat.le_div_iff_mul_le h0]
      obtain ⟨x, hx⟩ := Nat.exists_eq_add_of_le h
      obtain ⟨y, hy⟩ := Nat.exists_eq_add_of_le hn
      have e1 : H + n - J = H - y := by omega
      have e2 : J = n + y := hy
      rw [e1, e2, Nat.sub_mul, Nat.mul_add, Nat.mul_add]
      have e3 : H = n + y - x := by omega
      have e4 : H * y ≤ y * n + y * y := by
        rw [Nat.mul_comm H y, ← Nat.mul_add]
        exact Nat.mul_le_mul_left y (by omega)
      omega
    omega
theorem part_le {S n J : Nat} (h : S ≤ J) : S * n / J ≤ n := by
  rcases Nat.eq_zero_or_pos J with e | e
  · rw [e, Nat.div_zero]
    exact Nat.zero_le _
  · refine Nat.div_le_of_le_mul ?_
    exact Nat.mul_le_mul_right n h
theorem mUp_s (v : MM) (r o : Nat) (x : Int32) : (mUp v (r, o) x).1 r o = x := if_pos ⟨rfl, rfl⟩
theorem mUp_o (v : MM) (r o o' : Nat) (x : Int32) (h : o' ≠ o) : (mUp v (r, o) x).1 r o' = v.1 r o' := if_neg (fun z => h z.2)
