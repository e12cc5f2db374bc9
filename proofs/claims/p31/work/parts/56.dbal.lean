-- A DAY KEEPS THE ACCOUNTS
section
variable {B : Nat} {v : MM} {i : Nat} {a b : Nat → Nat}
theorem Bal.dry {k : Nat} (hk : k < 8) (hr : b 18 ≤ 1000) (h : Bal b) : Bal (aDry b k) := by
  have d : b (43 + 2 * k + 1) * b 18 / 1000 ≤ b (43 + 2 * k + 1) := div_th hr
  have out : ∀ q, q ≠ 43 + 2 * k + 1 → q ≠ 106 → aDry b k q = b q := fun q x y => aDry_out x y
  have s := SL_one (a := b) (b := aDry b k) hk (fun j hj hne => out _ (by omega) (by omega))
  rw [aDry_s hk] at s
  have e6 : aDry b k 106 = b 106 + b (43 + 2 * k + 1) * b 18 / 1000 := au_s _ _ _
  unfold Bal at h ⊢
  rw [SJ_cg (fun j hj => out _ (by omega) (by omega)), SE_cg (fun j hj => out _ (by omega) (by omega)), e6, out 102 (by omega) (by omega), out 104 (by omega) (by omega), out 105 (by omega) (by omega), out 107 (by omega) (by omega), out 108 (by omega) (by omega), out 109 (by omega) (by omega), out 110 (by omega) (by omega)]
  omega
theorem Bal.work {t : Nat} (ht : t < 6) (hr : b 20 ≤ 1000) (h41 : b (60 + 7 * t + 4) ≤ b (60 + 7 * t + 1)) (h : Bal b) : Bal (aWork b t) := by
  have d : b (60 + 7 * t + 4) * b 20 / 1000 ≤ b (60 + 7 * t + 4) := div_th hr
  obtain ⟨g0, g1, g2, g3, g4, g5, g6⟩ := aWork_t (b := b) (t := t)
  have out : ∀ q, ¬ (60 + 7 * t ≤ q ∧ q < 60 + 7 * t + 7) → aWork b t q = b q := fun q x => aWork_out x
  have s1 := SJ_one (a := b) (b := aWork b t) ht (fun j hj hne => out _ (by omega))
  have s5 := SE_one (a := b) (b := aWork b t) ht (fun j hj hne => out _ (by omega))
  rw [g1] at s1
  rw [g5] at s5
  unfold Bal at h ⊢
  rw [SL_cg (fun j hj => out _ (by omega)), out 102 (by omega), out 104 (by omega), out 105 (by omega), out 106 (by omega), out 107 (by omega), out 108 (by omega), out 109 (by omega), out 110 (by omega)]
  omega
theorem drys_Bal (hw : Wf B a) (h : Bal a) : ∀ k, k ≤ 8 → Bal (drys a k)
  | 0, _ => h
  | k + 1, e => (drys_Bal hw h k (by omega)).dry (by omega) (by rw [(drys_DR hw k (by omega)).1 18 (by omega)]; exact hw.1 18 (by omega))
theorem wrks_Bal (hw : Wf B a) (hd : DR a b) (h : Bal b) : ∀ k, k ≤ 6 → Bal (wrks b k)
  | 0, _ => h
  | k + 1, e => (wrks_Bal hw hd h k (by omega)).work (by omega) (by rw [(wrks_DR hw hd k (by omega)).1 20 (by omega)]; exact hw.1 20 (by omega)) ((wrks_DR hw hd k (by omega)).2.2.2.2.1 k (by omega)).1.2.2.1
theorem Bal.day (hw : Wf B a) (h : Bal a) : Bal (aDay a) := by
  have h2 := wrks_Bal hw (drys_DR hw 8 (by omega)) (drys_Bal hw h 8 (by omega)) 6 (by omega)
  exact h2.cg (fun k x y => au_n (by omega)) (au_n (by omega)) (fun j hj => au_n (by omega)) (fun j hj => au_n (by omega)) (fun j hj => au_n (by omega))
theorem o_day (hv : St 155 v i a) (hw : Wf B a) (hB : B ≤ 1100) : One B (fX0_passDay v [nm 2 i 0]) v i a := by
  obtain ⟨w', e, h1, f1⟩ := s_day hv hw hB
  have hd := hw.2.2.2.2.2.2.1.1
  exact One.ok (n := a 103 + 1) (by omega) e h1 f1 hw.day (Bal.day hw)
end
