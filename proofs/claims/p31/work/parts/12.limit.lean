-- WHAT A METHOD DOES: the answer of a run that is long enough
theorem swt_mono {x : Int32} {d : Nat} {K K' : Nat → MR} {r : MM × Option MV} (hK : ∀ t, K t = some r → K' t = some r) : ∀ {tb : List (Int32 × Nat)}, swt x d tb K = some r → swt x d tb K' = some r
  | [], h => hK d h
  | (y, t) :: l, h => by
    have h : (if x = y then K t else swt x d l K) = some r := h
    show (if x = y then K' t else swt x d l K') = some r
    by_cases e : x = y
    · rw [if_pos e] at h ⊢
      exact hK t h
    · rw [if_neg e] at h ⊢
      exact swt_mono hK h
set_option maxHeartbeats 4000000 in
theorem stI_mono {F : Nat → MF} {K K' : Nat → ML → List MV → MM → MR} (hK : ∀ i loc st v r, K i loc st v = some r → K' i loc st v = some r) {i : Nat} {loc : ML} {st : List MV} {v : MM} {m : MI} {r : MM × Option MV} : stI F K i loc st v m = some r → stI F K' i loc st v m = some r := by
  unfold stI
  split
  split
  all_goals (repeat' split)
  all_goals intro h
  all_goals first
    | exact hK _ _ _ _ _ h
    | exact h
    | (obtain ⟨v', x', h1, h2⟩ := bI_some h; rw [h1]; exact hK _ _ _ _ _ h2)
    | (obtain ⟨v', h1, h2⟩ := bV_some h; rw [h1]; exact hK _ _ _ _ _ h2)
    | (obtain ⟨v', x', h1, h2⟩ := bN_some h; rw [h1]; exact hK _ _ _ _ _ h2)
    | (obtain ⟨v', x', h1, h2⟩ := bL_some h; rw [h1]; exact hK _ _ _ _ _ h2)
    | exact swt_mono (fun t ht => hK _ _ _ _ _ ht) h
theorem run_mono1 {F : Nat → MF} {cd : List MI} : ∀ (n i : Nat) (loc : ML) (st : List MV) (v : MM) (r : MM × Option MV), run F cd n i loc st v = some r → run F cd (n + 1) i loc st v = some r := by
  intro n
  induction n with
  | zero =>
    intro i loc st v r h
    exact no_of h
  | succ n ih =>
    intro i loc st v r h
    have h : stp F cd (run F cd n) i loc st v = some r := h
    show stp F cd (run F cd (n + 1)) i loc st v = some r
    unfold stp at h ⊢
    cases hi : nth cd i with
    | none =>
      rw [hi] at h
      cases h
    | some mi =>
      rw [hi] at h
      exact stI_mono (fun i loc st v r h => ih i loc st v r h) h
theorem run_mono {F : Nat → MF} {cd : List MI} {n k i : Nat} {loc : ML} {st : List MV} {v : MM} {r : MM × Option MV} (h : run F cd n i loc st v = some r) : run F cd (n + k) i loc st v = some r := by
  induction k with
  | zero => exact h
  | succ k ih => exact run_mono1 _ _ _ _ _ _ ih
/-- a run from a state comes to an answer -/
def Rn (F : Nat → MF) (cd : List MI) (i : Nat) (loc : ML) (st : List MV) (v : MM) (r : MM × Option MV) : Prop := ∃ n, run F cd n i loc st v = some r
theorem Rn.uniq {F : Nat → MF} {cd : List MI} {i : Nat} {loc : ML} {st : List MV} {v : MM} {r r' : MM × Option MV} (h : Rn F cd i loc st v r) (h' : Rn F cd i loc st v r') : r = r' := by
  obtain ⟨n, h⟩ := h
  obtain ⟨n', h'⟩ := h'
  have h1 := run_mono (k := n') h
  have h2 := run_mono (k := n) h'
  rw [Nat.add_comm] at h2
  exact Option.some.inj (h1.symm.trans h2)
/-- steps, then a run -/
theorem Rn.step {F : Nat → MF} {cd : List MI} {i i' : Nat} {loc loc' : ML} {st st' : List MV} {v v' : MM} {r : MM × Option MV} (k : Nat) (hs : ∀ n, run F cd (n + k) i loc st v = run F cd n i' loc' st' v') (h : Rn F cd i' loc' st' v' r) : Rn F cd i loc st v r := by
  obtain ⟨n, h⟩ := h
  exact ⟨n + k, by rw [hs]; exact h⟩
theorem Rn.done {F : Nat → MF} {cd : List MI} {i : Nat} {loc : ML} {st : List MV} {v : MM} {r : MM × Option MV} (k : Nat) (hs : run F cd k i loc st v = some r) : Rn F cd i loc st v r := ⟨k, hs⟩
theorem mEnt_uniq {nL : Nat} {F : Nat → MF} {cd : List MI} {v : MM} {as : List MV} {n n' : Nat} {r r' : MM × Option MV} (h : mEnt nL F cd n v as = some r) (h' : mEnt nL F cd n' v as = some r') : r = r' := by
  obtain ⟨-, g⟩ := mEnt_len h
  obtain ⟨-, g'⟩ := mEnt_len h'
  exact Rn.uniq ⟨n, g⟩ ⟨n', g'⟩
noncomputable def mLim (nL : Nat) (F : Nat → MF) (cd : List MI) : MF := fun v as => Classical.epsilon (fun o : MR => ∀ r, o = some r ↔ ∃ n, mEnt nL F cd n v as = some r)
theorem mLim_spec {nL : Nat} {F : Nat → MF} {cd : List MI} {v : MM} {as : List MV} : ∀ r, mLim nL F cd v as = some r ↔ ∃ n, mEnt nL F cd n v as = some r := by
  refine Classical.epsilon_spec (p := fun o : MR => ∀ r, o = some r ↔ ∃ n, mEnt nL F cd n v as = some r) ?_
  rcases Classical.em (∃ r n, mEnt nL F cd n v as = some r) with ⟨r0, n0, h0⟩ | h0
  · refine ⟨some r0, fun r => ⟨fun h => ⟨n0, by rw [← Option.some.inj h]; exact h0⟩, fun ⟨n, h⟩ => congrArg some (mEnt_uniq h0 h)⟩⟩
  · exact ⟨none, fun r => ⟨fun h => (no_of h), fun ⟨n, h⟩ => absurd ⟨r, n, h⟩ h0⟩⟩
theorem mLim_ex {nL : Nat} {F : Nat → MF} {cd : List MI} : ∀ (v : MM) (as : List MV) (r : MM × Option MV), mLim nL F cd v as = some r → ∃ n, mEnt nL F cd n v as = some r := fun v as r h => (mLim_spec r).mp h
theorem mLim_eq {nL : Nat} {F : Nat → MF} {cd : List MI} {n : Nat} {v : MM} {as : List MV} {r : MM × Option MV} (h : mEnt nL F cd n v as = some r) : mLim nL F cd v as = some r := (mLim_spec r).mpr ⟨n, h⟩
theorem mLim_rn {nL : Nat} {F : Nat → MF} {cd : List MI} {v : MM} {as : List MV} {r : MM × Option MV} (hl : Nat.ble (mcats as) nL = true) (h : Rn F cd 0 (mEl 0 as) [] v r) : mLim nL F cd v as = some r := by
  obtain ⟨n, h⟩ := h
  refine mLim_eq (n := n) ?_
  unfold mEnt
  rw [hl]
  exact h
theorem no38 {cd : List MI} {P : Prop} (h : cd.all (fun m => !(Nat.beq m.1 38)) = true) : (∃ i a b d x y tb, nth cd i = some (38, a, b, d, x, y, tb)) → P := by
  intro ⟨i, a, b, d, x, y, tb, hi⟩
  have h1 := List.all_eq_true.mp h _ (nth_lt hi).2
  exact absurd h1 (by show ¬ (!(Nat.beq 38 38)) = true; decide)
