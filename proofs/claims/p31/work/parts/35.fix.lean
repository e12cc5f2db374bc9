-- THE LIMIT of a run from any place: a fixed point of the step
theorem swt_cont {x : Int32} {d : Nat} {K : Nat → MR} {Kn : Nat → Nat → MR} {r : MM × Option MV} (hK : ∀ t, K t = some r → ∃ n, Kn n t = some r) : ∀ {tb : List (Int32 × Nat)}, swt x d tb K = some r → ∃ n, swt x d tb (Kn n) = some r
  | [], h => hK d h
  | (y, t) :: l, h => by
    have h : (if x = y then K t else swt x d l K) = some r := h
    show ∃ n, (if x = y then Kn n t else swt x d l (Kn n)) = some r
    by_cases e : x = y
    · rw [if_pos e] at h
      obtain ⟨n, hn⟩ := hK t h
      exact ⟨n, by rw [if_pos e]; exact hn⟩
    · rw [if_neg e] at h
      obtain ⟨n, hn⟩ := swt_cont hK h
      exact ⟨n, by rw [if_neg e]; exact hn⟩
set_option maxHeartbeats 4000000 in
theorem stI_cont {F : Nat → MF} {K : Nat → ML → List MV → MM → MR} {Kn : Nat → Nat → ML → List MV → MM → MR} (hK : ∀ i loc st v r, K i loc st v = some r → ∃ n, Kn n i loc st v = some r) {i : Nat} {loc : ML} {st : List MV} {v : MM} {m : MI} {r : MM × Option MV} : stI F K i loc st v m = some r → ∃ n, stI F (Kn n) i loc st v m = some r := by
  unfold stI
  split
  split
  all_goals (repeat' split)
  all_goals intro h
  all_goals first
    | exact hK _ _ _ _ _ h
    | exact ⟨0, h⟩
    | (obtain ⟨v', x', h1, h2⟩ := bI_some h; rw [h1]; exact hK _ _ _ _ _ h2)
    | (obtain ⟨v', h1, h2⟩ := bV_some h; rw [h1]; exact hK _ _ _ _ _ h2)
    | (obtain ⟨v', x', h1, h2⟩ := bN_some h; rw [h1]; exact hK _ _ _ _ _ h2)
    | (obtain ⟨v', x', h1, h2⟩ := bL_some h; rw [h1]; exact hK _ _ _ _ _ h2)
    | exact swt_cont (fun t ht => hK _ _ _ _ _ ht) h
noncomputable def rLim (F : Nat → MF) (cd : List MI) : Nat → ML → List MV → MM → MR := fun i loc st v => Classical.epsilon (fun o : MR => ∀ r, o = some r ↔ Rn F cd i loc st v r)
theorem rLim_spec {F : Nat → MF} {cd : List MI} {i : Nat} {loc : ML} {st : List MV} {v : MM} : ∀ r, rLim F cd i loc st v = some r ↔ Rn F cd i loc st v r := by
  refine Classical.epsilon_spec (p := fun o : MR => ∀ r, o = some r ↔ Rn F cd i loc st v r) ?_
  rcases Classical.em (∃ r, Rn F cd i loc st v r) with ⟨r0, h0⟩ | h0
  · refine ⟨some r0, fun r => ⟨fun h => ?_, fun h => congrArg some (h0.uniq h)⟩⟩
    rw [← Option.some.inj h]
    exact h0
  · exact ⟨none, fun r => ⟨fun h => (no_of h), fun h => absurd ⟨r, h⟩ h0⟩⟩
theorem opt_ext {o o' : MR} (h : ∀ r, o = some r ↔ o' = some r) : o = o' := by
  cases o with
  | none =>
    cases o' with
    | none => rfl
    | some r => exact absurd ((h r).mpr rfl) (by intro z; cases z)
  | some r => exact ((h r).mp rfl).symm
theorem rLim_fix (F : Nat → MF) (cd : List MI) : stp F cd (rLim F cd) = rLim F cd := by
  funext i loc st v
  refine opt_ext (fun r => ?_)
  constructor
  · intro h
    refine (rLim_spec r).mpr ?_
    unfold stp at h
    cases hi : nth cd i with
    | none =>
      rw [hi] at h
      cases h
    | some m =>
      rw [hi] at h
      obtain ⟨n, hn⟩ := stI_cont (Kn := fun n => run F cd n) (fun i loc st v r z => (rLim_spec r).mp z) h
      refine ⟨n + 1, ?_⟩
      show stp F cd (run F cd n) i loc st v = some r
      unfold stp
      rw [hi]
      exact hn
  · intro h
    obtain ⟨n, hn⟩ := (rLim_spec r).mp h
    cases n with
    | zero => exact no_of hn
    | succ n =>
      have hn : stp F cd (run F cd n) i loc st v = some r := hn
      unfold stp at hn ⊢
      cases hi : nth cd i with
      | none =>
        rw [hi] at hn
        cases hn
      | some m =>
        rw [hi] at hn
        exact stI_mono (fun i loc st v r z => (rLim_spec r).mpr ⟨n, z⟩) hn
theorem runH_fix (F : Nat → MF) (cd : List MI) (hd : List Nat) : ∀ T, runH F cd hd (fun _ => rLim F cd) T = rLim F cd
  | 0 => rfl
  | T + 1 => by
    have ih := runH_fix F cd hd T
    show (fun i loc st v => match hd.any (fun h => Nat.beq h i) with
      | true => rLim F cd i loc st v
      | false => stp F cd (runH F cd hd (fun _ => rLim F cd) T) i loc st v) = rLim F cd
    rw [ih, rLim_fix]
    funext i loc st v
    split <;> rfl
theorem rl_eq {F : Nat → MF} {cd : List MI} {hd : List Nat} {T i : Nat} {loc : ML} {st : List MV} {v : MM} {t : MR} (h : stp F cd (runH F cd hd (fun _ => rLim F cd) T) i loc st v = t) : rLim F cd i loc st v = t := by
  rw [runH_fix, rLim_fix] at h
  exact h
theorem fn_eq {nL : Nat} {F : Nat → MF} {cd : List MI} {hd : List Nat} {T : Nat} {v : MM} {as : List MV} {t : MR} (hl : Nat.ble (mcats as) nL = true) (h : stp F cd (runH F cd hd (fun _ => rLim F cd) T) 0 (mEl 0 as) [] v = t) : mLim nL F cd v as = t := by
  rw [← rl_eq h]
  refine opt_ext (fun r => ?_)
  refine ((mLim_spec r).trans ?_).trans (rLim_spec r).symm
  constructor
  · intro ⟨n, hn⟩
    exact ⟨n, (mEnt_len hn).2⟩
  · intro ⟨n, hn⟩
    refine ⟨n, ?_⟩
    unfold mEnt
    rw [hl]
    exact hn
theorem bI_k (v : MM) (x : Int32) (k : MM → Int32 → MR) : bI (some (v, some (.inl x))) k = k v x := rfl
theorem bV_k (v : MM) (k : MM → MR) : bV (some (v, none)) k = k v := rfl
theorem bN_k (v : MM) (q : MN) (k : MM → MN → MR) : bN (some (v, some (.inr (.inr q)))) k = k v q := rfl
