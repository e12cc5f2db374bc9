-- RUNS up to the heads of loops: what stands behind is a variable, so equations are decided by unfolding
def runH (F : Nat → MF) (cd : List MI) (hd : List Nat) (R : Nat → Nat → ML → List MV → MM → MR) : Nat → Nat → ML → List MV → MM → MR
  | 0 => R 0
  | n + 1 => fun i loc st v => match hd.any (fun h => Nat.beq h i) with
    | true => R (n + 1) i loc st v
    | false => stp F cd (runH F cd hd R n) i loc st v
theorem runH_run (F : Nat → MF) (cd : List MI) (hd : List Nat) (n : Nat) : ∀ T, runH F cd hd (fun k => run F cd (n + k)) T = run F cd (n + T)
  | 0 => rfl
  | T + 1 => by
    have ih := runH_run F cd hd n T
    show (fun i loc st v => match hd.any (fun h => Nat.beq h i) with
      | true => run F cd (n + (T + 1)) i loc st v
      | false => stp F cd (runH F cd hd (fun k => run F cd (n + k)) T) i loc st v) = stp F cd (run F cd (n + T))
    rw [ih]
    funext i loc st v
    split <;> rfl
theorem stpH_run (F : Nat → MF) (cd : List MI) (hd : List Nat) (n T : Nat) : stp F cd (runH F cd hd (fun k => run F cd (n + k)) T) = run F cd (n + T + 1) := by
  rw [runH_run]
  rfl
theorem Rn.tree {F : Nat → MF} {cd : List MI} {hd : List Nat} {T k i i' : Nat} {loc loc' : ML} {st st' : List MV} {v v' : MM} {r : MM × Option MV} (hE : ∀ R, stp F cd (runH F cd hd R T) i loc st v = R k i' loc' st' v') (h : Rn F cd i' loc' st' v' r) : Rn F cd i loc st v r := by
  obtain ⟨n, h⟩ := h
  refine ⟨n + T + 1, ?_⟩
  rw [← stpH_run F cd hd n T, hE]
  exact run_mono h
theorem Rn.leaf {F : Nat → MF} {cd : List MI} {hd : List Nat} {T i : Nat} {loc : ML} {st : List MV} {v : MM} {r : MM × Option MV} (hE : ∀ R, stp F cd (runH F cd hd R T) i loc st v = some r) : Rn F cd i loc st v r := by
  refine ⟨0 + T + 1, ?_⟩
  rw [← stpH_run F cd hd 0 T, hE]
/-- a call's answer is known -/
theorem bI_eq {o : MR} {v : MM} {x : Int32} {k : MM → Int32 → MR} (h : o = some (v, some (.inl x))) : bI o k = k v x := by
  rw [h]
  rfl
theorem bV_eq {o : MR} {v : MM} {k : MM → MR} (h : o = some (v, none)) : bV o k = k v := by
  rw [h]
  rfl
theorem bN_eq {o : MR} {v : MM} {q : MN} {k : MM → MN → MR} (h : o = some (v, some (.inr (.inr q)))) : bN o k = k v q := by
  rw [h]
  rfl
theorem bL_eq {o : MR} {v : MM} {x : Int64} {k : MM → Int64 → MR} (h : o = some (v, some (.inr (.inl x)))) : bL o k = k v x := by
  rw [h]
  rfl
