-- THE WORLD: all cells of the class and of the reference, at addresses 'ad', as one list over the flat memory
def mNs : List MN := [(0, 0, 0), (1, 0, 0), (12, 8, 0), (13, 0, 0), (14, 0, 0), (15, 0, 0)] ++ (List.range 8).flatMap (fun i => [(2, i, 0), (3, i, 0), (4, i, 0), (5, i, 0), (6, i, 0), (7, i, 0)] ++ (List.range 6).map (fun j => (8, i, j)) ++ (List.range 4).flatMap (fun j => [(9, i, j), (10, i, j)]) ++ (List.range 8).map (fun j => (11, i, j)) ++ (List.range 6).map (fun j => (12, i, j)))
theorem mNs_nodup : mNs.Nodup := by decide +kernel
theorem mNs_closed0 : mNs.all (fun q => (List.range (mSz q.1)).all (fun k => match mRf q k with
  | some y => mNs.contains y
  | none => true)) = true := by decide +kernel
theorem mNs_closed {q : MN} (hq : q ∈ mNs) {k : Nat} (hk : k < mSz q.1) {y : MN} (hy : mRf q k = some y) : y ∈ mNs := by
  have h1 := List.all_eq_true.mp mNs_closed0 q hq
  have h2 := List.all_eq_true.mp h1 k (List.mem_range.mpr hk)
  rw [hy] at h2
  exact List.contains_iff_mem.mp h2
def mIsI (q : MN) (k : Nat) : Bool := (mRf q k).isNone
def mInv (p : Nat × Nat) : MN × Nat :=
  let r := p.1
  let o := p.2
  if r < 8 then
    if o < 18 then ((8, r, o / 3), o % 3)
    else if o < 22 then ((2, r, 0), o - 18)
    else if o < 42 then ((9, r, (o - 22) / 5), (o - 22) % 5)
    else if o = 42 then ((2, r, 0), 4)
    else if o < 59 then ((11, r, (o - 43) / 2), (o - 43) % 2)
    else if o = 59 then ((2, r, 0), 5)
    else if o < 102 then ((12, r, (o - 60) / 7), (o - 60) % 7)
    else if o = 102 then ((2, r, 0), 6)
    else if o = 103 then ((2, r, 0), 7)
    else if o < 111 then ((7, r, 0), o - 104)
    else if o < 151 then ((10, r, (o - 111) / 10), (o - 111) % 10 + 1)
    else if o < 155 then ((10, r, o - 151), 0)
    else ((2, r, 0), 8)
  else if r = 8 then ((12, 8, 0), o - 60)
  else if r = 9 then ((13, 0, 0), o)
  else if r = 10 then ((14, 0, 0), o)
  else if r = 11 then ((15, 0, 0), o)
  else ((0, 0, 0), o)
theorem mFl_inv0 : mNs.all (fun q => (List.range (mSz q.1)).all (fun k => !(mIsI q k) || decide (mInv (mFl q k) = (q, k)))) = true := by decide +kernel
theorem mFl_inv {q : MN} (hq : q ∈ mNs) {k : Nat} (hk : k < mSz q.1) (hi : mIsI q k = true) : mInv (mFl q k) = (q, k) := by
  have h2 := List.all_eq_true.mp (List.all_eq_true.mp mFl_inv0 q hq) k (List.mem_range.mpr hk)
  rw [hi] at h2
  simpa using h2
theorem mFl_inj {q q' : MN} (hq : q ∈ mNs) (hq' : q' ∈ mNs) {k k' : Nat} (hk : k < mSz q.1) (hk' : k' < mSz q'.1) (hi : mIsI q k = true) (hi' : mIsI q' k' = true) (h : mFl q k = mFl q' k') : q = q' ∧ k = k' := by
  have h1 := mFl_inv hq hk hi
  rw [h, mFl_inv hq' hk' hi'] at h1
  exact ⟨(congrArg Prod.fst h1).symm, (congrArg Prod.snd h1).symm⟩
theorem mKc_in0 : mNs.all (fun q => decide (mKc q.1 ≤ 103)) = true := by decide +kernel
