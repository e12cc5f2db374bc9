/-- what a cell holds -/
def mFs (ad : MN → Nat) (v : MM) (q : MN) : List Value := (List.range (mSz q.1)).map (fun k => mv ad (mGet v q k))
/-- an array of numbers -/
def mArr (v : MM) (q : MN) (k : Nat) : Int32 := if k < mSz q.1 then v.1 (mFl q k).1 (mFl q k).2 else 0
def mLay (ad : MN → Nat) (dA : Nat → ClassId) (v : MM) (q : MN) : va_E :=
  if mKc q.1 < 100 then .inr (mKc q.1, mFs ad v q)
  else if mKc q.1 = 103 then .inl (dA q.1, (mSz q.1, .inr (.inr (.inr (.inr (fun k => (mRf q k).map ad))))))
  else .inl (dA q.1, (mSz q.1, .inl (mArr v q)))
def mWl (ad : MN → Nat) (dA : Nat → ClassId) (v : MM) : va_W := mNs.map (fun q => (ad q, mLay ad dA v q))
def mAt : List Nat := [1, 3, 4, 5, 6, 7, 10, 14, 15]
def mTys (dA : Nat → ClassId) : List (ClassId × FieldType) := mAt.map (fun t => (dA t, mTy t))
theorem mWl_at {ad : MN → Nat} {dA : Nat → ClassId} {v : MM} {q : MN} (hq : q ∈ mNs) : ∃ k : Nat, mNs[k]? = some q ∧ (mWl ad dA v)[k]? = some (ad q, mLay ad dA v q) := by
  obtain ⟨k, hk⟩ := List.getElem?_of_mem hq
  exact ⟨k, hk, by rw [mWl, List.getElem?_map, hk]; rfl⟩
theorem mWl_set {ad : MN → Nat} {dA : Nat → ClassId} {v v' : MM} {q : MN} {k : Nat} (hk : mNs[k]? = some q) (h : ∀ q' ∈ mNs, q' ≠ q → mLay ad dA v' q' = mLay ad dA v q') : (mWl ad dA v).set k (ad q, mLay ad dA v' q) = mWl ad dA v' := by
  refine List.ext_getElem? (fun j => ?_)
  have hl : k < (mWl ad dA v).length := by
    rw [mWl, List.length_map]
    exact (List.getElem?_eq_some_iff.mp hk).1
  by_cases hj : j = k
  · subst hj
    rw [List.getElem?_set_self hl, mWl, List.getElem?_map, hk]
    rfl
  · rw [List.getElem?_set_ne (Ne.symm hj), mWl, mWl, List.getElem?_map, List.getElem?_map]
    cases hx : mNs[j]? with
    | none => rfl
    | some q' =>
      have hne : q' ≠ q := by
        intro e
        subst e
        have h1 := (List.getElem?_eq_some_iff.mp hx)
        have h2 := (List.getElem?_eq_some_iff.mp hk)
        obtain ⟨l1, e1⟩ := h1
        obtain ⟨l2, e2⟩ := h2
        exact hj ((List.getElem_inj mNs_nodup).mp (e1.trans e2.symm))
      show some (ad q', mLay ad dA v q') = some (ad q', mLay ad dA v' q')
      rw [h q' (List.mem_of_getElem? hx) hne]
theorem mWl_D {ad : MN → Nat} {dA : Nat → ClassId} {v v' : MM} {A : Nat → Prop} (h : va_D A (mWl ad dA v)) : va_D A (mWl ad dA v') := by
  have key : ∀ (k : Nat) (x : Nat × va_E), (mWl ad dA v')[k]? = some x → ∃ y, (mWl ad dA v)[k]? = some y ∧ y.1 = x.1 := by
    intro k x hx
    rw [mWl, List.getElem?_map] at hx
    cases hq : mNs[k]? with
    | none => rw [hq] at hx; cases hx
    | some q =>
      rw [hq] at hx
      cases hx
      exact ⟨(ad q, mLay ad dA v q), by rw [mWl, List.getElem?_map, hq]; rfl, rfl⟩
  refine ⟨fun i j p q hi hj hpq => ?_, fun k q hk => ?_⟩
  · obtain ⟨p', h1, h2⟩ := key i p hi
    obtain ⟨q', h3, h4⟩ := key j q hj
    exact h.1 i j p' q' h1 h3 (h2.trans (hpq.trans h4.symm))
  · obtain ⟨q', h1, h2⟩ := key k q hk
    rw [← h2]
    exact h.2 k q' h1
theorem mFs_len (ad : MN → Nat) (v : MM) (q : MN) : (mFs ad v q).length = mSz q.1 := by simp [mFs]
theorem mFs_at {ad : MN → Nat} {v : MM} {q : MN} {k : Nat} (hk : k < mSz q.1) : (mFs ad v q)[k]? = some (mv ad (mGet v q k)) := by
  rw [mFs, List.getElem?_map, List.getElem?_range hk]
  rfl
theorem mUp_same (v : MM) (p : Nat × Nat) (x : Int32) : (mUp v p x).1 p.1 p.2 = x := if_pos ⟨rfl, rfl⟩
theorem mUp_other {v : MM} {p : Nat × Nat} {x : Int32} {r o : Nat} (h : ¬ (r, o) = p) : (mUp v p x).1 r o = v.1 r o := if_neg (fun z => h (by rw [z.1, z.2]))
theorem mGet_int {v : MM} {q : MN} {k : Nat} (h : mIsI q k = true) : mGet v q k = .inl (v.1 (mFl q k).1 (mFl q k).2) := by
  simp only [mIsI, Option.isNone_iff_eq_none] at h
  simp only [mGet, h]
theorem mGet_up {v : MM} {q q' : MN} {k k' : Nat} {x : Int32} (hq : q ∈ mNs) (hk : k < mSz q.1) (hi : mIsI q k = true) (hq' : q' ∈ mNs) (hk' : k' < mSz q'.1) (hne : ¬ (q' = q ∧ k' = k)) : mGet (mUp v (mFl q k) x) q' k' = mGet v q' k' := by
  cases h1 : mRf q' k' with
  | some y => simp only [mGet, h1]
  | none =>
    simp only [mGet, h1]
    rw [mUp_other]
    intro e
    have e2 : mFl q' k' = mFl q k := e
    exact hne (mFl_inj hq' hq hk' hk (by simp [mIsI, h1]) hi e2)
theorem mFs_up {ad : MN → Nat} {v : MM} {q : MN} {k : Nat} {x : Int32} (hq : q ∈ mNs) (hk : k < mSz q.1) (hi : mIsI q k = true) : (mFs ad v q).set k (.int x) = mFs ad (mUp v (mFl q k) x) q := by
  refine List.ext_getElem? (fun j => ?_)
  by_cases hj : j = k
  · subst hj
    rw [List.getElem?_set_self (by rw [mFs_len]; exact hk), mFs_at hk, mGet_int hi, mUp_same]
    rfl
  · rw [List.getElem?_set_ne (Ne.symm hj)]
    by_cases hl : j < mSz q.1
    · rw [mFs_at hl, mFs_at hl, mGet_up hq hk hi hq hl (fun z => hj z.2)]
    · rw [List.getElem?_eq_none (by rw [mFs_len]; omega), List.getElem?_eq_none (by rw [mFs_len]; omega)]
theorem mIsI_arr {t i j k : Nat} (h : 100 ≤ mKc t ∧ mKc t ≤ 102) : mIsI (t, i, j) k = true := by
  have ht : t = 7 ∨ t = 10 ∨ t = 14 ∨ t = 15 := by
    rcases h with ⟨h1, h2⟩
    unfold mKc at h1 h2
    split at h1 <;> simp_all
  rcases ht with rfl | rfl | rfl | rfl <;> rfl
theorem mKc_in {q : MN} (hq : q ∈ mNs) : mKc q.1 ≤ 103 := by
  have h := List.all_eq_true.mp mKc_in0 q hq
  simpa using h
theorem mArr_up {v : MM} {q q' : MN} {k k' : Nat} {x : Int32} (hq : q ∈ mNs) (hk : k < mSz q.1) (hi : mIsI q k = true) (hq' : q' ∈ mNs) (h3 : 100 ≤ mKc q'.1 ∧ mKc q'.1 ≤ 102) (hne : ¬ (q' = q ∧ k' = k)) : mArr (mUp v (mFl q k) x) q' k' = mArr v q' k' := by
  unfold mArr
  by_cases hl : k' < mSz q'.1
  · rw [if_pos hl, if_pos hl, mUp_other]
    intro e
    have e2 : mFl q' k' = mFl q k := e
    exact hne (mFl_inj hq' hq hl hk (mIsI_arr h3) hi e2)
  · rw [if_neg hl, if_neg hl]
theorem mArr_set {v : MM} {q : MN} {k : Nat} {x : Int32} (hq : q ∈ mNs) (hk : k < mSz q.1) (h3 : 100 ≤ mKc q.1 ∧ mKc q.1 ≤ 102) : upd (mArr v q) k x = mArr (mUp v (mFl q k) x) q := by
  funext j
  unfold upd
  by_cases hj : j = k
  · subst hj
    rw [if_pos rfl]
    unfold mArr
    rw [if_pos hk, mUp_same]
  · rw [if_neg hj, mArr_up hq hk (mIsI_arr h3) hq h3 (fun z => hj z.2)]
theorem mLay_obj {ad : MN → Nat} {dA : Nat → ClassId} {v : MM} {q : MN} (h : mKc q.1 < 100) : mLay ad dA v q = .inr (mKc q.1, mFs ad v q) := if_pos h
theorem mLay_ref {ad : MN → Nat} {dA : Nat → ClassId} {v : MM} {q : MN} (h : mKc q.1 = 103) : mLay ad dA v q = .inl (dA q.1, (mSz q.1, .inr (.inr (.inr (.inr (fun k => (mRf q k).map ad)))))) := by
  rw [mLay, if_neg (by omega), if_pos h]
theorem mLay_int {ad : MN → Nat} {dA : Nat → ClassId} {v : MM} {q : MN} (h : 100 ≤ mKc q.1 ∧ mKc q.1 ≤ 102) : mLay ad dA v q = .inl (dA q.1, (mSz q.1, .inl (mArr v q))) := by
  rw [mLay, if_neg (by omega), if_neg (by omega)]
/-- a number put into one slot: the other cells stay -/
theorem mLay_up {ad : MN → Nat} {dA : Nat → ClassId} {v : MM} {q q' : MN} {k : Nat} {x : Int32} (hq : q ∈ mNs) (hk : k < mSz q.1) (hi : mIsI q k = true) (hq' : q' ∈ mNs) (hne : q' ≠ q) : mLay ad dA (mUp v (mFl q k) x) q' = mLay ad dA v q' := by
  by_cases h1 : mKc q'.1 < 100
  · rw [mLay_obj h1, mLay_obj h1]
    congr 2
    refine List.map_congr_left (fun j hj => ?_)
    rw [mGet_up hq hk hi hq' (List.mem_range.mp hj) (fun z => hne z.1)]
  · by_cases h2 : mKc q'.1 = 103
    · rw [mLay_ref h2, mLay_ref h2]
    · by_cases h3 : 100 ≤ mKc q'.1 ∧ mKc q'.1 ≤ 102
      · rw [mLay_int h3, mLay_int h3]
        rw [show mArr (mUp v (mFl q k) x) q' = mArr v q' from funext fun j => mArr_up hq hk hi hq' h3 (fun z => hne z.1)]
      · exact absurd (mKc_in hq') (by omega)
