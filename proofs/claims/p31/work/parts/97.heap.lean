-- THE CELLS AS THE LAW MAKES THEM, and the world of the calls
def pg0 (o : Nat) : Nat := if o < 18 then (if o % 3 = 0 then 600 else if o % 3 = 1 then 100 else 50) else if o < 42 then (match o with
  | 18 => 3
  | 19 => 40
  | 20 => 200
  | 21 => 50
  | o => if (o - 22) % 5 = 1 then 1000 else if (o - 22) % 5 = 3 then 1000 else if (o - 22) % 5 = 4 then 20 else 0) else 0
def v0 : MM := ((fun r o => if r < 8 then nI (pg0 o) else 0), 0)
def ordA : List MN := [(0, 0, 0), (1, 0, 0), (12, 8, 0), (13, 0, 0), (14, 0, 0), (15, 0, 0)] ++ (List.range 8).flatMap (fun i => [(2, i, 0), (3, i, 0), (4, i, 0), (5, i, 0), (6, i, 0), (7, i, 0)] ++ (List.range 6).map (fun j => (8, i, j)) ++ (List.range 4).flatMap (fun j => [(9, i, j), (10, i, j)]) ++ (List.range 8).map (fun j => (11, i, j)) ++ (List.range 6).map (fun j => (12, i, j)))
/-- a name's place among the cells -/
def ixN (q : MN) : Nat := match q.1 with
  | 0 => 0
  | 1 => 1
  | 13 => 3
  | 14 => 4
  | 15 => 5
  | 12 => if q.2.1 = 8 then 2 else 34 + 34 * q.2.1 + q.2.2
  | 2 => 6 + 34 * q.2.1
  | 3 => 7 + 34 * q.2.1
  | 4 => 8 + 34 * q.2.1
  | 5 => 9 + 34 * q.2.1
  | 6 => 10 + 34 * q.2.1
  | 7 => 11 + 34 * q.2.1
  | 8 => 12 + 34 * q.2.1 + q.2.2
  | 9 => 18 + 34 * q.2.1 + 2 * q.2.2
  | 10 => 19 + 34 * q.2.1 + 2 * q.2.2
  | 11 => 26 + 34 * q.2.1 + q.2.2
  | t => 262 + t
def cvA (w : MV) : AV := match w with
  | .inl x => .inl x
  | .inr (.inl x) => .inr (.inl x)
  | .inr (.inr q) => .inr (.inr (some (ixN q)))
def cell0 (q : MN) : AC := if mKc q.1 < 100 then (mKc q.1, (0, (List.range (mSz q.1)).map (fun k => cvA (mGet v0 q k))))
  else if mKc q.1 = 103 then (103, (q.1, (List.range (mSz q.1)).map (fun k => match mRf q k with
    | some y => .inr (.inr (some (ixN y)))
    | none => .inr (.inr none))))
  else (mKc q.1, (q.1, (List.range (mSz q.1)).map (fun k => .inl (v0.1 (mFl q k).1 (mFl q k).2))))
def bAV : AV → AV → Bool
  | .inl x, .inl y => decide (x = y)
  | .inr (.inl x), .inr (.inl y) => decide (x = y)
  | .inr (.inr none), .inr (.inr none) => true
  | .inr (.inr (some x)), .inr (.inr (some y)) => Nat.beq x y
  | _, _ => false
def bLi {α : Type} (f : α → α → Bool) : List α → List α → Bool
  | [], [] => true
  | x :: l, y :: m => f x y && bLi f l m
  | _, _ => false
def bC (c d : AC) : Bool := Nat.beq c.1 d.1 && (Nat.beq c.2.1 d.2.1 && bLi bAV c.2.2 d.2.2)
def bO (o : Option AH) (g : AH) : Bool := match o with
  | some h => bLi bC h g
  | none => false
theorem bAV_ok : ∀ {x y : AV}, bAV x y = true → x = y := by
  intro x y h
  rcases x with x | x | _ | x <;> rcases y with y | y | _ | y <;> first | (cases h; done) | rfl | skip
  · rw [of_decide_eq_true h]
  · rw [of_decide_eq_true h]
  · rw [Nat.eq_of_beq_eq_true h]
theorem bLi_ok {α : Type} {f : α → α → Bool} (hf : ∀ {x y : α}, f x y = true → x = y) : ∀ {l m : List α}, bLi f l m = true → l = m
  | [], [], _ => rfl
  | [], _ :: _, h => by cases h
  | _ :: _, [], h => by cases h
  | x :: l, y :: m, h => by
    have h : (f x y && bLi f l m) = true := h
    rw [Bool.and_eq_true] at h
    rw [hf h.1, bLi_ok hf h.2]
theorem bC_ok {c d : AC} (h : bC c d = true) : c = d := by
  obtain ⟨a, b, l⟩ := c
  obtain ⟨a', b', l'⟩ := d
  unfold bC at h
  rw [Bool.and_eq_true, Bool.and_eq_true] at h
  have h1 : a = a' := Nat.eq_of_beq_eq_true h.1
  have h2 : b = b' := Nat.eq_of_beq_eq_true h.2.1
  have h3 : l = l' := bLi_ok bAV_ok h.2.2
  rw [h1, h2, h3]
theorem bO_ok {o : Option AH} {g : AH} (h : bO o g = true) : o = some g := by
  cases o with
  | none => cases h
  | some x => exact congrArg some (bLi_ok bC_ok h)
set_option maxRecDepth 100000 in
theorem heap_A : afX6 [(6, (0, aDf 6))] 0 = some (ordA.map cell0) := bO_ok (by decide +kernel)
theorem ordA_len : (ordA.map cell0).length = 278 := by rw [List.length_map]; decide +kernel
theorem ix_ok0 : mNs.all (fun q => decide (ordA[ixN q]? = some q)) = true := by decide +kernel
theorem ix_ok {q : MN} (hq : q ∈ mNs) : ordA[ixN q]? = some q := of_decide_eq_true (List.all_eq_true.mp ix_ok0 q hq)
theorem mNs_tag0 : mNs.all (fun q => Nat.blt q.1 22) = true := by decide +kernel
theorem mNs_tag {q : MN} (hq : q ∈ mNs) : q.1 < 22 := Nat.blt_eq.mp (List.all_eq_true.mp mNs_tag0 q hq)
section
variable {dA : Nat → ClassId} {D : va_G} {A : Nat → Prop} {as : Nat → Nat} {ad : MN → Nat} {H : Heap}
theorem arrV_cg {cI : ClassId} {N : Nat} {f g : Nat → Value} (h : ∀ j, j < N → f j = g j) : arrV cI N f = arrV cI N g := by
  unfold arrV
  rw [show (fun j : Fin N => f j.val) = fun j : Fin N => g j.val from funext fun j => h j.val j.isLt]
theorem mRf_in {q : MN} (hq : q ∈ mNs) {k : Nat} (hk : k < mSz q.1) {y : MN} (hy : mRf q k = some y) : y ∈ mNs := mNs_closed hq hk hy
theorem world_P (had : ∀ q, q ∈ mNs → ad q = as (ixN q)) (hP : va_P D vwCl (aW dA as (ordA.map cell0)) H) : va_P D vwCl (mWl ad dA v0) H := by
  intro k x hx
  rw [mWl, List.getElem?_map] at hx
  cases hk : mNs[k]? with
  | none =>
    rw [hk] at hx
    cases hx
  | some q =>
    rw [hk] at hx
    cases hx
    show va_at D vwCl (ad q, mLay ad dA v0 q) H
    have hq : q ∈ mNs := List.mem_of_getElem? hk
    have h := hP (ixN q) _ (aW_at (c := cell0 q) (by rw [List.getElem?_map, ix_ok hq]; rfl))
    have hl : as (ixN q) = ad q := (had q hq).symm
    rw [hl] at h
    by_cases h1 : mKc q.1 < 100
    · have e : aE dA as (cell0 q) = mLay ad dA v0 q := by
        rw [mLay_obj h1]
        unfold cell0
        rw [if_pos h1, aE_obj h1]
        congr 2
        unfold mFs
        rw [List.map_map]
        refine List.map_congr_left (fun j hj => ?_)
        have hj := List.mem_range.mp hj
        show aV as (cvA (mGet v0 q j)) = mv ad (mGet v0 q j)
        cases h2 : mRf q j with
        | some y =>
          simp only [mGet, h2]
          exact congrArg Value.ref (had y (mRf_in hq hj h2)).symm
        | none =>
          simp only [mGet, h2]
          rfl
      rw [e] at h
      exact h
    · by_cases h2 : mKc q.1 = 103
      · have e : aE dA as (cell0 q) = .inl (dA q.1, (mSz q.1, .inr (.inr (.inr (.inr (aRf as ((List.range (mSz q.1)).map (fun k => match mRf q k with
          | some y => .inr (.inr (some (ixN y)))
          | none => .inr (.inr none)))))))) ) := by
          unfold cell0
          rw [if_neg h1, if_pos h2, aE_ref, List.length_map, List.length_range]
        rw [e] at h
        rw [mLay_ref h2]
        show H[ad q]? = some (vp_cell (dA q.1) (mSz q.1, .inr (.inr (.inr (.inr (fun k => (mRf q k).map ad))))))
        have h : H[ad q]? = some (vp_cell (dA q.1) (mSz q.1, .inr (.inr (.inr (.inr (aRf as ((List.range (mSz q.1)).map (fun k => match mRf q k with
          | some y => .inr (.inr (some (ixN y)))
          | none => .inr (.inr none))))))))) := h
        rw [h, vp_cell_q, vp_cell_q]
        refine congrArg some (arrV_cg (fun j hj => ?_))
        congr 1
        unfold aRf
        rw [List.getElem?_map, List.getElem?_range hj]
        cases h3 : mRf q j with
        | some y =>
          simp only [Option.map_some, h3]
          exact congrArg some (had y (mRf_in hq hj h3)).symm
        | none =>
          simp only [Option.map_some, Option.map_none, h3]
      · have h3 : 100 ≤ mKc q.1 ∧ mKc q.1 ≤ 102 := by
          have := mKc_in hq
          omega
        have e : aE dA as (cell0 q) = mLay ad dA v0 q := by
          rw [mLay_int h3]
          unfold cell0
          rw [if_neg h1, if_neg h2, aE_int h3.1 (by omega), List.length_map, List.length_range]
          have ef : aIn ((List.range (mSz q.1)).map (fun k => .inl (v0.1 (mFl q k).1 (mFl q k).2))) = mArr v0 q := by
            funext j
            unfold aIn mArr
            rw [List.getElem?_map]
            by_cases hj : j < mSz q.1
            · rw [List.getElem?_range hj, if_pos hj]
              rfl
            · rw [List.getElem?_eq_none (by rw [List.length_range]; omega), if_neg hj]
              rfl
          rw [ef]
        rw [e] at h
        exact h
theorem world_D (had : ∀ q, q ∈ mNs → ad q = as (ixN q)) (hD : va_D A (aW dA as (ordA.map cell0))) : va_D A (mWl ad dA v0) := by
  have at' : ∀ (k : Nat) (x : Nat × va_E), (mWl ad dA v0)[k]? = some x → ∃ q, mNs[k]? = some q ∧ q ∈ mNs ∧ x.1 = as (ixN q) ∧ (aW dA as (ordA.map cell0))[ixN q]? = some (as (ixN q), aE dA as (cell0 q)) := by
    intro k x hx
    rw [mWl, List.getElem?_map] at hx
    cases hk : mNs[k]? with
    | none =>
      rw [hk] at hx
      cases hx
    | some q =>
      rw [hk] at hx
      cases hx
      have hq : q ∈ mNs := List.mem_of_getElem? hk
      exact ⟨q, rfl, hq, had q hq, aW_at (c := cell0 q) (by rw [List.getElem?_map, ix_ok hq]; rfl)⟩
  refine ⟨fun i j x y hx hy he => ?_, fun k x hx => ?_⟩
  · obtain ⟨q1, k1, m1, e1, w1⟩ := at' i x hx
    obtain ⟨q2, k2, m2, e2, w2⟩ := at' j y hy
    have hix := hD.1 _ _ _ _ w1 w2 (e1.symm.trans (he.trans e2))
    have hq : q1 = q2 := by
      have z1 := ix_ok m1
      rw [hix, ix_ok m2] at z1
      exact (Option.some.inj z1).symm
    subst hq
    obtain ⟨l1, g1⟩ := List.getElem?_eq_some_iff.mp k1
    obtain ⟨l2, g2⟩ := List.getElem?_eq_some_iff.mp k2
    exact (List.getElem_inj mNs_nodup).mp (g1.trans g2.symm)
  · obtain ⟨q, -, -, e, w⟩ := at' k x hx
    rw [e]
    exact hD.2 _ _ w
end
