-- THE WORLD OF THE MAKING MACHINE
def aV (as : Nat → Nat) (w : AV) : Value := match w with
  | .inl x => .int x
  | .inr (.inl x) => .long x
  | .inr (.inr (some j)) => .ref (as j)
  | .inr (.inr none) => .null
def vOk (n : Nat) (w : AV) : Prop := match w with
  | .inr (.inr (some j)) => j < n
  | _ => True
def cOk (n : Nat) (c : AC) : Prop := ∀ w ∈ c.2.2, vOk n w
def hOk (hp : AH) : Prop := ∀ c ∈ hp, cOk hp.length c
def aIn (l : List AV) (k : Nat) : Int32 := match l[k]? with
  | some (.inl x) => x
  | _ => 0
def aRf (as : Nat → Nat) (l : List AV) (k : Nat) : Option Nat := match l[k]? with
  | some (.inr (.inr (some j))) => some (as j)
  | _ => none
def aE (dA : Nat → ClassId) (as : Nat → Nat) (c : AC) : va_E := if c.1 < 100 then .inr (c.1, c.2.2.map (aV as)) else if c.1 = 103 then .inl (dA c.2.1, (c.2.2.length, .inr (.inr (.inr (.inr (aRf as c.2.2)))))) else .inl (dA c.2.1, (c.2.2.length, .inl (aIn c.2.2)))
def aW (dA : Nat → ClassId) (as : Nat → Nat) (hp : AH) : va_W := hp.mapIdx (fun i c => (as i, aE dA as c))
section
variable {dA : Nat → ClassId} {as as' : Nat → Nat} {hp hp' : AH} {c : AC} {n j k : Nat} {l : List AV} {w : AV}
theorem vOk.up (h : vOk n w) {m : Nat} (hm : n ≤ m) : vOk m w := by
  rcases w with x | x | _ | x
  · trivial
  · trivial
  · trivial
  · exact Nat.lt_of_lt_of_le h hm
theorem cOk.up (h : cOk n c) {m : Nat} (hm : n ≤ m) : cOk m c := fun w hw => (h w hw).up hm
theorem aV_cg (e : ∀ j, j < n → as' j = as j) (h : vOk n w) : aV as' w = aV as w := by
  rcases w with x | x | _ | x
  · rfl
  · rfl
  · rfl
  · exact congrArg Value.ref (e x h)
theorem aE_cg (e : ∀ j, j < n → as' j = as j) (h : cOk n c) : aE dA as' c = aE dA as c := by
  unfold aE
  have h1 : c.2.2.map (aV as') = c.2.2.map (aV as) := List.map_congr_left (fun w hw => aV_cg e (h w hw))
  have h2 : aRf as' c.2.2 = aRf as c.2.2 := by
    funext k
    unfold aRf
    cases hk : c.2.2[k]? with
    | none => rfl
    | some w =>
      rcases w with x | x | _ | x
      · rfl
      · rfl
      · rfl
      · exact congrArg some (e x (h _ (List.mem_of_getElem? hk)))
  rw [h1, h2]
theorem aW_get (k : Nat) : (aW dA as hp)[k]? = (hp[k]?).map (fun c => (as k, aE dA as c)) := by
  unfold aW
  rw [List.getElem?_mapIdx]
theorem aW_at (h : hp[k]? = some c) : (aW dA as hp)[k]? = some (as k, aE dA as c) := by
  rw [aW_get, h]
  rfl
theorem aW_cg (h : hOk hp) (e : ∀ j, j < hp.length → as' j = as j) : aW dA as' hp = aW dA as hp := by
  refine List.ext_getElem? (fun k => ?_)
  rw [aW_get, aW_get]
  cases hk : hp[k]? with
  | none => rfl
  | some c =>
    have hl := (List.getElem?_eq_some_iff.mp hk).1
    show some (as' k, aE dA as' c) = some (as k, aE dA as c)
    rw [e k hl, aE_cg e (h c (List.mem_of_getElem? hk))]
theorem aW_app (c : AC) : aW dA as (hp ++ [c]) = aW dA as hp ++ [(as hp.length, aE dA as c)] := by
  unfold aW
  rw [List.mapIdx_append]
  simp
theorem aW_set (hj : j < hp.length) (c : AC) : (aW dA as hp).set j (as j, aE dA as c) = aW dA as (hp.set j c) := by
  refine List.ext_getElem? (fun k => ?_)
  rw [aW_get]
  by_cases z : k = j
  · subst z
    rw [List.getElem?_set_self (by unfold aW; rw [List.length_mapIdx]; exact hj), List.getElem?_set_self hj]
    rfl
  · rw [List.getElem?_set_ne (Ne.symm z), List.getElem?_set_ne (Ne.symm z), aW_get]
theorem hOk.set (h : hOk hp) (hc : cOk hp.length c) (j : Nat) : hOk (hp.set j c) := by
  intro x hx
  rw [List.length_set]
  rcases List.mem_or_eq_of_mem_set hx with h1 | h1
  · exact h x h1
  · rw [h1]
    exact hc
theorem hOk.app (h : hOk hp) (hc : cOk (hp.length + 1) c) : hOk (hp ++ [c]) := by
  intro x hx
  rw [List.length_append]
  rcases List.mem_append.mp hx with h1 | h1
  · exact (h x h1).up (Nat.le_succ _)
  · rw [List.mem_singleton.mp h1]
    exact hc
theorem cOk.set {a t : Nat} (h : cOk n (a, (t, l))) (hw : vOk n w) (k : Nat) : cOk n (a, (t, l.set k w)) := by
  intro x hx
  rcases List.mem_or_eq_of_mem_set hx with h1 | h1
  · exact h x h1
  · rw [h1]
    exact hw
theorem aE_obj {b t : Nat} (h : b < 100) : aE dA as (b, (t, l)) = .inr (b, l.map (aV as)) := if_pos h
theorem aE_ref {t : Nat} : aE dA as (103, (t, l)) = .inl (dA t, (l.length, .inr (.inr (.inr (.inr (aRf as l)))))) := rfl
theorem aE_int {b t : Nat} (h1 : 100 ≤ b) (h2 : b ≠ 103) : aE dA as (b, (t, l)) = .inl (dA t, (l.length, .inl (aIn l))) := by
  unfold aE
  rw [if_neg (by show ¬ b < 100; omega), if_neg h2]
theorem aIn_set {x : Int32} (hk : k < l.length) : upd (aIn l) k x = aIn (l.set k (.inl x)) := by
  funext j
  unfold upd aIn
  by_cases z : j = k
  · subst z
    rw [if_pos rfl, List.getElem?_set_self hk]
  · rw [if_neg z, List.getElem?_set_ne (Ne.symm z)]
theorem aRf_set {x : Nat} (hk : k < l.length) : va_up (aRf as l) k (some (as x)) = aRf as (l.set k (.inr (.inr (some x)))) := by
  funext j
  unfold va_up aRf
  by_cases z : j = k
  · subst z
    rw [if_pos rfl, List.getElem?_set_self hk]
  · rw [if_neg z, List.getElem?_set_ne (Ne.symm z)]
theorem aIn_rep (N : Nat) : aIn (List.replicate N (.inl 0)) = fun _ => 0 := by
  funext k
  unfold aIn
  rw [List.getElem?_replicate]
  by_cases h : k < N
  · rw [if_pos h]
  · rw [if_neg h]
theorem aRf_rep (N : Nat) : aRf as (List.replicate N (.inr (.inr none))) = fun _ => none := by
  funext k
  unfold aRf
  rw [List.getElem?_replicate]
  by_cases h : k < N
  · rw [if_pos h]
  · rw [if_neg h]
theorem rep_ok {N : Nat} (h : vOk n w) (a t : Nat) : cOk n (a, (t, List.replicate N w)) := fun x hx => by
  rw [(List.mem_replicate.mp hx).2]
  exact h
theorem aDf_ok (n b : Nat) : cOk n (b, (0, aDf b)) := fun x hx => by
  obtain ⟨k, -, rfl⟩ := List.mem_map.mp hx
  split <;> trivial
theorem aDf_ty : ∀ b, b < 7 → ∀ j, j < nOf b → (match tyOf b j with
  | .int => true
  | .boolean => true
  | .long => true
  | .object _ => true
  | .array _ => true
  | _ => false) = true := by decide +kernel
theorem aDf_val {b : Nat} (hb : b < 7) : ∀ j, j < nOf b → defaultValue (tyOf b j) = vp_V ((aDf b).map (aV as)) j := by
  intro j hj
  have h := aDf_ty b hb j hj
  have e : vp_V ((aDf b).map (aV as)) j = aV as (match tyOf b j with
    | .int => .inl 0
    | .boolean => .inl 0
    | .long => .inr (.inl 0)
    | _ => .inr (.inr none)) := by
    unfold vp_V aDf
    rw [List.getD_eq_getElem?_getD, List.getElem?_map, List.getElem?_map, List.getElem?_range hj]
    rfl
  rw [e]
  generalize tyOf b j = ty at h
  cases ty <;> first | rfl | cases h
theorem aDf_len (b : Nat) : (aDf b).length = nOf b := by
  unfold aDf
  rw [List.length_map, List.length_range]
theorem aGet_some {b : Nat} (h : aGet hp j b n = some w) : ∃ t l, hp[j]? = some (b, (t, l)) ∧ l[n]? = some w := by
  unfold aGet at h
  cases hj : hp[j]? with
  | none =>
    rw [hj] at h
    cases h
  | some c =>
    rw [hj] at h
    obtain ⟨k, t, l⟩ := c
    have h2 : (if k = b then l[n]? else none) = some w := h
    by_cases e : k = b
    · rw [if_pos e] at h2
      subst e
      exact ⟨t, l, rfl, h2⟩
    · rw [if_neg e] at h2
      cases h2
theorem aPut_some {b : Nat} (h : aPut hp j b n w = some hp') : ∃ t l, hp[j]? = some (b, (t, l)) ∧ n < l.length ∧ hp' = hp.set j (b, (t, l.set n w)) := by
  unfold aPut at h
  cases hj : hp[j]? with
  | none =>
    rw [hj] at h
    cases h
  | some c =>
    rw [hj] at h
    obtain ⟨k, t, l⟩ := c
    have h2 : (if k = b ∧ n < l.length then some (hp.set j (k, (t, l.set n w))) else none) = some hp' := h
    by_cases e : k = b ∧ n < l.length
    · rw [if_pos e] at h2
      obtain ⟨e, e2⟩ := e
      subst e
      exact ⟨t, l, rfl, e2, (Option.some.inj h2).symm⟩
    · rw [if_neg e] at h2
      cases h2
theorem aSto_some {x y : Int32} (h : aSto hp j x y = some hp') : ∃ t l, hp[j]? = some (100, (t, l)) ∧ mIn x l.length ∧ (mAt.contains t = true ∧ mTy t = .int) ∧ hp' = hp.set j (100, (t, l.set x.toNatClampNeg (.inl y))) := by
  unfold aSto at h
  cases hj : hp[j]? with
  | none =>
    rw [hj] at h
    cases h
  | some c =>
    rw [hj] at h
    obtain ⟨k, t, l⟩ := c
    have h2 : (if k = 100 ∧ mIn x l.length ∧ (mAt.contains t = true ∧ mTy t = .int) then some (hp.set j (k, (t, l.set x.toNatClampNeg (.inl y)))) else none) = some hp' := h
    by_cases e : k = 100 ∧ mIn x l.length ∧ (mAt.contains t = true ∧ mTy t = .int)
    · rw [if_pos e] at h2
      obtain ⟨e, e2, e3⟩ := e
      subst e
      exact ⟨t, l, rfl, e2, e3, (Option.some.inj h2).symm⟩
    · rw [if_neg e] at h2
      cases h2
theorem aStr_some {x : Int32} {q : Nat} (h : aStr hp j x q = some hp') : ∃ t l k2 t2 l2, hp[j]? = some (103, (t, l)) ∧ hp[q]? = some (k2, (t2, l2)) ∧ mIn x l.length ∧ k2 < 7 ∧ mTy t = .object (ownN k2) ∧ hp' = hp.set j (103, (t, l.set x.toNatClampNeg (.inr (.inr (some q))))) := by
  unfold aStr at h
  cases hj : hp[j]? with
  | none =>
    rw [hj] at h
    cases h
  | some c =>
    rw [hj] at h
    obtain ⟨k, t, l⟩ := c
    cases hq : hp[q]? with
    | none =>
      rw [hq] at h
      cases h
    | some c2 =>
      rw [hq] at h
      obtain ⟨k2, t2, l2⟩ := c2
      have h2 : (if (k = 103 ∧ mIn x l.length) ∧ (k2 < 7 ∧ mTy t = .object (ownN k2)) then some (hp.set j (k, (t, l.set x.toNatClampNeg (.inr (.inr (some q)))))) else none) = some hp' := h
      by_cases e : (k = 103 ∧ mIn x l.length) ∧ (k2 < 7 ∧ mTy t = .object (ownN k2))
      · rw [if_pos e] at h2
        obtain ⟨⟨e, e2⟩, e3, e4⟩ := e
        subst e
        exact ⟨t, l, k2, t2, l2, rfl, rfl, e2, e3, e4, (Option.some.inj h2).symm⟩
      · rw [if_neg e] at h2
        cases h2
theorem lkA_mem : ∀ {l : AL} {a : Nat} {w : AV}, lkA l a = some w → (a, w) ∈ l
  | [], _, _, h => by cases h
  | (j, u) :: l, a, w, h => by
    unfold lkA at h
    split at h
    · rename_i e
      have := Nat.eq_of_beq_eq_true e
      subst this
      cases h
      exact List.mem_cons_self
    · exact List.mem_cons_of_mem _ (lkA_mem h)
def aLv (as : Nat → Nat) (l : AL) : List (Nat × Value) := l.map (fun q => (q.1, aV as q.2))
theorem aLv_at {l : AL} {a : Nat} {w : AV} (h : lkA l a = some w) : ∃ k : Nat, (aLv as l)[k]? = some (a, aV as w) := List.getElem?_of_mem (List.mem_map.mpr ⟨(a, w), lkA_mem h, rfl⟩)
theorem aV_cat (as : Nat → Nat) (w : AV) : (aV as w).category = acat w := by
  rcases w with x | x | _ | x <;> rfl
theorem aLv_sto {l : AL} {a : Nat} {w : AV} : (a, aV as w) :: (aLv as l).filter (fun q => !(q.1 == a) && !(q.1 + 1 == a && q.2.category == 2)) = aLv as (stA1 l a w) := by
  unfold aLv stA1
  rw [List.map_cons, List.filter_map]
  congr 2
  refine List.filter_congr (fun q _ => ?_)
  show (!(q.1 == a) && !(q.1 + 1 == a && (aV as q.2).category == 2)) = _
  rw [aV_cat]
theorem stA1_ok {l : AL} {a : Nat} (h : ∀ q ∈ l, vOk n q.2) (hw : vOk n w) : ∀ q ∈ stA1 l a w, vOk n q.2 := by
  intro q hq
  rcases List.mem_cons.mp hq with rfl | hq
  · exact hw
  · exact h q (List.mem_filter.mp hq).1
theorem aLv_cg {l : AL} (e : ∀ j, j < n → as' j = as j) (h : ∀ q ∈ l, vOk n q.2) : aLv as' l = aLv as l := List.map_congr_left (fun q hq => by rw [aV_cg e (h q hq)])
theorem aSt_cg {st : List AV} (e : ∀ j, j < n → as' j = as j) (h : ∀ w ∈ st, vOk n w) : st.map (aV as') = st.map (aV as) := List.map_congr_left (fun w hw => aV_cg e (h w hw))
theorem ra_eq {s : State} {c1 c2 : ClassId} {ty : FieldType} (h1 : va_RA s c1 ty) (h2 : va_RA s c2 ty) : c1 = c2 := by
  cases ty with
  | object C =>
    obtain ⟨_, _, -, -, -, h1⟩ := h1
    obtain ⟨_, _, -, -, -, h2⟩ := h2
    exact Option.some.inj (h1.symm.trans h2)
  | _ => exact Option.some.inj (Eq.trans (Eq.symm h1) h2)
end
