-- WHAT HOLDS AT THE LAW'S START: classes, arrays; and the shop before the first call
theorem rel0 : Rel 0 v0 0 0 pg0 := by
  refine ⟨by decide, by decide, rfl, rfl, rfl, ⟨fun k _ => rfl, ?_, ?_⟩, fun q hq => absurd hq (Nat.not_lt_zero _)⟩
  · unfold Wf WT
    decide
  · unfold Bal SL SJ SE
    decide
section
variable {s : State} {args : Array Value}
theorem lw_mTs (hts : ∀ w ∈ lw_tbl, w.before args s = true) : ∀ w ∈ mTs, w.before args s = true := fun w hw => hts w (List.mem_filter.mp hw).1
theorem lw_at (hts : ∀ w ∈ lw_tbl, w.before args s = true) (i : Nat) {w : Cond} (h : tables_1[i]? = some w) : w.before args s = true := hts w (List.mem_append_right _ (List.mem_of_getElem? h))
theorem start_O (hts : ∀ w ∈ lw_tbl, w.before args s = true) : AOs s := by
  intro c hc
  simp only [List.mem_cons, List.not_mem_nil, or_false] at hc
  rcases hc with rfl | rfl | rfl | rfl | rfl
  · exact va_AO.of (lw_at hts 19 (by decide +kernel))
  · exact va_AO.of (lw_at hts 89 (by decide +kernel))
  · exact va_AO.of (lw_at hts 91 (by decide +kernel))
  · exact va_AO.of (lw_at hts 93 (by decide +kernel))
  · exact va_AO.of (lw_at hts 87 (by decide +kernel))
theorem arr_prim {ty : FieldType} (h : (Cond.arrayClass ty).before args s = true) (hp : ∀ C, ty ≠ .object C) (hq : ∀ (U : State) (cA : ClassId), va_RA U cA ty = (U.vm.findClass ("[" ++ ty.toString) = some cA)) (hr : ∀ (cA : ClassId) (kA : Class) (comp : ClassId), s.vm.classes[cA]? = some kA → kA.kind = .array comp ty → ArrOfT s cA ty) : ∃ cA : ClassId, ArrOfT s cA ty ∧ va_RA s cA ty := by
  obtain ⟨c, k, comp, h1, h2, h3⟩ := Cond.arrayClass_spec (first := s) (o := none) (s := s) (idx := []) h
  exact ⟨c, hr c k comp h2 h3, by rw [hq]; exact h1⟩
theorem arr_ref {C : String} (h : va_AO C s) : ∃ cA : ClassId, ArrOfT s cA (.object C) ∧ va_RA s cA (.object C) := by
  obtain ⟨comp, c, k, h1, -, h2, h3, h4⟩ := Cond.arrayOver_spec (first := s) (o := none) (s := s) (idx := []) (va_AO.use (A := #[]) h)
  exact ⟨c, fun N z => ⟨(fun k h => by cases h), k, h2, comp, h3⟩, k, comp, h2, h3, h1, h4⟩
theorem start_arr (hts : ∀ w ∈ lw_tbl, w.before args s = true) : ∀ t, t ∈ mAt → ∃ cA : ClassId, ArrOfT s cA (mTy t) ∧ va_RA s cA (mTy t) := by
  have ao := start_O hts
  have pi : ∃ cA : ClassId, ArrOfT s cA .int ∧ va_RA s cA .int := arr_prim (lw_mTs hts _ arr_int) (fun C z => by cases z) (fun _ _ => rfl) (fun cA kA comp h2 h3 N z => ⟨fun k h => (by cases h), kA, h2, comp, h3⟩)
  have pc : ∃ cA : ClassId, ArrOfT s cA .char ∧ va_RA s cA .char := arr_prim (lw_mTs hts _ arr_char) (fun C z => by cases z) (fun _ _ => rfl) (fun cA kA comp h2 h3 N z => ⟨fun k h => (by cases h), kA, h2, comp, h3⟩)
  intro t ht
  simp only [mAt, List.mem_cons, List.not_mem_nil, or_false] at ht
  rcases ht with rfl | rfl | rfl | rfl | rfl | rfl | rfl | rfl | rfl
  · exact arr_ref (ao 0 (by decide))
  · exact arr_ref (ao 5 (by decide))
  · exact arr_ref (ao 1 (by decide))
  · exact arr_ref (ao 2 (by decide))
  · exact arr_ref (ao 4 (by decide))
  · exact pi
  · exact pi
  · exact pc
  · exact pi
theorem start_K (hts : ∀ w ∈ lw_tbl, w.before args s = true) : ∃ (D : va_G) (dA : Nat → ClassId), va_K D vwCl (mTys dA) s := by
  have h1 : ∀ c : Nat, ∃ q : ClassId × (Nat → Nat), c < 7 → u_Kn s (ownN c) (tOf c) (nOf c) q.1 q.2 := by
    intro c
    by_cases hc : c < 7
    · obtain ⟨cC, iS, h⟩ := u_known (lw_mTs hts) (mTs_lay c hc) (lw_mTs hts _ (mk_in hc).1)
      exact ⟨(cC, iS), fun _ => h⟩
    · exact ⟨(0, fun _ => 0), fun z => absurd z hc⟩
  have h2 : ∀ t : Nat, ∃ cA : ClassId, t ∈ mAt → ArrOfT s cA (mTy t) ∧ va_RA s cA (mTy t) := by
    intro t
    by_cases ht : t ∈ mAt
    · obtain ⟨cA, h⟩ := start_arr hts t ht
      exact ⟨cA, fun _ => h⟩
    · exact ⟨0, fun z => absurd z ht⟩
  obtain ⟨f, hf⟩ := Classical.axiomOfChoice h1
  obtain ⟨dA, hd⟩ := Classical.axiomOfChoice h2
  refine ⟨(fun c => (f c).1, fun c => (f c).2), dA, fun c q hq => ?_, fun k q hk => ?_⟩
  · have hc : c < 7 := (List.getElem?_eq_some_iff.mp hq).1
    rw [vwCl_at c hc] at hq
    cases hq
    exact hf c hc
  · rw [mTys, List.getElem?_map] at hk
    cases ht : mAt[k]? with
    | none =>
      rw [ht] at hk
      cases hk
    | some t =>
      rw [ht] at hk
      cases hk
      exact hd t (List.mem_of_getElem? ht)
end
