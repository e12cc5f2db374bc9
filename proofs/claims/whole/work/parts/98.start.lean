-- WHAT HOLDS AT THE LAW'S START: classes, arrays, strings; and between the calls before the first
theorem bd0 : Bd 0 v0 := by
  refine ⟨0, 0, 0, pg0, fun _ => 0, 0, ⟨by decide, by decide, rfl, rfl, rfl, rfl, fun k _ => rfl, fun k _ => rfl, ?_, fun q hq => absurd hq (Nat.not_lt_zero _)⟩, ⟨by decide, rfl, rfl, fun k hk => absurd hk (Nat.not_lt_zero _), fun q _ => rfl⟩, by decide⟩
  · unfold Wf WT
    decide
section
variable {s : State} {args : Array Value}
theorem lw_mTs (hts : ∀ w ∈ lw_tbl, w.before args s = true) : ∀ w ∈ mTs, w.before args s = true := fun w hw => hts w (List.mem_filter.mp hw).1
theorem lw_at (hts : ∀ w ∈ lw_tbl, w.before args s = true) (i : Nat) {w : Cond} (h : tables_1[i]? = some w) : w.before args s = true := hts w (List.mem_append_right _ (List.mem_of_getElem? h))
theorem start_O (hts : ∀ w ∈ lw_tbl, w.before args s = true) : AOs s := by
  intro c hc
  simp only [List.mem_cons, List.not_mem_nil, or_false] at hc
  rcases hc with rfl | rfl | rfl | rfl | rfl
  · exact va_AO.of (lw_at hts 24 (by decide +kernel))
  · exact va_AO.of (lw_at hts 101 (by decide +kernel))
  · exact va_AO.of (lw_at hts 103 (by decide +kernel))
  · exact va_AO.of (lw_at hts 105 (by decide +kernel))
  · exact va_AO.of (lw_at hts 99 (by decide +kernel))
theorem arr_prim {ty : FieldType} (h : (Cond.arrayClass ty).before args s = true) (hp : ∀ C, ty ≠ .object C) (hq : ∀ (U : State) (cA : ClassId), va_RA U cA ty = (U.vm.findClass ("[" ++ ty.toString) = some cA)) (hr : ∀ (cA : ClassId) (kA : Class) (comp : ClassId), s.vm.classes[cA]? = some kA → kA.kind = .array comp ty → ArrOfT s cA ty) : ∃ cA : ClassId, ArrOfT s cA ty ∧ va_RA s cA ty := by
  obtain ⟨c, k, comp, h1, h2, h3⟩ := Cond.arrayClass_spec (first := s) (o := none) (s := s) (idx := []) h
  exact ⟨c, hr c k comp h2 h3, by rw [hq]; exact h1⟩
theorem arr_ref {C : String} (h : va_AO C s) : ∃ cA : ClassId, ArrOfT s cA (.object C) ∧ va_RA s cA (.object C) := by
  obtain ⟨comp, c, k, h1, -, h2, h3, h4⟩ := Cond.arrayOver_spec (first := s) (o := none) (s := s) (idx := []) (va_AO.use (A := #[]) h)
  exact ⟨c, fun N z => ⟨(fun k h => by cases h), k, h2, comp, h3⟩, k, comp, h2, h3, h1, h4⟩
theorem start_arr (hts : ∀ w ∈ lw_tbl, w.before args s = true) : ∀ t, t ∈ mAt → ∃ cA : ClassId, ArrOfT s cA (mTy t) ∧ va_RA s cA (mTy t) := by
  have ao := start_O hts
  have pi : ∃ cA : ClassId, ArrOfT s cA .int ∧ va_RA s cA .int := arr_prim (lw_mTs hts _ arr_int) (fun C z => by cases z) (fun _ _ => rfl) (fun cA kA comp h2 h3 N z => ⟨fun k h => (by cases h), kA, h2, comp, h3⟩)
  have pc : ∃ cA : ClassId, ArrOfT s cA .char ∧ va_RA s cA .char := arr_prim (lw_mTs hts _ arr_char) (fun C z => by cases z) (fun _ _ => rfl) (fun cA kA comp h2 h3 N z => ⟨fun k h => (by cases h), kA, h2, comp, h3⟩)
  have pb : ∃ cA : ClassId, ArrOfT s cA .byte ∧ va_RA s cA .byte := arr_prim (lw_mTs hts _ arr_byte) (fun C z => by cases z) (fun _ _ => rfl) (fun cA kA comp h2 h3 N z => ⟨fun k h => (by cases h), kA, h2, comp, h3⟩)
  intro t ht
  simp only [mAt, List.mem_cons, List.not_mem_nil, or_false] at ht
  rcases ht with rfl | rfl | rfl | rfl | rfl | rfl | rfl | rfl | rfl | rfl | rfl | rfl | rfl | rfl
  · exact arr_ref (ao 0 (by decide))
  · exact arr_ref (ao 5 (by decide))
  · exact arr_ref (ao 1 (by decide))
  · exact arr_ref (ao 2 (by decide))
  · exact arr_ref (ao 4 (by decide))
  · exact pi
  · exact pi
  · exact pc
  · exact pi
  · exact pi
  · exact pi
  · exact pi
  · exact pb
  · exact pi
theorem start_K (hts : ∀ w ∈ lw_tbl, w.before args s = true) : ∃ (D : va_G) (dA : Nat → ClassId), va_K D vwCl (mTys dA) s := by
  have h1 : ∀ c : Nat, ∃ q : ClassId × (Nat → Nat), c < 8 → u_Kn s (ownN c) (tOf c) (nOf c) q.1 q.2 := by
    intro c
    by_cases hc : c < 8
    · obtain ⟨cC, iS, h⟩ := u_known (lw_mTs hts) (mTs_lay c hc) (lw_mTs hts _ (mk_in hc).1)
      exact ⟨(cC, iS), fun _ => h⟩
    · exact ⟨(0, fun _ => 0), fun z => absurd z hc⟩
  have h2 : ∀ t : Nat, ∃ cA : ClassId, t ∈ mAt → ArrOfT s cA (mTy t) ∧ va_RA s cA (mTy t) := by
    intro t
    by_cases ht : t ∈ mAt
    · obtain ⟨cA, h⟩ := start_arr hts t ht
      exact ⟨cA, fun _ => h⟩
    · exact ⟨0, fun z => absurd z ht⟩
  obtain ⟨f, hf⟩ := Classical.axiomOfChoice h1
  obtain ⟨dA, hd⟩ := Classical.axiomOfChoice h2
  refine ⟨(fun c => (f c).1, fun c => (f c).2), dA, fun c q hq => ?_, fun k q hk => ?_⟩
  · have hc : c < 8 := (List.getElem?_eq_some_iff.mp hq).1
    rw [vwCl_at c hc] at hq
    cases hq
    exact hf c hc
  · rw [mTys, List.getElem?_map] at hk
    cases ht : mAt[k]? with
    | none =>
      rw [ht] at hk
      cases hk
    | some t =>
      rw [ht] at hk
      cases hk
      exact hd t (List.mem_of_getElem? ht)
def tmS (i : Nat) : Term := .string RX3 (mIdS i)
def nar1 : List Cond := flatC (Jvm.Cond.and given_1 narrow_1)
theorem st_ex : (List.range 7).all (fun i => decide (Cond.exactly (tmS i) "java/lang/String" ∈ nar1)) = true := by decide +kernel
theorem st_co : (List.range 7).all (fun i => decide (Cond.eq (.field (tmS i) "java/lang/String" "coder" "B") (.int 0) ∈ nar1)) = true := by decide +kernel
theorem st_ar : (List.range 7).all (fun i => decide (Cond.arrayOf (.field (tmS i) "java/lang/String" "value" "[B") .byte ∈ nar1)) = true := by decide +kernel
theorem st_le : (List.range 7).all (fun i => decide (Cond.eq (.length (.field (tmS i) "java/lang/String" "value" "[B")) (.int (Int32.ofNat (mLenS.getD i 0))) ∈ nar1)) = true := by decide +kernel
theorem st_el : (List.range 7).all (fun i => (List.range (mLenS.getD i 0)).all (fun j => decide (Cond.eq (.elem (.field (tmS i) "java/lang/String" "value" "[B") (.int (Int32.ofNat j))) (.int ((mBytS.getD i []).getD j 0)) ∈ nar1))) = true := by decide +kernel
theorem st_ne : (List.range 7).all (fun i => (List.range 7).all (fun j => Nat.beq i j || (decide (Cond.not (Cond.eq (tmS i) (tmS j)) ∈ nar1) || decide (Cond.not (Cond.eq (tmS j) (tmS i)) ∈ nar1)))) = true := by decide +kernel
theorem st_rf : (List.range 7).all (fun i => decide (Cond.stringRef RX3 (mIdS i) (mTxS i) ∈ tables_1)) = true := by decide +kernel
theorem st_le31 : ∀ i, i < 7 → mLenS.getD i 0 < 2 ^ 31 := by decide
theorem start_S {A : Nat → Prop} (hts : ∀ w ∈ lw_tbl, w.before args s = true) (hg : (Jvm.Cond.and given_1 narrow_1).before args s = true) (hA : ∀ a : Nat, a < s.heap.size → ¬ A a) : ∃ adK adV : Nat → Nat, vk_S 7 mLenS mBytS adK adV A s s.heap ∧ ∀ k, k < 7 → vk_R RX3 (mIdS k) (mTxS k) (adK k) s := by
  have hs : ∀ w ∈ nar1, w.before args s = true := flat_of_before _ hg
  have r7 : ∀ {i : Nat}, i < 7 → i ∈ List.range 7 := fun h => List.mem_range.mpr h
  obtain ⟨adK, adV, h1, h2⟩ := vk_Sof (args := args) (s := s) (N := 7) (tm := tmS) (len := mLenS) (byt := mBytS) (A := A) st_le31
    (fun i hi => hs _ (of_decide_eq_true (List.all_eq_true.mp st_ex i (r7 hi))))
    (fun i hi => hs _ (of_decide_eq_true (List.all_eq_true.mp st_co i (r7 hi))))
    (fun i hi => hs _ (of_decide_eq_true (List.all_eq_true.mp st_ar i (r7 hi))))
    (fun i hi => hs _ (of_decide_eq_true (List.all_eq_true.mp st_le i (r7 hi))))
    (fun i hi j hj => hs _ (of_decide_eq_true (List.all_eq_true.mp (List.all_eq_true.mp st_el i (r7 hi)) j (List.mem_range.mpr hj))))
    (fun i j hi hj hne => by
      have h := List.all_eq_true.mp (List.all_eq_true.mp st_ne i (r7 hi)) j (r7 hj)
      simp only [Bool.or_eq_true, decide_eq_true_eq] at h
      rcases h with h | h | h
      · exact absurd (Nat.eq_of_beq_eq_true h) hne
      · exact Or.inl (hs _ h)
      · exact Or.inr (hs _ h)) hA
  refine ⟨adK, adV, h1, fun k hk => vk_R.of (hts _ (List.mem_append_right _ (of_decide_eq_true (List.all_eq_true.mp st_rf k (r7 hk))))) (h2 k hk)⟩
theorem nar_c : Cond.eq (.static "java/lang/String" "COMPACT_STRINGS" "Z") (.int 1) ∈ nar1 := by decide +kernel
theorem nar_p : Cond.isRef (.static "jdk/internal/util/Preconditions" "SIOOBE_FORMATTER" "Ljava/util/function/BiFunction;") ∈ nar1 := by decide +kernel
theorem start_Z {A : Nat → Prop} (hts : ∀ w ∈ lw_tbl, w.before args s = true) (hg : (Jvm.Cond.and given_1 narrow_1).before args s = true) (hA : ∀ a : Nat, a < s.heap.size → ¬ A a) : va_Z "java/lang/String" "COMPACT_STRINGS" "Z" (.int 1) A s s.heap ∧ va_Zq "jdk/internal/util/Preconditions" "SIOOBE_FORMATTER" "Ljava/util/function/BiFunction;" A s s.heap := by
  have hs : ∀ w ∈ nar1, w.before args s = true := flat_of_before _ hg
  exact ⟨va_Zof (lw_at hts 525 (by decide +kernel)) (lw_at hts 11 (by decide +kernel)) (va_eqi (hs _ nar_c)) hA, va_Zqof (lw_at hts 541 (by decide +kernel)) (lw_at hts 13 (by decide +kernel)) (hs _ nar_p) hA⟩
end
