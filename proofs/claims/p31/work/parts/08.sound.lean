-- SOUNDNESS: a run of the small machine is a walk of the machine
def okI (o nL rk : Nat) (m : MI) : Bool := match m with
  | (op, a, b, c, x, y, tb) => match op with
    | 1 => decide ((Int8.ofInt x.toInt).toInt32 = x)
    | 2 => decide ((Int16.ofInt x.toInt).toInt32 = x)
    | 3 => decide (y = 0) || decide (y = 1)
    | 4 => cHas o a y
    | 5 => kHas o a x
    | 6 => !(Nat.beq c 0) || Nat.blt a 4
    | 7 => !(Nat.beq c 0) || Nat.blt a 4
    | 8 => !(Nat.beq c 0) || Nat.blt a 4
    | 9 => Nat.blt a nL && (!(Nat.beq c 0) || Nat.blt a 4)
    | 10 => Nat.blt a nL && (!(Nat.beq c 0) || Nat.blt a 4)
    | 11 => Nat.blt a nL
    | 12 => Nat.blt b 5
    | 15 => Nat.blt b 3
    | 16 => Nat.blt b 3
    | 24 => Nat.blt b 6
    | 25 => Nat.blt b 6
    | 27 => (List.range tb.length).all (fun k => match tb[k]? with
      | some q => decide (q.1.toInt = x.toInt + k)
      | none => false) && decide (tb ≠ [])
    | 28 => ((tb.map (fun e => (e.1.toInt, (0 : Int)))).zip ((tb.map (fun e => (e.1.toInt, (0 : Int)))).drop 1)).all (fun q => decide (q.1.1 < q.2.1))
    | 30 => fHas o a b c && (Nat.blt c (nOf b) && Nat.blt b 7)
    | 31 => (fHas o a b c && (Nat.blt c (nOf b) && Nat.blt b 7)) && (decide (tyOf b c = .int) && !(tOf b c).2.2.2)
    | 32 => (fHas o a b c && (Nat.blt c (nOf b) && Nat.blt b 7)) && (decide (tyOf b c = .boolean) && !(tOf b c).2.2.2)
    | 34 => Nat.ble 100 b && Nat.ble b 102
    | 35 => Nat.ble 100 b && Nat.ble b 102
    | 44 => Nat.blt (a + 1) nL && (!(Nat.beq c 0) || Nat.blt a 4)
    | 38 => (Nat.beq o 1 && Nat.beq a 31) || (Nat.beq o 0 && Nat.beq a 84)
    | 50 => Nat.beq rk 0
    | 51 => Nat.beq rk 1
    | 52 => Nat.beq rk 2
    | 53 => Nat.beq rk 3
    | 54 => Nat.beq rk 4
    | _ => true
def opL : List Nat := [0, 1, 2, 3, 4, 5, 6, 7, 8, 9, 10, 11, 12, 13, 14, 15, 16, 17, 18, 19, 20, 21, 22, 23, 24, 25, 26, 27, 28, 30, 31, 32, 34, 35, 36, 37, 38, 40, 41, 42, 43, 44, 50, 51, 52, 53, 54, 55, 56]
def mCk (o nL rk : Nat) (cc : ByteArray) (cd : List MI) : Bool := (List.range cd.length).all (fun i => match nth cd i with
  | some m => decide (decode cc (pcs cd i) = .ok (toI cd i m, ilen m)) && (okI o nL rk m && opL.contains m.1)
  | none => true)
theorem nth_lt : ∀ {cd : List MI} {i : Nat} {m : MI}, nth cd i = some m → i < cd.length ∧ m ∈ cd
  | [], _, _, h => by cases h
  | a :: l, 0, m, h => by
    cases h
    exact ⟨Nat.succ_pos _, List.mem_cons_self⟩
  | a :: l, k + 1, m, h => by
    obtain ⟨h1, h2⟩ := nth_lt (cd := l) (i := k) h
    exact ⟨Nat.succ_lt_succ h1, List.mem_cons_of_mem _ h2⟩
theorem pcs_succ : ∀ {cd : List MI} {i : Nat} {m : MI}, nth cd i = some m → pcs cd (i + 1) = pcs cd i + ilen m
  | [], _, _, h => by cases h
  | a :: l, 0, m, h => by
    cases h
    show ilen a + pcs l 0 = 0 + ilen a
    have : pcs l 0 = 0 := by cases l <;> rfl
    omega
  | a :: l, k + 1, m, h => by
    show ilen a + pcs l (k + 1) = ilen a + pcs l k + ilen m
    rw [pcs_succ (cd := l) (i := k) h]
    omega
theorem mCk_at {o nL rk : Nat} {cc : ByteArray} {cd : List MI} (h : mCk o nL rk cc cd = true) {i : Nat} {m : MI} (hi : nth cd i = some m) : decode cc (pcs cd i) = .ok (toI cd i m, ilen m) ∧ okI o nL rk m = true ∧ m.1 ∈ opL := by
  have h1 := List.all_eq_true.mp h i (List.mem_range.mpr (nth_lt hi).1)
  rw [hi] at h1
  simpa using h1
theorem lk_mem : ∀ {l : ML} {a : Nat} {w : MV}, lk l a = some w → (a, w) ∈ l
  | [], _, _, h => by cases h
  | (j, u) :: l, a, w, h => by
    unfold lk at h
    split at h
    · rename_i e
      have := Nat.eq_of_beq_eq_true e
      subst this
      cases h
      exact List.mem_cons_self
    · exact List.mem_cons_of_mem _ (lk_mem h)
theorem gV_cat (G : MG) (w : MV) : (gV G w).category = mcat w := by
  rcases w with x | x | q <;> rfl
def gL (G : MG) (l : ML) : List (Nat × Value) := l.map (fun q => (q.1, gV G q.2))
theorem gL_at {G : MG} {l : ML} {a : Nat} {w : MV} (h : lk l a = some w) : ∃ k : Nat, (gL G l)[k]? = some (a, gV G w) := List.getElem?_of_mem (List.mem_map.mpr ⟨(a, w), lk_mem h, rfl⟩)
theorem gL_sto {G : MG} {l : ML} {a : Nat} {w : MV} : (a, gV G w) :: (gL G l).filter (fun q => !(q.1 == a) && !(q.1 + 1 == a && q.2.category == 2)) = gL G (sto1 l a w) := by
  unfold gL sto1
  rw [List.map_cons, List.filter_map]
  congr 2
  refine List.filter_congr (fun q _ => ?_)
  show (!(q.1 == a) && !(q.1 + 1 == a && (gV G q.2).category == 2)) = _
  rw [gV_cat]
theorem gL_sto2 {G : MG} {l : ML} {a : Nat} {w : MV} : (a, gV G w) :: (gL G l).filter (fun q => !(q.1 == a) && (!(q.1 == a + 1) && !(q.1 + 1 == a && q.2.category == 2))) = gL G (sto2 l a w) := by
  unfold gL sto2
  rw [List.map_cons, List.filter_map]
  congr 2
  refine List.filter_congr (fun q _ => ?_)
  show (!(q.1 == a) && (!(q.1 == a + 1) && !(q.1 + 1 == a && (gV G q.2).category == 2))) = _
  rw [gV_cat]
theorem sto2_ok {l : ML} {a : Nat} {w : MV} (h : ∀ q ∈ l, mOk q.2) (hw : mOk w) : ∀ q ∈ sto2 l a w, mOk q.2 := by
  intro q hq
  rcases List.mem_cons.mp hq with rfl | hq
  · exact hw
  · exact h q (List.mem_filter.mp hq).1
theorem sto1_ok {l : ML} {a : Nat} {w : MV} (h : ∀ q ∈ l, mOk q.2) (hw : mOk w) : ∀ q ∈ sto1 l a w, mOk q.2 := by
  intro q hq
  rcases List.mem_cons.mp hq with rfl | hq
  · exact hw
  · exact h q (List.mem_filter.mp hq).1
theorem fin4_val {a : Nat} (h : a < 4) : ((fin4 a : Fin 4) : Nat) = a := by
  match a, h with
  | 0, _ => rfl
  | 1, _ => rfl
  | 2, _ => rfl
  | 3, _ => rfl
theorem mcats_eq (G : MG) (st : List MV) : ((st.map (gV G)).map fun v => v.category).sum = mcats st := by
  rw [List.map_map]
  unfold mcats
  congr 1
  exact List.map_congr_left (fun w _ => gV_cat G w)
theorem mKc_obj0 : mNs.all (fun q => decide (mKc q.1 < 100 → (mKc q.1 < 7 ∧ nOf (mKc q.1) = mSz q.1))) = true := by decide +kernel
theorem mKc_obj {q : MN} (hq : q ∈ mNs) (h : mKc q.1 < 100) : mKc q.1 < 7 ∧ nOf (mKc q.1) = mSz q.1 := by
  have h1 := List.all_eq_true.mp mKc_obj0 q hq
  exact (of_decide_eq_true h1) h
theorem mIsI_obj0 : mNs.all (fun q => (List.range (mSz q.1)).all (fun k => !(Nat.blt (mKc q.1) 100) || (!(decide (tyOf (mKc q.1) k = .int) || decide (tyOf (mKc q.1) k = .boolean)) || mIsI q k))) = true := by decide +kernel
theorem mIsI_obj {q : MN} (hq : q ∈ mNs) (h : mKc q.1 < 100) {k : Nat} (hk : k < mSz q.1) (ht : tyOf (mKc q.1) k = .int ∨ tyOf (mKc q.1) k = .boolean) : mIsI q k = true := by
  have h1 := List.all_eq_true.mp (List.all_eq_true.mp mIsI_obj0 q hq) k (List.mem_range.mpr hk)
  have h2 : Nat.blt (mKc q.1) 100 = true := Nat.blt_eq.mpr h
  rw [h2] at h1
  rcases ht with ht | ht <;> simpa [ht] using h1
/-- a name of one of the world's own kinds is in the world -/
theorem mOk_in {q : MN} (h : mOk (.inr (.inr q))) (hk : mKc q.1 ≤ 103) : q ∈ mNs := by
  rcases h with h | h
  · exact h
  · rw [h] at hk
    exact absurd hk (by decide)
theorem mGet_ok {v : MM} {q : MN} {k : Nat} (hq : q ∈ mNs) (hk : k < mSz q.1) : mOk (mGet v q k) := by
  cases h1 : mRf q k with
  | some y =>
    simp only [mGet, h1]
    exact Or.inl (mNs_closed hq hk h1)
  | none =>
    simp only [mGet, h1]
    trivial
/-- how a method ends -/
def MRet (op : Nat) (stk : List MV) (v : MM) (res : MM × Option MV) : Prop := match op with
  | 50 => ∃ x, stk = [.inl x] ∧ res = (v, some (.inl x))
  | 51 => ∃ x, (x = 0 ∨ x = 1) ∧ stk = [.inl x] ∧ res = (v, some (.inl x))
  | 52 => ∃ q, stk = [.inr (.inr q)] ∧ res = (v, some (.inr (.inr q)))
  | 54 => ∃ x, stk = [.inr (.inl x)] ∧ res = (v, some (.inr (.inl x)))
  | _ => stk = [] ∧ res = (v, none)
section
variable {p : Program} {l : Launch} {e : Env} {R : Room} {s : State} {m : MethodId} {args : Array Value} {below : List Frame} {meth : Method} {c : Code} {cells slots : Nat} {Q : State → Prop}
theorem m_call {H : Heap} {locs : List Loc} {G : MG} {v' : MM} {r : Option MV} {pc : Nat} {ls : Array Slot} {st0 : List Value} {rest : List MV} {a : Array Value} (hr : va_Run p l e R s m args below meth c H locs cells slots 0 0 (F0 m pc ls st0) (rest.map (gV G)) (mQc G v' r a) G.2.2.2.1) (hS : va_S G.2.2.2.1 s.heap H locs)
    (kk : ∀ (H1 : Heap) (locs1 : List Loc), va_P G.2.2.1 vwCl (gW G v') H1 → va_S G.2.2.2.1 s.heap H1 locs1 → W p l e R s m args below meth c H1 locs1 cells slots Q (F0 m (pc + 3) ls ((r.toList ++ rest).map (gV G)))) : W p l e R s m args below meth c H locs cells slots Q (F0 m pc ls st0) := by
  intro T hT X
  obtain ⟨v, st₀, t, T', L, h0, X', hL, e1, e2, ⟨hv, hP, hz, hk⟩, st⟩ := hr T hT X
  rw [h0] at hz hk
  have hv : v = r.map (gV G) := by
    have := hv
    simpa using this
  subst hv
  obtain ⟨t2, a1, b1⟩ := kk T'.heap (locs ++ L) (by rw [e1]; exact hP) ⟨Nat.le_trans hS.1 (by rw [e1]; exact hz), fun q h1 h2 => by
      rw [e1, hk q (Nat.lt_of_lt_of_le h1 hS.1) h2]
      exact hS.2.1 q h1 h2, fun q hq => by
      rcases List.mem_append.mp hq with h | h
      · exact hS.2.2 q h
      · exact hL q h⟩ T' rfl X'
  refine ⟨t2, st t2 ?_, b1⟩
  have e3 : (Option.map (gV G) r).toList ++ rest.map (gV G) = (r.toList ++ rest).map (gV G) := by cases r <;> rfl
  show Steps p.tables e below (T'.setTop { F0 m pc ls st0 with pc := pc + 3, stack := (Option.map (gV G) r).toList ++ rest.map (gV G) }) t2
  rw [e3]
  exact a1
end
