-- STEPS of fields, arrays, calls and switches over the world
theorem gW_put {G : MG} {v : MM} {q : MN} {k0 d : Nat} {w : Int32} (hq : q ∈ mNs) (hk0 : mNs[k0]? = some q) (hc : mKc q.1 < 100) (hd : d < mSz q.1) (hi : mIsI q d = true) : (gW G v).set k0 (G.1 q, .inr (mKc q.1, (mFs G.1 v q).set d (.int w))) = gW G (mUp v (mFl q d) w) := by
  rw [mFs_up hq hd hi, ← mLay_obj (ad := G.1) (dA := G.2.1) (v := mUp v (mFl q d) w) hc]
  exact mWl_set hk0 (fun q' hq' hne => mLay_up hq hd hi hq' hne)
theorem mArrT0 : mNs.all (fun q => !(Nat.ble 100 (mKc q.1)) || (mAt.contains q.1 && ((!(Nat.beq (mKc q.1) 100) || decide (mTy q.1 = .int)) && ((!(Nat.beq (mKc q.1) 101) || decide (mTy q.1 = .char)) && (!(Nat.beq (mKc q.1) 102) || decide (mTy q.1 = .byte)))))) = true := by decide +kernel
theorem mArrT {q : MN} (hq : q ∈ mNs) (h : 100 ≤ mKc q.1) (dA : Nat → ClassId) : ∃ t0 : Nat, (mTys dA)[t0]? = some (dA q.1, mTy q.1) ∧ (mKc q.1 = 100 → mTy q.1 = .int) ∧ (mKc q.1 = 101 → mTy q.1 = .char) ∧ (mKc q.1 = 102 → mTy q.1 = .byte) := by
  have h1 := List.all_eq_true.mp mArrT0 q hq
  rw [Nat.ble_eq.mpr h] at h1
  simp only [Bool.not_true, Bool.false_or, Bool.and_eq_true, Bool.or_eq_true, Bool.not_eq_true', decide_eq_true_eq] at h1
  obtain ⟨h2, h3, h4, h5⟩ := h1
  obtain ⟨t0, ht⟩ := List.getElem?_of_mem (List.contains_iff_mem.mp h2)
  have z : ∀ {a b : Nat} {P : Prop}, (Nat.beq a b = false ∨ P) → a = b → P := by
    intro a b P hh e
    rcases hh with hh | hh
    · rw [e, Nat.beq_refl] at hh
      cases hh
    · exact hh
  exact ⟨t0, by rw [mTys, List.getElem?_map, ht]; rfl, z h3, z h4, z h5⟩
theorem mArrR0 : mNs.all (fun q => !(Nat.beq (mKc q.1) 103) || (decide (mTy q.1 = .object RX0) || (decide (mTy q.1 = .object RX5) || (decide (mTy q.1 = .object RX1) || (decide (mTy q.1 = .object RX2) || decide (mTy q.1 = .object RX4)))))) = true := by decide +kernel
theorem mArrR {q : MN} (hq : q ∈ mNs) (h : mKc q.1 = 103) : ∃ C, mTy q.1 = .object C := by
  have h1 := List.all_eq_true.mp mArrR0 q hq
  rw [h] at h1
  simp only [Nat.beq_refl, Bool.not_true, Bool.false_or, Bool.or_eq_true, decide_eq_true_eq] at h1
  rcases h1 with h1 | h1 | h1 | h1 | h1 <;> exact ⟨_, h1⟩
theorem gW_arr {G : MG} {v : MM} {q : MN} {k0 k : Nat} {w : Int32} (hq : q ∈ mNs) (hk0 : mNs[k0]? = some q) (hc : 100 ≤ mKc q.1 ∧ mKc q.1 ≤ 102) (hk : k < mSz q.1) : (gW G v).set k0 (G.1 q, .inl (G.2.1 q.1, (mSz q.1, .inl (upd (mArr v q) k w)))) = gW G (mUp v (mFl q k) w) := by
  rw [mArr_set hq hk hc, ← mLay_int (ad := G.1) (dA := G.2.1) (v := mUp v (mFl q k) w) hc]
  exact mWl_set hk0 (fun q' hq' hne => mLay_up hq hk (mIsI_arr hc) hq' hne)
theorem swt_case {x : Int32} {d : Nat} {K : Nat → MR} {res : MM × Option MV} : ∀ {tb : List (Int32 × Nat)}, swt x d tb K = some res → (∃ (k : Nat) (e : Int32 × Nat), tb[k]? = some e ∧ x = e.1 ∧ K e.2 = some res) ∨ ((∀ e ∈ tb, x ≠ e.1) ∧ K d = some res)
  | [], h => Or.inr ⟨fun e he => absurd he List.not_mem_nil, h⟩
  | (y, t) :: l, h => by
    have h : (if x = y then K t else swt x d l K) = some res := h
    by_cases e : x = y
    · rw [if_pos e] at h
      exact Or.inl ⟨0, (y, t), rfl, e, h⟩
    · rw [if_neg e] at h
      rcases swt_case h with ⟨k, q, h1, h2, h3⟩ | ⟨h1, h2⟩
      · exact Or.inl ⟨k + 1, q, h1, h2, h3⟩
      · exact Or.inr ⟨fun q hq => by
          rcases List.mem_cons.mp hq with rfl | hq
          · exact e
          · exact h1 q hq, h2⟩
theorem swt_look {x : Int32} {d : Nat} {K : Nat → MR} {res : MM × Option MV} {cd : List MI} {i : Nat} : ∀ {tb : List (Int32 × Nat)}, swt x d tb K = some res → ∃ t, K t = some res ∧ Op.lookupswitch.offset (tb.map (fun e => (e.1.toInt, ioff cd i e.2))) (ioff cd i d) x.toInt = ioff cd i t
  | [], h => ⟨d, h, rfl⟩
  | (y, t) :: l, h => by
    have h : (if x = y then K t else swt x d l K) = some res := h
    rw [List.map_cons, Op.lookupswitch.offset_cons]
    by_cases e : x = y
    · rw [if_pos e] at h
      exact ⟨t, h, if_pos (by rw [e])⟩
    · rw [if_neg e] at h
      obtain ⟨t', h1, h2⟩ := swt_look (cd := cd) (i := i) h
      exact ⟨t', h1, by rw [if_neg (fun z => e (Int32.toInt_inj.mp (by first | exact z | exact z.symm)))]; exact h2⟩
def invI (a : Nat) (tb : List (Int32 × Nat)) : Instr := match tb with
  | [] => .invokestatic a
  | _ => .invokevirtual a
/-- a place of a copied row belongs to that row -/
theorem mIs_inv0 : mNs.all (fun d => !(Nat.beq d.1 7 || Nat.beq d.1 10) || (List.range 160).all (fun o => !(mIs d d.2.1 o) || decide ((mInv (d.2.1, o)).1 = d))) = true := by decide +kernel
theorem mIs_lt {d : MN} {r o : Nat} (hd : d ∈ mNs) (ht : d.1 = 7 ∨ d.1 = 10) (h : mIs d r o = true) : r = d.2.1 ∧ o < 160 := by
  have hj : mNs.all (fun d => decide (d.2.2 < 9)) = true := by decide +kernel
  have hj2 : d.2.2 < 9 := of_decide_eq_true (List.all_eq_true.mp hj d hd)
  have hj3 : mNs.all (fun d => !(Nat.beq d.1 10) || decide (d.2.2 < 4)) = true := by decide +kernel
  have hj4 := List.all_eq_true.mp hj3 d hd
  obtain ⟨t, i, j⟩ := d
  rcases ht with rfl | rfl
  · have h : decide (r = i ∧ 104 ≤ o ∧ o < 111) = true := h
    have := of_decide_eq_true h
    exact ⟨this.1, by omega⟩
  · have h : decide (r = i ∧ (o = 151 + j ∨ (111 + 10 * j ≤ o ∧ o < 121 + 10 * j))) = true := h
    have h4 : j < 4 := by simpa using hj4
    have := of_decide_eq_true h
    exact ⟨this.1, by omega⟩
theorem mIs_inv {d : MN} {r o : Nat} (hd : d ∈ mNs) (ht : d.1 = 7 ∨ d.1 = 10) (h : mIs d r o = true) : (mInv (r, o)).1 = d := by
  obtain ⟨h1, h2⟩ := mIs_lt hd ht h
  have h3 := List.all_eq_true.mp mIs_inv0 d hd
  have h4 : (Nat.beq d.1 7 || Nat.beq d.1 10) = true := by rcases ht with e | e <;> rw [e] <;> rfl
  rw [h4] at h3
  have h5 := List.all_eq_true.mp h3 o (List.mem_range.mpr h2)
  subst h1
  rw [h] at h5
  exact of_decide_eq_true h5
theorem mCpy_off {v : MM} {i : Nat} {d q : MN} {k : Nat} (hd : d ∈ mNs) (ht : d.1 = 7 ∨ d.1 = 10) (hq : q ∈ mNs) (hk : k < mSz q.1) (hi : mIsI q k = true) (hne : q ≠ d) : (mCpy v i d).1 (mFl q k).1 (mFl q k).2 = v.1 (mFl q k).1 (mFl q k).2 := by
  refine if_neg (fun z => ?_)
  have h1 := mIs_inv hd ht z
  have h2 := mFl_inv hq hk hi
  rw [h2] at h1
  exact hne h1
theorem gW_cpy {G : MG} {v : MM} {s d : MN} {k0 : Nat} (hs : s ∈ mNs) (hd : d ∈ mNs) (hk0 : mNs[k0]? = some d) (e1 : s.1 = d.1) (e2 : s.2.2 = d.2.2) (ht : d.1 = 7 ∨ d.1 = 10) : (gW G v).set k0 (G.1 d, .inl (G.2.1 d.1, (mSz d.1, .inl (va_cpy (mArr v s) (mArr v d) 0 0 (mSz d.1))))) = gW G (mCpy v s.2.1 d) := by
  have hc : 100 ≤ mKc d.1 ∧ mKc d.1 ≤ 102 := by rcases ht with e | e <;> rw [e] <;> decide
  have e3 : va_cpy (mArr v s) (mArr v d) 0 0 (mSz d.1) = mArr (mCpy v s.2.1 d) d := by
    funext k
    unfold va_cpy mArr
    by_cases hk : k < mSz d.1
    · rw [if_pos ⟨Nat.zero_le _, by omega⟩, if_pos (by rw [e1]; omega), if_pos hk]
      rw [Nat.zero_add, Nat.sub_zero]
      obtain ⟨t, i, j⟩ := s
      obtain ⟨t', i', j'⟩ := d
      dsimp only at e1 e2 ht hk ⊢
      subst e1; subst e2
      rcases ht with rfl | rfl
      · have hk : k < 7 := hk
        refine (if_pos ?_).symm
        exact decide_eq_true ⟨rfl, by show 104 ≤ 104 + k; omega, by show 104 + k < 111; omega⟩
      · have hk : k < 11 := hk
        refine (if_pos ?_).symm
        refine decide_eq_true ⟨rfl, ?_⟩
        show (if k = 0 then 151 + j else 110 + 10 * j + k) = 151 + j ∨ _
        by_cases hz : k = 0
        · exact Or.inl (if_pos hz)
        · refine Or.inr ?_
          show 111 + 10 * j ≤ (if k = 0 then 151 + j else 110 + 10 * j + k) ∧ (if k = 0 then 151 + j else 110 + 10 * j + k) < 121 + 10 * j
          rw [if_neg hz]
          omega
    · rw [if_neg (by omega), if_neg hk, if_neg hk]
  rw [e3, ← mLay_int (ad := G.1) (dA := G.2.1) (v := mCpy v s.2.1 d) hc]
  refine mWl_set hk0 (fun q hq hne => ?_)
  have hg : ∀ k, k < mSz q.1 → mGet (mCpy v s.2.1 d) q k = mGet v q k := by
    intro k hk
    cases h2 : mRf q k with
    | some y => simp only [mGet, h2]
    | none =>
      simp only [mGet, h2]
      rw [mCpy_off hd ht hq hk (by simp [mIsI, h2]) hne]
  by_cases h1 : mKc q.1 < 100
  · rw [mLay_obj h1, mLay_obj h1]
    congr 2
    refine List.map_congr_left (fun j hj => ?_)
    rw [hg j (List.mem_range.mp hj)]
  · by_cases h2 : mKc q.1 = 103
    · rw [mLay_ref h2, mLay_ref h2]
    · have h3 : 100 ≤ mKc q.1 ∧ mKc q.1 ≤ 102 := ⟨by omega, by have := mKc_in hq; omega⟩
      rw [mLay_int h3, mLay_int h3]
      have e4 : mArr (mCpy v s.2.1 d) q = mArr v q := by
        funext k
        unfold mArr
        by_cases hk : k < mSz q.1
        · rw [if_pos hk, if_pos hk, mCpy_off hd ht hq hk (mIsI_arr h3) hne]
        · rw [if_neg hk, if_neg hk]
      rw [e4]
section
variable {p : Program} {l : Launch} {e : Env} {R : Room} {s : State} {m : MethodId} {args : Array Value} {below : List Frame} {meth : Method} {c : Code} {cells slots : Nat} {Q : State → Prop}
theorem bI_some {o : MR} {k : MM → Int32 → MR} {res : MM × Option MV} (h : bI o k = some res) : ∃ v x, o = some (v, some (.inl x)) ∧ k v x = some res := by
  rcases o with _ | ⟨v, _ | ⟨x | x | x⟩⟩
  · cases h
  · cases h
  · exact ⟨v, x, rfl, h⟩
  · cases h
  · cases h
theorem bV_some {o : MR} {k : MM → MR} {res : MM × Option MV} (h : bV o k = some res) : ∃ v, o = some (v, none) ∧ k v = some res := by
  rcases o with _ | ⟨v, _ | x⟩
  · cases h
  · exact ⟨v, rfl, h⟩
  · cases h
theorem bL_some {o : MR} {k : MM → Int64 → MR} {res : MM × Option MV} (h : bL o k = some res) : ∃ v x, o = some (v, some (.inr (.inl x))) ∧ k v x = some res := by
  rcases o with _ | ⟨v, _ | ⟨x | x | x⟩⟩
  · cases h
  · cases h
  · cases h
  · exact ⟨v, x, rfl, h⟩
  · cases h
theorem bN_some {o : MR} {k : MM → MN → MR} {res : MM × Option MV} (h : bN o k = some res) : ∃ v q, o = some (v, some (.inr (.inr q))) ∧ k v q = some res := by
  rcases o with _ | ⟨v, _ | ⟨x | x | x⟩⟩
  · cases h
  · cases h
  · cases h
  · cases h
  · exact ⟨v, x, rfl, h⟩
set_option maxHeartbeats 4000000 in
/-- a call -/
theorem m_inv {o nL : Nat} {cc : ByteArray} (G : MG) (hx : p.tables.exec = Jvm.exec) (hb : c.code = cc) (hml : c.maxLocals = nL) (hown : s.vm.findClass (ownN o) = some m.cls) (hwd : MWd s) (hK : va_K G.2.2.1 vwCl (mTys G.2.1) s) (hS0 : MSt G s s.heap) (hcs : cells ≤ R.cells ∧ slots ≤ R.slots) (F : Nat → MF) {op a b d : Nat} {x : Int32} {y : Int64} {tb : List (Int32 × Nat)} (hcall : MCall G.2.2.2.2 R o F (op, a, b, d, x, y, tb)) {pc : Nat} (hdg : decode cc pc = .ok (invI a tb, 3)) {st : List MV} {v v' : MM} {r : Option MV} (hlen : d ≤ st.length) (hcat : mcats (st.drop d) ≤ 8) (hrcv : mRcv tb (st.take d) = true) (hF : F b v (st.take d).reverse = some (v', r)) (hst : ∀ w ∈ st, mOk w) {H : Heap} {locs : List Loc} {ls : Array Slot} (hP : va_P G.2.2.1 vwCl (gW G v) H) (hD : va_D G.2.2.2.1 (gW G v)) (hS : va_S G.2.2.2.1 s.heap H locs) (hls : ls.size = nL)
    (kk : (∀ w, r = some w → mOk w) → ∀ (H1 : Heap) (locs1 : List Loc), va_P G.2.2.1 vwCl (gW G v') H1 → va_S G.2.2.2.1 s.heap H1 locs1 → W p l e R s m args below meth c H1 locs1 cells slots Q (F0 m (pc + 3) ls ((r.toList ++ st.drop d).map (gV G)))) : W p l e R s m args below meth c H locs cells slots Q (F0 m pc ls (st.map (gV G))) := by
  have hts := MWd.any (State.WarmedH.refl s) hwd args
  obtain ⟨z, bytes, maxL, ret, rm, n, hct, ⟨hy1, hy2, hy3, hy4⟩, ⟨hr1, hr2, hr3, hr4⟩, hlk⟩ := hcall
  obtain ⟨hrok, hM⟩ := hct l G v _ v' r rfl (fun w hw => hst w (List.mem_of_mem_take (List.mem_reverse.mp hw))) hF
  have hn : ∀ sig, parseMethodDescriptor z.desc = some sig → n = sig.parameters.length := fun sig h => by
    rw [h] at hy4
    exact (Option.some.inj hy4).symm
  have hws : ∀ w ∈ [Cond.code z bytes maxL ret], ∀ (a' : Array Value) (U : State), s.WarmedH U.vm → w.before a' U = true := by
    intro w hw a' U hW
    rw [List.mem_singleton.mp hw]
    exact word_at hW (Or.inl rfl) (hts _ hy1)
  have hstk : st.map (gV G) = (((st.take d).reverse).map (gV G)).reverse ++ (st.drop d).map (gV G) := by
    rw [← List.map_reverse, List.reverse_reverse, ← List.map_append, List.take_append_drop]
  have hW8 : 2 * (F0 m pc ls (st.map (gV G))).monitorRoom + (((st.drop d).map (gV G)).map fun v => v.category).sum ≤ 8 := lv_room (by rw [mcats_eq]; exact hcat)
  have hPcU : ∀ U : State, U.heap = H → s.WarmedH U.vm → mPc G v (st.take d).reverse (((st.take d).reverse).map (gV G)).toArray U := by
    intro U hU hW
    refine ⟨rfl, ?_, hD, va_K.moved hW.alike hK, fun w hw => MWd.any hW hwd #[] w hw, ?_⟩
    · rw [hU]
      exact hP
    · rw [hU]
      exact MSt.warm hW (MSt.kept hS0 hS.1 (fun q h1 h2 => hS.2.1 q h1 h2))
  have hltk : (st.take d).length = d := by rw [List.length_take]; omega
  rcases tb with _ | ⟨⟨t0, k⟩, tb'⟩
  · obtain ⟨hlk, hst2, hdn⟩ := hlk
    have hlen2 : (((st.take d).reverse).map (gV G)).length = n := by rw [List.length_map, List.length_reverse, hltk]; exact hdn
    rcases hlk with hlk | ⟨host, hlk⟩
    · refine m_call (rest := st.drop d) (va_runS (Ts := []) (own := ownN o) (As := ((st.take d).reverse).map (gV G)) (rest := (st.drop d).map (gV G)) (cc := cc) (nL := nL) ⟨hx, hb, hml, hown, fun w hw => absurd hw List.not_mem_nil⟩ hM ⟨⟨hr1, hr2, hr3, hr4, hws, List.mem_singleton.mpr rfl, hts _ hy1, hts _ hy2, hy3, hn, hts _ hlk⟩, hts _ hst2⟩ ⟨mPc_blind G v _, hPcU⟩ rfl hlen2 hls hstk hW8 hdg ⟨hcs.1, hcs.2⟩) hS (fun H1 locs1 h1 h2 => kk hrok H1 locs1 h1 h2)
    · refine m_call (rest := st.drop d) (va_runSN (Ts := []) (own := ownN o) (host := host) (As := ((st.take d).reverse).map (gV G)) (rest := (st.drop d).map (gV G)) (cc := cc) (nL := nL) ⟨hx, hb, hml, hown, fun w hw => absurd hw List.not_mem_nil⟩ hM ⟨⟨⟨hr1, hr2, hr3, hr4, hws, List.mem_singleton.mpr rfl⟩, hts _ hy1, hts _ hy2, hy3, hn, hts _ hlk⟩, hts _ hst2, trivial⟩ ⟨mPc_blind G v _, hPcU⟩ rfl hlen2 hls hstk hW8 hdg ⟨hcs.1, hcs.2⟩) hS (fun H1 locs1 h1 h2 => kk hrok H1 locs1 h1 h2)
  · obtain ⟨hlk, hv, hdn, hcl, hk8⟩ := hlk
    have hrcv : (match (st.take d).getLast? with
      | some (.inr (.inr q)) => Nat.beq (mKc q.1) k
      | _ => false) = true := hrcv
    obtain ⟨q, hq, hk⟩ : ∃ q : MN, (st.take d).getLast? = some (.inr (.inr q)) ∧ mKc q.1 = k := by
      cases hg : (st.take d).getLast? with
      | none =>
        rw [hg] at hrcv
        cases hrcv
      | some w =>
        rw [hg] at hrcv
        rcases w with w | w | w
        · cases hrcv
        · cases hrcv
        · exact ⟨w, rfl, Nat.eq_of_beq_eq_true hrcv⟩
    obtain ⟨ys, hys⟩ := List.getLast?_eq_some_iff.mp hq
    have hqok : mOk (.inr (.inr q)) := hst _ (List.mem_of_mem_take (List.mem_of_getLast? hq))
    have hrev : (st.take d).reverse = (Sum.inr (Sum.inr q) : MV) :: ys.reverse := by rw [hys, List.reverse_append]; rfl
    have hysl : ys.length + 1 = d := by rw [← hltk, hys, List.length_append]; rfl
    have hmapr : ((st.take d).reverse).map (gV G) = .ref (G.1 q) :: (ys.reverse).map (gV G) := by rw [hrev]; rfl
    have hlen2 : ((ys.reverse).map (gV G)).length = n := by rw [List.length_map, List.length_reverse]; omega
    have hcell : ∃ cellB : Cell, H[G.1 q]? = some cellB ∧ cellB.vm.isStatics = false ∧ s.vm.findClass z.cls = some cellB.cls := by
      have hqm : q ∈ mNs := mOk_in hqok (by omega)
      obtain ⟨k0, hk0, hw⟩ := mWl_at (ad := G.1) (dA := G.2.1) (v := v) hqm
      rw [mLay_obj (by omega), hk] at hw
      rw [hcl]
      exact va_recv hK hP (vwCl_at k hk8) hw
    have hPcU2 : ∀ U : State, U.heap = H → s.WarmedH U.vm → mPc G v (st.take d).reverse (Value.ref (G.1 q) :: (ys.reverse).map (gV G)).toArray U := by
      rw [← hmapr]
      exact hPcU
    have hstk2 : st.map (gV G) = ((ys.reverse).map (gV G)).reverse ++ .ref (G.1 q) :: (st.drop d).map (gV G) := by
      rw [hstk, hmapr, List.reverse_cons, List.append_assoc]
      rfl
    refine m_call (rest := st.drop d) (va_runV (Ts := []) (own := ownN o) (C := z.cls) (b := G.1 q) (As := (ys.reverse).map (gV G)) (rest := (st.drop d).map (gV G)) (cc := cc) (nL := nL) ⟨hx, hb, hml, hown, fun w hw => absurd hw List.not_mem_nil⟩ hM ⟨⟨hr1, hr2, hr3, hr4, hws, List.mem_singleton.mpr rfl, hts _ hy1, hts _ hy2, hy3, hn, hts _ hlk⟩, hts _ hv.1, hts _ hv.2⟩ ⟨mPc_blind G v _, hcell, hPcU2⟩ rfl hlen2 hls hstk2 hW8 hdg ⟨hcs.1, hcs.2⟩) hS (fun H1 locs1 h1 h2 => kk hrok H1 locs1 h1 h2)
end
