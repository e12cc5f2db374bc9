-- THE LAW FROM ITS ENTRY
/-! THE CLAIM OUT OF ONE WALK OF THE LAW'S BODY. Your part is whole_start (and what it stands on); all else here is the same for every law, but numbers. -/
def lw_P (b : Addr) (xs : List Int32) (args : Array Value) (s : State) : Prop := args = #[.ref b] ∧ s.IntsAt b xs ∧ xs.length ≤ 260 ∧ (Jvm.Cond.and given_1 narrow_1).before args s = true
def lw_Q (_ : Array Value) (s : State) (o : Outcome) (t : State) : Prop := o = .returned (some (.int 1)) ∧ Framed s o t [] 680905 7059532
def lw_Z (below : List Frame) (a : Array Value) (s : State) : State → Prop := fun t => ∃ o, t.status = .running ∧ Ended t below o ∧ lw_Q a s o t
/-- the law's own end, with 1 on the stack, nothing written that was there before, its room as the claim has it -/
theorem lw_ret {p : Program} {l : Launch} {e : Env} {s : State} {m : MethodId} {below : List Frame} {meth : Method} {c : Code} {b : Nat} (hx : p.tables.exec = Jvm.exec) (hb : c.code = code) (hr : meth.sig.returnType = ret) (hlocks : meth.locks = false) {pc : Nat} {H : Heap} {ls : Array Slot} (hdg : decode code pc = .ok (.ireturn, 1)) : W p l e room_1 s m #[Value.ref b] below meth c H [] 680905 7059532 (lw_Z below #[Value.ref b] s) (F0 m pc ls [.int 1]) := by
  intro T hT X
  obtain ⟨fs, hret, hrun, hended, hW, hframe⟩ := X.leave (v := some (.int 1)) (hlocks := hlocks) (fun h => by rw [hr] at h; cases h)
  have hmeth' : T.vm.method? m = some meth := X.method'
  refine ⟨T.setFrames fs, ?_, .returned (some (.int 1)), hrun, hended, rfl, ⟨_, rfl⟩, hW, hframe⟩
  jvm_step X.here [X.here.top, hx, hb, hdg, hmeth', hr, ret, narrow_b1]
  (try refine ⟨rfl, ?_⟩); (try refine ⟨rfl, ?_⟩)
  first | (intro acts; rw [hret _ acts rfl rfl rfl]) | rw [hret _ _ rfl rfl rfl]
  exact Steps.refl _
/-- what holds at the law's entry: the machine, the code, the tables' words (any of lw_tbl by 'hts w (by decide +kernel)'), the script of L ints xs at the cell b, what the Statement gives of the start (any of its parts by flat_of_before) -/
def lw_At (p : Program) (s : State) (m : MethodId) (meth : Method) (c : Code) (b L : Nat) (xs : Nat → Int32) : Prop :=
  p.tables.exec = Jvm.exec ∧ c.code = code ∧ meth.sig.returnType = ret ∧ c.maxLocals = 12 ∧ s.vm.findClass R_law = some m.cls ∧ (∀ w ∈ lw_tbl, w.before #[Value.ref b] s = true) ∧ va_X b L xs s s.heap ∧ b < s.heap.size ∧ meth.locks = false ∧ (Jvm.Cond.and given_1 narrow_1).before #[Value.ref b] s = true
theorem dl_0 : decode code 0 = .ok (.new 13, 3) := by decide +kernel
theorem dl_3 : decode code 3 = .ok (.dup, 1) := by decide +kernel
theorem dl_4 : decode code 4 = .ok (.invokespecial 92, 3) := by decide +kernel
theorem dl_7 : decode code 7 = .ok (.astore_n 1, 1) := by decide +kernel
theorem dl_8 : decode code 8 = .ok (.iconst 0, 1) := by decide +kernel
theorem dl_9 : decode code 9 = .ok (.istore_n 2, 1) := by decide +kernel
theorem dl_10 : decode code 10 = .ok (.iconst 0, 1) := by decide +kernel
theorem dl_11 : decode code 11 = .ok (.istore_n 3, 1) := by decide +kernel
theorem lnk6 : Cond.methodLink (ownN 8) 92 yX6_init ∈ mTs := mTs_of 12 (by decide +kernel) (by decide +kernel)
theorem hOk1 : hOk [(6, (0, aDf 6))] := fun c hc => by
  rw [List.mem_singleton.mp hc]
  exact aDf_ok _ 6
theorem pcs12 : pcs cdL_law 12 = 12 := by decide +kernel
set_option maxHeartbeats 8000000 in
set_option maxRecDepth 100000 in
/-- from the entry, for every script of at most 260 ints, the law comes to its end with true -/
theorem whole_start {p : Program} {e : Env} {s : State} {m : MethodId} {below : List Frame} {meth : Method} {c : Code} (l : Launch) (hflags : l.flags = flags0) {b L : Nat} {xs : Nat → Int32} (hL : L ≤ 260) (C0 : lw_At p s m meth c b L xs) : W p l e room_1 s m #[Value.ref b] below meth c s.heap [] 0 0 (lw_Z below #[Value.ref b] s) (entryFrame m ([Value.ref b] : List Value).toArray 12) := by
  obtain ⟨hx, hb, hr, hml, hown0, hts, hX, hbl, hlocks, hgv⟩ := C0
  have hown : s.vm.findClass (ownN 8) = some m.cls := hown0
  have hwd : MWd s := MWd.of hts
  have hts2 := MWd.any (State.WarmedH.refl s) hwd #[Value.ref b]
  obtain ⟨D, dA, hK⟩ := start_K hts
  have hO := start_O hts
  obtain ⟨A, hAe⟩ : ∃ A : Nat → Prop, A = fun q => s.heap.size ≤ q := ⟨_, rfl⟩
  have hA : ∀ q, s.heap.size ≤ q → A q := fun q h => by
    rw [hAe]
    exact h
  have hA1 : ∀ q, A q → s.heap.size ≤ q := fun q h => by
    rw [hAe] at h
    exact h
  have hA0 : ∀ a : Nat, a < s.heap.size → ¬ A a := fun a h z => absurd (hA1 a z) (Nat.not_le.mpr h)
  have hSt0 : va_S A s.heap s.heap [] := va_S.rf
  have hP0 : va_P D vwCl [] s.heap := fun k q hq => by cases hq
  have hD0 : va_D A [] := ⟨fun i j p q hp => (by cases hp), fun k q hq => by cases hq⟩
  have hws : ∀ {y : MethodName} {bytes : ByteArray} {maxL : Nat}, Cond.code y bytes maxL none ∈ mTs → ∀ w ∈ [Cond.code y bytes maxL none], ∀ (a' : Array Value) (U : State), s.WarmedH U.vm → w.before a' U = true := by
    intro y bytes maxL hm w hw a' U hW
    rw [List.mem_singleton.mp hw]
    exact word_at hW (Or.inl rfl) (hts2 _ hm)
  have hn : ∀ {y : MethodName}, (parseMethodDescriptor y.desc).map (fun d => d.parameters.length) = some 0 → ∀ sig, parseMethodDescriptor y.desc = some sig → 0 = sig.parameters.length := fun h4 sig h => by
    rw [h] at h4
    exact (Option.some.inj h4).symm
  have hl := lv_entry ([Value.ref b]) (n := 12) (Nat.le_of_ble_eq_true rfl)
  rw [lg_entry_eq]
  generalize (lg_sl ([Value.ref b]) ++ List.replicate (12 - (lg_sl ([Value.ref b])).length) Slot.unset).toArray = ls at hl ⊢
  have hl : lv_has ls 12 [(0, .ref b)] := hl
  have hls : ls.size = 12 := hl.1
  -- new CiderShop()
  refine va_new (ci := 6) (fs := (aDf 6).map (aV (fun _ => 0))) (C := ownN 6) (T := tOf 6) (N := nOf 6) (index := 13) hx hb hts2 (mTs_lay 6 (by decide)) (tyOf 6) (tyOf_ok 6 (by decide)) hown (hts2 _ (nHas_in (o := 8) (a := 13) (c := 6) (by decide +kernel))) (hts2 _ (mk_in (c := 6) (by decide)).1) (hts2 _ (mk_in (c := 6) (by decide)).2) hK hP0 hD0 hSt0 hA (vwCl_at 6 (by decide)) (aDf_val (by decide)) (Nat.le_of_ble_eq_true rfl) (Nat.le_of_ble_eq_true rfl) dl_0 (fun q1 H1 hP1 hD1 hS1' => ?_)
  obtain ⟨as1, has1⟩ : ∃ as1 : Nat → Nat, as1 = fun _ => q1 := ⟨_, rfl⟩
  have e1 : ([] ++ [(q1, .inr (6, (aDf 6).map (aV (fun _ => 0))))] : va_W) = aW dA as1 [(6, (0, aDf 6))] := by
    have h1 := aW_app (dA := dA) (as := as1) (hp := []) (6, (0, aDf 6))
    have h2 : aE dA as1 (6, (0, aDf 6)) = .inr (6, (aDf 6).map (aV (fun _ => 0))) := (aE_cg (n := 0) (as := fun _ => 0) (fun j hj => absurd hj (Nat.not_lt_zero _)) (aDf_ok 0 6)).trans (aE_obj (by decide))
    rw [h2, has1] at h1
    rw [has1]
    exact h1.symm
  rw [e1] at hP1 hD1
  refine lv_dup hx hb dl_3 rfl ?_
  have hW1 : 2 * (F0 m 4 ls [.ref q1, .ref q1]).monitorRoom + (([Value.ref q1]).map fun v => v.category).sum ≤ 8 := lv_room (Nat.le_of_ble_eq_true rfl)
  have hM1 := atX6 l dA D A as1 [(6, (0, aDf 6))] (ordA.map cell0) 0 hOk1 (by decide) heap_A
  have z1 : as1 0 = q1 := by rw [has1]
  refine a_call (va_runI (Ts := []) (own := ownN 8) (As := []) (b := q1) (rest := [.ref q1]) (cc := code) (nL := 12) ⟨hx, hb, hml, hown, fun w hw => absurd hw List.not_mem_nil⟩ hM1 ⟨⟨rfl, rfl, by decide, by decide, hws ayX6.1, List.mem_singleton.mpr rfl, hts2 _ ayX6.1, hts2 _ ayX6.2.1, ayX6.2.2.1, hn ayX6.2.2.2, hts2 _ lnk6⟩, rfl, hts2 _ aiX6⟩ ⟨aP_blind dA D A as1 _ 0, fun U hU hW => ⟨by rw [z1], by rw [hU]; exact hP1, hD1, va_K.moved hW.alike hK, fun w hw => MWd.any hW hwd #[] w hw, AOs.moved hW.alike hO, fun q hq => hA q (Nat.le_trans hS1'.1 (by rw [hU] at hq; exact hq))⟩⟩ rfl rfl hls rfl hW1 dl_4 ⟨Nat.le_of_ble_eq_true rfl, Nat.le_of_ble_eq_true rfl⟩) hS1' (fun as2 H2 locs2 ha2 hP2 hD2 hok2 hle2 hS2 => ?_)
  refine lv_astore_n (lv' := [(1, .ref q1), (0, .ref b)]) hx hb dl_7 rfl hl (by decide) rfl (fun ls1 hl1 => ?_)
  refine lv_iconst (v := 0) hx hb dl_8 rfl ?_
  refine lv_istore_n (lv' := [(2, .int 0), (1, .ref q1), (0, .ref b)]) hx hb dl_9 rfl hl1 (by decide) rfl (fun ls2 hl2 => ?_)
  refine lv_iconst (v := 0) hx hb dl_10 rfl ?_
  refine lv_istore_n (lv' := [(3, .int 0), (2, .int 0), (1, .ref q1), (0, .ref b)]) hx hb dl_11 rfl hl2 (by decide) rfl (fun ls3 hl3 => ?_)
  -- the world of the calls
  obtain ⟨ad, had⟩ : ∃ ad : MN → Nat, ad = fun q => if q.1 = 22 then b else as2 (ixN q) := ⟨_, rfl⟩
  have had1 : ∀ q, q ∈ mNs → ad q = as2 (ixN q) := fun q hq => by
    have := mNs_tag hq
    rw [had]
    exact if_neg (by omega)
  have hadb : ad (22, 0, 0) = b := by
    rw [had]
    rfl
  have had0 : ad (0, 0, 0) = q1 := by
    rw [had]
    show as2 0 = q1
    rw [ha2 0 (by decide), z1]
  have hPw := world_P (ad := ad) had1 hP2
  have hDw := world_D (ad := ad) had1 hD2
  have hMS : MSt (ad, dA, D, A, (L, xs)) s s.heap := by
    refine ⟨?_, ?_, ?_⟩
    · show ad (22, 0, 0) < s.heap.size
      rw [hadb]
      exact hbl
    · show ¬ A (ad (22, 0, 0))
      rw [hadb]
      exact hA0 b hbl
    · show va_X (ad (22, 0, 0)) L xs s s.heap
      rw [hadb]
      exact hX
  obtain ⟨v', hrun⟩ := law_loop (S := (L, xs)) hL 44 0 rfl v0 0 0 pg0 rel0
  obtain ⟨n, hrun⟩ := (rLim_spec _).mp hrun
  have key := run_sound (p := p) (l := l) (e := e) (R := room_1) (s := s) (m := m) (args := #[Value.ref b]) (below := below) (meth := meth) (c := c) (cells := 278) (slots := 1763) (Q := lw_Z below #[Value.ref b] s) (o := 8) (nL := 12) (rk := 1) (cc := code) (ad, dA, D, A, (L, xs)) hx hb hml hown hwd hK hMS ⟨Nat.le_of_ble_eq_true rfl, Nat.le_of_ble_eq_true rfl⟩ (FL_law (L, xs)) cdL_law ckL_all caL_law (fun h => absurd h no38L) (fun _ => ⟨L, xs, hMS.1, hMS.2.1, hMS.2.2, fun k v r h => no_of h, fun v r h => no_of h⟩) (v', some (.inl 1)) ?_ n 12 _ [] v0 hrun ?_ (fun w hw => absurd hw List.not_mem_nil) H2 locs2 ls3 hPw hDw hS2 ?_
  · rw [pcs12] at key
    exact W.widen (k := 278) (n := 1763) (Nat.le_of_ble_eq_true rfl) (Nat.le_of_ble_eq_true rfl) key
  · intro i op a bb d x y tb stk v H locs ls hi h50 h53 hd hok hret hstk hP hS
    have h4 : op = 50 ∨ op = 51 ∨ op = 52 ∨ op = 53 ∨ op = 54 := by omega
    rcases h4 with rfl | rfl | rfl | rfl | rfl
    · cases hok
    · obtain ⟨z, -, rfl, hz⟩ := hret
      have hz2 : (1 : Int32) = z := Sum.inl.inj (Option.some.inj (congrArg Prod.snd hz))
      subst hz2
      refine va_forget (fun q hq => hA1 _ (hS.2.2 q hq)) ?_
      exact W.widen (k := 680905) (n := 7059532) (Nat.le_of_ble_eq_true rfl) (Nat.le_of_ble_eq_true rfl) (lw_ret hx hb hr hlocks hd)
    · cases hok
    · cases hok
    · cases hok
  · intro q hq
    simp only [List.mem_cons, List.not_mem_nil, or_false] at hq
    rcases hq with rfl | rfl | rfl | rfl
    · trivial
    · trivial
    · exact Or.inl (by decide +kernel)
    · exact Or.inr rfl
  · have e4 : gL (ad, dA, D, A, (L, xs)) [(3, .inl (nI 0)), (2, .inl (nI 0)), (1, .inr (.inr (0, 0, 0))), (0, .inr (.inr (22, 0, 0)))] = [(3, .int 0), (2, .int 0), (1, .ref q1), (0, .ref b)] := by
      show [(3, Value.int 0), (2, Value.int 0), (1, Value.ref (ad (0, 0, 0))), (0, Value.ref (ad (22, 0, 0)))] = _
      rw [had0, hadb]
    rw [e4]
    exact hl3
