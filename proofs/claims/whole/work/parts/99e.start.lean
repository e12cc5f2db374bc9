-- THE LAW FROM ITS ENTRY
/-! THE CLAIM OUT OF ONE WALK OF THE LAW'S BODY. Your part is whole_start (and what it stands on); all else here is the same for every law, but numbers. -/
def lw_P (b : Addr) (xs : List Int32) (args : Array Value) (s : State) : Prop := args = #[.ref b] ∧ s.IntsAt b xs ∧ xs.length ≤ 3584 ∧ (Jvm.Cond.and given_1 narrow_1).before args s = true
def lw_Q (_ : Array Value) (s : State) (o : Outcome) (t : State) : Prop := o = .returned (some (.int 1)) ∧ Framed s o t [] 600000 7302250
def lw_Z (below : List Frame) (a : Array Value) (s : State) : State → Prop := fun t => ∃ o, t.status = .running ∧ Ended t below o ∧ lw_Q a s o t
/-- the law's own end, with 1 on the stack, nothing written that was there before, its room as the claim has it -/
theorem lw_ret {p : Program} {l : Launch} {e : Env} {s : State} {m : MethodId} {below : List Frame} {meth : Method} {c : Code} {b : Nat} (hx : p.tables.exec = Jvm.exec) (hb : c.code = code) (hr : meth.sig.returnType = ret) (hlocks : meth.locks = false) {pc : Nat} {H : Heap} {ls : Array Slot} (hdg : decode code pc = .ok (.ireturn, 1)) : W p l e room_1 s m #[Value.ref b] below meth c H [] 600000 7302250 (lw_Z below #[Value.ref b] s) (F0 m pc ls [.int 1]) := by
  intro T hT X
  obtain ⟨fs, hret, hrun, hended, hW, hframe⟩ := X.leave (v := some (.int 1)) (hlocks := hlocks) (fun h => by rw [hr] at h; cases h)
  have hmeth' : T.vm.method? m = some meth := X.method'
  refine ⟨T.setFrames fs, ?_, .returned (some (.int 1)), hrun, hended, rfl, ⟨_, rfl⟩, hW, hframe⟩
  jvm_step X.here [X.here.top, hx, hb, hdg, hmeth', hr, ret, narrow_b1]
  (try refine ⟨rfl, ?_⟩); (try refine ⟨rfl, ?_⟩)
  first | (intro acts; rw [hret _ acts rfl rfl rfl]) | rw [hret _ _ rfl rfl rfl]
  exact Steps.refl _
/-- what holds at the law's entry: the machine, the code, the tables' words (any of lw_tbl by 'hts w (by decide +kernel)'), the script of L ints xs at the cell b, what the Statement gives of the start (any of its parts by flat_of_before) -/
def lw_At (p : Program) (s : State) (m : MethodId) (meth : Method) (c : Code) (b L : Nat) (xs : Nat → Int32) : Prop :=
  p.tables.exec = Jvm.exec ∧ c.code = code ∧ meth.sig.returnType = ret ∧ c.maxLocals = 4 ∧ s.vm.findClass R_law = some m.cls ∧ (∀ w ∈ lw_tbl, w.before #[Value.ref b] s = true) ∧ va_X b L xs s s.heap ∧ b < s.heap.size ∧ meth.locks = false ∧ (Jvm.Cond.and given_1 narrow_1).before #[Value.ref b] s = true
theorem ck18 : (List.range 18).all (fun i => match nth cdL i with
  | some m => Nat.beq m.1 200
  | none => true) = true := by decide +kernel
theorem ckL_all : CkP 8 4 1 code cdL := by
  intro i m hi hne
  have hlen : cdL.length = 760 := by decide +kernel
  have hl := (nth_lt hi).1
  rw [hlen] at hl
  by_cases h18 : i < 18
  · have h := List.all_eq_true.mp ck18 i (List.mem_range.mpr h18)
    rw [hi] at h
    exact absurd (Nat.eq_of_beq_eq_true h) hne
  by_cases h38 : i < 38
  · exact ckR_at ckL_18 hi hne (by omega) (by omega)
  by_cases h58 : i < 58
  · exact ckR_at ckL_38 hi hne (by omega) (by omega)
  by_cases h78 : i < 78
  · exact ckR_at ckL_58 hi hne (by omega) (by omega)
  by_cases h98 : i < 98
  · exact ckR_at ckL_78 hi hne (by omega) (by omega)
  by_cases h118 : i < 118
  · exact ckR_at ckL_98 hi hne (by omega) (by omega)
  by_cases h138 : i < 138
  · exact ckR_at ckL_118 hi hne (by omega) (by omega)
  by_cases h158 : i < 158
  · exact ckR_at ckL_138 hi hne (by omega) (by omega)
  by_cases h178 : i < 178
  · exact ckR_at ckL_158 hi hne (by omega) (by omega)
  by_cases h198 : i < 198
  · exact ckR_at ckL_178 hi hne (by omega) (by omega)
  by_cases h218 : i < 218
  · exact ckR_at ckL_198 hi hne (by omega) (by omega)
  by_cases h238 : i < 238
  · exact ckR_at ckL_218 hi hne (by omega) (by omega)
  by_cases h258 : i < 258
  · exact ckR_at ckL_238 hi hne (by omega) (by omega)
  by_cases h278 : i < 278
  · exact ckR_at ckL_258 hi hne (by omega) (by omega)
  by_cases h298 : i < 298
  · exact ckR_at ckL_278 hi hne (by omega) (by omega)
  by_cases h318 : i < 318
  · exact ckR_at ckL_298 hi hne (by omega) (by omega)
  by_cases h338 : i < 338
  · exact ckR_at ckL_318 hi hne (by omega) (by omega)
  by_cases h358 : i < 358
  · exact ckR_at ckL_338 hi hne (by omega) (by omega)
  by_cases h378 : i < 378
  · exact ckR_at ckL_358 hi hne (by omega) (by omega)
  by_cases h398 : i < 398
  · exact ckR_at ckL_378 hi hne (by omega) (by omega)
  by_cases h418 : i < 418
  · exact ckR_at ckL_398 hi hne (by omega) (by omega)
  by_cases h438 : i < 438
  · exact ckR_at ckL_418 hi hne (by omega) (by omega)
  by_cases h458 : i < 458
  · exact ckR_at ckL_438 hi hne (by omega) (by omega)
  by_cases h478 : i < 478
  · exact ckR_at ckL_458 hi hne (by omega) (by omega)
  by_cases h498 : i < 498
  · exact ckR_at ckL_478 hi hne (by omega) (by omega)
  by_cases h518 : i < 518
  · exact ckR_at ckL_498 hi hne (by omega) (by omega)
  by_cases h538 : i < 538
  · exact ckR_at ckL_518 hi hne (by omega) (by omega)
  by_cases h558 : i < 558
  · exact ckR_at ckL_538 hi hne (by omega) (by omega)
  by_cases h578 : i < 578
  · exact ckR_at ckL_558 hi hne (by omega) (by omega)
  by_cases h598 : i < 598
  · exact ckR_at ckL_578 hi hne (by omega) (by omega)
  by_cases h618 : i < 618
  · exact ckR_at ckL_598 hi hne (by omega) (by omega)
  by_cases h638 : i < 638
  · exact ckR_at ckL_618 hi hne (by omega) (by omega)
  by_cases h658 : i < 658
  · exact ckR_at ckL_638 hi hne (by omega) (by omega)
  by_cases h678 : i < 678
  · exact ckR_at ckL_658 hi hne (by omega) (by omega)
  by_cases h698 : i < 698
  · exact ckR_at ckL_678 hi hne (by omega) (by omega)
  by_cases h718 : i < 718
  · exact ckR_at ckL_698 hi hne (by omega) (by omega)
  by_cases h738 : i < 738
  · exact ckR_at ckL_718 hi hne (by omega) (by omega)
  by_cases h758 : i < 758
  · exact ckR_at ckL_738 hi hne (by omega) (by omega)
  exact ckR_at ckL_758 hi hne (by omega) (by omega)
theorem dl_0 : decode code 0 = .ok (.new 7, 3) := by decide +kernel
theorem dl_3 : decode code 3 = .ok (.dup, 1) := by decide +kernel
theorem dl_4 : decode code 4 = .ok (.invokespecial 9, 3) := by decide +kernel
theorem dl_7 : decode code 7 = .ok (.astore_n 1, 1) := by decide +kernel
theorem dl_8 : decode code 8 = .ok (.new 10, 3) := by decide +kernel
theorem dl_11 : decode code 11 = .ok (.dup, 1) := by decide +kernel
theorem dl_12 : decode code 12 = .ok (.invokespecial 12, 3) := by decide +kernel
theorem dl_15 : decode code 15 = .ok (.astore_n 2, 1) := by decide +kernel
theorem dl_16 : decode code 16 = .ok (.iconst 0, 1) := by decide +kernel
theorem dl_17 : decode code 17 = .ok (.istore_n 3, 1) := by decide +kernel
theorem lnk6 : Cond.methodLink (ownN 8) 9 yX6_init ∈ mTs := mTs_of 17 (by decide +kernel) (by decide +kernel)
theorem lnk7 : Cond.methodLink (ownN 8) 12 yX7_init ∈ mTs := mTs_of 677 (by decide +kernel) (by decide +kernel)
theorem hOk1 : hOk [(6, (0, aDf 6))] := fun c hc => by
  rw [List.mem_singleton.mp hc]
  exact aDf_ok _ 6
theorem pcs18 : pcs cdL 18 = 18 := by decide +kernel
theorem f99_inv {L : Nat} {xs : Nat → Int32} {k : Int32} {v : MM} {r : MM × Option MV} (h : FL L xs 99 v [.inl k] = some r) : vp_in k L ∧ r.2 = some (.inl (xs k.toNatClampNeg)) := by
  have h : (if mIn k L then some (v, some (.inl (xs k.toNatClampNeg))) else none) = some r := h
  by_cases c : mIn k L
  · rw [if_pos c] at h
    exact ⟨mIn_vp c, by rw [← Option.some.inj h]⟩
  · rw [if_neg c] at h
    cases h
theorem f98_inv {L : Nat} {xs : Nat → Int32} {v : MM} {r : MM × Option MV} (h : FL L xs 98 v [] = some r) : r.2 = some (.inl (Int32.ofNat L)) := by
  have h : some (v, some (.inl (Int32.ofNat L))) = some r := h
  rw [← Option.some.inj h]
set_option maxHeartbeats 8000000 in
set_option maxRecDepth 100000 in
/-- from the entry, for every script of at most 3584 ints, the law comes to its end with true -/
theorem whole_start {p : Program} {e : Env} {s : State} {m : MethodId} {below : List Frame} {meth : Method} {c : Code} (l : Launch) (hflags : l.flags = flags0) {b L : Nat} {xs : Nat → Int32} (hL : L ≤ 3584) (C0 : lw_At p s m meth c b L xs) : W p l e room_1 s m #[Value.ref b] below meth c s.heap [] 0 0 (lw_Z below #[Value.ref b] s) (entryFrame m ([Value.ref b] : List Value).toArray 4) := by
  obtain ⟨hx, hb, hr, hml, hown0, hts, hX, hbl, hlocks, hgv⟩ := C0
  have hown : s.vm.findClass (ownN 8) = some m.cls := hown0
  have hwd : MWd s := MWd.of hts
  have hts2 := MWd.any (State.WarmedH.refl s) hwd #[Value.ref b]
  obtain ⟨D, dA, hK⟩ := start_K hts
  have hO := start_O hts
  obtain ⟨A, hAe⟩ : ∃ A : Nat → Prop, A = fun q => s.heap.size ≤ q := ⟨_, rfl⟩
  have hA : ∀ q, s.heap.size ≤ q → A q := fun q h => by
    rw [hAe]
    exact h
  have hA1 : ∀ q, A q → s.heap.size ≤ q := fun q h => by
    rw [hAe] at h
    exact h
  have hA0 : ∀ a : Nat, a < s.heap.size → ¬ A a := fun a h z => absurd (hA1 a z) (Nat.not_le.mpr h)
  obtain ⟨adK, adV, hS1, hR1⟩ := start_S hts hgv hA0
  obtain ⟨hZ1, hZ2⟩ := start_Z hts hgv hA0
  have hSt0 : va_S A s.heap s.heap [] := va_S.rf
  have hP0 : va_P D vwCl [] s.heap := fun k q hq => by cases hq
  have hD0 : va_D A [] := ⟨fun i j p q hp => (by cases hp), fun k q hq => by cases hq⟩
  have hws : ∀ {y : MethodName} {bytes : ByteArray} {maxL : Nat}, Cond.code y bytes maxL none ∈ mTs → ∀ w ∈ [Cond.code y bytes maxL none], ∀ (a' : Array Value) (U : State), s.WarmedH U.vm → w.before a' U = true := by
    intro y bytes maxL hm w hw a' U hW
    rw [List.mem_singleton.mp hw]
    exact word_at hW (Or.inl rfl) (hts2 _ hm)
  have hn : ∀ {y : MethodName}, (parseMethodDescriptor y.desc).map (fun d => d.parameters.length) = some 0 → ∀ sig, parseMethodDescriptor y.desc = some sig → 0 = sig.parameters.length := fun h4 sig h => by
    rw [h] at h4
    exact (Option.some.inj h4).symm
  have hl := lv_entry ([Value.ref b]) (n := 4) (Nat.le_of_ble_eq_true rfl)
  rw [lg_entry_eq]
  generalize (lg_sl ([Value.ref b]) ++ List.replicate (4 - (lg_sl ([Value.ref b])).length) Slot.unset).toArray = ls at hl ⊢
  have hl : lv_has ls 4 [(0, .ref b)] := hl
  have hls : ls.size = 4 := hl.1
  -- new CiderShop()
  refine va_new (ci := 6) (fs := (aDf 6).map (aV (fun _ => 0))) (C := ownN 6) (T := tOf 6) (N := nOf 6) (index := 7) hx hb hts2 (mTs_lay 6 (by decide)) (tyOf 6) (tyOf_ok 6 (by decide)) hown (hts2 _ (nHas_in (o := 8) (a := 7) (c := 6) (by decide +kernel))) (hts2 _ (mk_in (c := 6) (by decide)).1) (hts2 _ (mk_in (c := 6) (by decide)).2) hK hP0 hD0 hSt0 hA (vwCl_at 6 (by decide)) (aDf_val (by decide)) (Nat.le_of_ble_eq_true rfl) (Nat.le_of_ble_eq_true rfl) dl_0 (fun q1 H1 hP1 hD1 hS1' => ?_)
  obtain ⟨as1, has1⟩ : ∃ as1 : Nat → Nat, as1 = fun _ => q1 := ⟨_, rfl⟩
  have e1 : ([] ++ [(q1, .inr (6, (aDf 6).map (aV (fun _ => 0))))] : va_W) = aW dA as1 [(6, (0, aDf 6))] := by
    have h1 := aW_app (dA := dA) (as := as1) (hp := []) (6, (0, aDf 6))
    have h2 : aE dA as1 (6, (0, aDf 6)) = .inr (6, (aDf 6).map (aV (fun _ => 0))) := (aE_cg (n := 0) (as := fun _ => 0) (fun j hj => absurd hj (Nat.not_lt_zero _)) (aDf_ok 0 6)).trans (aE_obj (by decide))
    rw [h2, has1] at h1
    rw [has1]
    exact h1.symm
  rw [e1] at hP1 hD1
  refine lv_dup hx hb dl_3 rfl ?_
  have hW1 : 2 * (F0 m 4 ls [.ref q1, .ref q1]).monitorRoom + (([Value.ref q1]).map fun v => v.category).sum ≤ 8 := lv_room (Nat.le_of_ble_eq_true rfl)
  have hM1 := atX6 l dA D A as1 [(6, (0, aDf 6))] (ordA.map cell0) 0 hOk1 (by decide) heap_A
  have z1 : as1 0 = q1 := by rw [has1]
  refine a_call (va_runI (Ts := []) (own := ownN 8) (As := []) (b := q1) (rest := [.ref q1]) (cc := code) (nL := 4) ⟨hx, hb, hml, hown, fun w hw => absurd hw List.not_mem_nil⟩ hM1 ⟨⟨rfl, rfl, by decide, by decide, hws ayX6.1, List.mem_singleton.mpr rfl, hts2 _ ayX6.1, hts2 _ ayX6.2.1, ayX6.2.2.1, hn ayX6.2.2.2, hts2 _ lnk6⟩, rfl, hts2 _ aiX6⟩ ⟨aP_blind dA D A as1 _ 0, fun U hU hW => ⟨by rw [z1], by rw [hU]; exact hP1, hD1, va_K.moved hW.alike hK, fun w hw => MWd.any hW hwd #[] w hw, AOs.moved hW.alike hO, fun q hq => hA q (Nat.le_trans hS1'.1 (by rw [hU] at hq; exact hq))⟩⟩ rfl rfl hls rfl hW1 dl_4 ⟨Nat.le_of_ble_eq_true rfl, Nat.le_of_ble_eq_true rfl⟩) hS1' (fun as2 H2 locs2 ha2 hP2 hD2 hok2 hle2 hS2 => ?_)
  refine lv_astore_n (lv' := [(1, .ref q1), (0, .ref b)]) hx hb dl_7 rfl hl (by decide) rfl (fun ls1 hl1 => ?_)
  have hls1 : ls1.size = 4 := hl1.1
  -- new CiderShopModel()
  refine va_new (ci := 7) (fs := (aDf 7).map (aV as2)) (C := ownN 7) (T := tOf 7) (N := nOf 7) (index := 10) hx hb hts2 (mTs_lay 7 (by decide)) (tyOf 7) (tyOf_ok 7 (by decide)) hown (hts2 _ (nHas_in (o := 8) (a := 10) (c := 7) (by decide +kernel))) (hts2 _ (mk_in (c := 7) (by decide)).1) (hts2 _ (mk_in (c := 7) (by decide)).2) hK hP2 hD2 hS2 hA (vwCl_at 7 (by decide)) (aDf_val (by decide)) (Nat.le_of_ble_eq_true rfl) (Nat.le_of_ble_eq_true rfl) dl_8 (fun q2 H3 hP3 hD3 hS3 => ?_)
  obtain ⟨as3, has3⟩ : ∃ as3 : Nat → Nat, as3 = fun j => if j = (ordA.map cell0).length then q2 else as2 j := ⟨_, rfl⟩
  have g1 : ∀ j, j < (ordA.map cell0).length → as3 j = as2 j := fun j hj => by
    rw [has3]
    exact if_neg (by omega)
  have g2 : as3 278 = q2 := by
    rw [has3, ordA_len]
    exact if_pos rfl
  have e3 : aW dA as2 (ordA.map cell0) ++ [(q2, .inr (7, (aDf 7).map (aV as2)))] = aW dA as3 (ordA.map cell0 ++ [(7, (0, aDf 7))]) := by
    rw [aW_app, aW_cg hok2 g1, ordA_len, g2, aE_cg g1 (aDf_ok _ 7), aE_obj (by decide)]
  rw [e3] at hP3 hD3
  have hok3 : hOk (ordA.map cell0 ++ [(7, (0, aDf 7))]) := hok2.app (aDf_ok _ 7)
  have hlen3 : (ordA.map cell0 ++ [(7, (0, aDf 7))]).length = 279 := by rw [List.length_append, ordA_len]; rfl
  refine lv_dup hx hb dl_11 rfl ?_
  have hW2 : 2 * (F0 m 12 ls1 [.ref q2, .ref q2]).monitorRoom + (([Value.ref q2]).map fun v => v.category).sum ≤ 8 := lv_room (Nat.le_of_ble_eq_true rfl)
  have hM2 := atX7 l dA D A as3 (ordA.map cell0 ++ [(7, (0, aDf 7))]) ((ordA ++ ordB).map cell0) 278 hok3 (by rw [hlen3]; decide) heap_B
  refine a_call (va_runI (Ts := []) (own := ownN 8) (As := []) (b := q2) (rest := [.ref q2]) (cc := code) (nL := 4) ⟨hx, hb, hml, hown, fun w hw => absurd hw List.not_mem_nil⟩ hM2 ⟨⟨rfl, rfl, by decide, by decide, hws ayX7.1, List.mem_singleton.mpr rfl, hts2 _ ayX7.1, hts2 _ ayX7.2.1, ayX7.2.2.1, hn ayX7.2.2.2, hts2 _ lnk7⟩, rfl, hts2 _ aiX7⟩ ⟨aP_blind dA D A as3 _ 278, fun U hU hW => ⟨by rw [g2], by rw [hU]; exact hP3, hD3, va_K.moved hW.alike hK, fun w hw => MWd.any hW hwd #[] w hw, AOs.moved hW.alike hO, fun q hq => hA q (Nat.le_trans hS3.1 (by rw [hU] at hq; exact hq))⟩⟩ rfl rfl hls1 rfl hW2 dl_12 ⟨Nat.le_of_ble_eq_true rfl, Nat.le_of_ble_eq_true rfl⟩) hS3 (fun as4 H4 locs4 ha4 hP4 hD4 hok4 hle4 hS4 => ?_)
  refine lv_astore_n (lv' := [(2, .ref q2), (1, .ref q1), (0, .ref b)]) hx hb dl_15 rfl hl1 (by decide) rfl (fun ls2 hl2 => ?_)
  refine lv_iconst (v := 0) hx hb dl_16 rfl ?_
  refine lv_istore_n (lv' := [(3, .int 0), (2, .ref q2), (1, .ref q1), (0, .ref b)]) hx hb dl_17 rfl hl2 (by decide) rfl (fun ls3 hl3 => ?_)
  -- the world of the calls
  obtain ⟨ad, had⟩ : ∃ ad : MN → Nat, ad = fun q => if q.1 = 22 then b else if q.1 = 23 then adK q.2.1 else as4 (ixN q) := ⟨_, rfl⟩
  have had1 : ∀ q, q ∈ mNs → ad q = as4 (ixN q) := fun q hq => by
    have := mNs_tag hq
    rw [had]
    show (if q.1 = 22 then b else if q.1 = 23 then adK q.2.1 else as4 (ixN q)) = _
    rw [if_neg (by omega), if_neg (by omega)]
  have hadb : ad (22, 0, 0) = b := by
    rw [had]
    rfl
  have hads : (fun k => ad (23, k, 0)) = adK := by
    funext k
    rw [had]
    rfl
  have had0 : ad (0, 0, 0) = q1 := by
    rw [had]
    show as4 0 = q1
    rw [ha4 0 (by rw [hlen3]; decide), g1 0 (by rw [ordA_len]; decide), ha2 0 (by decide), z1]
  have had16 : ad (16, 0, 0) = q2 := by
    rw [had]
    show as4 278 = q2
    rw [ha4 278 (by rw [hlen3]; decide), g2]
  have hPw := world_P (ad := ad) had1 hP4
  have hDw := world_D (ad := ad) had1 hD4
  obtain ⟨G, hG⟩ : ∃ G : MG, G = (ad, dA, D, A, adV) := ⟨_, rfl⟩
  have hMS : MSt (ad, dA, D, A, adV) s s.heap := by
    refine ⟨?_, ?_, hZ1, hZ2⟩
    · show vk_S 7 mLenS mBytS (fun k => ad (23, k, 0)) adV A s s.heap
      rw [hads]
      exact hS1
    · intro k hk
      show vk_R RX3 (mIdS k) (mTxS k) (ad (23, k, 0)) s
      rw [show ad (23, k, 0) = adK k from congrFun hads k]
      exact hR1 k hk
  obtain ⟨v', hrun⟩ := law_loop (xs := xs) hL L 0 0 v0 (by omega) (by omega) (by omega) bd0
  obtain ⟨n, hrun⟩ := (rLim_spec _).mp hrun
  have key := run_sound3 (p := p) (l := l) (e := e) (R := room_1) (s := s) (m := m) (args := #[Value.ref b]) (below := below) (meth := meth) (c := c) (cells := 284) (slots := 3250) (Q := lw_Z below #[Value.ref b] s) (o := 8) (nL := 4) (rk := 1) (cc := code) (ad, dA, D, A, adV) hx hb hml hown hwd hK hMS ⟨Nat.le_of_ble_eq_true rfl, Nat.le_of_ble_eq_true rfl⟩ (FL L xs) cdL ckL_all (caL L xs) (fun h => absurd h no38L) (fun _ => ⟨L, xs, by rw [show (ad, dA, D, A, adV).1 (22, 0, 0) = b from hadb]; exact hbl, by rw [show (ad, dA, D, A, adV).1 (22, 0, 0) = b from hadb]; exact hA0 b hbl, by rw [show (ad, dA, D, A, adV).1 (22, 0, 0) = b from hadb]; exact hX, fun k v r h => f99_inv h, fun v r h => f98_inv h⟩) (v', some (.inl 1)) ?_ n 18 _ [] v0 hrun ?_ (fun w hw => absurd hw List.not_mem_nil) H4 locs4 ls3 hPw hDw hS4 ?_
  · rw [pcs18] at key
    exact W.widen (k := 284) (n := 3250) (Nat.le_of_ble_eq_true rfl) (Nat.le_of_ble_eq_true rfl) key
  · intro i op a bb d x y tb stk v H locs ls hi h50 h53 hd hok hret hstk hP hS
    have h4 : op = 50 ∨ op = 51 ∨ op = 52 ∨ op = 53 := by omega
    rcases h4 with rfl | rfl | rfl | rfl
    · cases hok
    · obtain ⟨z, -, rfl, hz⟩ := hret
      have hz2 : (1 : Int32) = z := Sum.inl.inj (Option.some.inj (congrArg Prod.snd hz))
      subst hz2
      refine va_forget (fun q hq => hA1 _ (hS.2.2 q hq)) ?_
      exact W.widen (k := 600000) (n := 7302250) (Nat.le_of_ble_eq_true rfl) (Nat.le_of_ble_eq_true rfl) (lw_ret hx hb hr hlocks hd)
    · cases hok
    · cases hok
  · intro q hq
    simp only [List.mem_cons, List.not_mem_nil, or_false] at hq
    rcases hq with rfl | rfl | rfl | rfl
    · trivial
    · exact Or.inl (by decide +kernel)
    · exact Or.inl (by decide +kernel)
    · exact Or.inr (Or.inr rfl)
  · have e4 : gL (ad, dA, D, A, adV) [(3, .inl (nI 0)), (2, .inr (.inr (16, 0, 0))), (1, .inr (.inr (0, 0, 0))), (0, .inr (.inr (22, 0, 0)))] = [(3, .int 0), (2, .ref q2), (1, .ref q1), (0, .ref b)] := by
      show [(3, Value.int 0), (2, Value.ref (ad (16, 0, 0))), (1, Value.ref (ad (0, 0, 0))), (0, Value.ref (ad (22, 0, 0)))] = _
      rw [had16, had0, hadb]
    rw [e4]
    exact hl3
