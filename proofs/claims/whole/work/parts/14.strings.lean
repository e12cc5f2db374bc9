-- THE JDK's String.length and String.charAt over the class's own constants
theorem dJ0_length_8abf5_0 : decode cJ0_length_8abf5 0 = .ok (.aload_n 0, 1) := by decide +kernel
theorem dJ0_length_8abf5_1 : decode cJ0_length_8abf5 1 = .ok (.getfield 9, 3) := by decide +kernel
theorem dJ0_length_8abf5_4 : decode cJ0_length_8abf5 4 = .ok (.arraylength, 1) := by decide +kernel
theorem dJ0_length_8abf5_5 : decode cJ0_length_8abf5 5 = .ok (.aload_n 0, 1) := by decide +kernel
theorem dJ0_length_8abf5_6 : decode cJ0_length_8abf5 6 = .ok (.invokevirtual 335, 3) := by decide +kernel
theorem dJ0_length_8abf5_9 : decode cJ0_length_8abf5 9 = .ok (.ishr, 1) := by decide +kernel
theorem dJ0_length_8abf5_10 : decode cJ0_length_8abf5 10 = .ok (.ireturn, 1) := by decide +kernel
theorem dJ0_charAt_5068e_0 : decode cJ0_charAt_5068e 0 = .ok (.aload_n 0, 1) := by decide +kernel
theorem dJ0_charAt_5068e_1 : decode cJ0_charAt_5068e 1 = .ok (.invokevirtual 492, 3) := by decide +kernel
theorem dJ0_charAt_5068e_4 : decode cJ0_charAt_5068e 4 = .ok (.ifCond .eq 12, 3) := by decide +kernel
theorem dJ0_charAt_5068e_7 : decode cJ0_charAt_5068e 7 = .ok (.aload_n 0, 1) := by decide +kernel
theorem dJ0_charAt_5068e_8 : decode cJ0_charAt_5068e 8 = .ok (.getfield 9, 3) := by decide +kernel
theorem dJ0_charAt_5068e_11 : decode cJ0_charAt_5068e 11 = .ok (.iload_n 1, 1) := by decide +kernel
theorem dJ0_charAt_5068e_12 : decode cJ0_charAt_5068e 12 = .ok (.invokestatic 495, 3) := by decide +kernel
theorem dJ0_charAt_5068e_15 : decode cJ0_charAt_5068e 15 = .ok (.ireturn, 1) := by decide +kernel
theorem dJ0_charAt_5068e_16 : decode cJ0_charAt_5068e 16 = .ok (.aload_n 0, 1) := by decide +kernel
theorem dJ0_charAt_5068e_17 : decode cJ0_charAt_5068e 17 = .ok (.getfield 9, 3) := by decide +kernel
theorem dJ0_charAt_5068e_20 : decode cJ0_charAt_5068e 20 = .ok (.iload_n 1, 1) := by decide +kernel
theorem dJ0_charAt_5068e_21 : decode cJ0_charAt_5068e 21 = .ok (.invokestatic 498, 3) := by decide +kernel
theorem dJ0_charAt_5068e_24 : decode cJ0_charAt_5068e 24 = .ok (.ireturn, 1) := by decide +kernel
theorem dJ0_coder_7d493_0 : decode cJ0_coder_7d493 0 = .ok (.getstatic 38, 3) := by decide +kernel
theorem dJ0_coder_7d493_3 : decode cJ0_coder_7d493 3 = .ok (.ifCond .eq 10, 3) := by decide +kernel
theorem dJ0_coder_7d493_6 : decode cJ0_coder_7d493 6 = .ok (.aload_n 0, 1) := by decide +kernel
theorem dJ0_coder_7d493_7 : decode cJ0_coder_7d493 7 = .ok (.getfield 15, 3) := by decide +kernel
theorem dJ0_coder_7d493_10 : decode cJ0_coder_7d493 10 = .ok (.goto 4, 3) := by decide +kernel
theorem dJ0_coder_7d493_13 : decode cJ0_coder_7d493 13 = .ok (.iconst 1, 1) := by decide +kernel
theorem dJ0_coder_7d493_14 : decode cJ0_coder_7d493 14 = .ok (.ireturn, 1) := by decide +kernel
theorem dJ0_isLatin1_aae02_0 : decode cJ0_isLatin1_aae02 0 = .ok (.getstatic 38, 3) := by decide +kernel
theorem dJ0_isLatin1_aae02_3 : decode cJ0_isLatin1_aae02 3 = .ok (.ifCond .eq 14, 3) := by decide +kernel
theorem dJ0_isLatin1_aae02_6 : decode cJ0_isLatin1_aae02 6 = .ok (.aload_n 0, 1) := by decide +kernel
theorem dJ0_isLatin1_aae02_7 : decode cJ0_isLatin1_aae02 7 = .ok (.getfield 15, 3) := by decide +kernel
theorem dJ0_isLatin1_aae02_10 : decode cJ0_isLatin1_aae02 10 = .ok (.ifCond .ne 7, 3) := by decide +kernel
theorem dJ0_isLatin1_aae02_13 : decode cJ0_isLatin1_aae02 13 = .ok (.iconst 1, 1) := by decide +kernel
theorem dJ0_isLatin1_aae02_14 : decode cJ0_isLatin1_aae02 14 = .ok (.goto 4, 3) := by decide +kernel
theorem dJ0_isLatin1_aae02_17 : decode cJ0_isLatin1_aae02 17 = .ok (.iconst 0, 1) := by decide +kernel
theorem dJ0_isLatin1_aae02_18 : decode cJ0_isLatin1_aae02 18 = .ok (.ireturn, 1) := by decide +kernel
theorem dJ0_checkIndex_df160_0 : decode cJ0_checkIndex_df160 0 = .ok (.iload_n 0, 1) := by decide +kernel
theorem dJ0_checkIndex_df160_1 : decode cJ0_checkIndex_df160 1 = .ok (.iload_n 1, 1) := by decide +kernel
theorem dJ0_checkIndex_df160_2 : decode cJ0_checkIndex_df160 2 = .ok (.getstatic 1053, 3) := by decide +kernel
theorem dJ0_checkIndex_df160_5 : decode cJ0_checkIndex_df160 5 = .ok (.invokestatic 1059, 3) := by decide +kernel
theorem dJ0_checkIndex_df160_8 : decode cJ0_checkIndex_df160 8 = .ok (.pop, 1) := by decide +kernel
theorem dJ0_checkIndex_df160_9 : decode cJ0_checkIndex_df160 9 = .ok (.return_, 1) := by decide +kernel
theorem dJ1_charAt_3b067_0 : decode cJ1_charAt_3b067 0 = .ok (.iload_n 1, 1) := by decide +kernel
theorem dJ1_charAt_3b067_1 : decode cJ1_charAt_3b067 1 = .ok (.aload_n 0, 1) := by decide +kernel
theorem dJ1_charAt_3b067_2 : decode cJ1_charAt_3b067 2 = .ok (.arraylength, 1) := by decide +kernel
theorem dJ1_charAt_3b067_3 : decode cJ1_charAt_3b067 3 = .ok (.invokestatic 9, 3) := by decide +kernel
theorem dJ1_charAt_3b067_6 : decode cJ1_charAt_3b067 6 = .ok (.aload_n 0, 1) := by decide +kernel
theorem dJ1_charAt_3b067_7 : decode cJ1_charAt_3b067 7 = .ok (.iload_n 1, 1) := by decide +kernel
theorem dJ1_charAt_3b067_8 : decode cJ1_charAt_3b067 8 = .ok (.baload, 1) := by decide +kernel
theorem dJ1_charAt_3b067_9 : decode cJ1_charAt_3b067 9 = .ok (.sipush 255, 3) := by decide +kernel
theorem dJ1_charAt_3b067_12 : decode cJ1_charAt_3b067 12 = .ok (.iand, 1) := by decide +kernel
theorem dJ1_charAt_3b067_13 : decode cJ1_charAt_3b067 13 = .ok (.i2c, 1) := by decide +kernel
theorem dJ1_charAt_3b067_14 : decode cJ1_charAt_3b067 14 = .ok (.ireturn, 1) := by decide +kernel
theorem dJ3_checkIndex_8e157_0 : decode cJ3_checkIndex_8e157 0 = .ok (.iload_n 0, 1) := by decide +kernel
theorem dJ3_checkIndex_8e157_1 : decode cJ3_checkIndex_8e157 1 = .ok (.ifCond .lt 8, 3) := by decide +kernel
theorem dJ3_checkIndex_8e157_4 : decode cJ3_checkIndex_8e157 4 = .ok (.iload_n 0, 1) := by decide +kernel
theorem dJ3_checkIndex_8e157_5 : decode cJ3_checkIndex_8e157 5 = .ok (.iload_n 1, 1) := by decide +kernel
theorem dJ3_checkIndex_8e157_6 : decode cJ3_checkIndex_8e157 6 = .ok (.if_icmp .lt 10, 3) := by decide +kernel
theorem dJ3_checkIndex_8e157_9 : decode cJ3_checkIndex_8e157 9 = .ok (.aload_n 2, 1) := by decide +kernel
theorem dJ3_checkIndex_8e157_10 : decode cJ3_checkIndex_8e157 10 = .ok (.iload_n 0, 1) := by decide +kernel
theorem dJ3_checkIndex_8e157_11 : decode cJ3_checkIndex_8e157 11 = .ok (.iload_n 1, 1) := by decide +kernel
theorem dJ3_checkIndex_8e157_12 : decode cJ3_checkIndex_8e157 12 = .ok (.invokestatic 95, 3) := by decide +kernel
theorem dJ3_checkIndex_8e157_15 : decode cJ3_checkIndex_8e157 15 = .ok (.athrow, 1) := by decide +kernel
theorem dJ3_checkIndex_8e157_16 : decode cJ3_checkIndex_8e157 16 = .ok (.iload_n 0, 1) := by decide +kernel
theorem dJ3_checkIndex_8e157_17 : decode cJ3_checkIndex_8e157 17 = .ok (.ireturn, 1) := by decide +kernel
def fJ0_length_8abf5 : MF := fun v as => match as with
  | [.inr (.inr (23, k, 0))] => if k < 7 then some (v, some (.inl (nI (mLenS.getD k 0)))) else none
  | _ => none
def fJ0_charAt_5068e : MF := fun v as => match as with
  | [.inr (.inr (23, k, 0)), .inl i] => if k < 7 ∧ mIn i (mLenS.getD k 0) then some (v, some (.inl ((mBytS.getD k []).getD i.toNatClampNeg 0))) else none
  | _ => none
def rmJ0_length_8abf5 : Room := { frames := 1, cells := 0, slots := 0, locals := 40 }
def rmJ0_charAt_5068e : Room := { frames := 4, cells := 0, slots := 0, locals := 120 }
def rmS0 : Room := { frames := 0, cells := 0, slots := 0, locals := 0 }
def rmS1 : Room := { frames := 1, cells := 0, slots := 0, locals := 22 }
def rmS2 : Room := { frames := 2, cells := 0, slots := 0, locals := 43 }
def sPc (G : MG) (v : MM) (avs : List Value) : Array Value → State → Prop := fun a U => a = avs.toArray ∧ MW G v U
theorem sPc_blind (G : MG) (v : MM) (avs : List Value) : FrameBlind (sPc G v avs) := by
  intro a U g mk h
  obtain ⟨h1, hP, hD, hK, hw, hS⟩ := h
  refine ⟨h1, hP, hD, va_K.moved (u := U) (U := U.calling g mk a) (Vm.Alike.refl U.vm) hK, MWd.any (s := U) (U := U.calling g mk a) (State.WarmedH.refl U) hw #[], ?_⟩
  exact MSt.warm (s := U) (U := U.calling g mk a) (State.WarmedH.refl U) hS
theorem s_head {l : Launch} {y : MethodName} {cc : ByteArray} {nL : Nat} {ret : Option FieldType} {rm : Room} (G : MG) (v : MM) (avs : List Value) {Qc : Array Value → State → Outcome → State → Prop} (hy : plainFor y = true) (hlen : (lg_sl avs).length ≤ nL)
    (body : ∀ (p : Program) (e : Env) (s : State) (m : MethodId) (below : List Frame) (meth : Method) (c : Code), p.tables.exec = Jvm.exec → c.code = cc → c.maxLocals = nL → meth.sig.returnType = ret → meth.locks = false → s.vm.findClass y.cls = some m.cls → MW G v s → ∀ ls, lv_has ls nL (lv_args 0 avs) → W p l e rm s m avs.toArray below meth c s.heap [] 0 0 (MQ below Qc avs.toArray s 0 0 G.2.2.2.1) (F0 m 0 ls [])) : Met l y [Cond.code y cc nL ret] rm (sPc G v avs) Qc 0 0 G.2.2.2.1 := by
  refine va_MetF (cc := cc) (maxL := nL) (ret := ret) hy rfl ?_
  intro p e s m args below meth c s₁ B hml hv
  obtain ⟨rfl, hW⟩ := hv
  rw [lg_entry_eq]
  exact body p e s m below meth c B.exec B.bytes hml B.returns B.notSynchronized (findClass_of_methodNamed B.named) hW _ (lv_entry avs hlen)
section
variable {p : Program} {l : Launch} {e : Env} {R : Room} {s : State} {m : MethodId} {args : Array Value} {below : List Frame} {meth : Method} {c : Code} {Q : State → Prop}
theorem s_pre {G : MG} {v : MM} {avs : List Value} (hW : MW G v s) {H : Heap} {locs : List Loc} (hP : va_P G.2.2.1 vwCl (gW G v) H) (hS : va_S G.2.2.2.1 s.heap H locs) : PreS s H (sPc G v avs) avs := by
  obtain ⟨-, hD, hK, hwd, hS0⟩ := hW
  refine ⟨sPc_blind G v avs, fun U hU hWm => ⟨rfl, by rw [hU]; exact hP, hD, va_K.moved hWm.alike hK, fun w hw => MWd.any hWm hwd #[] w hw, ?_⟩⟩
  rw [hU]
  exact MSt.warm hWm (MSt.kept hS0 (fun q h1 h2 => hS.2.1 q h1 h2))
theorem s_ws {y : MethodName} {bytes : ByteArray} {maxL : Nat} {ret : Option FieldType} (hwd : MWd s) (h : Cond.code y bytes maxL ret ∈ mTs) : ∀ w ∈ [Cond.code y bytes maxL ret], ∀ (a' : Array Value) (U : State), s.WarmedH U.vm → w.before a' U = true := by
  intro w hw a' U hW
  rw [List.mem_singleton.mp hw]
  exact word_at hW (Or.inl rfl) (hwd _ h)
/-- a call of a static method of the JDK's -/
theorem s_callS {nL : Nat} {cc : ByteArray} {own : String} {index : Nat} {y : MethodName} {bytes : ByteArray} {maxL n : Nat} {ret : Option FieldType} {rm : Room} {G : MG} {v v' : MM} {avs : List Value} {r : Option MV} (hx : p.tables.exec = Jvm.exec) (hb : c.code = cc) (hml : c.maxLocals = nL) (hown : s.vm.findClass own = some m.cls) (hW : MW G v s) (hM : Met l y [Cond.code y bytes maxL ret] rm (sPc G v avs) (mQc G v' r) 0 0 G.2.2.2.1) (hy : MYk y bytes maxL ret n) (hst : Cond.static y ∈ mTs) (hlk : Cond.methodLink own index y ∈ mTs) (hrm : rm.cells = 0 ∧ rm.slots = 0 ∧ rm.frames + 1 ≤ R.frames ∧ 8 + (maxL + 11) + rm.locals ≤ R.locals) (hn : avs.length = n) {H : Heap} {locs : List Loc} {ls : Array Slot} {pc : Nat} {rest : List MV} (hP : va_P G.2.2.1 vwCl (gW G v) H) (hS : va_S G.2.2.2.1 s.heap H locs) (hls : ls.size = nL) (hcat : mcats rest ≤ 8) (hdg : decode cc pc = .ok (.invokestatic index, 3))
    (kk : ∀ (H1 : Heap) (locs1 : List Loc), va_P G.2.2.1 vwCl (gW G v') H1 → va_S G.2.2.2.1 s.heap H1 locs1 → W p l e R s m args below meth c H1 locs1 0 0 Q (F0 m (pc + 3) ls ((r.toList ++ rest).map (gV G)))) : W p l e R s m args below meth c H locs 0 0 Q (F0 m pc ls (avs.reverse ++ rest.map (gV G))) := by
  have hts := MWd.any (State.WarmedH.refl s) hW.2.2.2.1 args
  obtain ⟨hy1, hy2, hy3, hy4⟩ := hy
  have hn2 : ∀ sig, parseMethodDescriptor y.desc = some sig → n = sig.parameters.length := fun sig h => by
    rw [h] at hy4
    exact (Option.some.inj hy4).symm
  exact m_call (rest := rest) (va_runS (Ts := []) (own := own) (As := avs) (rest := rest.map (gV G)) (cc := cc) (nL := nL) ⟨hx, hb, hml, hown, fun w hw => absurd hw List.not_mem_nil⟩ hM ⟨⟨hrm.1, hrm.2.1, hrm.2.2.1, hrm.2.2.2, s_ws hW.2.2.2.1 hy1, List.mem_singleton.mpr rfl, hts _ hy1, hts _ hy2, hy3, hn2, hts _ hlk⟩, hts _ hst⟩ (s_pre hW hP hS) rfl hn hls rfl (lv_room (by rw [mcats_eq]; exact hcat)) hdg ⟨Nat.zero_le _, Nat.zero_le _⟩) hS kk
/-- a call of a method of a String constant -/
theorem s_callV {nL : Nat} {cc : ByteArray} {own : String} {index : Nat} {y : MethodName} {bytes : ByteArray} {maxL n k : Nat} {ret : Option FieldType} {rm : Room} {G : MG} {v v' : MM} {avs : List Value} {r : Option MV} (hx : p.tables.exec = Jvm.exec) (hb : c.code = cc) (hml : c.maxLocals = nL) (hown : s.vm.findClass own = some m.cls) (hW : MW G v s) (hk : k < 7) (hM : Met l y [Cond.code y bytes maxL ret] rm (sPc G v (.ref (G.1 (23, k, 0)) :: avs)) (mQc G v' r) 0 0 G.2.2.2.1) (hy : MYk y bytes maxL ret n) (hyc : y.cls = "java/lang/String") (hv : MYv y) (hlk : Cond.methodLink own index y ∈ mTs) (hrm : rm.cells = 0 ∧ rm.slots = 0 ∧ rm.frames + 1 ≤ R.frames ∧ 8 + (maxL + 11) + rm.locals ≤ R.locals) (hn : avs.length = n) {H : Heap} {locs : List Loc} {ls : Array Slot} {pc : Nat} {rest : List MV} (hP : va_P G.2.2.1 vwCl (gW G v) H) (hS : va_S G.2.2.2.1 s.heap H locs) (hls : ls.size = nL) (hcat : mcats rest ≤ 8) (hdg : decode cc pc = .ok (.invokevirtual index, 3))
    (kk : ∀ (H1 : Heap) (locs1 : List Loc), va_P G.2.2.1 vwCl (gW G v') H1 → va_S G.2.2.2.1 s.heap H1 locs1 → W p l e R s m args below meth c H1 locs1 0 0 Q (F0 m (pc + 3) ls ((r.toList ++ rest).map (gV G)))) : W p l e R s m args below meth c H locs 0 0 Q (F0 m pc ls (avs.reverse ++ .ref (G.1 (23, k, 0)) :: rest.map (gV G))) := by
  have hts := MWd.any (State.WarmedH.refl s) hW.2.2.2.1 args
  obtain ⟨hy1, hy2, hy3, hy4⟩ := hy
  have hn2 : ∀ sig, parseMethodDescriptor y.desc = some sig → n = sig.parameters.length := fun sig h => by
    rw [h] at hy4
    exact (Option.some.inj hy4).symm
  have hpre := s_pre (avs := .ref (G.1 (23, k, 0)) :: avs) hW hP hS
  have hcell : ∃ cellB : Cell, H[G.1 (23, k, 0)]? = some cellB ∧ cellB.vm.isStatics = false ∧ s.vm.findClass y.cls = some cellB.cls := by
    rw [hyc]
    exact vk_recv (adK := fun k => G.1 (23, k, 0)) hW.2.2.2.2.1 hk hS
  exact m_call (rest := rest) (va_runV (Ts := []) (own := own) (C := y.cls) (b := G.1 (23, k, 0)) (As := avs) (rest := rest.map (gV G)) (cc := cc) (nL := nL) ⟨hx, hb, hml, hown, fun w hw => absurd hw List.not_mem_nil⟩ hM ⟨⟨hrm.1, hrm.2.1, hrm.2.2.1, hrm.2.2.2, s_ws hW.2.2.2.1 hy1, List.mem_singleton.mpr rfl, hts _ hy1, hts _ hy2, hy3, hn2, hts _ hlk⟩, hts _ hv.1, hts _ hv.2⟩ ⟨hpre.1, hcell, hpre.2⟩ rfl hn hls rfl (lv_room (by rw [mcats_eq]; exact hcat)) hdg ⟨Nat.zero_le _, Nat.zero_le _⟩) hS kk
end
theorem ykJ0_coder : MYk yJ0_coder_7d493 cJ0_coder_7d493 1 (some .byte) 0 := ⟨mTs_of 523 (by decide +kernel) (by decide +kernel), mTs_of 11 (by decide +kernel) (by decide +kernel), ⟨by decide +kernel, by decide +kernel⟩, by decide +kernel⟩
theorem yvJ0_coder : MYv yJ0_coder_7d493 := ⟨mTs_of 521 (by decide +kernel) (by decide +kernel), mTs_of 522 (by decide +kernel) (by decide +kernel)⟩
theorem ykJ0_isLatin1 : MYk yJ0_isLatin1_aae02 cJ0_isLatin1_aae02 1 (some .boolean) 0 := ⟨mTs_of 533 (by decide +kernel) (by decide +kernel), mTs_of 11 (by decide +kernel) (by decide +kernel), ⟨by decide +kernel, by decide +kernel⟩, by decide +kernel⟩
theorem yvJ0_isLatin1 : MYv yJ0_isLatin1_aae02 := ⟨mTs_of 531 (by decide +kernel) (by decide +kernel), mTs_of 532 (by decide +kernel) (by decide +kernel)⟩
theorem ykJ1_charAt : MYk yJ1_charAt_3b067 cJ1_charAt_3b067 2 (some .char) 2 := ⟨mTs_of 536 (by decide +kernel) (by decide +kernel), mTs_of 12 (by decide +kernel) (by decide +kernel), ⟨by decide +kernel, by decide +kernel⟩, by decide +kernel⟩
theorem ykJ0_checkIndex : MYk yJ0_checkIndex_df160 cJ0_checkIndex_df160 2 none 2 := ⟨mTs_of 539 (by decide +kernel) (by decide +kernel), mTs_of 11 (by decide +kernel) (by decide +kernel), ⟨by decide +kernel, by decide +kernel⟩, by decide +kernel⟩
theorem ykJ3_checkIndex : MYk yJ3_checkIndex_8e157 cJ3_checkIndex_8e157 3 (some .int) 3 := ⟨mTs_of 544 (by decide +kernel) (by decide +kernel), mTs_of 13 (by decide +kernel) (by decide +kernel), ⟨by decide +kernel, by decide +kernel⟩, by decide +kernel⟩
theorem s_coder (l : Launch) (G : MG) (v : MM) {k : Nat} (hk : k < 7) : Met l yJ0_coder_7d493 [Cond.code yJ0_coder_7d493 cJ0_coder_7d493 1 (some .byte)] rmS0 (sPc G v [.ref (G.1 (23, k, 0))]) (mQc G v (some (.inl 0))) 0 0 G.2.2.2.1 := by
  refine s_head G v _ (by decide +kernel) (Nat.le_of_ble_eq_true rfl) ?_
  intro p e s m below meth c hx hb hml hr hlocks hown hW ls hl
  have hown : s.vm.findClass RJ0 = some m.cls := hown
  obtain ⟨hP, hD, hK, hwd, hS0⟩ := id hW
  have hts := MWd.any (State.WarmedH.refl s) hwd [Value.ref (G.1 (23, k, 0))].toArray
  have hS : va_S G.2.2.2.1 s.heap s.heap [] := va_S.rf
  refine va_gets (own := RJ0) (ref := "java/lang/String") (index := 38) hx hb hS0.2.2.1 hS hown (hts _ (mTs_of 524 (by decide +kernel) (by decide +kernel))) (fun _ h => h) dJ0_coder_7d493_0 ?_
  refine lv_if_eq (tgt := 13) hx hb dJ0_coder_7d493_3 (by decide) (fun z => absurd z (by decide)) (fun _ => ?_)
  refine lv_aload_n hx hb dJ0_coder_7d493_6 rfl (lv_at hl 0 rfl) ?_
  refine vk_getf (own := RJ0) (ref := "java/lang/String") (index := 15) hx hb (hS0.1.1 k hk).2.1 hS hown (hts _ (mTs_of 971 (by decide +kernel) (by decide +kernel))) (fun _ h => h) dJ0_coder_7d493_7 ?_
  refine lv_goto (tgt := 14) hx hb dJ0_coder_7d493_10 (by decide) ?_
  exact W.zret hx hb hr rfl (fun t ht hWm => ⟨rfl, by rw [ht]; exact hP, hS.F ht⟩) hS.2.2 dJ0_coder_7d493_14
theorem s_isLatin1 (l : Launch) (G : MG) (v : MM) {k : Nat} (hk : k < 7) : Met l yJ0_isLatin1_aae02 [Cond.code yJ0_isLatin1_aae02 cJ0_isLatin1_aae02 1 (some .boolean)] rmS0 (sPc G v [.ref (G.1 (23, k, 0))]) (mQc G v (some (.inl 1))) 0 0 G.2.2.2.1 := by
  refine s_head G v _ (by decide +kernel) (Nat.le_of_ble_eq_true rfl) ?_
  intro p e s m below meth c hx hb hml hr hlocks hown hW ls hl
  have hown : s.vm.findClass RJ0 = some m.cls := hown
  obtain ⟨hP, hD, hK, hwd, hS0⟩ := id hW
  have hts := MWd.any (State.WarmedH.refl s) hwd [Value.ref (G.1 (23, k, 0))].toArray
  have hS : va_S G.2.2.2.1 s.heap s.heap [] := va_S.rf
  refine va_gets (own := RJ0) (ref := "java/lang/String") (index := 38) hx hb hS0.2.2.1 hS hown (hts _ (mTs_of 524 (by decide +kernel) (by decide +kernel))) (fun _ h => h) dJ0_isLatin1_aae02_0 ?_
  refine lv_if_eq (tgt := 17) hx hb dJ0_isLatin1_aae02_3 (by decide) (fun z => absurd z (by decide)) (fun _ => ?_)
  refine lv_aload_n hx hb dJ0_isLatin1_aae02_6 rfl (lv_at hl 0 rfl) ?_
  refine vk_getf (own := RJ0) (ref := "java/lang/String") (index := 15) hx hb (hS0.1.1 k hk).2.1 hS hown (hts _ (mTs_of 971 (by decide +kernel) (by decide +kernel))) (fun _ h => h) dJ0_isLatin1_aae02_7 ?_
  refine lv_if_ne (tgt := 17) hx hb dJ0_isLatin1_aae02_10 (by decide) (fun z => absurd rfl z) (fun _ => ?_)
  refine lv_iconst (v := 1) hx hb dJ0_isLatin1_aae02_13 (by decide) ?_
  refine lv_goto (tgt := 18) hx hb dJ0_isLatin1_aae02_14 (by decide) ?_
  exact W.zret hx hb hr rfl (fun t ht hWm => ⟨rfl, by rw [ht]; exact hP, hS.F ht⟩) hS.2.2 dJ0_isLatin1_aae02_18
theorem s_checkIndex3 (l : Launch) (G : MG) (v : MM) {i n : Int32} {w : Value} (hw : w.category = 1) (h0 : 0 ≤ i) (h1 : i < n) : Met l yJ3_checkIndex_8e157 [Cond.code yJ3_checkIndex_8e157 cJ3_checkIndex_8e157 3 (some .int)] rmS0 (sPc G v [.int i, .int n, w]) (mQc G v (some (.inl i))) 0 0 G.2.2.2.1 := by
  have hlen : (lg_sl [.int i, .int n, w]).length ≤ 3 := by
    cases w <;> first
      | exact Nat.le_of_ble_eq_true rfl
      | cases hw
  refine s_head G v _ (by decide +kernel) hlen ?_
  intro p e s m below meth c hx hb hml hr hlocks hown hW ls hl
  obtain ⟨hP, hD, hK, hwd, hS0⟩ := id hW
  have hS : va_S G.2.2.2.1 s.heap s.heap [] := va_S.rf
  refine lv_iload_n hx hb dJ3_checkIndex_8e157_0 rfl (lv_at hl 0 rfl) ?_
  refine lv_if_lt (tgt := 9) hx hb dJ3_checkIndex_8e157_1 (by decide) (fun z => absurd z (Int32.not_lt.mpr h0)) (fun _ => ?_)
  refine lv_iload_n hx hb dJ3_checkIndex_8e157_4 rfl (lv_at hl 0 rfl) ?_
  refine lv_iload_n hx hb dJ3_checkIndex_8e157_5 rfl (lv_at hl 1 rfl) ?_
  refine lv_icmp_lt (tgt := 16) hx hb dJ3_checkIndex_8e157_6 (by decide) (fun _ => ?_) (fun z => absurd h1 z)
  refine lv_iload_n hx hb dJ3_checkIndex_8e157_16 rfl (lv_at hl 0 rfl) ?_
  exact W.iret hx hb hr (fun t ht hWm => ⟨rfl, by rw [ht]; exact hP, hS.F ht⟩) hS.2.2 dJ3_checkIndex_8e157_17
theorem s_checkIndex (l : Launch) (G : MG) (v : MM) {i n : Int32} (h0 : 0 ≤ i) (h1 : i < n) : Met l yJ0_checkIndex_df160 [Cond.code yJ0_checkIndex_df160 cJ0_checkIndex_df160 2 none] rmS1 (sPc G v [.int i, .int n]) (mQc G v none) 0 0 G.2.2.2.1 := by
  refine s_head G v _ (by decide +kernel) (Nat.le_of_ble_eq_true rfl) ?_
  intro p e s m below meth c hx hb hml hr hlocks hown hW ls hl
  have hown : s.vm.findClass RJ0 = some m.cls := hown
  obtain ⟨hP, hD, hK, hwd, hS0⟩ := id hW
  have hts := MWd.any (State.WarmedH.refl s) hwd [Value.int i, Value.int n].toArray
  have hS : va_S G.2.2.2.1 s.heap s.heap [] := va_S.rf
  have key : ∀ w : Value, w.category = 1 → va_Z "jdk/internal/util/Preconditions" "SIOOBE_FORMATTER" "Ljava/util/function/BiFunction;" w G.2.2.2.1 s s.heap → W p l e rmS1 s m [Value.int i, Value.int n].toArray below meth c s.heap [] 0 0 (MQ below (mQc G v none) [Value.int i, Value.int n].toArray s 0 0 G.2.2.2.1) (F0 m 0 ls []) := by
    intro w hw hZ
    refine lv_iload_n hx hb dJ0_checkIndex_df160_0 rfl (lv_at hl 0 rfl) ?_
    refine lv_iload_n hx hb dJ0_checkIndex_df160_1 rfl (lv_at hl 1 rfl) ?_
    refine va_gets (own := RJ0) (ref := "jdk/internal/util/Preconditions") (index := 1053) hx hb hZ hS hown (hts _ (mTs_of 540 (by decide +kernel) (by decide +kernel))) (fun _ h => h) dJ0_checkIndex_df160_2 ?_
    refine s_callS (own := RJ0) (index := 1059) (avs := [.int i, .int n, w]) (rest := []) hx hb hml hown hW (s_checkIndex3 l G v hw h0 h1) ykJ3_checkIndex (mTs_of 543 (by decide +kernel) (by decide +kernel)) (mTs_of 542 (by decide +kernel) (by decide +kernel)) ⟨rfl, rfl, by decide, by decide⟩ rfl hP hS hl.1 (by decide) dJ0_checkIndex_df160_5 (fun H1 locs1 hP1 hS1 => ?_)
    refine lv_pop hx hb dJ0_checkIndex_df160_8 rfl ?_
    exact W.vret hx hb hr (fun t ht hWm => ⟨rfl, by rw [ht]; exact hP1, hS1.F ht⟩) hS1.2.2 dJ0_checkIndex_df160_9
  rcases hS0.2.2.2 with hZ | ⟨t, hZ⟩
  · exact key _ rfl hZ
  · exact key _ rfl hZ
theorem mBytS_ok : ∀ k, k < 7 → (mBytS.getD k []).length = mLenS.getD k 0 ∧ mLenS.getD k 0 < 100 ∧ ∀ j, j < mLenS.getD k 0 → ((((mBytS.getD k []).getD j 0) &&& 255).toUInt32 % 65536).toInt32 = (mBytS.getD k []).getD j 0 := by decide +kernel
theorem mBytS_char : ∀ k, k < 7 → ∀ j, j < mLenS.getD k 0 → narrow .char (.int ((mBytS.getD k []).getD j 0)) = .int ((mBytS.getD k []).getD j 0) := by decide +kernel
theorem s_charAtL (l : Launch) (G : MG) (v : MM) {k : Nat} (hk : k < 7) {i : Int32} (hi : mIn i (mLenS.getD k 0)) : Met l yJ1_charAt_3b067 [Cond.code yJ1_charAt_3b067 cJ1_charAt_3b067 2 (some .char)] rmS2 (sPc G v [.ref (G.2.2.2.2 k), .int i]) (mQc G v (some (.inl ((mBytS.getD k []).getD i.toNatClampNeg 0)))) 0 0 G.2.2.2.1 := by
  refine s_head G v _ (by decide +kernel) (Nat.le_of_ble_eq_true rfl) ?_
  intro p e s m below meth c hx hb hml hr hlocks hown hW ls hl
  have hown : s.vm.findClass RJ1 = some m.cls := hown
  obtain ⟨hP, hD, hK, hwd, hS0⟩ := id hW
  have hS : va_S G.2.2.2.1 s.heap s.heap [] := va_S.rf
  obtain ⟨hb1, hb2, hb3⟩ := mBytS_ok k hk
  have hlt : i < nI (mLenS.getD k 0) := by
    rw [Int32.lt_iff_toInt_lt, nI_toInt (by omega)]
    have h1 := hi.1
    have h2 := hi.2
    rw [Int32.le_iff_toInt_le] at h1
    have h3 : i.toNatClampNeg = i.toInt.toNat := rfl
    have h4 : (0 : Int32).toInt = 0 := rfl
    omega
  refine lv_iload_n hx hb dJ1_charAt_3b067_0 rfl (lv_at hl 1 rfl) ?_
  refine lv_aload_n hx hb dJ1_charAt_3b067_1 rfl (lv_at hl 0 rfl) ?_
  refine va_tlen hx hb (hS0.1.1 k hk).2.2.2 hS rfl dJ1_charAt_3b067_2 ?_
  refine s_callS (own := RJ1) (index := 9) (avs := [.int i, .int (nI (mLenS.getD k 0))]) (rest := []) hx hb hml hown hW (s_checkIndex l G v hi.1 hlt) ykJ0_checkIndex (mTs_of 538 (by decide +kernel) (by decide +kernel)) (mTs_of 537 (by decide +kernel) (by decide +kernel)) ⟨rfl, rfl, by decide, by decide⟩ rfl hP hS hl.1 (by decide) dJ1_charAt_3b067_3 (fun H1 locs1 hP1 hS1 => ?_)
  refine lv_aload_n hx hb dJ1_charAt_3b067_6 rfl (lv_at hl 0 rfl) ?_
  refine lv_iload_n hx hb dJ1_charAt_3b067_7 rfl (lv_at hl 1 rfl) ?_
  refine va_tb hx hb (hS0.1.1 k hk).2.2.2 hS1 (mIn_vp hi) rfl dJ1_charAt_3b067_8 ?_
  refine lv_sipush (v := 255) hx hb dJ1_charAt_3b067_9 (by decide) ?_
  refine lv_iand hx hb dJ1_charAt_3b067_12 ?_
  refine lv_i2c hx hb dJ1_charAt_3b067_13 (hb3 _ hi.2) ?_
  exact W.zret hx hb hr (mBytS_char k hk _ hi.2) (fun t ht hWm => ⟨rfl, by rw [ht]; exact hP1, hS1.F ht⟩) hS1.2.2 dJ1_charAt_3b067_14
theorem fJ0_len_inv {v : MM} {as : List MV} {v' : MM} {r : Option MV} (h : fJ0_length_8abf5 v as = some (v', r)) : ∃ k, k < 7 ∧ as = [.inr (.inr (23, k, 0))] ∧ v' = v ∧ r = some (.inl (nI (mLenS.getD k 0))) := by
  unfold fJ0_length_8abf5 at h
  split at h
  · rename_i k
    split at h
    · rename_i hk
      cases h
      exact ⟨k, hk, rfl, rfl, rfl⟩
    · cases h
  · cases h
theorem fJ0_char_inv {v : MM} {as : List MV} {v' : MM} {r : Option MV} (h : fJ0_charAt_5068e v as = some (v', r)) : ∃ k i, k < 7 ∧ mIn i (mLenS.getD k 0) ∧ as = [.inr (.inr (23, k, 0)), .inl i] ∧ v' = v ∧ r = some (.inl ((mBytS.getD k []).getD i.toNatClampNeg 0)) := by
  unfold fJ0_charAt_5068e at h
  split at h
  · rename_i k i
    split at h
    · rename_i hk
      cases h
      exact ⟨k, i, hk.1, hk.2, rfl, rfl, rfl⟩
    · cases h
  · cases h
theorem ctJ0_length_8abf5 : MCt yJ0_length_8abf5 cJ0_length_8abf5 1 (some .int) rmJ0_length_8abf5 fJ0_length_8abf5 := by
  intro l G v as v' r hok h
  obtain ⟨k, hk, rfl, rfl, rfl⟩ := fJ0_len_inv h
  refine ⟨fun w hw => by cases hw; trivial, ?_⟩
  refine s_head G v' [.ref (G.1 (23, k, 0))] (by decide +kernel) (Nat.le_of_ble_eq_true rfl) ?_
  intro p e s m below meth c hx hb hml hr hlocks hown hW ls hl
  have hown : s.vm.findClass RJ0 = some m.cls := hown
  obtain ⟨hP, hD, hK, hwd, hS0⟩ := id hW
  have hts := MWd.any (State.WarmedH.refl s) hwd [Value.ref (G.1 (23, k, 0))].toArray
  have hS : va_S G.2.2.2.1 s.heap s.heap [] := va_S.rf
  refine lv_aload_n hx hb dJ0_length_8abf5_0 rfl (lv_at hl 0 rfl) ?_
  refine vk_getf (own := RJ0) (ref := "java/lang/String") (index := 9) hx hb (hS0.1.1 k hk).2.2.1 hS hown (hts _ (mTs_of 970 (by decide +kernel) (by decide +kernel))) (fun _ h => h) dJ0_length_8abf5_1 ?_
  refine va_tlen hx hb (hS0.1.1 k hk).2.2.2 hS rfl dJ0_length_8abf5_4 ?_
  refine lv_aload_n hx hb dJ0_length_8abf5_5 rfl (lv_at hl 0 rfl) ?_
  refine s_callV (own := RJ0) (index := 335) (avs := []) (rest := [.inl (nI (mLenS.getD k 0))]) hx hb hml hown hW hk (s_coder l G v' hk) ykJ0_coder rfl yvJ0_coder (mTs_of 520 (by decide +kernel) (by decide +kernel)) ⟨rfl, rfl, by decide, by decide⟩ rfl hP hS hl.1 (Nat.le_of_ble_eq_true rfl) dJ0_length_8abf5_6 (fun H1 locs1 hP1 hS1 => ?_)
  refine lv_ishr hx hb dJ0_length_8abf5_9 ?_
  refine W.iret hx hb hr (fun t ht hWm => ⟨?_, by rw [ht]; exact hP1, hS1.F ht⟩) hS1.2.2 dJ0_length_8abf5_10
  rw [show nI (mLenS.getD k 0) >>> ((0 : Int32) &&& 31) = nI (mLenS.getD k 0) from sb_shr0 _]
  rfl
theorem ctJ0_charAt_5068e : MCt yJ0_charAt_5068e cJ0_charAt_5068e 2 (some .char) rmJ0_charAt_5068e fJ0_charAt_5068e := by
  intro l G v as v' r hok h
  obtain ⟨k, i, hk, hi, rfl, rfl, rfl⟩ := fJ0_char_inv h
  refine ⟨fun w hw => by cases hw; trivial, ?_⟩
  refine s_head G v' [.ref (G.1 (23, k, 0)), .int i] (by decide +kernel) (Nat.le_of_ble_eq_true rfl) ?_
  intro p e s m below meth c hx hb hml hr hlocks hown hW ls hl
  have hown : s.vm.findClass RJ0 = some m.cls := hown
  obtain ⟨hP, hD, hK, hwd, hS0⟩ := id hW
  have hts := MWd.any (State.WarmedH.refl s) hwd [Value.ref (G.1 (23, k, 0)), Value.int i].toArray
  have hS : va_S G.2.2.2.1 s.heap s.heap [] := va_S.rf
  refine lv_aload_n hx hb dJ0_charAt_5068e_0 rfl (lv_at hl 0 rfl) ?_
  refine s_callV (own := RJ0) (index := 492) (avs := []) (rest := []) hx hb hml hown hW hk (s_isLatin1 l G v' hk) ykJ0_isLatin1 rfl yvJ0_isLatin1 (mTs_of 530 (by decide +kernel) (by decide +kernel)) ⟨rfl, rfl, by decide, by decide⟩ rfl hP hS hl.1 (by decide) dJ0_charAt_5068e_1 (fun H1 locs1 hP1 hS1 => ?_)
  refine lv_if_eq (tgt := 16) hx hb dJ0_charAt_5068e_4 (by decide) (fun z => absurd z (by decide)) (fun _ => ?_)
  refine lv_aload_n hx hb dJ0_charAt_5068e_7 rfl (lv_at hl 0 rfl) ?_
  refine vk_getf (own := RJ0) (ref := "java/lang/String") (index := 9) hx hb (hS0.1.1 k hk).2.2.1 hS1 hown (hts _ (mTs_of 970 (by decide +kernel) (by decide +kernel))) (fun _ h => h) dJ0_charAt_5068e_8 ?_
  refine lv_iload_n hx hb dJ0_charAt_5068e_11 rfl (lv_at hl 1 rfl) ?_
  refine s_callS (own := RJ0) (index := 495) (avs := [.ref (G.2.2.2.2 k), .int i]) (rest := []) hx hb hml hown hW (s_charAtL l G v' hk hi) ykJ1_charAt (mTs_of 535 (by decide +kernel) (by decide +kernel)) (mTs_of 534 (by decide +kernel) (by decide +kernel)) ⟨rfl, rfl, by decide, by decide⟩ rfl hP1 hS1 hl.1 (by decide) dJ0_charAt_5068e_12 (fun H2 locs2 hP2 hS2 => ?_)
  exact W.zret hx hb hr (mBytS_char k hk _ hi.2) (fun t ht hWm => ⟨rfl, by rw [ht]; exact hP2, hS2.F ht⟩) hS2.2.2 dJ0_charAt_5068e_15
