-- SOUNDNESS of the making machine
def AOs (U : State) : Prop := ∀ c ∈ [0, 1, 2, 4, 5], va_AO (ownN c) U
theorem AOs.moved {u U : State} (hvm : u.vm.Alike U.vm) (h : AOs u) : AOs U := fun c hc => va_AO.moved hvm (h c hc)
def aP (dA : Nat → ClassId) (D : va_G) (A : Nat → Prop) (as : Nat → Nat) (hp : AH) (i : Nat) : Array Value → State → Prop := fun a U => a = [Value.ref (as i)].toArray ∧ va_P D vwCl (aW dA as hp) U.heap ∧ va_D A (aW dA as hp) ∧ va_K D vwCl (mTys dA) U ∧ MWd U ∧ AOs U ∧ ∀ q, U.heap.size ≤ q → A q
def aQ (dA : Nat → ClassId) (D : va_G) (A : Nat → Prop) (n : Nat) (as : Nat → Nat) (hp' : AH) : State → Outcome → State → Prop := fun st o t => o = .returned none ∧ (∃ as' : Nat → Nat, (∀ j, j < n → as' j = as j) ∧ va_P D vwCl (aW dA as' hp') t.heap ∧ va_D A (aW dA as' hp') ∧ hOk hp' ∧ n ≤ hp'.length) ∧ va_F A st t
theorem aP_blind (dA : Nat → ClassId) (D : va_G) (A : Nat → Prop) (as : Nat → Nat) (hp : AH) (i : Nat) : FrameBlind (aP dA D A as hp i) := by
  intro a U g mk h
  obtain ⟨h1, hP, hD, hK, hw, hO, hA⟩ := h
  exact ⟨h1, hP, hD, va_K.moved (u := U) (U := U.calling g mk a) (Vm.Alike.refl U.vm) hK, MWd.any (s := U) (U := U.calling g mk a) (State.WarmedH.refl U) hw #[], AOs.moved (u := U) (U := U.calling g mk a) (Vm.Alike.refl U.vm) hO, hA⟩
/-- a constructor does to the cells what f says -/
def ACt (y : MethodName) (bytes : ByteArray) (maxL : Nat) (rm : Room) (f : AF) : Prop := ∀ (l : Launch) (dA : Nat → ClassId) (D : va_G) (A : Nat → Prop) (as : Nat → Nat) (hp hp' : AH) (i : Nat), hOk hp → i < hp.length → f hp i = some hp' → Met l y [Cond.code y bytes maxL none] rm (aP dA D A as hp i) (fun _ st o t => aQ dA D A hp.length as hp' st o t) rm.cells rm.slots A
def ACall (R : Room) (o : Nat) (F : Nat → AF) (cost : Nat → Nat × Nat) (m : MI) : Prop := ∃ (y : MethodName) (bytes : ByteArray) (maxL : Nat) (rm : Room), ACt y bytes maxL rm (F m.2.2.1) ∧ MYk y bytes maxL none 0 ∧ (rm.cells = (cost m.2.2.1).1 ∧ rm.slots = (cost m.2.2.1).2) ∧ (rm.frames + 1 ≤ R.frames ∧ 8 + (maxL + 11) + rm.locals ≤ R.locals) ∧ y.name = "<init>" ∧ Cond.instanceMethod y ∈ mTs ∧ MLk (ownN o) m.2.1 y
def allA (R : Room) (o : Nat) (F : Nat → AF) (cost : Nat → Nat × Nat) : List MI → Prop
  | [] => True
  | m :: l => ACall R o F cost m ∧ allA R o F cost l
theorem allA_at {R : Room} {o : Nat} {F : Nat → AF} {cost : Nat → Nat × Nat} : ∀ {l : List MI}, allA R o F cost l → ∀ m ∈ l, ACall R o F cost m
  | [], _, m, h => absurd h List.not_mem_nil
  | a :: l, h, m, hm => by
    rcases List.mem_cons.mp hm with rfl | hm
    · exact h.1
    · exact allA_at h.2 m hm
def isMk (m : MI) : Bool := Nat.beq m.1 63
theorem no_A {x : AS × AL} {P : Prop} (h : (none : AR) = some x) : P := by cases h
theorem vk1 {n : Nat} {st : List AV} {w : AV} (h : ∀ u ∈ w :: st, vOk n u) : vOk n w := h w List.mem_cons_self
theorem vkT {n : Nat} {st : List AV} {w : AV} (h : ∀ u ∈ w :: st, vOk n u) : ∀ u ∈ st, vOk n u := fun u hu => h u (List.mem_cons_of_mem _ hu)
theorem aSt_cats (as : Nat → Nat) (st : List AV) : ((st.map (aV as)).map fun v => v.category).sum = acats st := by
  rw [List.map_map]
  unfold acats
  congr 1
  exact List.map_congr_left (fun w _ => aV_cat as w)
theorem hobj {t k2 : Nat} (h : mTy t = .object (ownN k2)) : mAt.contains t = true := by
  unfold mTy at h
  split at h
  all_goals first | rfl | cases h
theorem mTys_at {c : Nat} (h : mAt.contains c = true) (dA : Nat → ClassId) : ∃ t0 : Nat, (mTys dA)[t0]? = some (dA c, mTy c) := by
  obtain ⟨t0, ht⟩ := List.getElem?_of_mem (List.contains_iff_mem.mp h)
  exact ⟨t0, by rw [mTys, List.getElem?_map, ht]; rfl⟩
theorem va_K.last {D : va_G} {cl : List vw_C} {tys : List (ClassId × FieldType)} {cA : ClassId} {ty : FieldType} {U : State} (h : va_K D cl (tys ++ [(cA, ty)]) U) : va_RA U cA ty := (h.2 tys.length (cA, ty) (by rw [List.getElem?_append_right (Nat.le_refl _), Nat.sub_self]; rfl)).2
section
variable {p : Program} {l : Launch} {e : Env} {R : Room} {s : State} {m : MethodId} {args : Array Value} {below : List Frame} {meth : Method} {c : Code} {Q : State → Prop}
theorem a_call {H : Heap} {locs : List Loc} {dA : Nat → ClassId} {D : va_G} {A : Nat → Prop} {N : Nat} {as : Nat → Nat} {hp' : AH} {pc mc ms cells slots : Nat} {ls : Array Slot} {st0 rest : List Value} (hr : va_Run p l e R s m args below meth c H locs cells slots mc ms (F0 m pc ls st0) rest (aQ dA D A N as hp') A) (hS : va_S A s.heap H locs)
    (kk : ∀ (as' : Nat → Nat) (H1 : Heap) (locs1 : List Loc), (∀ j, j < N → as' j = as j) → va_P D vwCl (aW dA as' hp') H1 → va_D A (aW dA as' hp') → hOk hp' → N ≤ hp'.length → va_S A s.heap H1 locs1 → W p l e R s m args below meth c H1 locs1 (cells + mc) (slots + ms) Q (F0 m (pc + 3) ls rest)) : W p l e R s m args below meth c H locs cells slots Q (F0 m pc ls st0) := by
  intro T hT X
  obtain ⟨v, st₀, t, T', L, h0, X', hL, e1, e2, ⟨hv, ⟨as', ha, hP, hD, ho1, ho2⟩, hz, hk⟩, st⟩ := hr T hT X
  rw [h0] at hz hk
  have hv : v = none := by
    have := hv
    simpa using this
  subst hv
  obtain ⟨t2, a1, b1⟩ := kk as' T'.heap (locs ++ L) ha (by rw [e1]; exact hP) hD ho1 ho2 ⟨Nat.le_trans hS.1 (by rw [e1]; exact hz), fun q h1 h2 => by
      rw [e1, hk q (Nat.lt_of_lt_of_le h1 hS.1) h2]
      exact hS.2.1 q h1 h2, fun q hq => by
      rcases List.mem_append.mp hq with h | h
      · exact hS.2.2 q h
      · exact hL q h⟩ T' rfl X'
  exact ⟨t2, st t2 a1, b1⟩
set_option maxHeartbeats 8000000 in
set_option maxRecDepth 100000 in
theorem a_sound {o nL : Nat} {cc : ByteArray} {dA : Nat → ClassId} {D : va_G} {A : Nat → Prop} (hx : p.tables.exec = Jvm.exec) (hb : c.code = cc) (hml : c.maxLocals = nL) (hown : s.vm.findClass (ownN o) = some m.cls) (hini : o < 8 → meth.name = "<init>") (hwd : MWd s) (hK : va_K D vwCl (mTys dA) s) (hO : AOs s) (hA : ∀ q, s.heap.size ≤ q → A q) (hR : 1 ≤ R.frames ∧ 20 ≤ R.locals) (F : Nat → AF) (cost : Nat → Nat × Nat) (cd : List MI) (hck : aCk o nL cc cd = true) (hcall : allA R o F cost (cd.filter isMk)) (n0 : Nat) (as0 : Nat → Nat) (res : AS × AL)
    (hret : ∀ (i op a b d : Nat) (x : Int32) (y : Int64) (tb : List (Int32 × Nat)) (as : Nat → Nat) (H : Heap) (locs : List Loc) (ls : Array Slot), nth cd i = some (op, a, b, d, x, y, tb) → op = 53 ∨ op = 65 → (op = 53 → decode cc (apcs cd i) = .ok (.return_, 1)) → (∀ j, j < n0 → as j = as0 j) → hOk res.1.1 → n0 ≤ res.1.1.length → (∀ q ∈ res.2, vOk res.1.1.length q.2) → va_P D vwCl (aW dA as res.1.1) H → va_D A (aW dA as res.1.1) → va_S A s.heap H locs → lv_has ls nL (aLv as res.2) → W p l e R s m args below meth c H locs res.1.2.1 res.1.2.2 Q (F0 m (apcs cd i) ls [])) :
    ∀ (n i : Nat) (loc : AL) (st : List AV) (v : AS), arun F cost (R.cells, R.slots) cd n i loc st v = some res → ∀ (as : Nat → Nat), (∀ j, j < n0 → as j = as0 j) → n0 ≤ v.1.length → hOk v.1 → (∀ q ∈ loc, vOk v.1.length q.2) → (∀ w ∈ st, vOk v.1.length w) → ∀ (H : Heap) (locs : List Loc) (ls : Array Slot), va_P D vwCl (aW dA as v.1) H → va_D A (aW dA as v.1) → va_S A s.heap H locs → lv_has ls nL (aLv as loc) → W p l e R s m args below meth c H locs v.2.1 v.2.2 Q (F0 m (apcs cd i) ls (st.map (aV as))) := by
  have hts := MWd.any (State.WarmedH.refl s) hwd args
  intro n
  induction n with
  | zero =>
    intro i loc st v h
    exact no_A h
  | succ n ih =>
    intro i loc st v h as hag hn0 hok1 hlo hst H locs ls hP hD hS hl
    obtain ⟨hp, cs, ss⟩ := v
    have h : (match nth cd i with
      | none => none
      | some m => atI F cost (R.cells, R.slots) (arun F cost (R.cells, R.slots) cd n) i loc st (hp, (cs, ss)) m) = some res := h
    cases hi : nth cd i with
    | none =>
      rw [hi] at h
      cases h
    | some mi =>
      rw [hi] at h
      obtain ⟨op, a, b, d, x, y, tb⟩ := mi
      obtain ⟨hd, hok, hop⟩ := aCk_at hck hi
      have hpc := apcs_succ hi
      have hls : ls.size = nL := hl.1
      have hop : op ∈ opA := hop
      have hd : op = 65 ∨ decode cc (apcs cd i) = .ok (toA cd i (op, a, b, d, x, y, tb), alen (op, a, b, d, x, y, tb)) := hd
      -- a cell is made
      have mk2 : ∀ (C : AC) (q : Nat) (H1 : Heap) (st1 : List AV) (cs' ss' : Nat), arun F cost (R.cells, R.slots) cd n (i + 1) loc (.inr (.inr (some hp.length)) :: st1) (hp ++ [C], (cs', ss')) = some res → va_P D vwCl (aW dA as hp ++ [(q, aE dA as C)]) H1 → va_D A (aW dA as hp ++ [(q, aE dA as C)]) → va_S A s.heap H1 locs → cOk hp.length C → (∀ w ∈ st1, vOk hp.length w) → W p l e R s m args below meth c H1 locs cs' ss' Q (F0 m (apcs cd (i + 1)) ls (.ref q :: st1.map (aV as))) := by
        intro C q H1 st1 cs' ss' hrun hP1 hD1 hS1 hC hst1
        obtain ⟨as', has'⟩ : ∃ as' : Nat → Nat, as' = fun j => if j = hp.length then q else as j := ⟨_, rfl⟩
        have eq1 : ∀ j, j < hp.length → as' j = as j := fun j hj => by
          rw [has']
          exact if_neg (by omega)
        have eq2 : as' hp.length = q := by
          rw [has']
          exact if_pos rfl
        have ew : aW dA as hp ++ [(q, aE dA as C)] = aW dA as' (hp ++ [C]) := by
          rw [aW_app, aW_cg hok1 eq1, eq2, aE_cg eq1 hC]
        rw [ew] at hP1 hD1
        have hlen : (hp ++ [C]).length = hp.length + 1 := by rw [List.length_append]; rfl
        have key := ih (i + 1) loc (.inr (.inr (some hp.length)) :: st1) (hp ++ [C], (cs', ss')) hrun as' (fun j hj => (eq1 j (Nat.lt_of_lt_of_le hj hn0)).trans (hag j hj)) (by show n0 ≤ (hp ++ [C]).length; rw [hlen]; exact Nat.le_succ_of_le hn0) (hok1.app (hC.up (Nat.le_succ _))) (fun q hq => by show vOk (hp ++ [C]).length q.2; rw [hlen]; exact (hlo q hq).up (Nat.le_succ _)) (forall2 (by show hp.length < (hp ++ [C]).length; rw [hlen]; exact Nat.lt_succ_self _) (fun w hw => by show vOk (hp ++ [C]).length w; rw [hlen]; exact (hst1 w hw).up (Nat.le_succ _))) H1 locs ls hP1 hD1 hS1 (by rw [aLv_cg eq1 hlo]; exact hl)
        have est : List.map (aV as') (.inr (.inr (some hp.length)) :: st1) = .ref q :: st1.map (aV as) := by
          show Value.ref (as' hp.length) :: st1.map (aV as') = _
          rw [eq2, aSt_cg eq1 hst1]
        rw [est] at key
        exact key
      simp only [opA, List.mem_cons, List.not_mem_nil, or_false] at hop
      rcases hop with rfl | rfl | rfl | rfl | rfl | rfl | rfl | rfl | rfl | rfl | rfl | rfl | rfl | rfl | rfl | rfl | rfl | rfl | rfl | rfl | rfl | rfl | rfl | rfl
      · -- 0
        have hd := hd.resolve_left (by decide)

        have hpc : apcs cd (i + 1) = apcs cd i + 1 := hpc
        refine lv_iconst (n := x.toInt) (v := x) hx hb hd (Int32.ofInt_toInt x) ?_
        rw [← hpc]
        exact ih (i + 1) loc (.inl x :: st) _ h as hag hn0 hok1 hlo (forall2 trivial hst) H locs ls hP hD hS hl
      · -- 1
        have hd := hd.resolve_left (by decide)

        have hpc : apcs cd (i + 1) = apcs cd i + 2 := hpc
        refine lv_bipush (n := x.toInt) (v := x) hx hb hd (of_decide_eq_true hok) ?_
        rw [← hpc]
        exact ih (i + 1) loc (.inl x :: st) _ h as hag hn0 hok1 hlo (forall2 trivial hst) H locs ls hP hD hS hl
      · -- 2
        have hd := hd.resolve_left (by decide)

        have hpc : apcs cd (i + 1) = apcs cd i + 3 := hpc
        refine lv_sipush (n := x.toInt) (v := x) hx hb hd (of_decide_eq_true hok) ?_
        rw [← hpc]
        exact ih (i + 1) loc (.inl x :: st) _ h as hag hn0 hok1 hlo (forall2 trivial hst) H locs ls hP hD hS hl
      · -- 6
        have hd := hd.resolve_left (by decide)

        have hok : (Nat.beq d 0 && Nat.blt a 4) = true := hok
        rw [Bool.and_eq_true] at hok
        have hd0 : d = 0 := Nat.eq_of_beq_eq_true hok.1
        have ha : a < 4 := Nat.blt_eq.mp hok.2
        subst hd0
        have hpc : apcs cd (i + 1) = apcs cd i + 1 := hpc
        have hd : decode cc (apcs cd i) = .ok (.iload_n (fin4 a), 1) := hd
        have h : (match lkA loc a with
          | some (.inl w) => arun F cost (R.cells, R.slots) cd n (i + 1) loc (.inl w :: st) (hp, (cs, ss))
          | _ => none) = some res := h
        cases hk : lkA loc a with
        | none =>
          rw [hk] at h
          cases h
        | some u =>
          rw [hk] at h
          obtain ⟨k, hk2⟩ := aLv_at (as := as) hk
          have hou := hlo _ (lkA_mem hk)
          rcases u with u | u | _ | u
          any_goals exact no_A h
          refine lv_iload_n hx hb hd (fin4_val ha) (lv_at hl k hk2) ?_
          rw [← hpc]
          exact ih (i + 1) loc _ _ h as hag hn0 hok1 hlo (forall2 hou hst) H locs ls hP hD hS hl
      · -- 8
        have hd := hd.resolve_left (by decide)

        have hok : (Nat.beq d 0 && Nat.blt a 4) = true := hok
        rw [Bool.and_eq_true] at hok
        have hd0 : d = 0 := Nat.eq_of_beq_eq_true hok.1
        have ha : a < 4 := Nat.blt_eq.mp hok.2
        subst hd0
        have hpc : apcs cd (i + 1) = apcs cd i + 1 := hpc
        have hd : decode cc (apcs cd i) = .ok (.aload_n (fin4 a), 1) := hd
        have h : (match lkA loc a with
          | some (.inr (.inr (some w))) => arun F cost (R.cells, R.slots) cd n (i + 1) loc (.inr (.inr (some w)) :: st) (hp, (cs, ss))
          | _ => none) = some res := h
        cases hk : lkA loc a with
        | none =>
          rw [hk] at h
          cases h
        | some u =>
          rw [hk] at h
          obtain ⟨k, hk2⟩ := aLv_at (as := as) hk
          have hou := hlo _ (lkA_mem hk)
          rcases u with u | u | _ | u
          any_goals exact no_A h
          refine lv_aload_n hx hb hd (fin4_val ha) (lv_at hl k hk2) ?_
          rw [← hpc]
          exact ih (i + 1) loc _ _ h as hag hn0 hok1 hlo (forall2 hou hst) H locs ls hP hD hS hl
      · -- 9
        have hd := hd.resolve_left (by decide)

        have hok : (Nat.blt a nL && (Nat.beq d 0 && Nat.blt a 4)) = true := hok
        simp only [Bool.and_eq_true] at hok
        have han : a < nL := Nat.blt_eq.mp hok.1
        have hd0 : d = 0 := Nat.eq_of_beq_eq_true hok.2.1
        have ha : a < 4 := Nat.blt_eq.mp hok.2.2
        subst hd0
        have hpc : apcs cd (i + 1) = apcs cd i + 1 := hpc
        have hd : decode cc (apcs cd i) = .ok (.istore_n (fin4 a), 1) := hd
        rcases st with _ | ⟨u | u | _ | u, st⟩
        any_goals exact no_A h
        have h : arun F cost (R.cells, R.slots) cd n (i + 1) (stA1 loc a (.inl u)) st (hp, (cs, ss)) = some res := h
        refine lv_istore_n hx hb hd (fin4_val ha) hl han (aLv_sto (w := .inl u)) (fun ls' hl' => ?_)
        rw [← hpc]
        exact ih (i + 1) _ st _ h as hag hn0 hok1 (stA1_ok hlo (vk1 hst)) (vkT hst) H locs ls' hP hD hS hl'
      · -- 10
        have hd := hd.resolve_left (by decide)

        have hok : (Nat.blt a nL && (Nat.beq d 0 && Nat.blt a 4)) = true := hok
        simp only [Bool.and_eq_true] at hok
        have han : a < nL := Nat.blt_eq.mp hok.1
        have hd0 : d = 0 := Nat.eq_of_beq_eq_true hok.2.1
        have ha : a < 4 := Nat.blt_eq.mp hok.2.2
        subst hd0
        have hpc : apcs cd (i + 1) = apcs cd i + 1 := hpc
        have hd : decode cc (apcs cd i) = .ok (.astore_n (fin4 a), 1) := hd
        rcases st with _ | ⟨u | u | _ | u, st⟩
        any_goals exact no_A h
        have h : arun F cost (R.cells, R.slots) cd n (i + 1) (stA1 loc a (.inr (.inr (some u)))) st (hp, (cs, ss)) = some res := h
        refine lv_astore_n hx hb hd (fin4_val ha) hl han (aLv_sto (w := .inr (.inr (some u)))) (fun ls' hl' => ?_)
        rw [← hpc]
        exact ih (i + 1) _ st _ h as hag hn0 hok1 (stA1_ok hlo (vk1 hst)) (vkT hst) H locs ls' hP hD hS hl'
      · -- 11
        have hd := hd.resolve_left (by decide)

        have hpc : apcs cd (i + 1) = apcs cd i + 3 := hpc
        have h : (match lkA loc a with
          | some (.inl w) => arun F cost (R.cells, R.slots) cd n (i + 1) (stA1 loc a (.inl (w + x))) st (hp, (cs, ss))
          | _ => none) = some res := h
        cases hk : lkA loc a with
        | none =>
          rw [hk] at h
          cases h
        | some u =>
          rw [hk] at h
          obtain ⟨k, hk2⟩ := aLv_at (as := as) hk
          rcases u with u | u | _ | u
          any_goals exact no_A h
          have han : a < nL := Nat.blt_eq.mp hok
          refine lv_iinc (k := k) (x := u) (v := u + x) hx hb hd hl hk2 (by rw [Int32.ofInt_toInt]) han (aLv_sto (w := .inl (u + x))) (fun ls' hl' => ?_)
          rw [← hpc]
          exact ih (i + 1) _ st _ h as hag hn0 hok1 (stA1_ok hlo trivial) hst H locs ls' hP hD hS hl'
      · -- 12
        have hd := hd.resolve_left (by decide)

        have hpc : apcs cd (i + 1) = apcs cd i + 1 := hpc
        rcases st with _ | ⟨q | q | _ | q, _ | ⟨u | u | _ | u, st⟩⟩
        any_goals exact no_A h
        have h : arun F cost (R.cells, R.slots) cd n (i + 1) loc (.inl (ibin b u q) :: st) (hp, (cs, ss)) = some res := h
        have go := ih (i + 1) loc (.inl (ibin b u q) :: st) _ h as hag hn0 hok1 hlo (forall2 trivial (vkT (vkT hst))) H locs ls hP hD hS hl
        rw [hpc] at go
        have hok : (Nat.beq b 0 || Nat.beq b 2) = true := hok
        rw [Bool.or_eq_true] at hok
        rcases hok with e0 | e0
        · have e0 := Nat.eq_of_beq_eq_true e0
          subst e0
          exact lv_iadd hx hb hd go
        · have e0 := Nat.eq_of_beq_eq_true e0
          subst e0
          exact lv_imul hx hb hd go
      · -- 21
        have hd := hd.resolve_left (by decide)

        have hpc : apcs cd (i + 1) = apcs cd i + 1 := hpc
        rcases st with _ | ⟨u | u | _ | u, st⟩
        any_goals exact no_A h
        have h : arun F cost (R.cells, R.slots) cd n (i + 1) loc (.inr (.inr (some u)) :: .inr (.inr (some u)) :: st) (hp, (cs, ss)) = some res := h
        refine lv_dup hx hb hd rfl ?_
        rw [← hpc]
        exact ih (i + 1) loc _ _ h as hag hn0 hok1 hlo (forall2 (vk1 hst) hst) H locs ls hP hD hS hl
      · -- 25
        have hd := hd.resolve_left (by decide)

        have hpc : apcs cd (i + 1) = apcs cd i + 3 := hpc
        rcases st with _ | ⟨q | q | _ | q, _ | ⟨u | u | _ | u, st⟩⟩
        any_goals exact no_A h
        have h : (if u < q then arun F cost (R.cells, R.slots) cd n (i + 1) loc st (hp, (cs, ss)) else arun F cost (R.cells, R.slots) cd n a loc st (hp, (cs, ss))) = some res := h
        refine lv_icmp_ge (tgt := apcs cd a) hx hb hd aoff_ok (fun z => ?_) (fun z => ?_)
        · rw [if_neg (Int32.not_lt.mpr z)] at h
          exact ih a loc st _ h as hag hn0 hok1 hlo (vkT (vkT hst)) H locs ls hP hD hS hl
        · rw [if_pos (Int32.not_le.mp z)] at h
          rw [← hpc]
          exact ih (i + 1) loc st _ h as hag hn0 hok1 hlo (vkT (vkT hst)) H locs ls hP hD hS hl
      · -- 26
        have hd := hd.resolve_left (by decide)

        exact lv_goto (tgt := apcs cd a) hx hb hd aoff_ok (ih a loc st _ h as hag hn0 hok1 hlo hst H locs ls hP hD hS hl)
      · -- 30
        have hd := hd.resolve_left (by decide)

        have hpc : apcs cd (i + 1) = apcs cd i + 3 := hpc
        rcases st with _ | ⟨q | q | _ | q, st⟩
        any_goals exact no_A h
        have h : (match aGet hp q b d with
          | some w => arun F cost (R.cells, R.slots) cd n (i + 1) loc (w :: st) (hp, (cs, ss))
          | none => none) = some res := h
        have hfl : (fHas o a b d && (Nat.blt d (nOf b) && Nat.blt b 7)) = true := hok
        simp only [Bool.and_eq_true] at hfl
        obtain ⟨hf1, hf2, hf3⟩ := hfl
        have hd8 : d < nOf b := Nat.blt_eq.mp hf2
        have hb8 : b < 7 := Nat.blt_eq.mp hf3
        cases hk : aGet hp q b d with
        | none =>
          rw [hk] at h
          cases h
        | some w =>
          rw [hk] at h
          obtain ⟨t, l2, hq, hw2⟩ := aGet_some hk
          have hw := aW_at (dA := dA) (as := as) hq
          rw [aE_obj (by omega)] at hw
          refine va_get (own := ownN o) (ref := ownN b) (C := ownN b) (T := tOf b) (N := nOf b) (ci := b) (index := a) (v := aV as w) hx hb hts (mTs_lay b hb8) hown hK hP q hw (vwCl_at b hb8) d hd8 (hts _ (fHas_in hf1)) (fun z hz => by rw [tOf_own b hb8 d hd8] at hz; exact hz) (by rw [List.getElem?_map, hw2]; rfl) hd ?_
          rw [← hpc]
          exact ih (i + 1) loc (w :: st) _ h as hag hn0 hok1 hlo (forall2 (hok1 _ (List.mem_of_getElem? hq) w (List.mem_of_getElem? hw2)) (vkT hst)) H locs ls hP hD hS hl
      · -- 31
        have hd := hd.resolve_left (by decide)

        have hpc : apcs cd (i + 1) = apcs cd i + 3 := hpc
        rcases st with _ | ⟨w | w | _ | w, _ | ⟨q | q | _ | q, st⟩⟩
        any_goals exact no_A h
        have h : (match aPut hp q b d (.inl w) with
          | some g => arun F cost (R.cells, R.slots) cd n (i + 1) loc st (g, (cs, ss))
          | none => none) = some res := h
        have hok2 : ((fHas o a b d && (Nat.blt d (nOf b) && Nat.blt b 7)) && (decide (tyOf b d = .int) && !(tOf b d).2.2.2)) = true := hok
        simp only [Bool.and_eq_true] at hok2
        obtain ⟨⟨hf1, hf2, hf3⟩, hty, hfin⟩ := hok2
        have hty : tyOf b d = .int := of_decide_eq_true hty
        have hfin : (tOf b d).2.2.2 = false := by simpa using hfin
        have hd8 : d < nOf b := Nat.blt_eq.mp hf2
        have hb8 : b < 7 := Nat.blt_eq.mp hf3
        cases hk : aPut hp q b d (.inl w) with
        | none =>
          rw [hk] at h
          cases h
        | some g =>
          rw [hk] at h
          obtain ⟨t, l2, hq, hdl, rfl⟩ := aPut_some hk
          have hql := (List.getElem?_eq_some_iff.mp hq).1
          have hw := aW_at (dA := dA) (as := as) hq
          rw [aE_obj (by omega)] at hw
          have hse : (aW dA as hp).set q (as q, .inr (b, (l2.map (aV as)).set d (.int w))) = aW dA as (hp.set q (b, (t, l2.set d (.inl w)))) := by
            rw [← aW_set hql, aE_obj (by omega), List.map_set]
            rfl
          refine va_put (own := ownN o) (ref := ownN b) (C := ownN b) (T := tOf b) (N := nOf b) (ci := b) (index := a) (ty := .int) (v := (.int w)) hx hb hts (mTs_lay b hb8) (tyOf b) (tyOf_ok b hb8) (tOf_nm b hb8) hown hK hP hD hS q hw (vwCl_at b hb8) d hd8 (hts _ (fHas_in hf1)) (fun z hz => by rw [tOf_own b hb8 d hd8] at hz; exact hz) hfin (by rw [tyOf_ok b hb8 d hd8, hty]) rfl rfl (by rw [List.length_map]; exact hdl) hd (fun H1 locs1 hP1 hD1 hS1 => ?_)
          rw [hse] at hP1 hD1
          rw [← hpc]
          have hsl : (hp.set q (b, (t, l2.set d (.inl w)))).length = hp.length := List.length_set
          exact ih (i + 1) loc st _ h as hag (by show n0 ≤ (hp.set q _).length; rw [hsl]; exact hn0) (hok1.set ((hok1 _ (List.mem_of_getElem? hq)).set (show vOk hp.length (.inl w) from trivial) d) q) (fun z hz => by show vOk (hp.set q _).length z.2; rw [hsl]; exact hlo z hz) (fun z hz => by show vOk (hp.set q _).length z; rw [hsl]; exact hst z (List.mem_cons_of_mem _ (List.mem_cons_of_mem _ hz))) H1 locs1 ls hP1 hD1 hS1 hl
      · -- 60
        have hd := hd.resolve_left (by decide)

        have hpc : apcs cd (i + 1) = apcs cd i + 3 := hpc
        rcases st with _ | ⟨w | w | _ | w, _ | ⟨q | q | _ | q, st⟩⟩
        any_goals exact no_A h
        have h : (match aPut hp q b d (.inr (.inr (some w))) with
          | some g => arun F cost (R.cells, R.slots) cd n (i + 1) loc st (g, (cs, ss))
          | none => none) = some res := h
        have hok2 : ((fHas o a b d && (Nat.blt d (nOf b) && Nat.blt b 7)) && ((tOf b d).2.2.2 && (Nat.beq b o && (match tyOf b d with
              | .object _ => true
              | .array _ => true
              | _ => false)))) = true := hok
        simp only [Bool.and_eq_true] at hok2
        obtain ⟨⟨hf1, hf2, hf3⟩, hfin, hbo, hty⟩ := hok2
        have hbo : b = o := Nat.eq_of_beq_eq_true hbo
        have hd8 : d < nOf b := Nat.blt_eq.mp hf2
        have hb8 : b < 7 := Nat.blt_eq.mp hf3
        have hnf : narrow (tyOf b d) (.ref (as w)) = .ref (as w) ∧ fits (tyOf b d) (.ref (as w)) = true := by
          generalize tyOf b d = ty at hty
          cases ty <;> first | exact ⟨rfl, rfl⟩ | cases hty
        cases hk : aPut hp q b d (.inr (.inr (some w))) with
        | none =>
          rw [hk] at h
          cases h
        | some g =>
          rw [hk] at h
          obtain ⟨t, l2, hq, hdl, rfl⟩ := aPut_some hk
          have hql := (List.getElem?_eq_some_iff.mp hq).1
          have hw := aW_at (dA := dA) (as := as) hq
          rw [aE_obj (by omega)] at hw
          have hse : (aW dA as hp).set q (as q, .inr (b, (l2.map (aV as)).set d (.ref (as w)))) = aW dA as (hp.set q (b, (t, l2.set d (.inr (.inr (some w)))))) := by
            rw [← aW_set hql, aE_obj (by omega), List.map_set]
            rfl
          refine va_putF (own := ownN o) (ref := ownN b) (C := ownN b) (T := tOf b) (N := nOf b) (ci := b) (index := a) (ty := tyOf b d) (v := (.ref (as w))) hx hb hts (mTs_lay b hb8) (tyOf b) (tyOf_ok b hb8) (tOf_nm b hb8) hown hK hP hD hS q hw (vwCl_at b hb8) d hd8 (hts _ (fHas_in hf1)) (fun z hz => by rw [tOf_own b hb8 d hd8] at hz; exact hz) hfin (hini (by omega)) (by rw [tOf_own b hb8 d hd8, hbo]) (tyOf_ok b hb8 d hd8) hnf.1 hnf.2 (by rw [List.length_map]; exact hdl) hd (fun H1 locs1 hP1 hD1 hS1 => ?_)
          rw [hse] at hP1 hD1
          rw [← hpc]
          have hsl : (hp.set q (b, (t, l2.set d (.inr (.inr (some w)))))).length = hp.length := List.length_set
          exact ih (i + 1) loc st _ h as hag (by show n0 ≤ (hp.set q _).length; rw [hsl]; exact hn0) (hok1.set ((hok1 _ (List.mem_of_getElem? hq)).set (vk1 hst) d) q) (fun z hz => by show vOk (hp.set q _).length z.2; rw [hsl]; exact hlo z hz) (fun z hz => by show vOk (hp.set q _).length z; rw [hsl]; exact hst z (List.mem_cons_of_mem _ (List.mem_cons_of_mem _ hz))) H1 locs1 ls hP1 hD1 hS1 hl
      · -- 35
        have hd := hd.resolve_left (by decide)

        have hpc : apcs cd (i + 1) = apcs cd i + 1 := hpc
        rcases st with _ | ⟨w | w | _ | w, _ | ⟨k | k | _ | k, _ | ⟨q | q | _ | q, st⟩⟩⟩
        any_goals exact no_A h
        have h : (match aSto hp q k w with
          | some g => arun F cost (R.cells, R.slots) cd n (i + 1) loc st (g, (cs, ss))
          | none => none) = some res := h
        cases hk : aSto hp q k w with
        | none =>
          rw [hk] at h
          cases h
        | some g =>
          rw [hk] at h
          obtain ⟨t, l2, hq, hin, htt, rfl⟩ := aSto_some hk
          have hql := (List.getElem?_eq_some_iff.mp hq).1
          have hw := aW_at (dA := dA) (as := as) hq
          rw [aE_int (by omega) (by omega)] at hw
          obtain ⟨t0, ht0⟩ := mTys_at htt.1 dA
          have hse : (aW dA as hp).set q (as q, .inl (dA t, (l2.length, .inl (upd (aIn l2) k.toNatClampNeg w)))) = aW dA as (hp.set q (100, (t, l2.set k.toNatClampNeg (.inl w)))) := by
            rw [← aW_set hql, aE_int (by omega) (by omega), aIn_set hin.2, List.length_set]
          refine va_iast hx hb hK hP hD hS q t0 hw (by rw [ht0, htt.2]) (mIn_vp hin) hd (fun H1 locs1 hP1 hD1 hS1 => ?_)
          rw [hse] at hP1 hD1
          rw [← hpc]
          have hsl : (hp.set q (100, (t, l2.set k.toNatClampNeg (.inl w)))).length = hp.length := List.length_set
          exact ih (i + 1) loc st _ h as hag (by show n0 ≤ (hp.set q _).length; rw [hsl]; exact hn0) (hok1.set ((hok1 _ (List.mem_of_getElem? hq)).set (show vOk hp.length (.inl w) from trivial) _) q) (fun z hz => by show vOk (hp.set q _).length z.2; rw [hsl]; exact hlo z hz) (fun z hz => by show vOk (hp.set q _).length z; rw [hsl]; exact hst z (List.mem_cons_of_mem _ (List.mem_cons_of_mem _ (List.mem_cons_of_mem _ hz)))) H1 locs1 ls hP1 hD1 hS1 hl
      · -- 57
        have hd := hd.resolve_left (by decide)

        have hpc : apcs cd (i + 1) = apcs cd i + 3 := hpc
        have hok : (nHas o a b && Nat.blt b 7) = true := hok
        rw [Bool.and_eq_true] at hok
        have hb8 : b < 7 := Nat.blt_eq.mp hok.2
        have h : (match aRm (R.cells, R.slots) (hp, (cs, ss)) 1 (nOf b) with
          | true => arun F cost (R.cells, R.slots) cd n (i + 1) loc (.inr (.inr (some hp.length)) :: st) (hp ++ [(b, (0, aDf b))], (cs + 1, ss + nOf b))
          | false => none) = some res := h
        cases hrm : aRm (R.cells, R.slots) (hp, (cs, ss)) 1 (nOf b) with
        | false =>
          rw [hrm] at h
          cases h
        | true =>
          rw [hrm] at h
          simp only [aRm, Bool.and_eq_true] at hrm
          have hrm1 : cs + 1 ≤ R.cells := Nat.ble_eq.mp hrm.1
          have hrm2 : ss + nOf b ≤ R.slots := Nat.ble_eq.mp hrm.2
          refine va_new (ci := b) (fs := (aDf b).map (aV as)) (C := ownN b) (T := tOf b) (N := nOf b) (index := a) hx hb hts (mTs_lay b hb8) (tyOf b) (tyOf_ok b hb8) hown (hts _ (nHas_in hok.1)) (hts _ (mk_in hb8).1) (hts _ (mk_in hb8).2) hK hP hD hS hA (vwCl_at b hb8) (aDf_val hb8) hrm1 hrm2 hd (fun q H1 hP1 hD1 hS1 => ?_)
          rw [← hpc]
          have e2 : (.inr (b, (aDf b).map (aV as)) : va_E) = aE dA as (b, (0, aDf b)) := (aE_obj (by omega)).symm
          rw [e2] at hP1 hD1
          exact mk2 (b, (0, aDf b)) q H1 st (cs + 1) (ss + nOf b) h hP1 hD1 hS1 (aDf_ok _ b) hst
      · -- 58
        have hd := hd.resolve_left (by decide)

        have hpc : apcs cd (i + 1) = apcs cd i + 2 := hpc
        rcases st with _ | ⟨k | k | _ | k, st⟩
        any_goals exact no_A h
        have hok : (mAt.contains d && ((Nat.beq b 100 && decide (mTy d = .int)) || (Nat.beq b 101 && decide (mTy d = .char)))) = true := hok
        rw [Bool.and_eq_true] at hok
        obtain ⟨hmt, hok⟩ := hok
        obtain ⟨t0, ht0⟩ := mTys_at hmt dA
        have h : (match aRm (R.cells, R.slots) (hp, (cs, ss)) 1 k.toNatClampNeg with
          | true => if mIn k 1000 then arun F cost (R.cells, R.slots) cd n (i + 1) loc (.inr (.inr (some hp.length)) :: st) (hp ++ [(b, (d, List.replicate k.toNatClampNeg (.inl 0)))], (cs + 1, ss + k.toNatClampNeg)) else none
          | false => none) = some res := h
        cases hrm : aRm (R.cells, R.slots) (hp, (cs, ss)) 1 k.toNatClampNeg with
        | false =>
          rw [hrm] at h
          cases h
        | true =>
          rw [hrm] at h
          have h : (if mIn k 1000 then arun F cost (R.cells, R.slots) cd n (i + 1) loc (.inr (.inr (some hp.length)) :: st) (hp ++ [(b, (d, List.replicate k.toNatClampNeg (.inl 0)))], (cs + 1, ss + k.toNatClampNeg)) else none) = some res := h
          by_cases hin : mIn k 1000
          · rw [if_pos hin] at h
            simp only [aRm, Bool.and_eq_true] at hrm
            have hrm1 : cs + 1 ≤ R.cells := Nat.ble_eq.mp hrm.1
            have hrm2 : ss + k.toNatClampNeg ≤ R.slots := Nat.ble_eq.mp hrm.2
            have hk0 : ¬ k < 0 := Int32.not_lt.mpr hin.1
            have hkN := hin.2
            have fin : ∀ (ty : FieldType) (cA : ClassId) (q : Nat) (H1 : Heap), mTy d = ty → 100 ≤ b → b ≠ 103 → va_K D vwCl (mTys dA ++ [(cA, ty)]) s → va_P D vwCl (aW dA as hp ++ [(q, .inl (cA, (k.toNatClampNeg, .inl (fun _ => 0))))]) H1 → va_D A (aW dA as hp ++ [(q, .inl (cA, (k.toNatClampNeg, .inl (fun _ => 0))))]) → va_S A s.heap H1 locs → W p l e R s m args below meth c H1 locs (cs + 1) (ss + k.toNatClampNeg) Q (F0 m (apcs cd i + 2) ls (.ref q :: st.map (aV as))) := by
              intro ty cA q H1 hty hb1 hb2 hK1 hP1 hD1 hS1
              have ec : cA = dA d := ra_eq hK1.last (by rw [← hty]; exact (hK.2 t0 _ ht0).2)
              have e2 : (.inl (cA, (k.toNatClampNeg, .inl (fun _ => 0))) : va_E) = aE dA as (b, (d, List.replicate k.toNatClampNeg (.inl 0))) := by
                rw [aE_int hb1 hb2, aIn_rep, List.length_replicate, ec]
              rw [e2] at hP1 hD1
              rw [← hpc]
              exact mk2 _ q H1 st (cs + 1) (ss + k.toNatClampNeg) h hP1 hD1 hS1 (rep_ok (show vOk hp.length (.inl 0) from trivial) _ _) (vkT hst)
            simp only [Bool.or_eq_true, Bool.and_eq_true, decide_eq_true_eq] at hok
            rcases hok with ⟨e0, hty⟩ | ⟨e0, hty⟩
            · have e0 := Nat.eq_of_beq_eq_true e0
              have hd : decode cc (apcs cd i) = .ok (.newarray .int, 2) := by rw [e0] at hd; exact hd
              exact va_newa (atype := .int) (a0 := (k.toNatClampNeg, .inl (fun _ => 0))) hx hb (hts _ arr_int) rfl hK hP hD hS hA (fun cA => by rw [vp_cell_i]; rfl) hk0 rfl (by show k.toNatClampNeg * 4 ≤ 536870912; omega) hrm1 hrm2 hd (fun q cA H1 hK1 hP1 hD1 hS1 => fin .int cA q H1 hty (by omega) (by omega) hK1 hP1 hD1 hS1)
            · have e0 := Nat.eq_of_beq_eq_true e0
              have hd : decode cc (apcs cd i) = .ok (.newarray .char, 2) := by rw [e0] at hd; exact hd
              exact va_newa (atype := .char) (a0 := (k.toNatClampNeg, .inl (fun _ => 0))) hx hb (hts _ arr_char) rfl hK hP hD hS hA (fun cA => by rw [vp_cell_i]; rfl) hk0 rfl (by show k.toNatClampNeg * 2 ≤ 536870912; omega) hrm1 hrm2 hd (fun q cA H1 hK1 hP1 hD1 hS1 => fin .char cA q H1 hty (by omega) (by omega) hK1 hP1 hD1 hS1)
          · rw [if_neg hin] at h
            cases h
      · -- 59
        have hd := hd.resolve_left (by decide)

        rcases st with _ | ⟨k | k | _ | k, st⟩
        any_goals exact no_A h
        rcases tb with _ | ⟨⟨z0, kk⟩, _ | ⟨z1, tb⟩⟩
        · cases hok
        rotate_left
        · cases hok
        have hpc : apcs cd (i + 1) = apcs cd i + 3 := hpc
        have hok : (nHas o a kk && (decide (mTy d = .object (ownN kk)) && ([0, 1, 2, 4, 5].contains kk && mAt.contains d))) = true := hok
        simp only [Bool.and_eq_true, decide_eq_true_eq] at hok
        obtain ⟨hn1, hty, hkk, hmt⟩ := hok
        obtain ⟨t0, ht0⟩ := mTys_at hmt dA
        have h : (match aRm (R.cells, R.slots) (hp, (cs, ss)) 1 k.toNatClampNeg with
          | true => if mIn k 1000 then arun F cost (R.cells, R.slots) cd n (i + 1) loc (.inr (.inr (some hp.length)) :: st) (hp ++ [(103, (d, List.replicate k.toNatClampNeg (.inr (.inr none))))], (cs + 1, ss + k.toNatClampNeg)) else none
          | false => none) = some res := h
        cases hrm : aRm (R.cells, R.slots) (hp, (cs, ss)) 1 k.toNatClampNeg with
        | false =>
          rw [hrm] at h
          cases h
        | true =>
          rw [hrm] at h
          have h : (if mIn k 1000 then arun F cost (R.cells, R.slots) cd n (i + 1) loc (.inr (.inr (some hp.length)) :: st) (hp ++ [(103, (d, List.replicate k.toNatClampNeg (.inr (.inr none))))], (cs + 1, ss + k.toNatClampNeg)) else none) = some res := h
          by_cases hin : mIn k 1000
          · rw [if_pos hin] at h
            simp only [aRm, Bool.and_eq_true] at hrm
            have hrm1 : cs + 1 ≤ R.cells := Nat.ble_eq.mp hrm.1
            have hrm2 : ss + k.toNatClampNeg ≤ R.slots := Nat.ble_eq.mp hrm.2
            have hkN := hin.2
            refine va_newq (own := ownN o) (C := ownN kk) (index := a) hx hb hown (hts _ (nHas_in hn1)) (hO kk (List.contains_iff_mem.mp hkk)) hK hP hD hS hA (Int32.not_lt.mpr hin.1) rfl (by omega) hrm1 hrm2 hd (fun q cA H1 hK1 hP1 hD1 hS1 => ?_)
            have ec : cA = dA d := ra_eq hK1.last (by rw [← hty]; exact (hK.2 t0 _ ht0).2)
            have e2 : (.inl (cA, (k.toNatClampNeg, .inr (.inr (.inr (.inr (fun _ => none)))))) : va_E) = aE dA as (103, (d, List.replicate k.toNatClampNeg (.inr (.inr none)))) := by
              rw [aE_ref, aRf_rep, List.length_replicate, ec]
            rw [e2] at hP1 hD1
            rw [← hpc]
            exact mk2 _ q H1 st (cs + 1) (ss + k.toNatClampNeg) h hP1 hD1 hS1 (rep_ok (show vOk hp.length (.inr (.inr none)) from trivial) _ _) (vkT hst)
          · rw [if_neg hin] at h
            cases h
      · -- 61
        have hd := hd.resolve_left (by decide)

        have hpc : apcs cd (i + 1) = apcs cd i + 1 := hpc
        rcases st with _ | ⟨w | w | _ | w, _ | ⟨k | k | _ | k, _ | ⟨q | q | _ | q, st⟩⟩⟩
        any_goals exact no_A h
        have h : (match aStr hp q k w with
          | some g => arun F cost (R.cells, R.slots) cd n (i + 1) loc st (g, (cs, ss))
          | none => none) = some res := h
        cases hk : aStr hp q k w with
        | none =>
          rw [hk] at h
          cases h
        | some g =>
          rw [hk] at h
          obtain ⟨t, l2, k2, t2, l3, hq, hwc, hin, hk8, hty, rfl⟩ := aStr_some hk
          have hql := (List.getElem?_eq_some_iff.mp hq).1
          have hw := aW_at (dA := dA) (as := as) hq
          have hv := aW_at (dA := dA) (as := as) hwc
          rw [aE_ref] at hw
          rw [aE_obj (by omega)] at hv
          obtain ⟨t0, ht0⟩ := mTys_at (hobj hty) dA
          have hse : (aW dA as hp).set q (as q, .inl (dA t, (l2.length, .inr (.inr (.inr (.inr (va_up (aRf as l2) k.toNatClampNeg (some (as w))))))))) = aW dA as (hp.set q (103, (t, l2.set k.toNatClampNeg (.inr (.inr (some w)))))) := by
            rw [← aW_set hql, aE_ref, aRf_set hin.2, List.length_set]
          refine va_astq (r := (ownN k2, tOf k2, nOf k2)) hx hb hK hP hD hS q t0 w k2 hw (by rw [ht0, hty]) hv (vwCl_at k2 hk8) (mIn_vp hin) hd (fun H1 locs1 hP1 hD1 hS1 => ?_)
          rw [hse] at hP1 hD1
          rw [← hpc]
          have hsl : (hp.set q (103, (t, l2.set k.toNatClampNeg (.inr (.inr (some w)))))).length = hp.length := List.length_set
          exact ih (i + 1) loc st _ h as hag (by show n0 ≤ (hp.set q _).length; rw [hsl]; exact hn0) (hok1.set ((hok1 _ (List.mem_of_getElem? hq)).set (vk1 hst) _) q) (fun z hz => by show vOk (hp.set q _).length z.2; rw [hsl]; exact hlo z hz) (fun z hz => by show vOk (hp.set q _).length z; rw [hsl]; exact hst z (List.mem_cons_of_mem _ (List.mem_cons_of_mem _ (List.mem_cons_of_mem _ hz)))) H1 locs1 ls hP1 hD1 hS1 hl
      · -- 62
        have hd := hd.resolve_left (by decide)

        have hpc : apcs cd (i + 1) = apcs cd i + 3 := hpc
        rcases st with _ | ⟨q | q | _ | q, st⟩
        any_goals exact no_A h
        have h : (match Nat.ble (acats st) 8 with
          | true => arun F cost (R.cells, R.slots) cd n (i + 1) loc st (hp, (cs, ss))
          | false => none) = some res := h
        cases hk : Nat.ble (acats st) 8 with
        | false =>
          rw [hk] at h
          cases h
        | true =>
          rw [hk] at h
          have h8 : acats st ≤ 8 := Nat.ble_eq.mp hk
          have hW8 : 2 * (F0 m (apcs cd i) ls (List.map (aV as) (.inr (.inr (some q)) :: st))).monitorRoom + ((st.map (aV as)).map fun v => v.category).sum ≤ 8 := lv_room (by rw [aSt_cats]; exact h8)
          refine W.objInit (rest := st.map (aV as)) hx hb hown (hts _ (oHas_in hok)) (hts _ obj_in) (hts _ obj_cd) rfl (by rw [hml]; exact hls) rfl hd hR.1 (by omega) ?_
          refine W.eq (g2 := F0 m (apcs cd i + 3) ls (st.map (aV as))) rfl ?_
          rw [← hpc]
          exact ih (i + 1) loc st _ h as hag hn0 hok1 hlo (vkT hst) H locs ls hP hD hS hl
      · -- 63
        have hd := hd.resolve_left (by decide)

        have hpc : apcs cd (i + 1) = apcs cd i + 3 := hpc
        rcases st with _ | ⟨q | q | _ | q, st⟩
        any_goals exact no_A h
        have h : (match Nat.ble (acats st) 8 && (Nat.blt q hp.length && aRm (R.cells, R.slots) (hp, (cs, ss)) (cost b).1 (cost b).2) with
          | true => (match F b hp q with
            | some g => arun F cost (R.cells, R.slots) cd n (i + 1) loc st (g, (cs + (cost b).1, ss + (cost b).2))
            | none => none)
          | false => none) = some res := h
        cases hk : Nat.ble (acats st) 8 && (Nat.blt q hp.length && aRm (R.cells, R.slots) (hp, (cs, ss)) (cost b).1 (cost b).2) with
        | false =>
          rw [hk] at h
          cases h
        | true =>
          rw [hk] at h
          simp only [aRm, Bool.and_eq_true] at hk
          obtain ⟨h8, hql, hr1, hr2⟩ := hk
          have h8 : acats st ≤ 8 := Nat.ble_eq.mp h8
          have hql : q < hp.length := Nat.blt_eq.mp hql
          have hr1 : cs + (cost b).1 ≤ R.cells := Nat.ble_eq.mp hr1
          have hr2 : ss + (cost b).2 ≤ R.slots := Nat.ble_eq.mp hr2
          have h : (match F b hp q with
            | some g => arun F cost (R.cells, R.slots) cd n (i + 1) loc st (g, (cs + (cost b).1, ss + (cost b).2))
            | none => none) = some res := h
          cases hF : F b hp q with
          | none =>
            rw [hF] at h
            cases h
          | some g =>
            rw [hF] at h
            have hmc : ACall R o F cost (63, a, b, d, x, y, tb) := allA_at hcall _ (List.mem_filter.mpr ⟨(nth_lt hi).2, rfl⟩)
            obtain ⟨z, bytes, maxL, rm, hct, ⟨hy1, hy2, hy3, hy4⟩, ⟨hc1, hc2⟩, ⟨hr3, hr4⟩, hnm, him, hlk⟩ := hmc
            have hM := hct l dA D A as hp g q hok1 hql hF
            rw [hc1, hc2] at hM
            have hn : ∀ sig, parseMethodDescriptor z.desc = some sig → 0 = sig.parameters.length := fun sig h => by
              rw [h] at hy4
              exact (Option.some.inj hy4).symm
            have hws : ∀ w ∈ [Cond.code z bytes maxL none], ∀ (a' : Array Value) (U : State), s.WarmedH U.vm → w.before a' U = true := by
              intro w hw a' U hW
              rw [List.mem_singleton.mp hw]
              exact word_at hW (Or.inl rfl) (hts _ hy1)
            have hW8 : 2 * (F0 m (apcs cd i) ls (.ref (as q) :: st.map (aV as))).monitorRoom + ((st.map (aV as)).map fun v => v.category).sum ≤ 8 := lv_room (by rw [aSt_cats]; exact h8)
            have hPcU : ∀ U : State, U.heap = H → s.WarmedH U.vm → aP dA D A as hp q [Value.ref (as q)].toArray U := by
              intro U hU hW
              refine ⟨rfl, by rw [hU]; exact hP, hD, va_K.moved hW.alike hK, fun w hw => MWd.any hW hwd #[] w hw, AOs.moved hW.alike hO, fun q hq => ?_⟩
              rw [hU] at hq
              exact hA q (Nat.le_trans hS.1 hq)
            have back : ∀ (as' : Nat → Nat) (H1 : Heap) (locs1 : List Loc), (∀ j, j < hp.length → as' j = as j) → va_P D vwCl (aW dA as' g) H1 → va_D A (aW dA as' g) → hOk g → hp.length ≤ g.length → va_S A s.heap H1 locs1 → W p l e R s m args below meth c H1 locs1 (cs + (cost b).1) (ss + (cost b).2) Q (F0 m (apcs cd i + 3) ls (st.map (aV as))) := by
              intro as' H1 locs1 ha hP1 hD1 hog hlg hS1
              rw [← hpc, ← aSt_cg ha (vkT hst)]
              exact ih (i + 1) loc st _ h as' (fun j hj => (ha j (Nat.lt_of_lt_of_le hj hn0)).trans (hag j hj)) (Nat.le_trans hn0 hlg) hog (fun w hw => (hlo w hw).up hlg) (fun w hw => (vkT hst w hw).up hlg) H1 locs1 ls hP1 hD1 hS1 (by rw [aLv_cg ha hlo]; exact hl)
            rcases hlk with hlk | ⟨host, hlk⟩
            · exact a_call (va_runI (Ts := []) (own := ownN o) (As := []) (rest := st.map (aV as)) (cc := cc) (nL := nL) ⟨hx, hb, hml, hown, fun w hw => absurd hw List.not_mem_nil⟩ hM ⟨⟨hc1, hc2, hr3, hr4, hws, List.mem_singleton.mpr rfl, hts _ hy1, hts _ hy2, hy3, hn, hts _ hlk⟩, hnm, hts _ him⟩ ⟨aP_blind dA D A as hp q, hPcU⟩ rfl rfl hls rfl hW8 hd ⟨hr1, hr2⟩) hS back
            · exact a_call (va_runIN (Ts := []) (own := ownN o) (host := host) (As := []) (rest := st.map (aV as)) (cc := cc) (nL := nL) ⟨hx, hb, hml, hown, fun w hw => absurd hw List.not_mem_nil⟩ hM ⟨⟨⟨hc1, hc2, hr3, hr4, hws, List.mem_singleton.mpr rfl⟩, hts _ hy1, hts _ hy2, hy3, hn, hts _ hlk⟩, hnm, hts _ him⟩ ⟨aP_blind dA D A as hp q, hPcU⟩ rfl rfl hls rfl hW8 hd ⟨hr1, hr2⟩) hS back
      · -- 53
        have hd := hd.resolve_left (by decide)

        rcases st with _ | ⟨u, st⟩
        any_goals exact no_A h
        have h : (some ((hp, (cs, ss)), loc) : AR) = some res := h
        cases h
        exact hret i 53 a b d x y tb as H locs ls hi (Or.inl rfl) (fun _ => hd) hag hok1 hn0 hlo hP hD hS hl
      · -- 65
        rcases st with _ | ⟨u, st⟩
        any_goals exact no_A h
        have h : (some ((hp, (cs, ss)), loc) : AR) = some res := h
        cases h
        exact hret i 65 a b d x y tb as H locs ls hi (Or.inr rfl) (fun z => absurd z (by decide)) hag hok1 hn0 hlo hP hD hS hl
end
