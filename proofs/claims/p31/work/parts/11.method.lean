-- A METHOD'S CONTRACT out of its run
def mOkR (r : Option MV) : Prop := ∀ w, r = some w → mOk w
theorem mNs_books : ∀ i, i < 8 → ((2, i, 0) : MN) ∈ mNs := by decide +kernel
set_option maxHeartbeats 4000000 in
theorem stI_ok {F : Nat → MF} {K : Nat → ML → List MV → MM → MR} (hK : ∀ i loc st v res, K i loc st v = some res → mOkR res.2) {i : Nat} {loc : ML} {st : List MV} {v : MM} {m : MI} {res : MM × Option MV} (h : stI F K i loc st v m = some res) : mOkR res.2 := by
  unfold stI at h
  split at h
  split at h
  all_goals (repeat' split at h)
  all_goals first
    | exact hK _ _ _ _ _ h
    | (cases h; done)
    | (obtain ⟨v', x', -, h⟩ := bI_some h; exact hK _ _ _ _ _ h)
    | (obtain ⟨v', -, h⟩ := bV_some h; exact hK _ _ _ _ _ h)
    | (obtain ⟨v', x', -, h⟩ := bN_some h; exact hK _ _ _ _ _ h)
    | (obtain ⟨v', x', -, h⟩ := bL_some h; exact hK _ _ _ _ _ h)
    | (rcases swt_case h with ⟨_, _, _, _, h⟩ | ⟨_, h⟩ <;> exact hK _ _ _ _ _ h)
    | (cases h; intro w hw; cases hw; trivial)
    | (cases h; intro w hw; cases hw; done)
    | skip
  rename_i q bb hq
  cases h
  intro w hw
  cases hw
  obtain ⟨t, i, j⟩ := q
  have hq : (Nat.beq t 2 && (Nat.blt i 8 && Nat.beq j 0)) = true := hq
  simp only [Bool.and_eq_true] at hq
  have h1 := Nat.eq_of_beq_eq_true hq.1
  have h3 := Nat.eq_of_beq_eq_true hq.2.2
  have h2 : i < 8 := Nat.blt_eq.mp hq.2.1
  rw [h1, h3]
  exact Or.inl (mNs_books i h2)
theorem run_ok {F : Nat → MF} {cd : List MI} : ∀ (n i : Nat) (loc : ML) (st : List MV) (v : MM) (res : MM × Option MV), run F cd n i loc st v = some res → mOkR res.2 := by
  intro n
  induction n with
  | zero =>
    intro i loc st v res h
    exact no_of h
  | succ n ih =>
    intro i loc st v res h
    have h : stp F cd (run F cd n) i loc st v = some res := h
    unfold stp at h
    cases hi : nth cd i with
    | none =>
      rw [hi] at h
      cases h
    | some mi =>
      rw [hi] at h
      exact stI_ok (F := F) (fun i loc st v res h => ih i loc st v res h) h
def mRk (rk : Nat) (ret : Option FieldType) : Prop := match rk with
  | 0 => ret = some .int
  | 1 => ret = some .boolean
  | 2 => ∃ C, ret = some (.object C)
  | 4 => ret = some .long
  | _ => ret = none
theorem mEnt_len {nL : Nat} {F : Nat → MF} {cd : List MI} {n : Nat} {v : MM} {as : List MV} {res : MM × Option MV} (h : mEnt nL F cd n v as = some res) : mcats as ≤ nL ∧ run F cd n 0 (mEl 0 as) [] v = some res := by
  unfold mEnt at h
  cases hc : Nat.ble (mcats as) nL with
  | false =>
    rw [hc] at h
    cases h
  | true =>
    rw [hc] at h
    exact ⟨Nat.ble_eq.mp hc, h⟩
theorem mEl_ok : ∀ {as : List MV} {i : Nat}, (∀ w ∈ as, mOk w) → ∀ q ∈ mEl i as, mOk q.2
  | [], _, _, q, hq => absurd hq List.not_mem_nil
  | a :: as, i, h, q, hq => by
    rcases List.mem_cons.mp hq with rfl | hq
    · exact h a List.mem_cons_self
    · exact mEl_ok (fun w hw => h w (List.mem_cons_of_mem _ hw)) q hq
theorem mEl_args (G : MG) : ∀ (as : List MV) (i : Nat), lv_args i (as.map (gV G)) = gL G (mEl i as)
  | [], _ => rfl
  | a :: as, i => by
    show (i, gV G a) :: lv_args (if (gV G a).category = 2 then i + 2 else i + 1) (as.map (gV G)) = (i, gV G a) :: gL G (mEl (i + mcat a) as)
    have e : (if (gV G a).category = 2 then i + 2 else i + 1) = i + mcat a := by
      rcases a with x | x | q <;> rfl
    rw [e, mEl_args G as]
theorem lg_sl_len (G : MG) : ∀ (as : List MV), (lg_sl (as.map (gV G))).length = mcats as
  | [] => rfl
  | a :: as => by
    have ih := lg_sl_len G as
    unfold lg_sl at ih ⊢
    rw [List.map_cons, List.flatMap_cons, List.length_append, ih]
    rcases a with x | x | q <;> rfl
set_option maxHeartbeats 4000000 in
theorem mct_ofS {S : MSc} {o nL rk : Nat} {y : MethodName} {cc : ByteArray} {ret : Option FieldType} {rm : Room} {F : Nat → MF} {cd : List MI} {f : MF} (hy : plainFor y = true) (hcls : y.cls = ownN o) (hck : mCk o nL rk cc cd = true) (hrk : mRk rk ret) (hrm : rm.cells = 0 ∧ rm.slots = 0) (hcall : allC S rm o F (cd.filter isCall)) (hac : (∃ i a b d x y tb, nth cd i = some (38, a, b, d, x, y, tb)) → 1 ≤ rm.frames ∧ 8 + (nativeFrameWords "java/lang/System" "arraycopy" 5 + 11) ≤ rm.locals) (hns : (∃ i op a b d x y tb, nth cd i = some (op, a, b, d, x, y, tb) ∧ 55 ≤ op) → (∀ k v r, F 99 v [.inl k] = some r → vp_in k S.1 ∧ r.2 = some (.inl (S.2 k.toNatClampNeg))) ∧ (∀ v r, F 98 v [] = some r → r.2 = some (.inl (Int32.ofNat S.1)))) (hf : ∀ v as res, f v as = some res → ∃ n, mEnt nL F cd n v as = some res) : MCt S y cc nL ret rm f := by
  intro l G v as v' r hGS hok hfv
  subst hGS
  obtain ⟨n, hn⟩ := hf v as (v', r) hfv
  obtain ⟨hlen, hrun⟩ := mEnt_len hn
  refine ⟨run_ok n 0 _ _ _ (v', r) hrun, ?_⟩
  refine va_MetF (cc := cc) (maxL := nL) (ret := ret) hy rfl ?_
  intro p e s m args below meth c s₁ B hml hv
  obtain ⟨rfl, hP, hD, hK, hwd, hS0⟩ := hv
  have hx := B.exec
  have hb := B.bytes
  have hr := B.returns
  have hown : s.vm.findClass (ownN o) = some m.cls := by
    have h := findClass_of_methodNamed B.named
    rw [hcls] at h
    exact h
  have hlocks := B.notSynchronized
  rw [lg_entry_eq]
  have hl := lv_entry (as.map (gV G)) (n := nL) (by rw [lg_sl_len]; exact hlen)
  rw [mEl_args] at hl
  have e0 : pcs cd 0 = 0 := by cases cd <;> rfl
  have key := run_sound (p := p) (l := l) (e := e) (R := rm) (s := s) (m := m) (args := (as.map (gV G)).toArray) (below := below) (meth := meth) (c := c) (cells := 0) (slots := 0) (Q := MQ below (mQc G v' r) (as.map (gV G)).toArray s 0 0 G.2.2.2.1) (o := o) (nL := nL) (rk := rk) (cc := cc) G hx hb hml hown hwd hK hS0 ⟨Nat.zero_le _, Nat.zero_le _⟩ F cd (mCk_P hck) hcall hac (fun h => ⟨_, _, hS0.1, hS0.2.1, hS0.2.2, (hns h).1, (hns h).2⟩) (v', r) ?_ n 0 (mEl 0 as) [] v hrun (mEl_ok hok) (fun w hw => absurd hw List.not_mem_nil) s.heap [] _ hP hD va_S.rf hl
  · rw [e0] at key
    exact key
  · intro i op a b d x y tb stk v2 H locs ls hi h50 h53 hd hok2 hret hstk hP2 hS2
    have h4 : op = 50 ∨ op = 51 ∨ op = 52 ∨ op = 53 ∨ op = 54 := by omega
    have fin : ∀ t : State, t.heap = H → v2 = v' → mQc G v' r (as.map (gV G)).toArray s (.returned (r.map (gV G))) t := by
      intro t ht hv2
      refine ⟨rfl, ?_, hS2.F ht⟩
      rw [ht, ← hv2]
      exact hP2
    rcases h4 with rfl | rfl | rfl | rfl | rfl
    · obtain ⟨z, rfl, hz⟩ := hret
      have hz1 : v2 = v' := (congrArg Prod.fst hz).symm
      have hz2 : r = some (.inl z) := congrArg Prod.snd hz
      have hrk0 : rk = 0 := Nat.eq_of_beq_eq_true hok2
      subst hrk0
      refine W.iret hx hb (by rw [hr]; exact hrk) (fun t ht hW => ?_) hS2.2.2 hd
      have := fin t ht hz1
      rw [hz2] at this ⊢
      exact this
    · obtain ⟨z, hz01, rfl, hz⟩ := hret
      have hz1 : v2 = v' := (congrArg Prod.fst hz).symm
      have hz2 : r = some (.inl z) := congrArg Prod.snd hz
      have hrk0 : rk = 1 := Nat.eq_of_beq_eq_true hok2
      subst hrk0
      refine W.zret hx hb (by rw [hr]; exact hrk) (by rcases hz01 with e | e <;> rw [e] <;> rfl) (fun t ht hW => ?_) hS2.2.2 hd
      have := fin t ht hz1
      rw [hz2] at this ⊢
      exact this
    · obtain ⟨z, rfl, hz⟩ := hret
      have hz1 : v2 = v' := (congrArg Prod.fst hz).symm
      have hz2 : r = some (.inr (.inr z)) := congrArg Prod.snd hz
      have hrk0 : rk = 2 := Nat.eq_of_beq_eq_true hok2
      subst hrk0
      obtain ⟨C, hC⟩ := hrk
      refine W.aret hx hb (by rw [hr]; exact hC) (Or.inl ⟨C, rfl⟩) (Or.inr ⟨_, rfl⟩) (fun t ht hW => ?_) hS2.2.2 hd
      have := fin t ht hz1
      rw [hz2] at this ⊢
      exact this
    · obtain ⟨rfl, hz⟩ := hret
      have hz1 : v2 = v' := (congrArg Prod.fst hz).symm
      have hz2 : r = none := congrArg Prod.snd hz
      have hrk0 : rk = 3 := Nat.eq_of_beq_eq_true hok2
      subst hrk0
      refine W.vret hx hb (by rw [hr]; exact hrk) (fun t ht hW => ?_) hS2.2.2 hd
      have := fin t ht hz1
      rw [hz2] at this ⊢
      exact this
    · obtain ⟨z, rfl, hz⟩ := hret
      have hz1 : v2 = v' := (congrArg Prod.fst hz).symm
      have hz2 : r = some (.inr (.inl z)) := congrArg Prod.snd hz
      have hrk0 : rk = 4 := Nat.eq_of_beq_eq_true hok2
      subst hrk0
      refine W.lret hx hb (by rw [hr]; exact hrk) (fun t ht hW => ?_) hS2.2.2 hd
      have := fin t ht hz1
      rw [hz2] at this ⊢
      exact this
theorem mct_of {S : MSc} {o nL rk : Nat} {y : MethodName} {cc : ByteArray} {ret : Option FieldType} {rm : Room} {F : Nat → MF} {cd : List MI} {f : MF} (hy : plainFor y = true) (hcls : y.cls = ownN o) (hck : mCk o nL rk cc cd = true) (hrk : mRk rk ret) (hrm : rm.cells = 0 ∧ rm.slots = 0) (hcall : allC S rm o F (cd.filter isCall)) (hac : (∃ i a b d x y tb, nth cd i = some (38, a, b, d, x, y, tb)) → 1 ≤ rm.frames ∧ 8 + (nativeFrameWords "java/lang/System" "arraycopy" 5 + 11) ≤ rm.locals) (hns : cd.all (fun m => Nat.blt m.1 55) = true) (hf : ∀ v as res, f v as = some res → ∃ n, mEnt nL F cd n v as = some res) : MCt S y cc nL ret rm f :=
  mct_ofS hy hcls hck hrk hrm hcall hac (fun ⟨i, op, a, b, d, x, y, tb, h1, h2⟩ => absurd (Nat.blt_eq.mp (List.all_eq_true.mp hns _ (nth_lt h1).2)) (by show ¬ op < 55; omega)) hf
