-- CONTRACTS over the small machine: a method's function, the world before and behind
abbrev MSc : Type := Nat × (Nat → Int32)
abbrev MG : Type := (MN → Nat) × (Nat → ClassId) × va_G × (Nat → Prop) × MSc
def gW (G : MG) (v : MM) : va_W := mWl G.1 G.2.1 v
def gV (G : MG) (w : MV) : Value := mv G.1 w
def mOk (w : MV) : Prop := match w with
  | .inr (.inr q) => q ∈ mNs ∨ q = (22, 0, 0)
  | _ => True
/-- the law's script lies where it lay -/
def MSt (G : MG) (U : State) (H : Heap) : Prop := G.1 (22, 0, 0) < H.size ∧ ¬ G.2.2.2.1 (G.1 (22, 0, 0)) ∧ va_X (G.1 (22, 0, 0)) G.2.2.2.2.1 G.2.2.2.2.2 U H
theorem MSt.warm {G : MG} {s U : State} {H : Heap} (hW : s.WarmedH U.vm) (h : MSt G s H) : MSt G U H := ⟨h.1, h.2.1, va_X.moved hW.alike h.2.2⟩
theorem MSt.kept {G : MG} {U : State} {H H1 : Heap} (h : MSt G U H) (hz : H.size ≤ H1.size) (hq : ∀ a : Nat, a < H.size → ¬ G.2.2.2.1 a → H1[a]? = H[a]?) : MSt G U H1 :=
  ⟨Nat.lt_of_lt_of_le h.1 hz, h.2.1, h.2.2.kept (hq _ h.1 h.2.1)⟩
def MWd (U : State) : Prop := ∀ w ∈ mTs, w.before #[] U = true
theorem MWd.any {s U : State} (hW : s.WarmedH U.vm) (h : MWd s) (args : Array Value) : ∀ w ∈ mTs, w.before args U = true := by
  intro w hw
  have h1 := h w hw
  have hs := (List.mem_filter.mp hw).2
  unfold mStab at hs
  rw [Bool.or_eq_true] at hs
  rcases hs with hs | hs
  · exact word_at hW (good_of_word hs) h1
  · split at hs
    · exact va_Nw.use rfl (va_Nw.warmM hW h1)
    · cases hs
theorem MWd.of {s : State} {args : Array Value} (h : ∀ w ∈ lw_tbl, w.before args s = true) : MWd s := by
  intro w hw
  have h1 := h w (List.mem_filter.mp hw).1
  have hs := (List.mem_filter.mp hw).2
  unfold mStab at hs
  rw [Bool.or_eq_true] at hs
  rcases hs with hs | hs
  · exact word_at (State.WarmedH.refl s) (good_of_word hs) h1
  · split at hs
    · exact va_Nw.of rfl h1
    · cases hs
def MW (G : MG) (v : MM) (U : State) : Prop := va_P G.2.2.1 vwCl (gW G v) U.heap ∧ va_D G.2.2.2.1 (gW G v) ∧ va_K G.2.2.1 vwCl (mTys G.2.1) U ∧ MWd U ∧ MSt G U U.heap
def mPc (G : MG) (v : MM) (as : List MV) : Array Value → State → Prop := fun a U => a = (as.map (gV G)).toArray ∧ MW G v U
def mQc (G : MG) (v : MM) (r : Option MV) : Array Value → State → Outcome → State → Prop := fun _ st o t => o = .returned (r.map (gV G)) ∧ va_P G.2.2.1 vwCl (gW G v) t.heap ∧ va_F G.2.2.2.1 st t
theorem mPc_blind (G : MG) (v : MM) (as : List MV) : FrameBlind (mPc G v as) := by
  intro a U g mk h
  obtain ⟨h1, hP, hD, hK, hw, hS⟩ := h
  refine ⟨h1, hP, hD, va_K.moved (u := U) (U := U.calling g mk a) (Vm.Alike.refl U.vm) hK, MWd.any (s := U) (U := U.calling g mk a) (State.WarmedH.refl U) hw #[], ?_⟩
  exact MSt.warm (s := U) (U := U.calling g mk a) (State.WarmedH.refl U) hS
/-- method y does what f says: from any state that holds the world v it answers r and leaves the world v', where f says (v', r) -/
def MCt (S : MSc) (y : MethodName) (bytes : ByteArray) (maxL : Nat) (ret : Option FieldType) (rm : Room) (f : MF) : Prop :=
  ∀ (l : Launch) (G : MG) (v : MM) (as : List MV) (v' : MM) (r : Option MV), G.2.2.2.2 = S → (∀ w ∈ as, mOk w) → f v as = some (v', r) → (∀ w, r = some w → mOk w) ∧ Met l y [Cond.code y bytes maxL ret] rm (mPc G v as) (mQc G v' r) 0 0 G.2.2.2.1
/-- what the tables say of a method -/
def MYk (y : MethodName) (bytes : ByteArray) (maxL : Nat) (ret : Option FieldType) (n : Nat) : Prop :=
  Cond.code y bytes maxL ret ∈ mTs ∧ Cond.initialized y.cls ∈ mTs ∧ (y.cls ≠ "java/lang/invoke/MethodHandle" ∧ y.cls ≠ "java/lang/invoke/VarHandle") ∧ (parseMethodDescriptor y.desc).map (fun d => d.parameters.length) = some n
def MYv (y : MethodName) : Prop := Cond.instanceMethod y ∈ mTs ∧ Cond.selects y.cls y y ∈ mTs
def MLk (own : String) (a : Nat) (y : MethodName) : Prop := Cond.methodLink own a y ∈ mTs ∨ ∃ h, Cond.methodLinkNest own a y h ∈ mTs
def clN (k : Nat) : String := ownN k
/-- a call that the code holds: its callee keeps a contract, is linked, and has room -/
def MCall (S : MSc) (R : Room) (o : Nat) (F : Nat → MF) (m : MI) : Prop := match m with
  | (_, a, b, c, _, _, tb) => ∃ (y : MethodName) (bytes : ByteArray) (maxL : Nat) (ret : Option FieldType) (rm : Room) (n : Nat), MCt S y bytes maxL ret rm (F b) ∧ MYk y bytes maxL ret n ∧ (rm.cells = 0 ∧ rm.slots = 0 ∧ rm.frames + 1 ≤ R.frames ∧ 8 + (maxL + 11) + rm.locals ≤ R.locals) ∧ match tb with
    | [] => MLk (ownN o) a y ∧ Cond.static y ∈ mTs ∧ c = n
    | (_, k) :: _ => Cond.methodLink (ownN o) a y ∈ mTs ∧ MYv y ∧ c = n + 1 ∧ y.cls = clN k ∧ k < 7
def isCall (m : MI) : Bool := Nat.beq m.1 40 || (Nat.beq m.1 41 || (Nat.beq m.1 42 || Nat.beq m.1 43))
def allC (S : MSc) (R : Room) (o : Nat) (F : Nat → MF) : List MI → Prop
  | [] => True
  | m :: l => MCall S R o F m ∧ allC S R o F l
theorem allC_at {S : MSc} {R : Room} {o : Nat} {F : Nat → MF} : ∀ {l : List MI}, allC S R o F l → ∀ m ∈ l, MCall S R o F m
  | [], _, m, h => absurd h List.not_mem_nil
  | a :: l, h, m, hm => by
    rcases List.mem_cons.mp hm with rfl | hm
    · exact h.1
    · exact allC_at h.2 m hm
