-- THE CONSTRUCTORS
theorem act_of {o nL n : Nat} {y : MethodName} {cc : ByteArray} {rm : Room} {F : Nat → AF} {cost : Nat → Nat × Nat} {cd : List MI} (hy : plainFor y = true) (hcls : y.cls = ownN o) (hname : y.name = "<init>") (hck : aCk o nL cc cd = true) (hcall : allA rm o F cost (cd.filter isMk)) (hR : 1 ≤ rm.frames ∧ 20 ≤ rm.locals) (h1 : 1 ≤ nL) (hns : cd.all (fun m => !(Nat.beq m.1 65)) = true) : ACt y cc nL rm (aFn F cost (rm.cells, rm.slots) cd n) := by
  intro l dA D A as hp hp' i hok1 hi hf
  unfold aFn at hf
  cases hrun : arun F cost (rm.cells, rm.slots) cd n 0 [(0, .inr (.inr (some i)))] [] (hp, (0, 0)) with
  | none =>
    rw [hrun] at hf
    cases hf
  | some res =>
    rw [hrun] at hf
    obtain ⟨⟨hq, cs, ss⟩, loc⟩ := res
    have hf : (match aRm (rm.cells, rm.slots) (hq, (cs, ss)) 0 0 with
      | true => some hq
      | false => none) = some hp' := hf
    cases hrm : aRm (rm.cells, rm.slots) (hq, (cs, ss)) 0 0 with
    | false =>
      rw [hrm] at hf
      cases hf
    | true =>
    rw [hrm] at hf
    have hf : hq = hp' := Option.some.inj hf
    subst hf
    simp only [aRm, Bool.and_eq_true] at hrm
    have hc1 : cs ≤ rm.cells := Nat.ble_eq.mp hrm.1
    have hc2 : ss ≤ rm.slots := Nat.ble_eq.mp hrm.2
    refine va_MetF (cc := cc) (maxL := nL) (ret := none) hy rfl ?_
    intro p e s m args below meth c s₁ B hml hv
    obtain ⟨rfl, hP, hD, hK, hwd, hO, hA⟩ := hv
    have hx := B.exec
    have hb := B.bytes
    have hr := B.returns
    have hown : s.vm.findClass (ownN o) = some m.cls := by
      have h := findClass_of_methodNamed B.named
      rw [hcls] at h
      exact h
    have hini : meth.name = "<init>" := by
      rw [(name_of_methodNamed B.named B.method).1, hname]
    rw [lg_entry_eq]
    have hl := lv_entry [Value.ref (as i)] (n := nL) h1
    have e0 : apcs cd 0 = 0 := by cases cd <;> rfl
    have key := a_sound (p := p) (l := l) (e := e) (R := rm) (s := s) (m := m) (args := [Value.ref (as i)].toArray) (below := below) (meth := meth) (c := c) (Q := MQ below (fun _ st o t => aQ dA D A hp.length as hq st o t) [Value.ref (as i)].toArray s rm.cells rm.slots A) (o := o) (nL := nL) (cc := cc) (dA := dA) (D := D) (A := A) hx hb hml hown (fun _ => hini) hwd hK hO hA hR F cost cd hck hcall hp.length as ((hq, (cs, ss)), loc) ?_ n 0 [(0, .inr (.inr (some i)))] [] (hp, (0, 0)) hrun as (fun _ _ => rfl) (Nat.le_refl _) hok1 (forall2 hi (fun q hq => absurd hq List.not_mem_nil)) (fun w hw => absurd hw List.not_mem_nil) s.heap [] _ hP hD va_S.rf hl
    · rw [e0] at key
      exact key
    · intro i2 op a b d x z tb as2 H locs ls hi2 hop hdec hag hok2 hn2 hlo2 hP2 hD2 hS2 hl2
      rcases hop with rfl | rfl
      · refine W.widen (k := rm.cells) (n := rm.slots) hc1 hc2 ?_
        exact W.vret hx hb hr (fun t ht hW => ⟨rfl, ⟨as2, hag, by rw [ht]; exact hP2, hD2, hok2, hn2⟩, hS2.F ht⟩) hS2.2.2 (hdec rfl)
      · have h65 := List.all_eq_true.mp hns _ (nth_lt hi2).2
        cases h65
def adX2 : List MI := [(8, 0, 0, 0, 0, 0, []), (62, 1, 0, 0, 0, 0, []), (8, 0, 0, 0, 0, 0, []), (0, 0, 0, 0, 0, 0, []), (31, 7, 2, 0, 0, 0, []), (8, 0, 0, 0, 0, 0, []), (0, 0, 0, 0, 0, 0, []), (31, 13, 2, 1, 0, 0, []), (53, 0, 0, 0, 0, 0, [])]
def arX2 : Room := { frames := 1, cells := 0, slots := 0, locals := 20 }
def aFX2 : Nat → AF := fun _ _ _ => none
def acX2 : Nat → Nat × Nat := fun _ => (0, 0)
def afX2 : AF := aFn aFX2 acX2 (0, 0) adX2 14
theorem akX2 : aCk 2 1 cX2_init adX2 = true := by decide +kernel
theorem ayX2 : MYk yX2_init cX2_init 1 none 0 := ⟨mTs_of 141 (by decide +kernel) (by decide +kernel), mTs_of 7 (by decide +kernel) (by decide +kernel), by decide +kernel, by decide +kernel⟩
theorem aiX2 : Cond.instanceMethod yX2_init ∈ mTs := mTs_of 140 (by decide +kernel) (by decide +kernel)
theorem alX2 : allA arX2 2 aFX2 acX2 (adX2.filter isMk) := trivial
theorem atX2 : ACt yX2_init cX2_init 1 arX2 afX2 := act_of (o := 2) (by decide +kernel) rfl rfl akX2 alX2 ⟨by decide, by decide⟩ (by decide) (by decide +kernel)
def adX4 : List MI := [(8, 0, 0, 0, 0, 0, []), (62, 1, 0, 0, 0, 0, []), (8, 0, 0, 0, 0, 0, []), (0, 0, 0, 0, 0, 0, []), (31, 7, 4, 0, 0, 0, []), (8, 0, 0, 0, 0, 0, []), (0, 0, 0, 0, 0, 0, []), (31, 13, 4, 1, 0, 0, []), (8, 0, 0, 0, 0, 0, []), (0, 0, 0, 0, 0, 0, []), (31, 16, 4, 2, 0, 0, []), (8, 0, 0, 0, 0, 0, []), (0, 0, 0, 0, 0, 0, []), (31, 19, 4, 3, 0, 0, []), (8, 0, 0, 0, 0, 0, []), (0, 0, 0, 0, 0, 0, []), (31, 22, 4, 4, 0, 0, []), (8, 0, 0, 0, 0, 0, []), (0, 0, 0, 0, 0, 0, []), (31, 25, 4, 5, 0, 0, []), (8, 0, 0, 0, 0, 0, []), (0, 0, 0, 0, 0, 0, []), (31, 28, 4, 6, 0, 0, []), (53, 0, 0, 0, 0, 0, [])]
def arX4 : Room := { frames := 1, cells := 0, slots := 0, locals := 20 }
def aFX4 : Nat → AF := fun _ _ _ => none
def acX4 : Nat → Nat × Nat := fun _ => (0, 0)
def afX4 : AF := aFn aFX4 acX4 (0, 0) adX4 29
theorem akX4 : aCk 4 1 cX4_init adX4 = true := by decide +kernel
theorem ayX4 : MYk yX4_init cX4_init 1 none 0 := ⟨mTs_of 24 (by decide +kernel) (by decide +kernel), mTs_of 2 (by decide +kernel) (by decide +kernel), by decide +kernel, by decide +kernel⟩
theorem aiX4 : Cond.instanceMethod yX4_init ∈ mTs := mTs_of 23 (by decide +kernel) (by decide +kernel)
theorem alX4 : allA arX4 4 aFX4 acX4 (adX4.filter isMk) := trivial
theorem atX4 : ACt yX4_init cX4_init 1 arX4 afX4 := act_of (o := 4) (by decide +kernel) rfl rfl akX4 alX4 ⟨by decide, by decide⟩ (by decide) (by decide +kernel)
def adX5 : List MI := [(8, 0, 0, 0, 0, 0, []), (62, 1, 0, 0, 0, 0, []), (8, 0, 0, 0, 0, 0, []), (2, 0, 0, 0, 600, 0, []), (31, 7, 5, 0, 0, 0, []), (8, 0, 0, 0, 0, 0, []), (1, 0, 0, 0, 100, 0, []), (31, 13, 5, 1, 0, 0, []), (8, 0, 0, 0, 0, 0, []), (1, 0, 0, 0, 50, 0, []), (31, 16, 5, 2, 0, 0, []), (53, 0, 0, 0, 0, 0, [])]
def arX5 : Room := { frames := 1, cells := 0, slots := 0, locals := 20 }
def aFX5 : Nat → AF := fun _ _ _ => none
def acX5 : Nat → Nat × Nat := fun _ => (0, 0)
def afX5 : AF := aFn aFX5 acX5 (0, 0) adX5 17
theorem akX5 : aCk 5 1 cX5_init adX5 = true := by decide +kernel
theorem ayX5 : MYk yX5_init cX5_init 1 none 0 := ⟨mTs_of 97 (by decide +kernel) (by decide +kernel), mTs_of 5 (by decide +kernel) (by decide +kernel), by decide +kernel, by decide +kernel⟩
theorem aiX5 : Cond.instanceMethod yX5_init ∈ mTs := mTs_of 96 (by decide +kernel) (by decide +kernel)
theorem alX5 : allA arX5 5 aFX5 acX5 (adX5.filter isMk) := trivial
theorem atX5 : ACt yX5_init cX5_init 1 arX5 afX5 := act_of (o := 5) (by decide +kernel) rfl rfl akX5 alX5 ⟨by decide, by decide⟩ (by decide) (by decide +kernel)
def adX1 : List MI := [(8, 0, 0, 0, 0, 0, []), (62, 3, 0, 0, 0, 0, []), (8, 0, 0, 0, 0, 0, []), (0, 0, 0, 0, 0, 0, []), (31, 9, 1, 0, 0, 0, []), (8, 0, 0, 0, 0, 0, []), (2, 0, 0, 0, 1000, 0, []), (31, 15, 1, 1, 0, 0, []), (8, 0, 0, 0, 0, 0, []), (0, 0, 0, 0, 0, 0, []), (31, 18, 1, 2, 0, 0, []), (8, 0, 0, 0, 0, 0, []), (2, 0, 0, 0, 1000, 0, []), (31, 21, 1, 3, 0, 0, []), (8, 0, 0, 0, 0, 0, []), (1, 0, 0, 0, 20, 0, []), (31, 24, 1, 4, 0, 0, []), (8, 0, 0, 0, 0, 0, []), (1, 0, 0, 0, 11, 0, []), (58, 0, 100, 10, 0, 0, []), (60, 27, 1, 5, 0, 0, []), (53, 0, 0, 0, 0, 0, [])]
def arX1 : Room := { frames := 1, cells := 1, slots := 11, locals := 20 }
def aFX1 : Nat → AF := fun _ _ _ => none
def acX1 : Nat → Nat × Nat := fun _ => (0, 0)
def afX1 : AF := aFn aFX1 acX1 (1, 11) adX1 27
theorem akX1 : aCk 1 1 cX1_init adX1 = true := by decide +kernel
theorem ayX1 : MYk yX1_init cX1_init 1 none 0 := ⟨mTs_of 115 (by decide +kernel) (by decide +kernel), mTs_of 6 (by decide +kernel) (by decide +kernel), by decide +kernel, by decide +kernel⟩
theorem aiX1 : Cond.instanceMethod yX1_init ∈ mTs := mTs_of 114 (by decide +kernel) (by decide +kernel)
theorem alX1 : allA arX1 1 aFX1 acX1 (adX1.filter isMk) := trivial
theorem atX1 : ACt yX1_init cX1_init 1 arX1 afX1 := act_of (o := 1) (by decide +kernel) rfl rfl akX1 alX1 ⟨by decide, by decide⟩ (by decide) (by decide +kernel)
def adX3 : List MI := [(8, 0, 0, 0, 0, 0, []), (62, 3, 0, 0, 0, 0, []), (8, 0, 0, 0, 0, 0, []), (1, 0, 0, 0, 100, 0, []), (58, 0, 101, 14, 0, 0, []), (60, 9, 3, 0, 0, 0, []), (8, 0, 0, 0, 0, 0, []), (0, 0, 0, 0, 0, 0, []), (31, 15, 3, 1, 0, 0, []), (8, 0, 0, 0, 0, 0, []), (0, 0, 0, 0, 0, 0, []), (31, 19, 3, 2, 0, 0, []), (8, 0, 0, 0, 0, 0, []), (0, 0, 0, 0, 0, 0, []), (31, 22, 3, 3, 0, 0, []), (8, 0, 0, 0, 0, 0, []), (1, 0, 0, 0, 125, 0, []), (58, 0, 100, 15, 0, 0, []), (60, 25, 3, 4, 0, 0, []), (53, 0, 0, 0, 0, 0, [])]
def arX3 : Room := { frames := 1, cells := 2, slots := 225, locals := 20 }
def aFX3 : Nat → AF := fun _ _ _ => none
def acX3 : Nat → Nat × Nat := fun _ => (0, 0)
def afX3 : AF := aFn aFX3 acX3 (2, 225) adX3 25
theorem akX3 : aCk 3 1 cX3_init adX3 = true := by decide +kernel
theorem ayX3 : MYk yX3_init cX3_init 1 none 0 := ⟨mTs_of 60 (by decide +kernel) (by decide +kernel), mTs_of 3 (by decide +kernel) (by decide +kernel), by decide +kernel, by decide +kernel⟩
theorem aiX3 : Cond.instanceMethod yX3_init ∈ mTs := mTs_of 59 (by decide +kernel) (by decide +kernel)
theorem alX3 : allA arX3 3 aFX3 acX3 (adX3.filter isMk) := trivial
theorem atX3 : ACt yX3_init cX3_init 1 arX3 afX3 := act_of (o := 3) (by decide +kernel) rfl rfl akX3 alX3 ⟨by decide, by decide⟩ (by decide) (by decide +kernel)
def adX0 : List MI := [(8, 0, 0, 0, 0, 0, []), (62, 3, 0, 0, 0, 0, []), (8, 0, 0, 0, 0, 0, []), (0, 0, 0, 0, 3, 0, []), (31, 9, 0, 0, 0, 0, []), (8, 0, 0, 0, 0, 0, []), (1, 0, 0, 0, 40, 0, []), (31, 15, 0, 1, 0, 0, []), (8, 0, 0, 0, 0, 0, []), (2, 0, 0, 0, 200, 0, []), (31, 18, 0, 2, 0, 0, []), (8, 0, 0, 0, 0, 0, []), (1, 0, 0, 0, 50, 0, []), (31, 21, 0, 3, 0, 0, []), (8, 0, 0, 0, 0, 0, []), (0, 0, 0, 0, 0, 0, []), (31, 24, 0, 4, 0, 0, []), (8, 0, 0, 0, 0, 0, []), (0, 0, 0, 0, 0, 0, []), (31, 27, 0, 5, 0, 0, []), (8, 0, 0, 0, 0, 0, []), (0, 0, 0, 0, 0, 0, []), (31, 30, 0, 6, 0, 0, []), (8, 0, 0, 0, 0, 0, []), (0, 0, 0, 0, 0, 0, []), (31, 33, 0, 7, 0, 0, []), (8, 0, 0, 0, 0, 0, []), (0, 0, 0, 0, 0, 0, []), (31, 36, 0, 8, 0, 0, []), (8, 0, 0, 0, 0, 0, []), (1, 0, 0, 0, 6, 0, []), (59, 39, 0, 3, 0, 0, [(0, 5)]), (60, 41, 0, 9, 0, 0, []), (8, 0, 0, 0, 0, 0, []), (0, 0, 0, 0, 4, 0, []), (59, 45, 0, 4, 0, 0, [(0, 1)]), (60, 47, 0, 10, 0, 0, []), (8, 0, 0, 0, 0, 0, []), (1, 0, 0, 0, 8, 0, []), (59, 51, 0, 5, 0, 0, [(0, 2)]), (60, 53, 0, 11, 0, 0, []), (8, 0, 0, 0, 0, 0, []), (1, 0, 0, 0, 6, 0, []), (59, 57, 0, 6, 0, 0, [(0, 4)]), (60, 59, 0, 12, 0, 0, []), (8, 0, 0, 0, 0, 0, []), (1, 0, 0, 0, 7, 0, []), (58, 0, 100, 7, 0, 0, []), (60, 63, 0, 13, 0, 0, []), (0, 0, 0, 0, 0, 0, []), (9, 1, 0, 0, 0, 0, []), (6, 1, 0, 0, 0, 0, []), (1, 0, 0, 0, 6, 0, []), (25, 63, 3, 0, 0, 0, []), (8, 0, 0, 0, 0, 0, []), (30, 41, 0, 9, 0, 0, []), (6, 1, 0, 0, 0, 0, []), (57, 39, 5, 0, 0, 0, []), (21, 0, 0, 0, 0, 0, []), (63, 67, 0, 0, 0, 0, []), (61, 0, 0, 0, 0, 0, []), (11, 1, 0, 0, 1, 0, []), (26, 51, 0, 0, 0, 0, []), (0, 0, 0, 0, 0, 0, []), (9, 1, 0, 0, 0, 0, []), (6, 1, 0, 0, 0, 0, []), (0, 0, 0, 0, 4, 0, []), (25, 77, 3, 0, 0, 0, []), (8, 0, 0, 0, 0, 0, []), (30, 47, 0, 10, 0, 0, []), (6, 1, 0, 0, 0, 0, []), (57, 45, 1, 0, 0, 0, []), (21, 0, 0, 0, 0, 0, []), (63, 68, 1, 0, 0, 0, []), (61, 0, 0, 0, 0, 0, []), (11, 1, 0, 0, 1, 0, []), (26, 65, 0, 0, 0, 0, []), (0, 0, 0, 0, 0, 0, []), (9, 1, 0, 0, 0, 0, []), (6, 1, 0, 0, 0, 0, []), (1, 0, 0, 0, 8, 0, []), (25, 91, 3, 0, 0, 0, []), (8, 0, 0, 0, 0, 0, []), (30, 53, 0, 11, 0, 0, []), (6, 1, 0, 0, 0, 0, []), (57, 51, 2, 0, 0, 0, []), (21, 0, 0, 0, 0, 0, []), (63, 69, 2, 0, 0, 0, []), (61, 0, 0, 0, 0, 0, []), (11, 1, 0, 0, 1, 0, []), (26, 79, 0, 0, 0, 0, []), (0, 0, 0, 0, 0, 0, []), (9, 1, 0, 0, 0, 0, []), (6, 1, 0, 0, 0, 0, []), (1, 0, 0, 0, 6, 0, []), (25, 105, 3, 0, 0, 0, []), (8, 0, 0, 0, 0, 0, []), (30, 59, 0, 12, 0, 0, []), (6, 1, 0, 0, 0, 0, []), (57, 57, 4, 0, 0, 0, []), (21, 0, 0, 0, 0, 0, []), (63, 70, 3, 0, 0, 0, []), (61, 0, 0, 0, 0, 0, []), (11, 1, 0, 0, 1, 0, []), (26, 93, 0, 0, 0, 0, []), (53, 0, 0, 0, 0, 0, [])]
def arX0 : Room := { frames := 2, cells := 33, slots := 175, locals := 40 }
def aFX0 : Nat → AF := fun k => match k with
  | 0 => afX5
  | 1 => afX1
  | 2 => afX2
  | 3 => afX4
  | _ => fun _ _ => none
def acX0 : Nat → Nat × Nat := fun k => match k with
  | 0 => (0, 0)
  | 1 => (1, 11)
  | 2 => (0, 0)
  | 3 => (0, 0)
  | _ => (0, 0)
def afX0 : AF := aFn aFX0 acX0 (33, 175) adX0 363
theorem akX0 : aCk 0 2 cX0_init adX0 = true := by decide +kernel
theorem ayX0 : MYk yX0_init cX0_init 2 none 0 := ⟨mTs_of 84 (by decide +kernel) (by decide +kernel), mTs_of 4 (by decide +kernel) (by decide +kernel), by decide +kernel, by decide +kernel⟩
theorem aiX0 : Cond.instanceMethod yX0_init ∈ mTs := mTs_of 83 (by decide +kernel) (by decide +kernel)
theorem alX0 : allA arX0 0 aFX0 acX0 (adX0.filter isMk) := (show ACall arX0 0 aFX0 acX0 (63, 67, 0, 0, 0, 0, []) ∧ ACall arX0 0 aFX0 acX0 (63, 68, 1, 0, 0, 0, []) ∧ ACall arX0 0 aFX0 acX0 (63, 69, 2, 0, 0, 0, []) ∧ ACall arX0 0 aFX0 acX0 (63, 70, 3, 0, 0, 0, []) ∧ True from ⟨⟨yX5_init, cX5_init, 1, arX5, atX5, ayX5, ⟨rfl, rfl⟩, ⟨by decide, by decide⟩, rfl, aiX5, Or.inr ⟨"CiderShop", mTs_of 95 (by decide +kernel) (by decide +kernel)⟩⟩, ⟨yX1_init, cX1_init, 1, arX1, atX1, ayX1, ⟨rfl, rfl⟩, ⟨by decide, by decide⟩, rfl, aiX1, Or.inr ⟨"CiderShop", mTs_of 113 (by decide +kernel) (by decide +kernel)⟩⟩, ⟨yX2_init, cX2_init, 1, arX2, atX2, ayX2, ⟨rfl, rfl⟩, ⟨by decide, by decide⟩, rfl, aiX2, Or.inr ⟨"CiderShop", mTs_of 139 (by decide +kernel) (by decide +kernel)⟩⟩, ⟨yX4_init, cX4_init, 1, arX4, atX4, ayX4, ⟨rfl, rfl⟩, ⟨by decide, by decide⟩, rfl, aiX4, Or.inr ⟨"CiderShop", mTs_of 154 (by decide +kernel) (by decide +kernel)⟩⟩, trivial⟩)
theorem atX0 : ACt yX0_init cX0_init 2 arX0 afX0 := act_of (o := 0) (by decide +kernel) rfl rfl akX0 alX0 ⟨by decide, by decide⟩ (by decide) (by decide +kernel)
def adX6 : List MI := [(8, 0, 0, 0, 0, 0, []), (62, 3, 0, 0, 0, 0, []), (8, 0, 0, 0, 0, 0, []), (1, 0, 0, 0, 8, 0, []), (59, 9, 0, 1, 0, 0, [(0, 0)]), (60, 11, 6, 0, 0, 0, []), (8, 0, 0, 0, 0, 0, []), (57, 15, 4, 0, 0, 0, []), (21, 0, 0, 0, 0, 0, []), (63, 17, 0, 0, 0, 0, []), (60, 18, 6, 1, 0, 0, []), (8, 0, 0, 0, 0, 0, []), (57, 22, 3, 0, 0, 0, []), (21, 0, 0, 0, 0, 0, []), (63, 24, 1, 0, 0, 0, []), (60, 25, 6, 2, 0, 0, []), (8, 0, 0, 0, 0, 0, []), (0, 0, 0, 0, 0, 0, []), (31, 29, 6, 3, 0, 0, []), (8, 0, 0, 0, 0, 0, []), (0, 0, 0, 0, 0, 0, []), (31, 33, 6, 4, 0, 0, []), (8, 0, 0, 0, 0, 0, []), (0, 0, 0, 0, 0, 0, []), (31, 36, 6, 5, 0, 0, []), (0, 0, 0, 0, 0, 0, []), (9, 1, 0, 0, 0, 0, []), (6, 1, 0, 0, 0, 0, []), (1, 0, 0, 0, 8, 0, []), (25, 39, 3, 0, 0, 0, []), (8, 0, 0, 0, 0, 0, []), (30, 11, 6, 0, 0, 0, []), (6, 1, 0, 0, 0, 0, []), (57, 9, 0, 0, 0, 0, []), (21, 0, 0, 0, 0, 0, []), (63, 39, 2, 0, 0, 0, []), (61, 0, 0, 0, 0, 0, []), (11, 1, 0, 0, 1, 0, []), (26, 27, 0, 0, 0, 0, []), (53, 0, 0, 0, 0, 0, [])]
def arX6 : Room := { frames := 3, cells := 277, slots := 1757, locals := 61 }
def aFX6 : Nat → AF := fun k => match k with
  | 0 => afX4
  | 1 => afX3
  | 2 => afX0
  | _ => fun _ _ => none
def acX6 : Nat → Nat × Nat := fun k => match k with
  | 0 => (0, 0)
  | 1 => (2, 225)
  | 2 => (33, 175)
  | _ => (0, 0)
def afX6 : AF := aFn aFX6 acX6 (277, 1757) adX6 132
theorem akX6 : aCk 6 2 cX6_init adX6 = true := by decide +kernel
theorem ayX6 : MYk yX6_init cX6_init 2 none 0 := ⟨mTs_of 14 (by decide +kernel) (by decide +kernel), mTs_of 1 (by decide +kernel) (by decide +kernel), by decide +kernel, by decide +kernel⟩
theorem aiX6 : Cond.instanceMethod yX6_init ∈ mTs := mTs_of 13 (by decide +kernel) (by decide +kernel)
theorem alX6 : allA arX6 6 aFX6 acX6 (adX6.filter isMk) := (show ACall arX6 6 aFX6 acX6 (63, 17, 0, 0, 0, 0, []) ∧ ACall arX6 6 aFX6 acX6 (63, 24, 1, 0, 0, 0, []) ∧ ACall arX6 6 aFX6 acX6 (63, 39, 2, 0, 0, 0, []) ∧ True from ⟨⟨yX4_init, cX4_init, 1, arX4, atX4, ayX4, ⟨rfl, rfl⟩, ⟨by decide, by decide⟩, rfl, aiX4, Or.inr ⟨"CiderShop", mTs_of 22 (by decide +kernel) (by decide +kernel)⟩⟩, ⟨yX3_init, cX3_init, 1, arX3, atX3, ayX3, ⟨rfl, rfl⟩, ⟨by decide, by decide⟩, rfl, aiX3, Or.inr ⟨"CiderShop", mTs_of 58 (by decide +kernel) (by decide +kernel)⟩⟩, ⟨yX0_init, cX0_init, 2, arX0, atX0, ayX0, ⟨rfl, rfl⟩, ⟨by decide, by decide⟩, rfl, aiX0, Or.inl (mTs_of 82 (by decide +kernel) (by decide +kernel))⟩, trivial⟩)
theorem atX6 : ACt yX6_init cX6_init 2 arX6 afX6 := act_of (o := 6) (by decide +kernel) rfl rfl akX6 alX6 ⟨by decide, by decide⟩ (by decide) (by decide +kernel)
