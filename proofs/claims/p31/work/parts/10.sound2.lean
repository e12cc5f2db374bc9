theorem mTs_native : Cond.native arraycopyName ∈ mTs := mTs_of 339 (by decide +kernel) (by decide +kernel)
theorem mTs_acst : Cond.static arraycopyName ∈ mTs := mTs_of 338 (by decide +kernel) (by decide +kernel)
theorem mTs_sysin : Cond.initialized "java/lang/System" ∈ mTs := mTs_of 8 (by decide +kernel) (by decide +kernel)
theorem no_of {x : MM × Option MV} {P : Prop} (h : (none : MR) = some x) : P := by cases h
theorem forall2 {α : Type} {P : α → Prop} {a : α} {l : List α} (h : P a) (hl : ∀ w ∈ l, P w) : ∀ w ∈ a :: l, P w := List.forall_mem_cons.mpr ⟨h, hl⟩
theorem ok1 {st : List MV} {w : MV} (h : ∀ u ∈ w :: st, mOk u) : mOk w := h w List.mem_cons_self
theorem okT {st : List MV} {w : MV} (h : ∀ u ∈ w :: st, mOk u) : ∀ u ∈ st, mOk u := fun u hu => h u (List.mem_cons_of_mem _ hu)
theorem ioff_ok {cd : List MI} {i a : Nat} : ((pcs cd i : Nat) : Int) + ioff cd i a = ((pcs cd a : Nat) : Int) := by
  unfold ioff
  omega
theorem mIn_vp {k : Int32} {n : Nat} (h : mIn k n) : vp_in k n := by
  intro z
  rcases z with z | z
  · exact absurd h.1 (Int32.not_le.mpr z)
  · exact absurd h.2 (by omega)
-- SOUNDNESS for a code whose beginning is not the small machine's
def CkP (o nL rk : Nat) (cc : ByteArray) (cd : List MI) : Prop := ∀ (i : Nat) (m : MI), nth cd i = some m → m.1 ≠ 200 → decode cc (pcs cd i) = .ok (toI cd i m, ilen m) ∧ okI o nL rk m = true ∧ m.1 ∈ opL
/-- a part of the code is the class file's: k instructions from a on -/
def ckR (o nL rk : Nat) (cc : ByteArray) (cd : List MI) (a k : Nat) : Bool := (List.range k).all (fun j => match nth cd (a + j) with
  | some m => Nat.beq m.1 200 || (decide (decode cc (pcs cd (a + j)) = .ok (toI cd (a + j) m, ilen m)) && (okI o nL rk m && opL.contains m.1))
  | none => true)
theorem mCk_P {o nL rk : Nat} {cc : ByteArray} {cd : List MI} (h : mCk o nL rk cc cd = true) : CkP o nL rk cc cd := fun _ _ hi _ => mCk_at h hi
theorem ckR_at {o nL rk a k : Nat} {cc : ByteArray} {cd : List MI} (h : ckR o nL rk cc cd a k = true) {i : Nat} {m : MI} (hi : nth cd i = some m) (hne : m.1 ≠ 200) (h1 : a ≤ i) (h2 : i < a + k) : decode cc (pcs cd i) = .ok (toI cd i m, ilen m) ∧ okI o nL rk m = true ∧ m.1 ∈ opL := by
  obtain ⟨j, rfl⟩ : ∃ j, i = a + j := ⟨i - a, by omega⟩
  have h1 := List.all_eq_true.mp h j (List.mem_range.mpr (by omega))
  rw [hi] at h1
  have h2 : (Nat.beq m.1 200 || (decide (decode cc (pcs cd (a + j)) = .ok (toI cd (a + j) m, ilen m)) && (okI o nL rk m && opL.contains m.1))) = true := h1
  rw [Bool.or_eq_true] at h2
  rcases h2 with h2 | h2
  · exact absurd (Nat.eq_of_beq_eq_true h2) hne
  · simpa using h2
section
variable {p : Program} {l : Launch} {e : Env} {R : Room} {s : State} {m : MethodId} {args : Array Value} {below : List Frame} {meth : Method} {c : Code} {cells slots : Nat} {Q : State → Prop}
set_option maxHeartbeats 8000000 in
set_option maxRecDepth 100000 in
theorem run_sound {o nL rk : Nat} {cc : ByteArray} (G : MG) (hx : p.tables.exec = Jvm.exec) (hb : c.code = cc) (hml : c.maxLocals = nL) (hown : s.vm.findClass (ownN o) = some m.cls) (hwd : MWd s) (hK : va_K G.2.2.1 vwCl (mTys G.2.1) s) (hS0 : MSt G s s.heap) (hcs : cells ≤ R.cells ∧ slots ≤ R.slots) (F : Nat → MF) (cd : List MI) (hck : CkP o nL rk cc cd) (hcall : allC G.2.2.2.2 R o F (cd.filter isCall)) (hac : (∃ i a b d x y tb, nth cd i = some (38, a, b, d, x, y, tb)) → 1 ≤ R.frames ∧ 8 + (nativeFrameWords "java/lang/System" "arraycopy" 5 + 11) ≤ R.locals) (hscr : (∃ i op a b d x y tb, nth cd i = some (op, a, b, d, x, y, tb) ∧ 55 ≤ op) → ∃ (L : Nat) (xs : Nat → Int32), G.1 (22, 0, 0) < s.heap.size ∧ ¬ G.2.2.2.1 (G.1 (22, 0, 0)) ∧ va_X (G.1 (22, 0, 0)) L xs s s.heap ∧ (∀ k v r, F 99 v [.inl k] = some r → vp_in k L ∧ r.2 = some (.inl (xs k.toNatClampNeg))) ∧ (∀ v r, F 98 v [] = some r → r.2 = some (.inl (Int32.ofNat L)))) (res : MM × Option MV)
    (hret : ∀ (i op a b d : Nat) (x : Int32) (y : Int64) (tb : List (Int32 × Nat)) (stk : List MV) (v : MM) (H : Heap) (locs : List Loc) (ls : Array Slot), nth cd i = some (op, a, b, d, x, y, tb) → 50 ≤ op → op ≤ 54 → decode cc (pcs cd i) = .ok (toI cd i (op, a, b, d, x, y, tb), 1) → okI o nL rk (op, a, b, d, x, y, tb) = true → MRet op stk v res → (∀ w ∈ stk, mOk w) → va_P G.2.2.1 vwCl (gW G v) H → va_S G.2.2.2.1 s.heap H locs → W p l e R s m args below meth c H locs cells slots Q (F0 m (pcs cd i) ls (stk.map (gV G)))) :
    ∀ (n i : Nat) (loc : ML) (st : List MV) (v : MM), run F cd n i loc st v = some res → (∀ q ∈ loc, mOk q.2) → (∀ w ∈ st, mOk w) → ∀ (H : Heap) (locs : List Loc) (ls : Array Slot), va_P G.2.2.1 vwCl (gW G v) H → va_D G.2.2.2.1 (gW G v) → va_S G.2.2.2.1 s.heap H locs → lv_has ls nL (gL G loc) → W p l e R s m args below meth c H locs cells slots Q (F0 m (pcs cd i) ls (st.map (gV G))) := by
  have hts := MWd.any (State.WarmedH.refl s) hwd args
  intro n
  induction n with
  | zero =>
    intro i loc st v h
    exact no_of h
  | succ n ih =>
    intro i loc st v h hlo hst H locs ls hP hD hS hl
    have h : stp F cd (run F cd n) i loc st v = some res := h
    unfold stp at h
    cases hi : nth cd i with
    | none =>
      rw [hi] at h
      cases h
    | some mi =>
      rw [hi] at h
      obtain ⟨op, a, b, d, x, y, tb⟩ := mi
      by_cases h200 : op = 200
      · subst h200
        exact no_of h
      obtain ⟨hd, hok, hop⟩ := hck i _ hi h200
      have hpc := pcs_succ hi
      have hls : ls.size = nL := hl.1
      have hop : op ∈ opL := hop
      simp only [opL, List.mem_cons, List.not_mem_nil, or_false] at hop
      rcases hop with rfl | rfl | rfl | rfl | rfl | rfl | rfl | rfl | rfl | rfl | rfl | rfl | rfl | rfl | rfl | rfl | rfl | rfl | rfl | rfl | rfl | rfl | rfl | rfl | rfl | rfl | rfl | rfl | rfl | rfl | rfl | rfl | rfl | rfl | rfl | rfl | rfl | rfl | rfl | rfl | rfl | rfl | rfl | rfl | rfl | rfl | rfl | rfl | rfl
      · -- 0
        have hpc : pcs cd (i + 1) = pcs cd i + 1 := hpc
        refine lv_iconst (n := x.toInt) (v := x) hx hb hd (Int32.ofInt_toInt x) ?_
        rw [← hpc]
        exact ih (i + 1) loc (.inl x :: st) v h hlo (forall2 trivial hst) H locs ls hP hD hS hl
      · -- 1
        have hpc : pcs cd (i + 1) = pcs cd i + 2 := hpc
        have hk := of_decide_eq_true hok
        refine lv_bipush (n := x.toInt) (v := x) hx hb hd hk ?_
        rw [← hpc]
        exact ih (i + 1) loc (.inl x :: st) v h hlo (forall2 trivial hst) H locs ls hP hD hS hl
      · -- 2
        have hpc : pcs cd (i + 1) = pcs cd i + 3 := hpc
        have hk := of_decide_eq_true hok
        refine lv_sipush (n := x.toInt) (v := x) hx hb hd hk ?_
        rw [← hpc]
        exact ih (i + 1) loc (.inl x :: st) v h hlo (forall2 trivial hst) H locs ls hP hD hS hl
      · -- 3
        have hpc : pcs cd (i + 1) = pcs cd i + 1 := hpc
        have hk : y = 0 ∨ y = 1 := by
          have hok : (decide (y = 0) || decide (y = 1)) = true := hok
          simpa using hok
        refine lv_lconst (n := if y = 0 then 0 else 1) (v := y) hx hb hd (by rcases hk with rfl | rfl <;> rfl) ?_
        rw [← hpc]
        exact ih (i + 1) loc (.inr (.inl y) :: st) v h hlo (forall2 trivial hst) H locs ls hP hD hS hl
      · -- 4
        have hpc : pcs cd (i + 1) = pcs cd i + 3 := hpc
        refine lv_ldc2 (own := ownN o) (index := a) (v := y) hx hb hown (hts _ (cHas_in hok)) hd ?_
        rw [← hpc]
        exact ih (i + 1) loc (.inr (.inl y) :: st) v h hlo (forall2 trivial hst) H locs ls hP hD hS hl
      · -- 5
        have hpc : pcs cd (i + 1) = pcs cd i + 2 := hpc
        refine lv_ldc (own := ownN o) (index := a) (v := x) hx hb hown (hts _ (kHas_in hok)) hd ?_
        rw [← hpc]
        exact ih (i + 1) loc (.inl x :: st) v h hlo (forall2 trivial hst) H locs ls hP hD hS hl
      · -- 6
        have hpc : pcs cd (i + 1) = pcs cd i + (if d = 0 then 1 else 2) := hpc
        cases hk : lk loc a with
        | none =>
          have h : (match lk loc a with
            | some (.inl w) => run F cd n (i + 1) loc (.inl w :: st) v
            | _ => none) = some res := h
          rw [hk] at h
          cases h
        | some u =>
          have h : (match lk loc a with
            | some (.inl w) => run F cd n (i + 1) loc (.inl w :: st) v
            | _ => none) = some res := h
          rw [hk] at h
          obtain ⟨k, hk2⟩ := gL_at (G := G) hk
          have hou := hlo _ (lk_mem hk)
          rcases u with u | u | u
          · have h : run F cd n (i + 1) loc (.inl u :: st) v = some res := h
            by_cases hd0 : d = 0
            · have ha : a < 4 := by
                have hok : (!(Nat.beq d 0) || Nat.blt a 4) = true := hok
                rw [hd0] at hok
                exact Nat.blt_eq.mp hok
              have hd : decode cc (pcs cd i) = .ok (.iload_n (fin4 a), 1) := by
                have e1 : toI cd i (6, a, b, d, x, y, tb) = .iload_n (fin4 a) := if_pos hd0
                have e2 : ilen (6, a, b, d, x, y, tb) = 1 := if_pos hd0
                rw [← e1, ← e2]
                exact hd
              rw [if_pos hd0] at hpc
              refine lv_iload_n hx hb hd (fin4_val ha) (lv_at hl k hk2) ?_
              rw [← hpc]
              exact ih (i + 1) loc (.inl u :: st) v h hlo (forall2 hou hst) H locs ls hP hD hS hl
            · have hd : decode cc (pcs cd i) = .ok (.iload a, 2) := by
                have e1 : toI cd i (6, a, b, d, x, y, tb) = .iload a := if_neg hd0
                have e2 : ilen (6, a, b, d, x, y, tb) = 2 := if_neg hd0
                rw [← e1, ← e2]
                exact hd
              refine lv_iload hx hb hd (lv_at hl k hk2) ?_
              rw [if_neg hd0] at hpc
              rw [← hpc]
              exact ih (i + 1) loc (.inl u :: st) v h hlo (forall2 hou hst) H locs ls hP hD hS hl
          · cases h
          · cases h
      · -- 7
        have hpc : pcs cd (i + 1) = pcs cd i + (if d = 0 then 1 else 2) := hpc
        cases hk : lk loc a with
        | none =>
          have h : (match lk loc a with
            | some (.inr (.inl w)) => run F cd n (i + 1) loc (.inr (.inl w) :: st) v
            | _ => none) = some res := h
          rw [hk] at h
          cases h
        | some u =>
          have h : (match lk loc a with
            | some (.inr (.inl w)) => run F cd n (i + 1) loc (.inr (.inl w) :: st) v
            | _ => none) = some res := h
          rw [hk] at h
          obtain ⟨k, hk2⟩ := gL_at (G := G) hk
          have hou := hlo _ (lk_mem hk)
          rcases u with u | u | u
          · cases h
          · have h : run F cd n (i + 1) loc (.inr (.inl u) :: st) v = some res := h
            by_cases hd0 : d = 0
            · have ha : a < 4 := by
                have hok : (!(Nat.beq d 0) || Nat.blt a 4) = true := hok
                rw [hd0] at hok
                exact Nat.blt_eq.mp hok
              have hd : decode cc (pcs cd i) = .ok (.lload_n (fin4 a), 1) := by
                have e1 : toI cd i (7, a, b, d, x, y, tb) = .lload_n (fin4 a) := if_pos hd0
                have e2 : ilen (7, a, b, d, x, y, tb) = 1 := if_pos hd0
                rw [← e1, ← e2]
                exact hd
              rw [if_pos hd0] at hpc
              refine lv_lload_n hx hb hd (fin4_val ha) (lv_at hl k hk2) ?_
              rw [← hpc]
              exact ih (i + 1) loc (.inr (.inl u) :: st) v h hlo (forall2 hou hst) H locs ls hP hD hS hl
            · have hd : decode cc (pcs cd i) = .ok (.lload a, 2) := by
                have e1 : toI cd i (7, a, b, d, x, y, tb) = .lload a := if_neg hd0
                have e2 : ilen (7, a, b, d, x, y, tb) = 2 := if_neg hd0
                rw [← e1, ← e2]
                exact hd
              refine lv_lload hx hb hd (lv_at hl k hk2) ?_
              rw [if_neg hd0] at hpc
              rw [← hpc]
              exact ih (i + 1) loc (.inr (.inl u) :: st) v h hlo (forall2 hou hst) H locs ls hP hD hS hl
          · cases h
      · -- 8
        have hpc : pcs cd (i + 1) = pcs cd i + (if d = 0 then 1 else 2) := hpc
        cases hk : lk loc a with
        | none =>
          have h : (match lk loc a with
            | some (.inr (.inr w)) => run F cd n (i + 1) loc (.inr (.inr w) :: st) v
            | _ => none) = some res := h
          rw [hk] at h
          cases h
        | some u =>
          have h : (match lk loc a with
            | some (.inr (.inr w)) => run F cd n (i + 1) loc (.inr (.inr w) :: st) v
            | _ => none) = some res := h
          rw [hk] at h
          obtain ⟨k, hk2⟩ := gL_at (G := G) hk
          have hou := hlo _ (lk_mem hk)
          rcases u with u | u | u
          · cases h
          · cases h
          · have h : run F cd n (i + 1) loc (.inr (.inr u) :: st) v = some res := h
            by_cases hd0 : d = 0
            · have ha : a < 4 := by
                have hok : (!(Nat.beq d 0) || Nat.blt a 4) = true := hok
                rw [hd0] at hok
                exact Nat.blt_eq.mp hok
              have hd : decode cc (pcs cd i) = .ok (.aload_n (fin4 a), 1) := by
                have e1 : toI cd i (8, a, b, d, x, y, tb) = .aload_n (fin4 a) := if_pos hd0
                have e2 : ilen (8, a, b, d, x, y, tb) = 1 := if_pos hd0
                rw [← e1, ← e2]
                exact hd
              rw [if_pos hd0] at hpc
              refine lv_aload_n hx hb hd (fin4_val ha) (lv_at hl k hk2) ?_
              rw [← hpc]
              exact ih (i + 1) loc (.inr (.inr u) :: st) v h hlo (forall2 hou hst) H locs ls hP hD hS hl
            · have hd : decode cc (pcs cd i) = .ok (.aload a, 2) := by
                have e1 : toI cd i (8, a, b, d, x, y, tb) = .aload a := if_neg hd0
                have e2 : ilen (8, a, b, d, x, y, tb) = 2 := if_neg hd0
                rw [← e1, ← e2]
                exact hd
              refine lv_aload hx hb hd (lv_at hl k hk2) ?_
              rw [if_neg hd0] at hpc
              rw [← hpc]
              exact ih (i + 1) loc (.inr (.inr u) :: st) v h hlo (forall2 hou hst) H locs ls hP hD hS hl
      · -- 9
        have hpc : pcs cd (i + 1) = pcs cd i + (if d = 0 then 1 else 2) := hpc
        rcases st with _ | ⟨u | u | u, st⟩
        · exact no_of h
        · have h : run F cd n (i + 1) (sto1 loc a (.inl u)) st v = some res := h
          have hok : (Nat.blt a nL && (!(Nat.beq d 0) || Nat.blt a 4)) = true := hok
          rw [Bool.and_eq_true] at hok
          have han : a < nL := Nat.blt_eq.mp hok.1
          by_cases hd0 : d = 0
          · have ha : a < 4 := by
              have hok2 := hok.2
              rw [hd0] at hok2
              exact Nat.blt_eq.mp hok2
            have hd : decode cc (pcs cd i) = .ok (.istore_n (fin4 a), 1) := by
              have e1 : toI cd i (9, a, b, d, x, y, tb) = .istore_n (fin4 a) := if_pos hd0
              have e2 : ilen (9, a, b, d, x, y, tb) = 1 := if_pos hd0
              rw [← e1, ← e2]
              exact hd
            rw [if_pos hd0] at hpc
            refine lv_istore_n hx hb hd (fin4_val ha) hl han (gL_sto (w := .inl u)) (fun ls' hl' => ?_)
            rw [← hpc]
            exact ih (i + 1) _ st v h (sto1_ok hlo (ok1 hst)) (okT hst) H locs ls' hP hD hS hl'
          · have hd : decode cc (pcs cd i) = .ok (.istore a, 2) := by
              have e1 : toI cd i (9, a, b, d, x, y, tb) = .istore a := if_neg hd0
              have e2 : ilen (9, a, b, d, x, y, tb) = 2 := if_neg hd0
              rw [← e1, ← e2]
              exact hd
            refine lv_istore hx hb hd hl han (gL_sto (w := .inl u)) (fun ls' hl' => ?_)
            rw [if_neg hd0] at hpc
            rw [← hpc]
            exact ih (i + 1) _ st v h (sto1_ok hlo (ok1 hst)) (okT hst) H locs ls' hP hD hS hl'
        · exact no_of h
        · exact no_of h
      · -- 10
        have hpc : pcs cd (i + 1) = pcs cd i + (if d = 0 then 1 else 2) := hpc
        rcases st with _ | ⟨u | u | u, st⟩
        · exact no_of h
        · exact no_of h
        · exact no_of h
        · have h : run F cd n (i + 1) (sto1 loc a (.inr (.inr u))) st v = some res := h
          have hok : (Nat.blt a nL && (!(Nat.beq d 0) || Nat.blt a 4)) = true := hok
          rw [Bool.and_eq_true] at hok
          have han : a < nL := Nat.blt_eq.mp hok.1
          by_cases hd0 : d = 0
          · have ha : a < 4 := by
              have hok2 := hok.2
              rw [hd0] at hok2
              exact Nat.blt_eq.mp hok2
            have hd : decode cc (pcs cd i) = .ok (.astore_n (fin4 a), 1) := by
              have e1 : toI cd i (10, a, b, d, x, y, tb) = .astore_n (fin4 a) := if_pos hd0
              have e2 : ilen (10, a, b, d, x, y, tb) = 1 := if_pos hd0
              rw [← e1, ← e2]
              exact hd
            rw [if_pos hd0] at hpc
            refine lv_astore_n hx hb hd (fin4_val ha) hl han (gL_sto (w := .inr (.inr u))) (fun ls' hl' => ?_)
            rw [← hpc]
            exact ih (i + 1) _ st v h (sto1_ok hlo (ok1 hst)) (okT hst) H locs ls' hP hD hS hl'
          · have hd : decode cc (pcs cd i) = .ok (.astore a, 2) := by
              have e1 : toI cd i (10, a, b, d, x, y, tb) = .astore a := if_neg hd0
              have e2 : ilen (10, a, b, d, x, y, tb) = 2 := if_neg hd0
              rw [← e1, ← e2]
              exact hd
            refine lv_astore hx hb hd hl han (gL_sto (w := .inr (.inr u))) (fun ls' hl' => ?_)
            rw [if_neg hd0] at hpc
            rw [← hpc]
            exact ih (i + 1) _ st v h (sto1_ok hlo (ok1 hst)) (okT hst) H locs ls' hP hD hS hl'
      · -- 11
        have hpc : pcs cd (i + 1) = pcs cd i + 3 := hpc
        cases hk : lk loc a with
        | none =>
          have h : (match lk loc a with
            | some (.inl w) => run F cd n (i + 1) (sto1 loc a (.inl (w + x))) st v
            | _ => none) = some res := h
          rw [hk] at h
          cases h
        | some u =>
          have h : (match lk loc a with
            | some (.inl w) => run F cd n (i + 1) (sto1 loc a (.inl (w + x))) st v
            | _ => none) = some res := h
          rw [hk] at h
          obtain ⟨k, hk2⟩ := gL_at (G := G) hk
          rcases u with u | u | u
          · have h : run F cd n (i + 1) (sto1 loc a (.inl (u + x))) st v = some res := h
            have han : a < nL := Nat.blt_eq.mp hok
            refine lv_iinc (k := k) (x := u) (v := u + x) hx hb hd hl hk2 (by rw [Int32.ofInt_toInt]) han (gL_sto (w := .inl (u + x))) (fun ls' hl' => ?_)
            rw [← hpc]
            exact ih (i + 1) _ st v h (sto1_ok hlo trivial) hst H locs ls' hP hD hS hl'
          · cases h
          · cases h
      · -- 12
        have hpc : pcs cd (i + 1) = pcs cd i + 1 := hpc
        rcases st with _ | ⟨q | q | q, _ | ⟨u | u | u, st⟩⟩
        · exact no_of h
        · exact no_of h
        · have h : run F cd n (i + 1) loc (.inl (ibin b u q) :: st) v = some res := h
          have hb4 : b < 5 := Nat.blt_eq.mp hok
          have go := ih (i + 1) loc (.inl (ibin b u q) :: st) v h hlo (forall2 trivial (okT (okT hst))) H locs ls hP hD hS hl
          rw [hpc] at go
          match b, hb4, hd, go with
          | 0, _, hd, go => exact lv_iadd hx hb hd go
          | 1, _, hd, go => exact lv_isub hx hb hd go
          | 2, _, hd, go => exact lv_imul hx hb hd go
          | 3, _, hd, go => exact lv_iand hx hb hd go
          | 4, _, hd, go => exact lv_ishr hx hb hd go
        · exact no_of h
        · exact no_of h
        · exact no_of h
        · exact no_of h
        · exact no_of h
        · exact no_of h
        · exact no_of h
        · exact no_of h
        · exact no_of h
        · exact no_of h
      · -- 13
        have hpc : pcs cd (i + 1) = pcs cd i + 1 := hpc
        rcases st with _ | ⟨q | q | q, _ | ⟨u | u | u, st⟩⟩
        · exact no_of h
        · exact no_of h
        · have h : (if q = 0 then none else run F cd n (i + 1) loc (.inl (u / q) :: st) v) = some res := h
          by_cases hq : q = 0
          · rw [if_pos hq] at h
            cases h
          · rw [if_neg hq] at h
            refine lv_idiv hx hb hd hq ?_
            rw [← hpc]
            exact ih (i + 1) loc (.inl (u / q) :: st) v h hlo (forall2 trivial (okT (okT hst))) H locs ls hP hD hS hl
        · exact no_of h
        · exact no_of h
        · exact no_of h
        · exact no_of h
        · exact no_of h
        · exact no_of h
        · exact no_of h
        · exact no_of h
        · exact no_of h
        · exact no_of h
      · -- 14
        have hpc : pcs cd (i + 1) = pcs cd i + 1 := hpc
        rcases st with _ | ⟨q | q | q, _ | ⟨u | u | u, st⟩⟩
        · exact no_of h
        · exact no_of h
        · have h : (if q = 0 then none else run F cd n (i + 1) loc (.inl (u - u / q * q) :: st) v) = some res := h
          by_cases hq : q = 0
          · rw [if_pos hq] at h
            cases h
          · rw [if_neg hq] at h
            refine lv_irem hx hb hd hq ?_
            rw [← hpc]
            exact ih (i + 1) loc (.inl (u - u / q * q) :: st) v h hlo (forall2 trivial (okT (okT hst))) H locs ls hP hD hS hl
        · exact no_of h
        · exact no_of h
        · exact no_of h
        · exact no_of h
        · exact no_of h
        · exact no_of h
        · exact no_of h
        · exact no_of h
        · exact no_of h
        · exact no_of h
      · -- 15
        have hpc : pcs cd (i + 1) = pcs cd i + 1 := hpc
        rcases st with _ | ⟨q | q | q, st⟩
        · exact no_of h
        · have h : run F cd n (i + 1) loc (.inl (iun b q) :: st) v = some res := h
          have hb4 : b < 3 := Nat.blt_eq.mp hok
          have go := ih (i + 1) loc (.inl (iun b q) :: st) v h hlo (forall2 trivial (okT hst)) H locs ls hP hD hS hl
          rw [hpc] at go
          match b, hb4, hd, go with
          | 0, _, hd, go => exact lv_ineg hx hb hd go
          | 1, _, hd, go => exact lv_i2b hx hb hd rfl go
          | 2, _, hd, go => exact lv_i2c hx hb hd rfl go
        · exact no_of h
        · exact no_of h
      · -- 16
        have hpc : pcs cd (i + 1) = pcs cd i + 1 := hpc
        rcases st with _ | ⟨q | q | q, _ | ⟨u | u | u, st⟩⟩
        · exact no_of h
        · exact no_of h
        · exact no_of h
        · exact no_of h
        · exact no_of h
        · exact no_of h
        · exact no_of h
        · have h : run F cd n (i + 1) loc (.inr (.inl (lbin b u q)) :: st) v = some res := h
          have hb4 : b < 3 := Nat.blt_eq.mp hok
          have go := ih (i + 1) loc (.inr (.inl (lbin b u q)) :: st) v h hlo (forall2 trivial (okT (okT hst))) H locs ls hP hD hS hl
          rw [hpc] at go
          match b, hb4, hd, go with
          | 0, _, hd, go => exact lv_ladd hx hb hd go
          | 1, _, hd, go => exact lv_lsub hx hb hd go
          | 2, _, hd, go => exact lv_lmul hx hb hd go
        · exact no_of h
        · exact no_of h
        · exact no_of h
        · exact no_of h
        · exact no_of h
      · -- 17
        have hpc : pcs cd (i + 1) = pcs cd i + 1 := hpc
        rcases st with _ | ⟨q | q | q, _ | ⟨u | u | u, st⟩⟩
        · exact no_of h
        · exact no_of h
        · exact no_of h
        · exact no_of h
        · exact no_of h
        · exact no_of h
        · exact no_of h
        · have h : (if q = 0 then none else run F cd n (i + 1) loc (.inr (.inl (u / q)) :: st) v) = some res := h
          by_cases hq : q = 0
          · rw [if_pos hq] at h
            cases h
          · rw [if_neg hq] at h
            refine lv_ldiv hx hb hd hq ?_
            rw [← hpc]
            exact ih (i + 1) loc (.inr (.inl (u / q)) :: st) v h hlo (forall2 trivial (okT (okT hst))) H locs ls hP hD hS hl
        · exact no_of h
        · exact no_of h
        · exact no_of h
        · exact no_of h
        · exact no_of h
      · -- 18
        have hpc : pcs cd (i + 1) = pcs cd i + 1 := hpc
        rcases st with _ | ⟨q | q | q, st⟩
        · exact no_of h
        · refine lv_i2l hx hb hd rfl ?_
          rw [← hpc]
          exact ih (i + 1) loc (.inr (.inl q.toInt64) :: st) v h hlo (forall2 trivial (okT hst)) H locs ls hP hD hS hl
        · exact no_of h
        · exact no_of h
      · -- 19
        have hpc : pcs cd (i + 1) = pcs cd i + 1 := hpc
        rcases st with _ | ⟨q | q | q, st⟩
        · exact no_of h
        · exact no_of h
        · refine lv_l2i hx hb hd rfl ?_
          rw [← hpc]
          exact ih (i + 1) loc (.inl q.toInt32 :: st) v h hlo (forall2 trivial (okT hst)) H locs ls hP hD hS hl
        · exact no_of h
      · -- 20
        have hpc : pcs cd (i + 1) = pcs cd i + 1 := hpc
        rcases st with _ | ⟨q | q | q, _ | ⟨u | u | u, st⟩⟩
        · exact no_of h
        · exact no_of h
        · exact no_of h
        · exact no_of h
        · exact no_of h
        · exact no_of h
        · exact no_of h
        · refine W.lcmp hx hb hd ?_
          rw [← hpc]
          exact ih (i + 1) loc (.inl (lg_cmp u q) :: st) v h hlo (forall2 trivial (okT (okT hst))) H locs ls hP hD hS hl
        · exact no_of h
        · exact no_of h
        · exact no_of h
        · exact no_of h
        · exact no_of h
      · -- 21
        have hpc : pcs cd (i + 1) = pcs cd i + 1 := hpc
        rcases st with _ | ⟨w, st⟩
        · exact no_of h
        · have h : (match Nat.beq (mcat w) 1 with
            | true => run F cd n (i + 1) loc (w :: w :: st) v
            | false => none) = some res := h
          cases hc : Nat.beq (mcat w) 1 with
          | false =>
            rw [hc] at h
            cases h
          | true =>
            rw [hc] at h
            refine lv_dup hx hb hd (by rw [gV_cat]; exact Nat.eq_of_beq_eq_true hc) ?_
            rw [← hpc]
            exact ih (i + 1) loc (w :: w :: st) v h hlo (forall2 (ok1 hst) hst) H locs ls hP hD hS hl
      · -- 22
        have hpc : pcs cd (i + 1) = pcs cd i + 1 := hpc
        rcases st with _ | ⟨w, _ | ⟨u, st⟩⟩
        · exact no_of h
        · exact no_of h
        · have h : (match Nat.beq (mcat w) 1 with
            | true => match Nat.beq (mcat u) 1 with
              | true => run F cd n (i + 1) loc (w :: u :: w :: u :: st) v
              | false => none
            | false => none) = some res := h
          cases hc : Nat.beq (mcat w) 1 with
          | false =>
            rw [hc] at h
            cases h
          | true =>
            rw [hc] at h
            cases hc2 : Nat.beq (mcat u) 1 with
            | false =>
              rw [hc2] at h
              cases h
            | true =>
              rw [hc2] at h
              refine lv_dup2_11 hx hb hd (by rw [gV_cat]; exact Nat.eq_of_beq_eq_true hc) (by rw [gV_cat]; exact Nat.eq_of_beq_eq_true hc2) ?_
              rw [← hpc]
              exact ih (i + 1) loc (w :: u :: w :: u :: st) v h hlo (forall2 (ok1 hst) (forall2 (ok1 (okT hst)) hst)) H locs ls hP hD hS hl
      · -- 23
        have hpc : pcs cd (i + 1) = pcs cd i + 1 := hpc
        rcases st with _ | ⟨w, st⟩
        · exact no_of h
        · have h : (match Nat.beq (mcat w) 1 with
            | true => run F cd n (i + 1) loc st v
            | false => none) = some res := h
          cases hc : Nat.beq (mcat w) 1 with
          | false =>
            rw [hc] at h
            cases h
          | true =>
            rw [hc] at h
            refine lv_pop hx hb hd (by rw [gV_cat]; exact Nat.eq_of_beq_eq_true hc) ?_
            rw [← hpc]
            exact ih (i + 1) loc st v h hlo (okT hst) H locs ls hP hD hS hl
      · -- 24
        have hpc : pcs cd (i + 1) = pcs cd i + 3 := hpc
        rcases st with _ | ⟨q | q | q, st⟩
        · exact no_of h
        · have hb6 : b < 6 := Nat.blt_eq.mp hok
          have goT : run F cd n a loc st v = some res → W p l e R s m args below meth c H locs cells slots Q (F0 m (pcs cd a) ls (st.map (gV G))) := fun h => ih a loc st v h hlo (okT hst) H locs ls hP hD hS hl
          have goN : run F cd n (i + 1) loc st v = some res → W p l e R s m args below meth c H locs cells slots Q (F0 m (pcs cd i + 3) ls (st.map (gV G))) := fun h => by
            rw [← hpc]
            exact ih (i + 1) loc st v h hlo (okT hst) H locs ls hP hD hS hl
          match b, hb6, hd, h with
          | 0, _, hd, h =>
            have h : (if q = 0 then run F cd n a loc st v else run F cd n (i + 1) loc st v) = some res := h
            refine lv_if_eq (tgt := pcs cd a) hx hb hd ioff_ok (fun z => ?_) (fun z => ?_)
            · rw [if_pos z] at h
              exact goT h
            · rw [if_neg z] at h
              exact goN h
          | 1, _, hd, h =>
            have h : (if q = 0 then run F cd n (i + 1) loc st v else run F cd n a loc st v) = some res := h
            refine lv_if_ne (tgt := pcs cd a) hx hb hd ioff_ok (fun z => ?_) (fun z => ?_)
            · rw [if_neg z] at h
              exact goT h
            · rw [if_pos z] at h
              exact goN h
          | 2, _, hd, h =>
            have h : (if q < 0 then run F cd n a loc st v else run F cd n (i + 1) loc st v) = some res := h
            refine lv_if_lt (tgt := pcs cd a) hx hb hd ioff_ok (fun z => ?_) (fun z => ?_)
            · rw [if_pos z] at h
              exact goT h
            · rw [if_neg z] at h
              exact goN h
          | 3, _, hd, h =>
            have h : (if q < 0 then run F cd n (i + 1) loc st v else run F cd n a loc st v) = some res := h
            refine lv_if_ge (tgt := pcs cd a) hx hb hd ioff_ok (fun z => ?_) (fun z => ?_)
            · rw [if_neg (Int32.not_lt.mpr z)] at h
              exact goT h
            · rw [if_pos (Int32.not_le.mp z)] at h
              exact goN h
          | 4, _, hd, h =>
            have h : (if 0 < q then run F cd n a loc st v else run F cd n (i + 1) loc st v) = some res := h
            refine lv_if_gt (tgt := pcs cd a) hx hb hd ioff_ok (fun z => ?_) (fun z => ?_)
            · rw [if_pos z] at h
              exact goT h
            · rw [if_neg z] at h
              exact goN h
          | 5, _, hd, h =>
            have h : (if 0 < q then run F cd n (i + 1) loc st v else run F cd n a loc st v) = some res := h
            refine lv_if_le (tgt := pcs cd a) hx hb hd ioff_ok (fun z => ?_) (fun z => ?_)
            · rw [if_neg (Int32.not_lt.mpr z)] at h
              exact goT h
            · rw [if_pos (Int32.not_le.mp z)] at h
              exact goN h
        · exact no_of h
        · exact no_of h
      · -- 25
        have hpc : pcs cd (i + 1) = pcs cd i + 3 := hpc
        rcases st with _ | ⟨q | q | q, _ | ⟨u | u | u, st⟩⟩
        · exact no_of h
        · exact no_of h
        · have hb6 : b < 6 := Nat.blt_eq.mp hok
          have goT : run F cd n a loc st v = some res → W p l e R s m args below meth c H locs cells slots Q (F0 m (pcs cd a) ls (st.map (gV G))) := fun h => ih a loc st v h hlo (okT (okT hst)) H locs ls hP hD hS hl
          have goN : run F cd n (i + 1) loc st v = some res → W p l e R s m args below meth c H locs cells slots Q (F0 m (pcs cd i + 3) ls (st.map (gV G))) := fun h => by
            rw [← hpc]
            exact ih (i + 1) loc st v h hlo (okT (okT hst)) H locs ls hP hD hS hl
          match b, hb6, hd, h with
          | 0, _, hd, h =>
            have h : (if u = q then run F cd n a loc st v else run F cd n (i + 1) loc st v) = some res := h
            refine lv_icmp_eq (tgt := pcs cd a) hx hb hd ioff_ok (fun z => ?_) (fun z => ?_)
            · rw [if_pos z] at h
              exact goT h
            · rw [if_neg z] at h
              exact goN h
          | 1, _, hd, h =>
            have h : (if u = q then run F cd n (i + 1) loc st v else run F cd n a loc st v) = some res := h
            refine lv_icmp_ne (tgt := pcs cd a) hx hb hd ioff_ok (fun z => ?_) (fun z => ?_)
            · rw [if_neg z] at h
              exact goT h
            · rw [if_pos z] at h
              exact goN h
          | 2, _, hd, h =>
            have h : (if u < q then run F cd n a loc st v else run F cd n (i + 1) loc st v) = some res := h
            refine lv_icmp_lt (tgt := pcs cd a) hx hb hd ioff_ok (fun z => ?_) (fun z => ?_)
            · rw [if_pos z] at h
              exact goT h
            · rw [if_neg z] at h
              exact goN h
          | 3, _, hd, h =>
            have h : (if u < q then run F cd n (i + 1) loc st v else run F cd n a loc st v) = some res := h
            refine lv_icmp_ge (tgt := pcs cd a) hx hb hd ioff_ok (fun z => ?_) (fun z => ?_)
            · rw [if_neg (Int32.not_lt.mpr z)] at h
              exact goT h
            · rw [if_pos (Int32.not_le.mp z)] at h
              exact goN h
          | 4, _, hd, h =>
            have h : (if q < u then run F cd n a loc st v else run F cd n (i + 1) loc st v) = some res := h
            refine lv_icmp_gt (tgt := pcs cd a) hx hb hd ioff_ok (fun z => ?_) (fun z => ?_)
            · rw [if_pos z] at h
              exact goT h
            · rw [if_neg z] at h
              exact goN h
          | 5, _, hd, h =>
            have h : (if q < u then run F cd n (i + 1) loc st v else run F cd n a loc st v) = some res := h
            refine lv_icmp_le (tgt := pcs cd a) hx hb hd ioff_ok (fun z => ?_) (fun z => ?_)
            · rw [if_neg (Int32.not_lt.mpr z)] at h
              exact goT h
            · rw [if_pos (Int32.not_le.mp z)] at h
              exact goN h
        · exact no_of h
        · exact no_of h
        · exact no_of h
        · exact no_of h
        · exact no_of h
        · exact no_of h
        · exact no_of h
        · exact no_of h
        · exact no_of h
        · exact no_of h
      · -- 26
        have hpc : pcs cd (i + 1) = pcs cd i + 3 := hpc
        exact lv_goto (tgt := pcs cd a) hx hb hd ioff_ok (ih a loc st v h hlo hst H locs ls hP hD hS hl)
      · -- 27
        have hpc : pcs cd (i + 1) = pcs cd i + b := hpc
        rcases st with _ | ⟨q | q | q, st⟩
        · exact no_of h
        · have h : swt q a tb (fun t => run F cd n t loc st v) = some res := h
          have hok : ((List.range tb.length).all (fun k => match tb[k]? with
            | some q => decide (q.1.toInt = x.toInt + k)
            | none => false) && decide (tb ≠ [])) = true := hok
          rw [Bool.and_eq_true] at hok
          have hkey : ∀ (k : Nat) (e : Int32 × Nat), tb[k]? = some e → e.1.toInt = x.toInt + k := by
            intro k e he
            have h1 := List.all_eq_true.mp hok.1 k (List.mem_range.mpr (List.getElem?_eq_some_iff.mp he).1)
            rw [he] at h1
            exact of_decide_eq_true h1
          have hoff : ∀ (k : Nat) (e : Int32 × Nat), tb[k]? = some e → (tb.map (fun e => ioff cd i e.2)).toArray[k]? = some (ioff cd i e.2) := by
            intro k e he
            rw [List.getElem?_toArray, List.getElem?_map, he]
            rfl
          rcases swt_case h with ⟨k, e, h1, h2, h3⟩ | ⟨h1, h2⟩
          · have hl1 := (List.getElem?_eq_some_iff.mp h1).1
            have hk := hkey k e h1
            rw [← h2] at hk
            refine lv_tableIn (tgt := pcs cd e.2) hx hb hd (by omega) (by omega) (off := ioff cd i e.2) ?_ ioff_ok (ih e.2 loc st v h3 hlo (okT hst) H locs ls hP hD hS hl)
            have e1 : (q.toInt - x.toInt).toNat = k := by omega
            rw [e1]
            exact hoff k e h1
          · refine lv_tableOut (tgt := pcs cd a) hx hb hd ?_ ioff_ok (ih a loc st v h2 hlo (okT hst) H locs ls hP hD hS hl)
            rcases Int.lt_or_le q.toInt x.toInt with z | z
            · exact Or.inl z
            · refine Or.inr ?_
              rcases Int.lt_or_le (x.toInt + tb.length - 1) q.toInt with z2 | z2
              · exact z2
              · exfalso
                have hkl : (q.toInt - x.toInt).toNat < tb.length := by omega
                have he := List.getElem?_eq_getElem hkl
                have hk := hkey _ _ he
                exact h1 _ (List.mem_of_getElem? he) (Int32.toInt_inj.mp (by omega))
        · exact no_of h
        · exact no_of h
      · -- 28
        have hpc : pcs cd (i + 1) = pcs cd i + b := hpc
        rcases st with _ | ⟨q | q | q, st⟩
        · exact no_of h
        · have h : swt q a tb (fun t => run F cd n t loc st v) = some res := h
          obtain ⟨t, h1, h2⟩ := swt_look (cd := cd) (i := i) h
          refine lv_lookup (tgt := pcs cd t) (off := ioff cd i t) hx hb hd ?_ h2 ioff_ok (ih t loc st v h1 hlo (okT hst) H locs ls hP hD hS hl)
          have hok : ((tb.map (fun e => (e.1.toInt, (0 : Int)))).zip ((tb.map (fun e => (e.1.toInt, (0 : Int)))).drop 1)).all (fun q => decide (q.1.1 < q.2.1)) = true := hok
          rw [List.all_eq_true] at hok ⊢
          intro z hz
          obtain ⟨z1, z2⟩ := z
          have hz : (z1, z2) ∈ (tb.map (fun e => (e.1.toInt, ioff cd i e.2))).zip ((tb.map (fun e => (e.1.toInt, ioff cd i e.2))).drop 1) := hz
          obtain ⟨k, hk⟩ := List.getElem?_of_mem hz
          rw [List.getElem?_zip_eq_some] at hk
          obtain ⟨hk1, hk2⟩ := hk
          rw [List.getElem?_map] at hk1
          rw [List.getElem?_drop, List.getElem?_map] at hk2
          cases g1 : tb[k]? with
          | none =>
            rw [g1] at hk1
            cases hk1
          | some u1 =>
            cases g2 : tb[1 + k]? with
            | none =>
              rw [g2] at hk2
              cases hk2
            | some u2 =>
              rw [g1] at hk1
              rw [g2] at hk2
              have w1 : (u1.1.toInt, ioff cd i u1.2) = z1 := Option.some.inj hk1
              have w2 : (u2.1.toInt, ioff cd i u2.2) = z2 := Option.some.inj hk2
              have h3 := hok ((u1.1.toInt, 0), (u2.1.toInt, 0)) (List.mem_of_getElem? (i := k) (by rw [List.getElem?_zip_eq_some, List.getElem?_map, List.getElem?_drop, List.getElem?_map, g1, g2]; exact ⟨rfl, rfl⟩))
              rw [← w1, ← w2]
              exact h3
        · exact no_of h
        · exact no_of h
      · -- 30
        have hpc : pcs cd (i + 1) = pcs cd i + 3 := hpc
        rcases st with _ | ⟨q | q | q, st⟩
        · exact no_of h
        · exact no_of h
        · exact no_of h
        · have h : (match Nat.beq (mKc q.1) b with
            | true => run F cd n (i + 1) loc (mGet v q d :: st) v
            | false => none) = some res := h
          have hfl : (fHas o a b d && (Nat.blt d (nOf b) && Nat.blt b 7)) = true := hok
          simp only [Bool.and_eq_true] at hfl
          obtain ⟨hf1, hf2, hf3⟩ := hfl
          have hd8 : d < nOf b := Nat.blt_eq.mp hf2
          have hb8 : b < 7 := Nat.blt_eq.mp hf3
          cases hkc : Nat.beq (mKc q.1) b with
          | false =>
            rw [hkc] at h
            cases h
          | true =>
            rw [hkc] at h
            have hkb := Nat.eq_of_beq_eq_true hkc
            have hqm : q ∈ mNs := mOk_in (ok1 hst) (by omega)
            obtain ⟨k0, hk0, hw⟩ := mWl_at (ad := G.1) (dA := G.2.1) (v := v) hqm
            rw [mLay_obj (by omega), hkb] at hw
            have hnz := (mKc_obj hqm (by omega)).2
            rw [hkb] at hnz
            have hdz : d < mSz q.1 := by omega
            refine va_get (own := ownN o) (ref := ownN b) (C := ownN b) (T := tOf b) (N := nOf b) (ci := b) (index := a) (v := gV G (mGet v q d)) hx hb hts (mTs_lay b hb8) hown hK hP k0 hw (vwCl_at b hb8) d hd8 (hts _ (fHas_in hf1)) (fun z hz => by rw [tOf_own b hb8 d hd8] at hz; exact hz) (mFs_at hdz) hd ?_
            rw [← hpc]
            exact ih (i + 1) loc (mGet v q d :: st) v h hlo (forall2 (mGet_ok hqm hdz) (okT hst)) H locs ls hP hD hS hl
      · -- 31
        have hpc : pcs cd (i + 1) = pcs cd i + 3 := hpc
        rcases st with _ | ⟨w | w | w, _ | ⟨q | q | q, st⟩⟩
        · exact no_of h
        · exact no_of h
        · exact no_of h
        · exact no_of h
        · have h : (match Nat.beq (mKc q.1) b with
            | true => run F cd n (i + 1) loc st (mUp v (mFl q d) w)
            | false => none) = some res := h
          have hok2 : ((fHas o a b d && (Nat.blt d (nOf b) && Nat.blt b 7)) && (decide (tyOf b d = .int) && !(tOf b d).2.2.2)) = true := hok
          rw [Bool.and_eq_true] at hok2
          have hty : tyOf b d = .int := by
            have := hok2.2
            rw [Bool.and_eq_true] at this
            exact of_decide_eq_true this.1
          have hfin : (tOf b d).2.2.2 = false := by
            have := hok2.2
            rw [Bool.and_eq_true] at this
            simpa using this.2
          have hfl : (fHas o a b d && (Nat.blt d (nOf b) && Nat.blt b 7)) = true := hok2.1
          simp only [Bool.and_eq_true] at hfl
          obtain ⟨hf1, hf2, hf3⟩ := hfl
          have hd8 : d < nOf b := Nat.blt_eq.mp hf2
          have hb8 : b < 7 := Nat.blt_eq.mp hf3
          cases hkc : Nat.beq (mKc q.1) b with
          | false =>
            rw [hkc] at h
            cases h
          | true =>
            rw [hkc] at h
            have hkb := Nat.eq_of_beq_eq_true hkc
            have hqm : q ∈ mNs := mOk_in (ok1 (okT hst)) (by omega)
            obtain ⟨k0, hk0, hw⟩ := mWl_at (ad := G.1) (dA := G.2.1) (v := v) hqm
            rw [mLay_obj (by omega), hkb] at hw
            have hnz := (mKc_obj hqm (by omega)).2
            rw [hkb] at hnz
            have hdz : d < mSz q.1 := by omega
            refine va_put (own := ownN o) (ref := ownN b) (C := ownN b) (T := tOf b) (N := nOf b) (ci := b) (index := a) (ty := .int) (v := (.int w)) hx hb hts (mTs_lay b hb8) (tyOf b) (tyOf_ok b hb8) (tOf_nm b hb8) hown hK hP hD hS k0 hw (vwCl_at b hb8) d hd8 (hts _ (fHas_in hf1)) (fun z hz => by rw [tOf_own b hb8 d hd8] at hz; exact hz) hfin (by rw [tyOf_ok b hb8 d hd8, hty]) rfl rfl (by rw [mFs_len]; exact hdz) hd (fun H1 locs1 hP1 hD1 hS1 => ?_)
            have hii : mIsI q d = true := mIsI_obj hqm (by omega) hdz (by rw [hkb]; exact Or.inl hty)
            have he : (gW G v).set k0 (G.1 q, .inr (b, (mFs G.1 v q).set d (.int w))) = gW G (mUp v (mFl q d) w) := by
              have := gW_put (G := G) (v := v) (w := w) hqm hk0 (by omega) hdz hii
              rw [hkb] at this
              exact this
            rw [he] at hP1 hD1
            rw [← hpc]
            exact ih (i + 1) loc st (mUp v (mFl q d) w) h hlo (okT (okT hst)) H1 locs1 ls hP1 hD1 hS1 hl
        · exact no_of h
        · exact no_of h
        · exact no_of h
        · exact no_of h
        · exact no_of h
        · exact no_of h
        · exact no_of h
        · exact no_of h
      · -- 32
        have hpc : pcs cd (i + 1) = pcs cd i + 3 := hpc
        rcases st with _ | ⟨w | w | w, _ | ⟨q | q | q, st⟩⟩
        · exact no_of h
        · exact no_of h
        · exact no_of h
        · exact no_of h
        · have h : (match Nat.beq (mKc q.1) b with
            | true => if w = 0 ∨ w = 1 then run F cd n (i + 1) loc st (mUp v (mFl q d) w) else none
            | false => none) = some res := h
          have hok2 : ((fHas o a b d && (Nat.blt d (nOf b) && Nat.blt b 7)) && (decide (tyOf b d = .boolean) && !(tOf b d).2.2.2)) = true := hok
          rw [Bool.and_eq_true] at hok2
          have hty : tyOf b d = .boolean := by
            have := hok2.2
            rw [Bool.and_eq_true] at this
            exact of_decide_eq_true this.1
          have hfin : (tOf b d).2.2.2 = false := by
            have := hok2.2
            rw [Bool.and_eq_true] at this
            simpa using this.2
          have hfl : (fHas o a b d && (Nat.blt d (nOf b) && Nat.blt b 7)) = true := hok2.1
          simp only [Bool.and_eq_true] at hfl
          obtain ⟨hf1, hf2, hf3⟩ := hfl
          have hd8 : d < nOf b := Nat.blt_eq.mp hf2
          have hb8 : b < 7 := Nat.blt_eq.mp hf3
          cases hkc : Nat.beq (mKc q.1) b with
          | false =>
            rw [hkc] at h
            cases h
          | true =>
            rw [hkc] at h
            have hkb := Nat.eq_of_beq_eq_true hkc
            have hqm : q ∈ mNs := mOk_in (ok1 (okT hst)) (by omega)
            obtain ⟨k0, hk0, hw⟩ := mWl_at (ad := G.1) (dA := G.2.1) (v := v) hqm
            rw [mLay_obj (by omega), hkb] at hw
            have hnz := (mKc_obj hqm (by omega)).2
            rw [hkb] at hnz
            have hdz : d < mSz q.1 := by omega
            have h : (if w = 0 ∨ w = 1 then run F cd n (i + 1) loc st (mUp v (mFl q d) w) else none) = some res := h
            have hw01 : w = 0 ∨ w = 1 := by
              by_cases z : w = 0 ∨ w = 1
              · exact z
              · rw [if_neg z] at h
                cases h
            rw [if_pos hw01] at h
            refine va_put (own := ownN o) (ref := ownN b) (C := ownN b) (T := tOf b) (N := nOf b) (ci := b) (index := a) (ty := .boolean) (v := (.int w)) hx hb hts (mTs_lay b hb8) (tyOf b) (tyOf_ok b hb8) (tOf_nm b hb8) hown hK hP hD hS k0 hw (vwCl_at b hb8) d hd8 (hts _ (fHas_in hf1)) (fun z hz => by rw [tOf_own b hb8 d hd8] at hz; exact hz) hfin (by rw [tyOf_ok b hb8 d hd8, hty]) (by rcases hw01 with e | e <;> rw [e] <;> rfl) (by rcases hw01 with e | e <;> rw [e] <;> rfl) (by rw [mFs_len]; exact hdz) hd (fun H1 locs1 hP1 hD1 hS1 => ?_)
            have hii : mIsI q d = true := mIsI_obj hqm (by omega) hdz (by rw [hkb]; exact Or.inr hty)
            have he : (gW G v).set k0 (G.1 q, .inr (b, (mFs G.1 v q).set d (.int w))) = gW G (mUp v (mFl q d) w) := by
              have := gW_put (G := G) (v := v) (w := w) hqm hk0 (by omega) hdz hii
              rw [hkb] at this
              exact this
            rw [he] at hP1 hD1
            rw [← hpc]
            exact ih (i + 1) loc st (mUp v (mFl q d) w) h hlo (okT (okT hst)) H1 locs1 ls hP1 hD1 hS1 hl
        · exact no_of h
        · exact no_of h
        · exact no_of h
        · exact no_of h
        · exact no_of h
        · exact no_of h
        · exact no_of h
        · exact no_of h
      · -- 34
        have hpc : pcs cd (i + 1) = pcs cd i + 1 := hpc
        rcases st with _ | ⟨w | w | w, _ | ⟨q | q | q, st⟩⟩
        · exact no_of h
        · exact no_of h
        · exact no_of h
        · exact no_of h
        · have h : (match Nat.beq (mKc q.1) b with
            | true => if mIn w (mSz q.1) then run F cd n (i + 1) loc (.inl (v.1 (mFl q w.toNatClampNeg).1 (mFl q w.toNatClampNeg).2) :: st) v else none
            | false => none) = some res := h
          have hbb : (Nat.ble 100 b && Nat.ble b 102) = true := hok
          rw [Bool.and_eq_true] at hbb
          have hb1 : 100 ≤ b := Nat.ble_eq.mp hbb.1
          have hb2 : b ≤ 102 := Nat.ble_eq.mp hbb.2
          cases hkc : Nat.beq (mKc q.1) b with
          | false =>
            rw [hkc] at h
            cases h
          | true =>
            rw [hkc] at h
            have hkb := Nat.eq_of_beq_eq_true hkc
            have hqm : q ∈ mNs := mOk_in (ok1 (okT hst)) (by omega)
            obtain ⟨k0, hk0, hw⟩ := mWl_at (ad := G.1) (dA := G.2.1) (v := v) hqm
            have hc2 : 100 ≤ mKc q.1 ∧ mKc q.1 ≤ 102 := ⟨by omega, by omega⟩
            rw [mLay_int hc2] at hw
            obtain ⟨t0, ht0, hi1, hi2, hi3⟩ := mArrT hqm (by omega) G.2.1
            have h : (if mIn w (mSz q.1) then run F cd n (i + 1) loc (.inl (v.1 (mFl q w.toNatClampNeg).1 (mFl q w.toNatClampNeg).2) :: st) v else none) = some res := h
            by_cases hin : mIn w (mSz q.1)
            · rw [if_pos hin] at h
              have go := ih (i + 1) loc _ v h hlo (forall2 (by trivial) (okT (okT hst))) H locs ls hP hD hS hl
              have e1 : mArr v q w.toNatClampNeg = v.1 (mFl q w.toNatClampNeg).1 (mFl q w.toNatClampNeg).2 := if_pos hin.2
              have hb3 : b = 100 ∨ b = 101 ∨ b = 102 := by omega
              rcases hb3 with e2 | e2 | e2
              · have hd : decode cc (pcs cd i) = .ok (.iaload, 1) := by rw [e2] at hd; exact hd
                refine va_iald hx hb hK hP k0 t0 hw (by rw [ht0, hi1 (by omega)]) (mIn_vp hin) hd ?_
                rw [e1, ← hpc]
                exact go
              · have hd : decode cc (pcs cd i) = .ok (.caload, 1) := by rw [e2] at hd; exact hd
                refine va_cald hx hb hK hP k0 t0 hw (by rw [ht0, hi2 (by omega)]) (mIn_vp hin) hd ?_
                rw [e1, ← hpc]
                exact go
              · have hd : decode cc (pcs cd i) = .ok (.baload, 1) := by rw [e2] at hd; exact hd
                refine va_bald hx hb hK hP k0 t0 hw (by rw [ht0, hi3 (by omega)]) (mIn_vp hin) hd ?_
                rw [e1, ← hpc]
                exact go
            · rw [if_neg hin] at h
              cases h
        · exact no_of h
        · exact no_of h
        · exact no_of h
        · exact no_of h
        · exact no_of h
        · exact no_of h
        · exact no_of h
        · exact no_of h
      · -- 35
        have hpc : pcs cd (i + 1) = pcs cd i + 1 := hpc
        rcases st with _ | ⟨w | w | w, _ | ⟨k | k | k, _ | ⟨q | q | q, st⟩⟩⟩
        · exact no_of h
        · exact no_of h
        · exact no_of h
        · exact no_of h
        · exact no_of h
        · have h : (match Nat.beq (mKc q.1) b with
            | true => if mIn k (mSz q.1) then run F cd n (i + 1) loc st (mUp v (mFl q k.toNatClampNeg) (vp_nar (mTy q.1) w)) else none
            | false => none) = some res := h
          have hbb : (Nat.ble 100 b && Nat.ble b 102) = true := hok
          rw [Bool.and_eq_true] at hbb
          have hb1 : 100 ≤ b := Nat.ble_eq.mp hbb.1
          have hb2 : b ≤ 102 := Nat.ble_eq.mp hbb.2
          cases hkc : Nat.beq (mKc q.1) b with
          | false =>
            rw [hkc] at h
            cases h
          | true =>
            rw [hkc] at h
            have hkb := Nat.eq_of_beq_eq_true hkc
            have hqm : q ∈ mNs := mOk_in (ok1 (okT (okT hst))) (by omega)
            obtain ⟨k0, hk0, hw⟩ := mWl_at (ad := G.1) (dA := G.2.1) (v := v) hqm
            have hc2 : 100 ≤ mKc q.1 ∧ mKc q.1 ≤ 102 := ⟨by omega, by omega⟩
            rw [mLay_int hc2] at hw
            obtain ⟨t0, ht0, hi1, hi2, hi3⟩ := mArrT hqm (by omega) G.2.1
            have h : (if mIn k (mSz q.1) then run F cd n (i + 1) loc st (mUp v (mFl q k.toNatClampNeg) (vp_nar (mTy q.1) w)) else none) = some res := h
            by_cases hin : mIn k (mSz q.1)
            · rw [if_pos hin] at h
              have go := fun H1 locs1 a1 a2 a3 => ih (i + 1) loc st _ h hlo (okT (okT (okT hst))) H1 locs1 ls a1 a2 a3 hl
              have hse := gW_arr (G := G) (v := v) (w := vp_nar (mTy q.1) w) hqm hk0 hc2 hin.2
              have hb3 : b = 100 ∨ b = 101 ∨ b = 102 := by omega
              rcases hb3 with e2 | e2 | e2
              · have hd : decode cc (pcs cd i) = .ok (.iastore, 1) := by rw [e2] at hd; exact hd
                have hty := hi1 (by omega)
                refine va_iast hx hb hK hP hD hS k0 t0 hw (by rw [ht0, hty]) (mIn_vp hin) hd (fun H1 locs1 hP1 hD1 hS1 => ?_)
                rw [hty] at hse go
                have hse : (gW G v).set k0 (G.1 q, .inl (G.2.1 q.1, (mSz q.1, .inl (upd (mArr v q) k.toNatClampNeg w)))) = gW G (mUp v (mFl q k.toNatClampNeg) (vp_nar .int w)) := hse
                rw [hse] at hP1 hD1
                rw [← hpc]
                exact go H1 locs1 hP1 hD1 hS1
              · have hd : decode cc (pcs cd i) = .ok (.castore, 1) := by rw [e2] at hd; exact hd
                have hty := hi2 (by omega)
                refine va_cast hx hb hK hP hD hS k0 t0 hw (by rw [ht0, hty]) (mIn_vp hin) hd (fun H1 locs1 hP1 hD1 hS1 => ?_)
                rw [hty] at hse go
                rw [hse] at hP1 hD1
                rw [← hpc]
                exact go H1 locs1 hP1 hD1 hS1
              · have hd : decode cc (pcs cd i) = .ok (.bastore, 1) := by rw [e2] at hd; exact hd
                have hty := hi3 (by omega)
                refine va_bast hx hb hK hP hD hS k0 t0 hw (by rw [ht0, hty]) (mIn_vp hin) hd (fun H1 locs1 hP1 hD1 hS1 => ?_)
                rw [hty] at hse go
                rw [hse] at hP1 hD1
                rw [← hpc]
                exact go H1 locs1 hP1 hD1 hS1
            · rw [if_neg hin] at h
              cases h
        · exact no_of h
        · exact no_of h
        · exact no_of h
        · exact no_of h
        · exact no_of h
        · exact no_of h
        · exact no_of h
        · exact no_of h
        · exact no_of h
        · exact no_of h
        · exact no_of h
        · exact no_of h
        · exact no_of h
        · exact no_of h
        · exact no_of h
        · exact no_of h
        · exact no_of h
        · exact no_of h
        · exact no_of h
        · exact no_of h
        · exact no_of h
        · exact no_of h
        · exact no_of h
        · exact no_of h
        · exact no_of h
        · exact no_of h
        · exact no_of h
        · exact no_of h
        · exact no_of h
        · exact no_of h
        · exact no_of h
        · exact no_of h
        · exact no_of h
        · exact no_of h
      · -- 36
        have hpc : pcs cd (i + 1) = pcs cd i + 1 := hpc
        rcases st with _ | ⟨w | w | w, _ | ⟨q | q | q, st⟩⟩
        · exact no_of h
        · exact no_of h
        · exact no_of h
        · exact no_of h
        · have h : (match Nat.beq (mKc q.1) 103 with
            | true => if mIn w (mSz q.1) then match mRf q w.toNatClampNeg with
              | some y => run F cd n (i + 1) loc (.inr (.inr y) :: st) v
              | none => none else none
            | false => none) = some res := h
          cases hkc : Nat.beq (mKc q.1) 103 with
          | false =>
            rw [hkc] at h
            cases h
          | true =>
            rw [hkc] at h
            have hkb := Nat.eq_of_beq_eq_true hkc
            have hqm : q ∈ mNs := mOk_in (ok1 (okT hst)) (by omega)
            obtain ⟨k0, hk0, hw⟩ := mWl_at (ad := G.1) (dA := G.2.1) (v := v) hqm
            rw [mLay_ref hkb] at hw
            obtain ⟨t0, ht0, -, -, -⟩ := mArrT hqm (by omega) G.2.1
            obtain ⟨C, hC⟩ := mArrR hqm hkb
            have h : (if mIn w (mSz q.1) then match mRf q w.toNatClampNeg with
                | some y => run F cd n (i + 1) loc (.inr (.inr y) :: st) v
                | none => none else none) = some res := h
            by_cases hin : mIn w (mSz q.1)
            · rw [if_pos hin] at h
              cases hy : mRf q w.toNatClampNeg with
              | none =>
                rw [hy] at h
                cases h
              | some y =>
                rw [hy] at h
                have go := ih (i + 1) loc _ v h hlo (forall2 (Or.inl (mNs_closed hqm hin.2 hy)) (okT (okT hst))) H locs ls hP hD hS hl
                refine va_aldq hx hb hK hP k0 t0 hw (by rw [ht0, hC]) (mIn_vp hin) hd ?_
                rw [hy, ← hpc]
                exact go
            · rw [if_neg hin] at h
              cases h
        · exact no_of h
        · exact no_of h
        · exact no_of h
        · exact no_of h
        · exact no_of h
        · exact no_of h
        · exact no_of h
        · exact no_of h
      · -- 37
        have hpc : pcs cd (i + 1) = pcs cd i + 1 := hpc
        rcases st with _ | ⟨q | q | q, st⟩
        · exact no_of h
        · exact no_of h
        · exact no_of h
        · have h : (match Nat.ble 100 (mKc q.1) && Nat.ble (mKc q.1) 103 with
            | true => run F cd n (i + 1) loc (.inl (Int32.ofNat (mSz q.1)) :: st) v
            | false => none) = some res := h
          cases hkc : Nat.ble 100 (mKc q.1) && Nat.ble (mKc q.1) 103 with
          | false =>
            rw [hkc] at h
            cases h
          | true =>
            rw [hkc] at h
            rw [Bool.and_eq_true] at hkc
            have h1 : 100 ≤ mKc q.1 := Nat.ble_eq.mp hkc.1
            have h2 : mKc q.1 ≤ 103 := Nat.ble_eq.mp hkc.2
            have hqm : q ∈ mNs := mOk_in (ok1 hst) h2
            obtain ⟨k0, hk0, hw⟩ := mWl_at (ad := G.1) (dA := G.2.1) (v := v) hqm
            obtain ⟨t0, ht0, -, -, -⟩ := mArrT hqm h1 G.2.1
            have go := ih (i + 1) loc _ v h hlo (forall2 (by trivial) (okT hst)) H locs ls hP hD hS hl
            rw [hpc] at go
            by_cases h3 : mKc q.1 = 103
            · rw [mLay_ref h3] at hw
              exact va_alen hx hb hK hP k0 t0 hw ht0 rfl hd go
            · rw [mLay_int ⟨h1, by omega⟩] at hw
              exact va_alen hx hb hK hP k0 t0 hw ht0 rfl hd go
      · -- 38
        have hpc : pcs cd (i + 1) = pcs cd i + 3 := hpc
        rcases st with _ | ⟨w | w | w, _ | ⟨d0 | d0 | d0, _ | ⟨q | q | q, _ | ⟨s0 | s0 | s0, _ | ⟨z | z | z, st⟩⟩⟩⟩⟩ <;> first | exact no_of h | skip
        have h : (match (Nat.beq z.1 q.1 && Nat.beq z.2.2 q.2.2) && (Nat.beq z.1 7 || Nat.beq z.1 10) with
          | true => if d0 = 0 ∧ s0 = 0 ∧ w = Int32.ofNat (mSz z.1) ∧ mcats st ≤ 8 then run F cd n (i + 1) loc st (mCpy v z.2.1 q) else none
          | false => none) = some res := h
        cases hkc : (Nat.beq z.1 q.1 && Nat.beq z.2.2 q.2.2) && (Nat.beq z.1 7 || Nat.beq z.1 10) with
        | false =>
          rw [hkc] at h
          cases h
        | true =>
          rw [hkc] at h
          have h : (if d0 = 0 ∧ s0 = 0 ∧ w = Int32.ofNat (mSz z.1) ∧ mcats st ≤ 8 then run F cd n (i + 1) loc st (mCpy v z.2.1 q) else none) = some res := h
          by_cases hcn : d0 = 0 ∧ s0 = 0 ∧ w = Int32.ofNat (mSz z.1) ∧ mcats st ≤ 8
          · rw [if_pos hcn] at h
            obtain ⟨c1, c2, c3, c4⟩ := hcn
            simp only [Bool.and_eq_true, Bool.or_eq_true] at hkc
            obtain ⟨⟨e1, e2⟩, e3⟩ := hkc
            have e1 := Nat.eq_of_beq_eq_true e1
            have e2 := Nat.eq_of_beq_eq_true e2
            have ht : q.1 = 7 ∨ q.1 = 10 := by
              rw [← e1]
              exact e3.imp Nat.eq_of_beq_eq_true Nat.eq_of_beq_eq_true
            have hcq : 100 ≤ mKc q.1 ∧ mKc q.1 ≤ 102 := by rcases ht with e | e <;> rw [e] <;> decide
            have hcz : 100 ≤ mKc z.1 ∧ mKc z.1 ≤ 102 := by rw [e1]; exact hcq
            have hqm : q ∈ mNs := mOk_in (ok1 (okT (okT hst))) (by omega)
            have hzm : z ∈ mNs := mOk_in (ok1 (okT (okT (okT (okT hst))))) (by omega)
            obtain ⟨k0, hk0, hw⟩ := mWl_at (ad := G.1) (dA := G.2.1) (v := v) hqm
            obtain ⟨k1, hk1, hw1⟩ := mWl_at (ad := G.1) (dA := G.2.1) (v := v) hzm
            rw [mLay_int hcq] at hw
            rw [mLay_int hcz] at hw1
            obtain ⟨t0, ht0, hi1, -, -⟩ := mArrT hqm (by omega) G.2.1
            obtain ⟨t1, ht1, hj1, -, -⟩ := mArrT hzm (by omega) G.2.1
            have hq100 : mKc q.1 = 100 := by rcases ht with e | e <;> rw [e] <;> rfl
            have hz100 : mKc z.1 = 100 := by rw [e1]; exact hq100
            have hs11 : mSz z.1 < 2 ^ 31 := by rcases ht with e | e <;> rw [e1, e] <;> decide
            have hwn : w.toNatClampNeg = mSz z.1 := by rw [c3]; exact nI_clamp hs11
            have hwp : ¬ w < 0 := by rw [c3]; exact nI_pos hs11
            have hsz : mSz z.1 = mSz q.1 := by rw [e1]
            obtain ⟨hr1, hr2⟩ := hac ⟨i, a, b, d, x, y, tb, hi⟩
            have hlk : Cond.methodLink (ownN o) a arraycopyName ∈ mTs := by
              have hok : ((Nat.beq o 1 && Nat.beq a 31) || (Nat.beq o 0 && Nat.beq a 84)) = true := hok
              simp only [Bool.or_eq_true, Bool.and_eq_true] at hok
              rcases hok with ⟨g1, g2⟩ | ⟨g1, g2⟩
              · rw [Nat.eq_of_beq_eq_true g1, Nat.eq_of_beq_eq_true g2]
                exact mTs_of 337 (by decide +kernel) (by decide +kernel)
              · rw [Nat.eq_of_beq_eq_true g1, Nat.eq_of_beq_eq_true g2]
                exact mTs_of 348 (by decide +kernel) (by decide +kernel)
            refine va_copyi hx hb (hml.trans hls.symm) hown (hts _ hlk) (hts _ mTs_native) (hts _ mTs_acst) (hts _ mTs_sysin) hK hP hD hS k1 k0 t1 t0 hw1 hw (by rw [ht1, hj1 hz100]) (by rw [ht0, hi1 hq100]) rfl (by rw [c2]; decide) (by rw [c1]; decide) hwp (by rw [c2, hwn]; exact Nat.le_of_eq (Nat.zero_add _)) (by rw [c1, hwn, hsz]; exact Nat.le_of_eq (Nat.zero_add _)) (fun j _ => rfl) hr1 (by rw [mcats_eq]; omega) hd (fun H1 locs1 hP1 hD1 hS1 => ?_)
            rw [c1, c2, hwn, hsz] at hP1 hD1
            have he := gW_cpy (G := G) (v := v) hzm hqm hk0 e1 e2 ht
            have hP1 : va_P G.2.2.1 vwCl ((gW G v).set k0 (G.1 q, .inl (G.2.1 q.1, (mSz q.1, .inl (va_cpy (mArr v z) (mArr v q) 0 0 (mSz q.1)))))) H1 := hP1
            have hD1 : va_D G.2.2.2.1 ((gW G v).set k0 (G.1 q, .inl (G.2.1 q.1, (mSz q.1, .inl (va_cpy (mArr v z) (mArr v q) 0 0 (mSz q.1)))))) := hD1
            rw [he] at hP1 hD1
            rw [← hpc]
            exact ih (i + 1) loc st _ h hlo (okT (okT (okT (okT (okT hst))))) H1 locs1 ls hP1 hD1 hS1 hl
          · rw [if_neg hcn] at h
            cases h
      · -- 40
        have hpc : pcs cd (i + 1) = pcs cd i + 3 := hpc
        have h : (match (Nat.ble d st.length && Nat.ble (mcats (st.drop d)) 8) && mRcv tb (st.take d) with
          | true => bI (F b v (st.take d).reverse) (fun v r => run F cd n (i + 1) loc (.inl r :: st.drop d) v)
          | false => none) = some res := h
        cases hkc : (Nat.ble d st.length && Nat.ble (mcats (st.drop d)) 8) && mRcv tb (st.take d) with
        | false =>
          rw [hkc] at h
          cases h
        | true =>
          rw [hkc] at h
          have h : bI (F b v (st.take d).reverse) (fun v r => run F cd n (i + 1) loc (.inl r :: st.drop d) v) = some res := h
          simp only [Bool.and_eq_true] at hkc
          obtain ⟨⟨g1, g2⟩, g3⟩ := hkc
          have g1 : d ≤ st.length := Nat.ble_eq.mp g1
          have g2 : mcats (st.drop d) ≤ 8 := Nat.ble_eq.mp g2
          have hmc : MCall G.2.2.2.2 R o F (40, a, b, d, x, y, tb) := allC_at hcall _ (List.mem_filter.mpr ⟨(nth_lt hi).2, rfl⟩)
          have hdrop : ∀ w ∈ st.drop d, mOk w := fun w hw => hst w (List.mem_of_mem_drop hw)
          have hdg : decode cc (pcs cd i) = .ok (invI a tb, 3) := hd
          obtain ⟨v', r, h1, h2⟩ := bI_some h
          refine m_inv G hx hb hml hown hwd hK hS0 hcs F hmc hdg g1 g2 g3 h1 hst hP hD hS hls (fun hro H1 locs1 hP1 hS1 => ?_)
          rw [← hpc]
          exact ih (i + 1) loc _ v' h2 hlo (forall2 (by trivial) hdrop) H1 locs1 ls hP1 (mWl_D hD) hS1 hl
      · -- 41
        have hpc : pcs cd (i + 1) = pcs cd i + 3 := hpc
        have h : (match (Nat.ble d st.length && Nat.ble (mcats (st.drop d)) 8) && mRcv tb (st.take d) with
          | true => bV (F b v (st.take d).reverse) (fun v => run F cd n (i + 1) loc (st.drop d) v)
          | false => none) = some res := h
        cases hkc : (Nat.ble d st.length && Nat.ble (mcats (st.drop d)) 8) && mRcv tb (st.take d) with
        | false =>
          rw [hkc] at h
          cases h
        | true =>
          rw [hkc] at h
          have h : bV (F b v (st.take d).reverse) (fun v => run F cd n (i + 1) loc (st.drop d) v) = some res := h
          simp only [Bool.and_eq_true] at hkc
          obtain ⟨⟨g1, g2⟩, g3⟩ := hkc
          have g1 : d ≤ st.length := Nat.ble_eq.mp g1
          have g2 : mcats (st.drop d) ≤ 8 := Nat.ble_eq.mp g2
          have hmc : MCall G.2.2.2.2 R o F (41, a, b, d, x, y, tb) := allC_at hcall _ (List.mem_filter.mpr ⟨(nth_lt hi).2, rfl⟩)
          have hdrop : ∀ w ∈ st.drop d, mOk w := fun w hw => hst w (List.mem_of_mem_drop hw)
          have hdg : decode cc (pcs cd i) = .ok (invI a tb, 3) := hd
          obtain ⟨v', h1, h2⟩ := bV_some h
          refine m_inv G hx hb hml hown hwd hK hS0 hcs F hmc hdg g1 g2 g3 h1 hst hP hD hS hls (fun hro H1 locs1 hP1 hS1 => ?_)
          rw [← hpc]
          exact ih (i + 1) loc _ v' h2 hlo hdrop H1 locs1 ls hP1 (mWl_D hD) hS1 hl
      · -- 42
        have hpc : pcs cd (i + 1) = pcs cd i + 3 := hpc
        have h : (match (Nat.ble d st.length && Nat.ble (mcats (st.drop d)) 8) && mRcv tb (st.take d) with
          | true => bN (F b v (st.take d).reverse) (fun v q => run F cd n (i + 1) loc (.inr (.inr q) :: st.drop d) v)
          | false => none) = some res := h
        cases hkc : (Nat.ble d st.length && Nat.ble (mcats (st.drop d)) 8) && mRcv tb (st.take d) with
        | false =>
          rw [hkc] at h
          cases h
        | true =>
          rw [hkc] at h
          have h : bN (F b v (st.take d).reverse) (fun v q => run F cd n (i + 1) loc (.inr (.inr q) :: st.drop d) v) = some res := h
          simp only [Bool.and_eq_true] at hkc
          obtain ⟨⟨g1, g2⟩, g3⟩ := hkc
          have g1 : d ≤ st.length := Nat.ble_eq.mp g1
          have g2 : mcats (st.drop d) ≤ 8 := Nat.ble_eq.mp g2
          have hmc : MCall G.2.2.2.2 R o F (42, a, b, d, x, y, tb) := allC_at hcall _ (List.mem_filter.mpr ⟨(nth_lt hi).2, rfl⟩)
          have hdrop : ∀ w ∈ st.drop d, mOk w := fun w hw => hst w (List.mem_of_mem_drop hw)
          have hdg : decode cc (pcs cd i) = .ok (invI a tb, 3) := hd
          obtain ⟨v', r, h1, h2⟩ := bN_some h
          refine m_inv G hx hb hml hown hwd hK hS0 hcs F hmc hdg g1 g2 g3 h1 hst hP hD hS hls (fun hro H1 locs1 hP1 hS1 => ?_)
          rw [← hpc]
          exact ih (i + 1) loc _ v' h2 hlo (forall2 (hro _ rfl) hdrop) H1 locs1 ls hP1 (mWl_D hD) hS1 hl
      · -- 43
        have hpc : pcs cd (i + 1) = pcs cd i + 3 := hpc
        have h : (match (Nat.ble d st.length && Nat.ble (mcats (st.drop d)) 8) && mRcv tb (st.take d) with
          | true => bL (F b v (st.take d).reverse) (fun v q => run F cd n (i + 1) loc (.inr (.inl q) :: st.drop d) v)
          | false => none) = some res := h
        cases hkc : (Nat.ble d st.length && Nat.ble (mcats (st.drop d)) 8) && mRcv tb (st.take d) with
        | false =>
          rw [hkc] at h
          cases h
        | true =>
          rw [hkc] at h
          have h : bL (F b v (st.take d).reverse) (fun v q => run F cd n (i + 1) loc (.inr (.inl q) :: st.drop d) v) = some res := h
          simp only [Bool.and_eq_true] at hkc
          obtain ⟨⟨g1, g2⟩, g3⟩ := hkc
          have g1 : d ≤ st.length := Nat.ble_eq.mp g1
          have g2 : mcats (st.drop d) ≤ 8 := Nat.ble_eq.mp g2
          have hmc : MCall G.2.2.2.2 R o F (43, a, b, d, x, y, tb) := allC_at hcall _ (List.mem_filter.mpr ⟨(nth_lt hi).2, rfl⟩)
          have hdrop : ∀ w ∈ st.drop d, mOk w := fun w hw => hst w (List.mem_of_mem_drop hw)
          have hdg : decode cc (pcs cd i) = .ok (invI a tb, 3) := hd
          obtain ⟨v', r, h1, h2⟩ := bL_some h
          refine m_inv G hx hb hml hown hwd hK hS0 hcs F hmc hdg g1 g2 g3 h1 hst hP hD hS hls (fun hro H1 locs1 hP1 hS1 => ?_)
          rw [← hpc]
          exact ih (i + 1) loc _ v' h2 hlo (forall2 (hro _ rfl) hdrop) H1 locs1 ls hP1 (mWl_D hD) hS1 hl
      · -- 44
        have hpc : pcs cd (i + 1) = pcs cd i + (if d = 0 then 1 else 2) := hpc
        rcases st with _ | ⟨u | u | u, st⟩
        · exact no_of h
        · exact no_of h
        · have h : run F cd n (i + 1) (sto2 loc a (.inr (.inl u))) st v = some res := h
          have hok : (Nat.blt (a + 1) nL && (!(Nat.beq d 0) || Nat.blt a 4)) = true := hok
          rw [Bool.and_eq_true] at hok
          have han : a + 1 < nL := Nat.blt_eq.mp hok.1
          by_cases hd0 : d = 0
          · have ha : a < 4 := by
              have hok2 := hok.2
              rw [hd0] at hok2
              exact Nat.blt_eq.mp hok2
            have hd : decode cc (pcs cd i) = .ok (.lstore_n (fin4 a), 1) := by
              have e1 : toI cd i (44, a, b, d, x, y, tb) = .lstore_n (fin4 a) := if_pos hd0
              have e2 : ilen (44, a, b, d, x, y, tb) = 1 := if_pos hd0
              rw [← e1, ← e2]
              exact hd
            rw [if_pos hd0] at hpc
            refine lv_lstore_n hx hb hd (fin4_val ha) hl han (gL_sto2 (w := .inr (.inl u))) (fun ls' hl' => ?_)
            rw [← hpc]
            exact ih (i + 1) _ st v h (sto2_ok hlo (ok1 hst)) (okT hst) H locs ls' hP hD hS hl'
          · have hd : decode cc (pcs cd i) = .ok (.lstore a, 2) := by
              have e1 : toI cd i (44, a, b, d, x, y, tb) = .lstore a := if_neg hd0
              have e2 : ilen (44, a, b, d, x, y, tb) = 2 := if_neg hd0
              rw [← e1, ← e2]
              exact hd
            refine lv_lstore hx hb hd hl han (gL_sto2 (w := .inr (.inl u))) (fun ls' hl' => ?_)
            rw [if_neg hd0] at hpc
            rw [← hpc]
            exact ih (i + 1) _ st v h (sto2_ok hlo (ok1 hst)) (okT hst) H locs ls' hP hD hS hl'
        · exact no_of h
      · -- 50
        have hpc : pcs cd (i + 1) = pcs cd i + 1 := hpc
        rcases st with _ | ⟨w | w | w, _ | ⟨u, st⟩⟩ <;> first | exact no_of h | skip
        have h : (some (v, some (.inl w)) : MR) = some res := h
        exact hret i 50 a b d x y tb [.inl w] v H locs ls hi (by omega) (by omega) hd hok ⟨w, rfl, (Option.some.inj h).symm⟩ hst hP hS
      · -- 51
        have hpc : pcs cd (i + 1) = pcs cd i + 1 := hpc
        rcases st with _ | ⟨w | w | w, _ | ⟨u, st⟩⟩ <;> first | exact no_of h | skip
        have h : (if w = 0 ∨ w = 1 then (some (v, some (.inl w)) : MR) else none) = some res := h
        by_cases z : w = 0 ∨ w = 1
        · rw [if_pos z] at h
          exact hret i 51 a b d x y tb [.inl w] v H locs ls hi (by omega) (by omega) hd hok ⟨w, z, rfl, (Option.some.inj h).symm⟩ hst hP hS
        · rw [if_neg z] at h
          cases h
      · -- 52
        have hpc : pcs cd (i + 1) = pcs cd i + 1 := hpc
        rcases st with _ | ⟨w | w | w, _ | ⟨u, st⟩⟩ <;> first | exact no_of h | skip
        have h : (match Nat.beq w.1 2 && (Nat.blt w.2.1 8 && Nat.beq w.2.2 0) with
          | true => (some (v, some (.inr (.inr w))) : MR)
          | false => none) = some res := h
        cases hkc : Nat.beq w.1 2 && (Nat.blt w.2.1 8 && Nat.beq w.2.2 0) with
        | false =>
          rw [hkc] at h
          cases h
        | true =>
        rw [hkc] at h
        exact hret i 52 a b d x y tb [.inr (.inr w)] v H locs ls hi (by omega) (by omega) hd hok ⟨w, rfl, (Option.some.inj h).symm⟩ hst hP hS
      · -- 53
        have hpc : pcs cd (i + 1) = pcs cd i + 1 := hpc
        rcases st with _ | ⟨u, st⟩ <;> first | exact no_of h | skip
        have h : (some (v, none) : MR) = some res := h
        exact hret i 53 a b d x y tb [] v H locs ls hi (by omega) (by omega) hd hok ⟨rfl, (Option.some.inj h).symm⟩ hst hP hS
      · -- 54
        rcases st with _ | ⟨w | w | w, _ | ⟨u, st⟩⟩ <;> first | exact no_of h | skip
        have h : (some (v, some (.inr (.inl w))) : MR) = some res := h
        exact hret i 54 a b d x y tb [.inr (.inl w)] v H locs ls hi (by omega) (by omega) hd hok ⟨w, rfl, (Option.some.inj h).symm⟩ hst hP hS
      · -- 55
        have hpc : pcs cd (i + 1) = pcs cd i + 1 := hpc
        rcases st with _ | ⟨w | w | w, _ | ⟨q | q | q, st⟩⟩ <;> first | exact no_of h | skip
        have h : (match Nat.beq q.1 22 with
          | true => bI (F 99 v [.inl w]) (fun _ r => run F cd n (i + 1) loc (.inl r :: st) v)
          | false => none) = some res := h
        cases hkc : Nat.beq q.1 22 with
        | false =>
          rw [hkc] at h
          cases h
        | true =>
          rw [hkc] at h
          have h : bI (F 99 v [.inl w]) (fun _ r => run F cd n (i + 1) loc (.inl r :: st) v) = some res := h
          obtain ⟨v', r, h1, h2⟩ := bI_some h
          obtain ⟨L, xs, g1, g2, g3, g4, -⟩ := hscr ⟨i, 55, a, b, d, x, y, tb, hi, by omega⟩
          obtain ⟨g5, g6⟩ := g4 w v _ h1
          have hr : r = xs w.toNatClampNeg := by
            have := Option.some.inj g6
            exact Sum.inl.inj this
          have hq : q = (22, 0, 0) := by
            have hq1 := Nat.eq_of_beq_eq_true hkc
            rcases ok1 (okT hst) with z | z
            · exact absurd (mKc_in z) (by rw [hq1]; decide)
            · exact z
          have go := ih (i + 1) loc _ v h2 hlo (forall2 (by trivial) (okT (okT hst))) H locs ls hP hD hS hl
          rw [hpc] at go
          rw [hq]
          refine va_sld hx hb g3 g1 g2 hS g5 hd ?_
          rw [← hr]
          exact go
      · -- 56
        have hpc : pcs cd (i + 1) = pcs cd i + 1 := hpc
        rcases st with _ | ⟨q | q | q, st⟩ <;> first | exact no_of h | skip
        have h : (match Nat.beq q.1 22 with
          | true => bI (F 98 v []) (fun _ r => run F cd n (i + 1) loc (.inl r :: st) v)
          | false => none) = some res := h
        cases hkc : Nat.beq q.1 22 with
        | false =>
          rw [hkc] at h
          cases h
        | true =>
          rw [hkc] at h
          have h : bI (F 98 v []) (fun _ r => run F cd n (i + 1) loc (.inl r :: st) v) = some res := h
          obtain ⟨v', r, h1, h2⟩ := bI_some h
          obtain ⟨L, xs, g1, g2, g3, -, g4⟩ := hscr ⟨i, 56, a, b, d, x, y, tb, hi, by omega⟩
          have hr : r = Int32.ofNat L := by
            have := Option.some.inj (g4 v _ h1)
            exact Sum.inl.inj this
          have hq : q = (22, 0, 0) := by
            have hq1 := Nat.eq_of_beq_eq_true hkc
            rcases ok1 hst with z | z
            · exact absurd (mKc_in z) (by rw [hq1]; decide)
            · exact z
          have go := ih (i + 1) loc _ v h2 hlo (forall2 (by trivial) (okT hst)) H locs ls hP hD hS hl
          rw [hpc] at go
          rw [hq]
          refine va_slen hx hb g3 g1 g2 hS hd ?_
          rw [← hr]
          exact go
end
