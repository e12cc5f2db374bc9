-- NUMBERS and regions of the flat memory
abbrev I (x : Int32) : MV := .inl x
abbrev nm (t i j : Nat) : MV := .inr (.inr (t, i, j))
theorem fn_leaf {nL : Nat} {F : Nat → MF} {cd : List MI} {hd : List Nat} {T : Nat} {v : MM} {as : List MV} {r : MM × Option MV} (hl : Nat.ble (mcats as) nL = true) (hE : ∀ R, stp F cd (runH F cd hd R T) 0 (mEl 0 as) [] v = some r) : mLim nL F cd v as = some r := mLim_rn hl (Rn.leaf hE)
theorem fn_tree {nL : Nat} {F : Nat → MF} {cd : List MI} {hd : List Nat} {T k i' : Nat} {loc' : ML} {st' : List MV} {v v' : MM} {as : List MV} {r : MM × Option MV} (hl : Nat.ble (mcats as) nL = true) (hE : ∀ R, stp F cd (runH F cd hd R T) 0 (mEl 0 as) [] v = R k i' loc' st' v') (h : Rn F cd i' loc' st' v' r) : mLim nL F cd v as = some r := mLim_rn hl (Rn.tree hE h)
def au (a : Nat → Nat) (k x : Nat) : Nat → Nat := fun j => if j = k then x else a j
theorem au_s (a : Nat → Nat) (k x : Nat) : au a k x k = x := if_pos rfl
theorem au_n {a : Nat → Nat} {k x j : Nat} (h : j ≠ k) : au a k x j = a j := if_neg h
/-- region r holds the numbers a, up to N -/
def St (N : Nat) (v : MM) (r : Nat) (a : Nat → Nat) : Prop := ∀ k, k < N → v.1 r k = nI (a k)
/-- only region r has changed -/
def Fr (r : Nat) (v v' : MM) : Prop := (∀ r', r' ≠ r → v'.1 r' = v.1 r') ∧ v'.2 = v.2
theorem Fr.rf (r : Nat) (v : MM) : Fr r v v := ⟨fun _ _ => rfl, rfl⟩
theorem Fr.tr {r : Nat} {v v' v'' : MM} (h : Fr r v v') (h' : Fr r v' v'') : Fr r v v'' := ⟨fun r' hr => (h'.1 r' hr).trans (h.1 r' hr), h'.2.trans h.2⟩
theorem Fr.up (r o : Nat) (v : MM) (x : Int32) : Fr r v (mUp v (r, o) x) := by
  refine ⟨fun r' hr => ?_, rfl⟩
  funext o'
  exact if_neg (fun z => hr z.1)
theorem St.up {N : Nat} {v : MM} {r o : Nat} {a : Nat → Nat} {x : Int32} {n : Nat} (h : St N v r a) (hx : x = nI n) : St N (mUp v (r, o) x) r (au a o n) := by
  intro k hk
  show (if r = r ∧ k = o then x else v.1 r k) = nI (if k = o then n else a k)
  by_cases e : k = o
  · rw [if_pos ⟨rfl, e⟩, if_pos e, hx]
  · rw [if_neg (fun z => e z.2), if_neg e, h k hk]
theorem St.fr {N : Nat} {v v' : MM} {r r' : Nat} {a : Nat → Nat} (h : St N v r' a) (hf : Fr r v v') (hr : r' ≠ r) : St N v' r' a := fun k hk => by rw [hf.1 r' hr]; exact h k hk
theorem St.cong {N : Nat} {v : MM} {r : Nat} {a b : Nat → Nat} (h : St N v r a) (e : ∀ k, k < N → a k = b k) : St N v r b := fun k hk => by rw [h k hk, e k hk]
theorem St.le {N M : Nat} {v : MM} {r : Nat} {a : Nat → Nat} (h : St N v r a) (e : M ≤ N) : St M v r a := fun k hk => h k (by omega)
-- numbers
theorem n0 : (0 : Int32) = nI 0 := rfl
theorem nn {x : Int32} (h : 0 ≤ x) : x = nI x.toNatClampNeg ∧ x.toNatClampNeg < 2 ^ 31 := by
  obtain ⟨j, hj, rfl⟩ := nI_of (Int32.not_lt.mpr h)
  rw [nI_clamp hj]
  exact ⟨rfl, hj⟩
theorem i_le {a b : Nat} (ha : a < 2 ^ 31) (hb : b < 2 ^ 31) : nI a ≤ nI b ↔ a ≤ b := nI_leI ha hb
theorem i_lt {a b : Nat} (ha : a < 2 ^ 31) (hb : b < 2 ^ 31) : nI a < nI b ↔ a < b := nI_ltI ha hb
theorem i_eq {a b : Nat} (ha : a < 2 ^ 31) (hb : b < 2 ^ 31) : nI a = nI b ↔ a = b := nI_eq ha hb
theorem i_sub {a b : Nat} (h : b ≤ a) : nI a - nI b = nI (a - b) := pk_sub h
theorem i_add (a b : Nat) : nI a + nI b = nI (a + b) := nI_add a b
/-- an argument between 0 and M -/
theorem inM {x : Int32} {M : Nat} (hM : M < 2 ^ 31) (h0 : 0 ≤ x) (h1 : x ≤ nI M) : ∃ j, j ≤ M ∧ x = nI j := by
  obtain ⟨h, hl⟩ := nn h0
  refine ⟨x.toNatClampNeg, ?_, h⟩
  rw [h] at h1
  exact (i_le hl hM).mp h1
theorem lng {X M J : Nat} (hX : X < 2 ^ 31) (hM : M < 2 ^ 31) (h0 : 0 < J) (hJ : J < 2 ^ 31) : (((nI X).toInt64 * (nI M).toInt64) / (nI J).toInt64).toInt32 = nI (X * M / J) := by
  rw [nI_l hX, nI_l hM, nI_l hJ, lN_mul, pk_lDiv _ h0 (by omega), lN_i]
  have : X * M ≤ 2 ^ 31 * 2 ^ 31 := Nat.mul_le_mul (by omega) (by omega)
  omega
theorem lng0 {J : Nat} (h0 : 0 < J) (hJ : J < 2 ^ 31) : ¬ (nI J).toInt64 = 0 := by
  rw [nI_l hJ]
  intro h
  have h2 : lN J = lN 0 := h
  have := (lN_eq hJ (by omega)).mp h2
  omega
theorem lng1000 {X M : Nat} (hX : X < 2 ^ 31) (hM : M < 2 ^ 31) : (((nI X).toInt64 * (nI M).toInt64) / (1000 : Int64)).toInt32 = nI (X * M / 1000) := lng (J := 1000) hX hM (by omega) (by omega)
theorem lngk {X J : Nat} (hX : X < 2 ^ 31) (h0 : 0 < J) (hJ : J < 2 ^ 31) : (((nI X).toInt64 * (1000 : Int64)) / (nI J).toInt64).toInt32 = nI (X * 1000 / J) := lng (M := 1000) hX (by omega) h0 hJ
/-- x * m / y of ints that don't pass 2^31 -/
theorem i_md {X M J : Nat} (h : X * M < 2 ^ 31) (h0 : 0 < J) (hJ : J < 2 ^ 31) : nI X * nI M / nI J = nI (X * M / J) := by
  rw [pk_mul, pk_div h h0 hJ]
-- the statics of the class
theorem s_within (v : MM) (x a b : Int32) : fX6_within v [I x, I a, I b] = some (v, some (I (if a ≤ x ∧ x ≤ b then 1 else 0))) := by
  refine fn_leaf rfl (fun R => (eX6_within _ R v x a b).trans ?_)
  by_cases h1 : x < a
  · rw [if_pos h1, if_neg (fun z => Int32.not_le.mpr h1 z.1)]
  · rw [if_neg h1]
    by_cases h2 : b < x
    · rw [if_pos h2, if_neg (fun z => Int32.not_le.mpr h2 z.2)]
    · rw [if_neg h2, if_pos ⟨Int32.not_lt.mp h1, Int32.not_lt.mp h2⟩]
theorem s_thou {v : MM} {X M : Nat} (hX : X < 2 ^ 31) (hM : M < 2 ^ 31) : fX6_thousandths v [I (nI X), I (nI M)] = some (v, some (I (nI (X * M / 1000)))) := by
  refine fn_leaf rfl (fun R => (eX6_thousandths _ R v _ _).trans ?_)
  rw [lng1000 hX hM]
theorem s_pert {v : MM} {X J : Nat} (hX : X < 2 ^ 31) (h0 : 0 < J) (hJ : J < 2 ^ 31) : fX6_perThousand v [I (nI X), I (nI J)] = some (v, some (I (nI (X * 1000 / J)))) := by
  refine fn_leaf rfl (fun R => (eX6_perThousand _ R v _ _).trans ?_)
  rw [if_pos (show (0 : Int32) < nI J from nI_lt (a := 0) h0 hJ), if_neg (lng0 h0 hJ), lngk hX h0 hJ]
theorem s_pert0 {v : MM} {x : Int32} : fX6_perThousand v [I x, I 0] = some (v, some (I (-9))) := by
  refine fn_leaf rfl (fun R => (eX6_perThousand _ R v _ _).trans ?_)
  rw [if_neg (by decide)]
theorem s_min {v : MM} {X Y : Nat} (hX : X < 2 ^ 31) (hY : Y < 2 ^ 31) : fJ9_min_7cf53 v [I (nI X), I (nI Y)] = some (v, some (I (nI (min X Y)))) := by
  refine fn_leaf rfl (fun R => (eJ9_min_7cf53 _ R v _ _).trans ?_)
  by_cases h : Y < X
  · rw [if_pos ((i_lt hY hX).mpr h), Nat.min_eq_right (by omega)]
  · rw [if_neg (fun z => h ((i_lt hY hX).mp z)), Nat.min_eq_left (by omega)]
