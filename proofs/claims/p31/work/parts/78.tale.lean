-- WHAT THE LAW TELLS OF A SHOP, and what it does
section
variable {B p c : Nat} {v : MM} {a : Nat → Nat}
abbrev L (x : Int64) : MV := .inr (.inl x)
/-- the run from here answers the same number of each shop that stands at this page -/
def Tl (a : Nat → Nat) (i : Nat) (loc : ML) : Prop := ∃ x : Int64, ∀ (B : Nat) (v : MM) (p c : Nat), Rel B v p c a → rLim FL_tale cdL_tale i loc [] v = some (v, some (L x))
theorem nx (k : Nat) : nI k + (1 : Int32) = nI (k + 1) := i_add k 1
theorem t84 (a : Nat → Nat) : ∀ d k z, d + k = 4 → Tl a 84 [(3, I (nI k)), (1, L z), (0, SH)]
  | 0, k, z, e => by
    have ek : k = 4 := by omega
    subst ek
    exact ⟨z, fun B v p c h => (qL_tale_84 v _ z).trans (if_neg (by decide))⟩
  | d + 1, k, z, e => by
    have hk : k < 4 := by omega
    obtain ⟨x, hx⟩ := t84 a d (k + 1) ((z * 43 + (nI (a (if 0 = 0 then 151 + k else 110 + 10 * k + 0))).toInt64) + 3 * (nI (a (if 1 + k = 0 then 151 + k else 110 + 10 * k + (1 + k)))).toInt64) (by omega)
    refine ⟨x, fun B v p c h => (qL_tale_84 v _ z).trans ((if_pos (ltT (n := 4) rfl rfl hk (by omega))).trans ((bI_eq (u_bot h hk (n := 0) (by omega))).trans ?_))⟩
    have e1 : (1 : Int32) + nI k = nI (1 + k) := i_add 1 k
    rw [e1, nx]
    exact (bI_eq (u_bot h hk (n := 1 + k) (by omega))).trans (hx B v p c h)
theorem t59 (a : Nat → Nat) : ∀ d k z, d + k = 8 → Tl a 59 [(3, I (nI k)), (1, L z), (0, SH)]
  | 0, k, z, e => by
    have ek : k = 8 := by omega
    subst ek
    obtain ⟨x, hx⟩ := t84 a 4 0 z rfl
    exact ⟨x, fun B v p c h => (qL_tale_59 v _ z).trans ((if_neg (by decide)).trans (hx B v p c h))⟩
  | d + 1, k, z, e => by
    have hk : k < 8 := by omega
    obtain ⟨x, hx⟩ := t59 a d (k + 1) ((z * 41 + (lotv a k 0).toInt64) + 11 * (lotv a k 1).toInt64) (by omega)
    refine ⟨x, fun B v p c h => (qL_tale_59 v _ z).trans ((if_pos (ltT (n := 8) rfl rfl hk (by omega))).trans ((bI_eq (u_lot h hk (n := 0) (Or.inl rfl))).trans ((bI_eq (u_lot h hk (n := 1) (Or.inr rfl))).trans ?_)))⟩
    rw [nx]
    exact hx B v p c h
theorem t40 (a : Nat → Nat) {y : Nat} (hy : y < 6) (next : ∀ z, Tl a 35 [(3, I (nI (y + 1))), (1, L z), (0, SH)]) : ∀ d k z, d + k = 8 → Tl a 40 [(4, I (nI k)), (3, I (nI y)), (1, L z), (0, SH)]
  | 0, k, z, e => by
    have ek : k = 8 := by omega
    subst ek
    obtain ⟨x, hx⟩ := next z
    refine ⟨x, fun B v p c h => (qL_tale_40 v _ _ z).trans ((if_neg (by decide)).trans ?_)⟩
    rw [nx]
    exact rL_sub [0, 2, 3] rfl rfl (hx B v p c h)
  | d + 1, k, z, e => by
    have hk : k < 8 := by omega
    obtain ⟨x, hx⟩ := t40 a hy next d (k + 1) (z * 37 + (tnk a y k).toInt64) (by omega)
    refine ⟨x, fun B v p c h => (qL_tale_40 v _ _ z).trans ((if_pos (ltT (n := 8) rfl rfl hk (by omega))).trans ((bI_eq (u_tank h hy (n := k) (by omega))).trans ?_))⟩
    rw [nx]
    exact rL_sub [0, 2, 1, 3] rfl rfl (hx B v p c h)
theorem t35 (a : Nat → Nat) : ∀ d k z, d + k = 6 → Tl a 35 [(3, I (nI k)), (1, L z), (0, SH)]
  | 0, k, z, e => by
    have ek : k = 6 := by omega
    subst ek
    obtain ⟨x, hx⟩ := t59 a 8 0 z rfl
    exact ⟨x, fun B v p c h => (qL_tale_35 v _ z).trans ((if_neg (by decide)).trans (hx B v p c h))⟩
  | d + 1, k, z, e => by
    have hk : k < 6 := by omega
    obtain ⟨x, hx⟩ := t40 a hk (fun z => t35 a d (k + 1) z (by omega)) 8 0 z rfl
    exact ⟨x, fun B v p c h => (qL_tale_35 v _ z).trans ((if_pos (ltT (n := 6) rfl rfl hk (by omega))).trans (hx B v p c h))⟩
theorem t4 (a : Nat → Nat) : ∀ d k z, d + k = 11 → Tl a 4 [(3, I (nI k)), (1, L z), (0, SH)]
  | 0, k, z, e => by
    have ek : k = 11 := by omega
    subst ek
    obtain ⟨x, hx⟩ := t35 a 6 0 z rfl
    exact ⟨x, fun B v p c h => (qL_tale_4 v _ z).trans ((if_neg (by decide)).trans (hx B v p c h))⟩
  | d + 1, k, z, e => by
    have hk : k < 11 := by omega
    by_cases c4 : k = 4
    · obtain ⟨x, hx⟩ := t4 a d (k + 1) ((z * 31 + (nI (acc a k)).toInt64) + 0) (by omega)
      refine ⟨x, fun B v p c h => (qL_tale_4 v _ z).trans ((if_pos (ltT (n := 11) rfl rfl hk (by omega))).trans ((bI_eq (u_acc h hk)).trans ((if_pos (eqT (n := 4) rfl rfl c4)).trans ?_)))⟩
      rw [nx]
      exact hx B v p c h
    · by_cases c6 : k = 6
      · obtain ⟨x, hx⟩ := t4 a d (k + 1) ((z * 31 + (nI (acc a k)).toInt64) + 0) (by omega)
        refine ⟨x, fun B v p c h => (qL_tale_4 v _ z).trans ((if_pos (ltT (n := 11) rfl rfl hk (by omega))).trans ((bI_eq (u_acc h hk)).trans ((if_neg (eqF (n := 4) rfl rfl c4 (by omega) (by omega))).trans ((if_pos (eqT (n := 6) rfl rfl c6)).trans ?_))))⟩
        rw [nx]
        exact hx B v p c h
      · obtain ⟨x, hx⟩ := t4 a d (k + 1) ((z * 31 + (nI (acc a k)).toInt64) + 7 * (nI (cnt a k)).toInt64) (by omega)
        refine ⟨x, fun B v p c h => (qL_tale_4 v _ z).trans ((if_pos (ltT (n := 11) rfl rfl hk (by omega))).trans ((bI_eq (u_acc h hk)).trans ((if_neg (eqF (n := 4) rfl rfl c4 (by omega) (by omega))).trans ((if_neg (eqF (n := 6) rfl rfl c6 (by omega) (by omega))).trans ((bI_eq (u_count h hk c4 c6)).trans ?_)))))⟩
        rw [nx]
        exact hx B v p c h
theorem tale_ex (a : Nat → Nat) : ∃ x : Int64, ∀ (B : Nat) (v : MM) (p c : Nat), Rel B v p c a → fL_tale v [SH] = some (v, some (L x)) := by
  obtain ⟨x, hx⟩ := t4 a 11 0 3 rfl
  exact ⟨x, fun B v p c h => (qL_tale v).trans (hx B v p c h)⟩
-- what the law does
theorem Cal.eq {o o' : MR} (e : o = o') (h : Cal B v p c a o') : Cal B v p c a o := by
  rw [e]
  exact h
theorem Cal.ret {o : MR} (h : Cal B v p c a o) : Cal B v p c a (bI o (fun w r => some (w, some (.inl r)))) := by
  obtain ⟨r, v1, e, h2⟩ := h
  exact ⟨r, v1, bI_eq e, h2⟩
theorem Cal.low {x1 x2 : Int32} {k : MM → Int32 → MR} (h0 : ¬ x2 = 0) (h : ∀ r, Cal B v p c a (k v r)) : Cal B v p c a (bI (fL_low v [I x1, I x2]) k) := (h _).eq (bI_eq ((qL_low v x1 x2).trans (if_neg h0)))
theorem does_ex (h : Rel B v p c a) (hB : B ≤ 1100) (x : Int32) : Cal B v p c a (fL_does v [SH, I x]) := by
  refine Cal.eq (qL_does v x) (Cal.low (by decide) (fun r2 => Cal.low (by decide) (fun r4 => ?_)))
  by_cases c0 : (x &&& (15 : Int32)) = (0 : Int32)
  · exact Cal.eq (if_pos c0) (Cal.low (by decide) (fun q1 => Cal.low (by decide) (fun q2 => Cal.low (by decide) (fun q3 => Cal.low (by decide) (fun q4 => (l_setVariety h _ _ _ _).ret)))))
  refine Cal.eq (if_neg c0) ?_
  by_cases c1 : (x &&& (15 : Int32)) = (1 : Int32)
  · exact Cal.eq (if_pos c1) (Cal.low (by decide) (fun q1 => Cal.low (by decide) (fun q2 => Cal.low (by decide) (fun q3 => Cal.low (by decide) (fun q4 => (l_setRates h _ _ _ _).ret)))))
  refine Cal.eq (if_neg c1) ?_
  by_cases c2 : (x &&& (15 : Int32)) = (2 : Int32)
  · exact Cal.eq (if_pos c2) (Cal.low (by decide) (fun q1 => Cal.low (by decide) (fun q2 => (l_buy h _ _).ret)))
  refine Cal.eq (if_neg c2) ?_
  by_cases c3 : (x &&& (15 : Int32)) = (3 : Int32)
  · exact Cal.eq (if_pos c3) (Cal.low (by decide) (fun q1 => (l_addTank h _).ret))
  refine Cal.eq (if_neg c3) ?_
  by_cases c4 : (x &&& (15 : Int32)) = (4 : Int32)
  · exact Cal.eq (if_pos c4) (Cal.low (by decide) (fun q1 => Cal.low (by decide) (fun q2 => (l_press h _ _ _).ret)))
  refine Cal.eq (if_neg c4) ?_
  by_cases c5 : (x &&& (15 : Int32)) = (5 : Int32)
  · exact Cal.eq (if_pos c5) (Cal.low (by decide) (fun q1 => Cal.low (by decide) (fun q2 => (l_press h _ _ _).ret)))
  refine Cal.eq (if_neg c5) ?_
  by_cases c6 : (x &&& (15 : Int32)) = (6 : Int32)
  · exact Cal.eq (if_pos c6) (Cal.low (by decide) (fun q1 => Cal.low (by decide) (fun q2 => (l_press h _ _ _).ret)))
  refine Cal.eq (if_neg c6) ?_
  by_cases c7 : (x &&& (15 : Int32)) = (7 : Int32)
  · exact Cal.eq (if_pos c7) (Cal.low (by decide) (fun q1 => (l_wet h hB _ _).ret))
  refine Cal.eq (if_neg c7) ?_
  by_cases c8 : (x &&& (15 : Int32)) = (8 : Int32)
  · refine Cal.eq (if_pos c8) ?_
    by_cases d : ((x >>> ((20 : Int32) &&& 31)) &&& (3 : Int32)) = 0
    · exact Cal.eq (if_pos d) (l_sellPomace h hB).ret
    · exact Cal.eq (if_neg d) (Cal.low (by decide) (fun q1 => (l_move h hB _ _ _).ret))
  refine Cal.eq (if_neg c8) ?_
  by_cases c9 : (x &&& (15 : Int32)) = (9 : Int32)
  · exact Cal.eq (if_pos c9) (l_rack h hB _ _).ret
  refine Cal.eq (if_neg c9) ?_
  by_cases c10 : (x &&& (15 : Int32)) = (10 : Int32)
  · exact Cal.eq (if_pos c10) (l_clean h _).ret
  refine Cal.eq (if_neg c10) ?_
  by_cases c11 : (x &&& (15 : Int32)) = (11 : Int32)
  · refine Cal.eq (if_pos c11) ?_
    by_cases d : ((x >>> ((20 : Int32) &&& 31)) &&& (1 : Int32)) = 0
    · exact Cal.eq (if_pos d) (l_pour h hB _).ret
    · exact Cal.eq (if_neg d) (Cal.low (by decide) (fun q1 => Cal.low (by decide) (fun q2 => (l_setLabel h _ _ _ _ _ _).ret)))
  refine Cal.eq (if_neg c11) ?_
  by_cases c12 : (x &&& (15 : Int32)) = (12 : Int32)
  · exact Cal.eq (if_pos c12) (Cal.low (by decide) (fun q1 => Cal.low (by decide) (fun q2 => Cal.low (by decide) (fun q3 => (l_bottle h hB _ _ _ _).ret))))
  refine Cal.eq (if_neg c12) ?_
  exact (l_day h hB).ret
end
