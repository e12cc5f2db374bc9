-- WORDS
section
variable {n L k s e i : Nat} {T : Nat → Nat} {v v' u : MM}
theorem lg_ne {x y : Int64} (h : x ≠ y) : ¬ lg_cmp x y = 0 := by
  unfold lg_cmp
  split
  · decide
  · decide
theorem lN_ne {K C : Nat} (hK : K < 2 ^ 63) (hC : C < 2 ^ 63) (h : K ≠ C) : lN K ≠ lN C := fun z => h (by
  have := congrArg (fun z : Int64 => z.toBitVec.toNat) z
  change (BitVec.ofNat 64 K).toNat = (BitVec.ofNat 64 C).toNat at this
  rw [BitVec.toNat_ofNat, BitVec.toNat_ofNat, Nat.mod_eq_of_lt (by omega), Nat.mod_eq_of_lt (by omega)] at this
  exact this)
def Wd (i q : Nat) : Nat := ((mBytS.getD i []).getD q 0).toNatClampNeg
def Wl (i : Nat) : Nat := mLenS.getD i 0
def IsW (T : Nat → Nat) (s e i : Nat) : Prop := e = s + Wl i ∧ ∀ q, q < Wl i → T (s + q) = Wd i q
theorem Wd_ok : ∀ i, i < 7 → Wl i ≤ 6 ∧ 1 ≤ Wl i ∧ ∀ q, q < Wl i → (mBytS.getD i []).getD q 0 = nI (Wd i q) ∧ 97 ≤ Wd i (0 + q) ∧ Wd i (0 + q) ≤ 122 := by decide
theorem s_len (v : MM) (hi : i < 7) : fJ0_length_8abf5 v [nm 23 i 0] = some (v, some (I (nI (Wl i)))) := if_pos hi
theorem s_chr (v : MM) (hi : i < 7) {q : Nat} (hq : q < Wl i) : fJ0_charAt_5068e v [nm 23 i 0, I (nI q)] = some (v, some (I (nI (Wd i q)))) := by
  obtain ⟨w6, w1, ww⟩ := Wd_ok i hi
  have e := (ww q hq).1
  refine (if_pos ⟨hi, mIn_nI (c := Wl i) hq (by omega)⟩).trans ?_
  rw [nI_clamp (show q < 2 ^ 31 by omega), e]
theorem s_wlT (h : CT v T L) (hp : v.1 9 2 = nI s) (hi : i < 7) (hL : s + Wl i ≤ L) (hw : ∀ q, q < Wl i → T (s + q) = Wd i q) (y : Int32) : ∀ d q, d + q = Wl i → gX3_isWord_11 v i (nI q) y = some (v, some (I 1))
  | 0, q, e => by
    have w6 := (Wd_ok i hi).1
    exact (qX3_isWord_11 v i _ _).trans ((bI_eq (s_len v hi)).trans (if_neg (ltF rfl rfl (by omega) (by omega))))
  | d + 1, q, e => by
    have w6 := (Wd_ok i hi).1
    obtain ⟨h1, h2, h3⟩ := id h
    have t := h3 (s + q) (by omega)
    have qq : (nI (s + q)).toNatClampNeg = s + q := nI_clamp (by omega)
    refine (qX3_isWord_11 v i _ _).trans ((bI_eq (s_len v hi)).trans ((if_pos (ltT rfl rfl (by omega) (by omega))).trans ?_))
    simp only [hp, i_add, qq]
    refine (if_pos (mIn_nI (by omega) (by omega))).trans ((bI_eq (s_chr v hi (by omega))).trans ((if_pos (eqT t.2 rfl (hw q (by omega)))).trans ?_))
    exact (congrArg (fun z => gX3_isWord_11 v i z y) (i_add q 1)).trans (s_wlT h hp hi hL hw y d (q + 1) (by omega))
theorem s_wlF (h : CT v T L) (hp : v.1 9 2 = nI s) (hi : i < 7) (hL : s + Wl i ≤ L) (y : Int32) : ∀ d q, d + q = Wl i → ¬ (∀ z, q ≤ z → z < Wl i → T (s + z) = Wd i z) → gX3_isWord_11 v i (nI q) y = some (v, some (I 0))
  | 0, q, e, hw => absurd (fun z a b => by omega) hw
  | d + 1, q, e, hw => by
    have w6 := (Wd_ok i hi).1
    obtain ⟨h1, h2, h3⟩ := id h
    have t := h3 (s + q) (by omega)
    have w122 := ((Wd_ok i hi).2.2 q (by omega)).2.2
    rw [Nat.zero_add] at w122
    have qq : (nI (s + q)).toNatClampNeg = s + q := nI_clamp (by omega)
    refine (qX3_isWord_11 v i _ _).trans ((bI_eq (s_len v hi)).trans ((if_pos (ltT rfl rfl (by omega) (by omega))).trans ?_))
    simp only [hp, i_add, qq]
    refine (if_pos (mIn_nI (by omega) (by omega))).trans ((bI_eq (s_chr v hi (by omega))).trans ?_)
    by_cases c : T (s + q) = Wd i q
    · refine (if_pos (eqT t.2 rfl c)).trans ?_
      refine (congrArg (fun z => gX3_isWord_11 v i z y) (i_add q 1)).trans (s_wlF h hp hi hL y d (q + 1) (by omega) (fun g => hw (fun z a b => ?_)))
      by_cases zq : z = q
      · rw [zq]
        exact c
      · exact g z (by omega) b
    · exact if_neg (eqF t.2 rfl c (by omega) (by omega))
theorem s_isT (h : CT v T L) (hp : v.1 9 2 = nI s) (hi : i < 7) (he : e ≤ L) (hw : IsW T s e i) : fX3_isWord v [SC, nm 23 i 0, I (nI e)] = some (v, some (I 1)) := by
  have l := h.1
  obtain ⟨w1, w2⟩ := hw
  refine (qX3_isWord v i _).trans ((bI_eq (s_len v hi)).trans ((if_pos ?_).trans (s_wlT h hp hi (by omega) w2 _ (Wl i) 0 rfl)))
  rw [hp, i_sub (by omega), show e - s = Wl i by omega]
theorem s_isF (h : CT v T L) (hp : v.1 9 2 = nI s) (hi : i < 7) (hs : s ≤ e) (he : e ≤ L) (hw : ¬ IsW T s e i) : fX3_isWord v [SC, nm 23 i 0, I (nI e)] = some (v, some (I 0)) := by
  have l := h.1
  have w6 := (Wd_ok i hi).1
  refine (qX3_isWord v i _).trans ((bI_eq (s_len v hi)).trans ?_)
  have d : nI e - v.1 9 2 = nI (e - s) := by rw [hp, i_sub hs]
  by_cases c : e - s = Wl i
  · refine (if_pos (eqT d rfl c)).trans (s_wlF h hp hi (by omega) _ (Wl i) 0 rfl (fun g => hw ⟨by omega, fun q hq => g q (Nat.zero_le _) hq⟩))
  · exact if_neg (eqF d rfl c (by omega) (by omega))
theorem wcode_inj {T' : Nat → Nat} {s' : Nat} : ∀ n m, (∀ q, q < n → Rg 97 122 (T (s + q))) → (∀ q, q < m → Rg 97 122 (T' (s' + q))) → wcode T s n = wcode T' s' m → n = m ∧ ∀ q, q < n → T (s + q) = T' (s' + q)
  | 0, 0, _, _, _ => ⟨rfl, fun q hq => absurd hq (Nat.not_lt_zero _)⟩
  | 0, m + 1, _, h', e => by
    obtain ⟨r1, r2⟩ := h' m (by omega)
    have e' : 0 = 27 * wcode T' s' m + (T' (s' + m) - 96) := e
    omega
  | n + 1, 0, h, _, e => by
    obtain ⟨r1, r2⟩ := h n (by omega)
    have e' : 27 * wcode T s n + (T (s + n) - 96) = 0 := e
    omega
  | n + 1, m + 1, h, h', e => by
    obtain ⟨r1, r2⟩ := h n (by omega)
    obtain ⟨r3, r4⟩ := h' m (by omega)
    have e' : 27 * wcode T s n + (T (s + n) - 96) = 27 * wcode T' s' m + (T' (s' + m) - 96) := e
    obtain ⟨a, b⟩ := wcode_inj n m (fun q hq => h q (by omega)) (fun q hq => h' q (by omega)) (by omega)
    subst a
    refine ⟨rfl, fun q hq => ?_⟩
    by_cases z : q = n
    · rw [z]
      omega
    · exact b q (by omega)
theorem wcode_cg {T' : Nat → Nat} {s' : Nat} : ∀ n, (∀ q, q < n → T (s + q) = T' (s' + q)) → wcode T s n = wcode T' s' n
  | 0, _ => rfl
  | n + 1, h => by
    show 27 * wcode T s n + (T (s + n) - 96) = 27 * wcode T' s' n + (T' (s' + n) - 96)
    rw [wcode_cg n (fun q hq => h q (by omega)), h n (by omega)]
theorem wcode_lt : ∀ n, (∀ q, q < n → Rg 97 122 (T (s + q))) → wcode T s n < 27 ^ n
  | 0, _ => Nat.one_pos
  | n + 1, h => by
    obtain ⟨r1, r2⟩ := h n (by omega)
    have ih := wcode_lt n (fun q hq => h q (by omega))
    show 27 * wcode T s n + (T (s + n) - 96) < 27 ^ (n + 1)
    rw [Nat.pow_succ]
    omega
/-- the model's word for the letters from s to e -/
def Kw (T : Nat → Nat) (s e : Nat) : Nat := if e - s < 8 then wcode T s (e - s) else 0
def Cw (i : Nat) : Nat := wcode (Wd i) 0 (Wl i)
theorem Cw_ok : Cw 0 = 8861527 ∧ Cw 1 = 16922 ∧ Cw 2 = 267413 ∧ Cw 3 = 355115 ∧ Cw 4 = 1834205 ∧ Cw 5 = 37077998 ∧ Cw 6 = 2968 := by decide
theorem Cw_pos (hi : i < 7) : 0 < Cw i := by
  obtain ⟨a0, a1, a2, a3, a4, a5, a6⟩ := Cw_ok
  rcases (show i = 0 ∨ i = 1 ∨ i = 2 ∨ i = 3 ∨ i = 4 ∨ i = 5 ∨ i = 6 by omega) with rfl | rfl | rfl | rfl | rfl | rfl | rfl <;> omega
theorem kw_iff (hs : s ≤ e) (hr : ∀ q, s ≤ q → q < e → Rg 97 122 (T q)) (hi : i < 7) : Kw T s e = Cw i ↔ IsW T s e i := by
  obtain ⟨w6, w1, ww⟩ := Wd_ok i hi
  have pos := Cw_pos hi
  unfold Kw
  constructor
  · intro h
    by_cases c : e - s < 8
    · rw [if_pos c] at h
      obtain ⟨a, b⟩ := wcode_inj (e - s) (Wl i) (fun q hq => hr (s + q) (by omega) (by omega)) (fun q hq => (ww q hq).2) h
      refine ⟨by omega, fun q hq => ?_⟩
      have := b q (by omega)
      rw [Nat.zero_add] at this
      exact this
    · rw [if_neg c] at h
      omega
  · rintro ⟨a, b⟩
    rw [if_pos (by omega), show e - s = Wl i by omega]
    exact wcode_cg (Wl i) (fun q hq => by rw [Nat.zero_add]; exact b q hq)
theorem kw_lt (hs : s ≤ e) (hr : ∀ q, s ≤ q → q < e → Rg 97 122 (T q)) : Kw T s e < 2 ^ 63 := by
  unfold Kw
  by_cases c : e - s < 8
  · rw [if_pos c]
    have a := wcode_lt (T := T) (s := s) (e - s) (fun q hq => hr (s + q) (by omega) (by omega))
    have b : 27 ^ (e - s) ≤ 27 ^ 7 := Nat.pow_le_pow_right (by omega) (by omega)
    have d : 27 ^ 7 < 2 ^ 63 := by decide
    omega
  · rw [if_neg c]
    decide
theorem s_kind0 (h : CT v T L) (hp : v.1 9 2 = nI s) (hs : s ≤ e) (he : e ≤ L) (hr : ∀ q, s ≤ q → q < e → Rg 97 122 (T q)) (hK : Kw T s e = 8861527) : fX3_kindOfWord v [SC, I (nI e)] = some (v, some (I 0)) := (qX3_kindOfWord v _).trans ((bI_eq (s_isT h hp (by omega) he ((kw_iff hs hr (by omega)).mp (hK.trans Cw_ok.1.symm)))).trans (if_neg (by decide)))
theorem s_kind1 (h : CT v T L) (hp : v.1 9 2 = nI s) (hs : s ≤ e) (he : e ≤ L) (hr : ∀ q, s ≤ q → q < e → Rg 97 122 (T q)) (hK : Kw T s e = 16922) : fX3_kindOfWord v [SC, I (nI e)] = some (v, some (I 1)) := (qX3_kindOfWord v _).trans ((bI_eq (s_isF h hp (by omega) hs he (fun z => absurd (hK.symm.trans (((kw_iff hs hr (by omega)).mpr z).trans Cw_ok.1)) (by decide)))).trans ((if_pos rfl).trans ((bI_eq (s_isT h hp (by omega) he ((kw_iff hs hr (by omega)).mp (hK.trans Cw_ok.2.1.symm)))).trans (if_neg (by decide)))))
theorem s_kind2 (h : CT v T L) (hp : v.1 9 2 = nI s) (hs : s ≤ e) (he : e ≤ L) (hr : ∀ q, s ≤ q → q < e → Rg 97 122 (T q)) (hK : Kw T s e = 267413) : fX3_kindOfWord v [SC, I (nI e)] = some (v, some (I 2)) := (qX3_kindOfWord v _).trans ((bI_eq (s_isF h hp (by omega) hs he (fun z => absurd (hK.symm.trans (((kw_iff hs hr (by omega)).mpr z).trans Cw_ok.1)) (by decide)))).trans ((if_pos rfl).trans ((bI_eq (s_isF h hp (by omega) hs he (fun z => absurd (hK.symm.trans (((kw_iff hs hr (by omega)).mpr z).trans Cw_ok.2.1)) (by decide)))).trans ((if_pos rfl).trans ((bI_eq (s_isT h hp (by omega) he ((kw_iff hs hr (by omega)).mp (hK.trans Cw_ok.2.2.1.symm)))).trans (if_neg (by decide)))))))
theorem s_kind3 (h : CT v T L) (hp : v.1 9 2 = nI s) (hs : s ≤ e) (he : e ≤ L) (hr : ∀ q, s ≤ q → q < e → Rg 97 122 (T q)) (hK : Kw T s e = 355115) : fX3_kindOfWord v [SC, I (nI e)] = some (v, some (I 3)) := (qX3_kindOfWord v _).trans ((bI_eq (s_isF h hp (by omega) hs he (fun z => absurd (hK.symm.trans (((kw_iff hs hr (by omega)).mpr z).trans Cw_ok.1)) (by decide)))).trans ((if_pos rfl).trans ((bI_eq (s_isF h hp (by omega) hs he (fun z => absurd (hK.symm.trans (((kw_iff hs hr (by omega)).mpr z).trans Cw_ok.2.1)) (by decide)))).trans ((if_pos rfl).trans ((bI_eq (s_isF h hp (by omega) hs he (fun z => absurd (hK.symm.trans (((kw_iff hs hr (by omega)).mpr z).trans Cw_ok.2.2.1)) (by decide)))).trans ((if_pos rfl).trans ((bI_eq (s_isT h hp (by omega) he ((kw_iff hs hr (by omega)).mp (hK.trans Cw_ok.2.2.2.1.symm)))).trans (if_neg (by decide)))))))))
theorem s_kind4 (h : CT v T L) (hp : v.1 9 2 = nI s) (hs : s ≤ e) (he : e ≤ L) (hr : ∀ q, s ≤ q → q < e → Rg 97 122 (T q)) (hK : Kw T s e = 1834205) : fX3_kindOfWord v [SC, I (nI e)] = some (v, some (I 4)) := (qX3_kindOfWord v _).trans ((bI_eq (s_isF h hp (by omega) hs he (fun z => absurd (hK.symm.trans (((kw_iff hs hr (by omega)).mpr z).trans Cw_ok.1)) (by decide)))).trans ((if_pos rfl).trans ((bI_eq (s_isF h hp (by omega) hs he (fun z => absurd (hK.symm.trans (((kw_iff hs hr (by omega)).mpr z).trans Cw_ok.2.1)) (by decide)))).trans ((if_pos rfl).trans ((bI_eq (s_isF h hp (by omega) hs he (fun z => absurd (hK.symm.trans (((kw_iff hs hr (by omega)).mpr z).trans Cw_ok.2.2.1)) (by decide)))).trans ((if_pos rfl).trans ((bI_eq (s_isF h hp (by omega) hs he (fun z => absurd (hK.symm.trans (((kw_iff hs hr (by omega)).mpr z).trans Cw_ok.2.2.2.1)) (by decide)))).trans ((if_pos rfl).trans ((bI_eq (s_isT h hp (by omega) he ((kw_iff hs hr (by omega)).mp (hK.trans Cw_ok.2.2.2.2.1.symm)))).trans (if_neg (by decide)))))))))))
theorem s_kind5 (h : CT v T L) (hp : v.1 9 2 = nI s) (hs : s ≤ e) (he : e ≤ L) (hr : ∀ q, s ≤ q → q < e → Rg 97 122 (T q)) (hK : Kw T s e = 37077998) : fX3_kindOfWord v [SC, I (nI e)] = some (v, some (I 5)) := (qX3_kindOfWord v _).trans ((bI_eq (s_isF h hp (by omega) hs he (fun z => absurd (hK.symm.trans (((kw_iff hs hr (by omega)).mpr z).trans Cw_ok.1)) (by decide)))).trans ((if_pos rfl).trans ((bI_eq (s_isF h hp (by omega) hs he (fun z => absurd (hK.symm.trans (((kw_iff hs hr (by omega)).mpr z).trans Cw_ok.2.1)) (by decide)))).trans ((if_pos rfl).trans ((bI_eq (s_isF h hp (by omega) hs he (fun z => absurd (hK.symm.trans (((kw_iff hs hr (by omega)).mpr z).trans Cw_ok.2.2.1)) (by decide)))).trans ((if_pos rfl).trans ((bI_eq (s_isF h hp (by omega) hs he (fun z => absurd (hK.symm.trans (((kw_iff hs hr (by omega)).mpr z).trans Cw_ok.2.2.2.1)) (by decide)))).trans ((if_pos rfl).trans ((bI_eq (s_isF h hp (by omega) hs he (fun z => absurd (hK.symm.trans (((kw_iff hs hr (by omega)).mpr z).trans Cw_ok.2.2.2.2.1)) (by decide)))).trans ((if_pos rfl).trans ((bI_eq (s_isT h hp (by omega) he ((kw_iff hs hr (by omega)).mp (hK.trans Cw_ok.2.2.2.2.2.1.symm)))).trans (if_neg (by decide)))))))))))))
theorem s_kind6 (h : CT v T L) (hp : v.1 9 2 = nI s) (hs : s ≤ e) (he : e ≤ L) (hr : ∀ q, s ≤ q → q < e → Rg 97 122 (T q)) (hK : Kw T s e = 2968) : fX3_kindOfWord v [SC, I (nI e)] = some (v, some (I 6)) := (qX3_kindOfWord v _).trans ((bI_eq (s_isF h hp (by omega) hs he (fun z => absurd (hK.symm.trans (((kw_iff hs hr (by omega)).mpr z).trans Cw_ok.1)) (by decide)))).trans ((if_pos rfl).trans ((bI_eq (s_isF h hp (by omega) hs he (fun z => absurd (hK.symm.trans (((kw_iff hs hr (by omega)).mpr z).trans Cw_ok.2.1)) (by decide)))).trans ((if_pos rfl).trans ((bI_eq (s_isF h hp (by omega) hs he (fun z => absurd (hK.symm.trans (((kw_iff hs hr (by omega)).mpr z).trans Cw_ok.2.2.1)) (by decide)))).trans ((if_pos rfl).trans ((bI_eq (s_isF h hp (by omega) hs he (fun z => absurd (hK.symm.trans (((kw_iff hs hr (by omega)).mpr z).trans Cw_ok.2.2.2.1)) (by decide)))).trans ((if_pos rfl).trans ((bI_eq (s_isF h hp (by omega) hs he (fun z => absurd (hK.symm.trans (((kw_iff hs hr (by omega)).mpr z).trans Cw_ok.2.2.2.2.1)) (by decide)))).trans ((if_pos rfl).trans ((bI_eq (s_isF h hp (by omega) hs he (fun z => absurd (hK.symm.trans (((kw_iff hs hr (by omega)).mpr z).trans Cw_ok.2.2.2.2.2.1)) (by decide)))).trans ((if_pos rfl).trans ((bI_eq (s_isT h hp (by omega) he ((kw_iff hs hr (by omega)).mp (hK.trans Cw_ok.2.2.2.2.2.2.symm)))).trans (if_neg (by decide)))))))))))))))
theorem s_kindN (h : CT v T L) (hp : v.1 9 2 = nI s) (hs : s ≤ e) (he : e ≤ L) (hr : ∀ q, s ≤ q → q < e → Rg 97 122 (T q)) (hK : ∀ i, i < 7 → Kw T s e ≠ Cw i) : fX3_kindOfWord v [SC, I (nI e)] = some (v, some (I (-1))) := (qX3_kindOfWord v _).trans ((bI_eq (s_isF h hp (by omega) hs he (fun z => hK 0 (by omega) ((kw_iff hs hr (by omega)).mpr z)))).trans ((if_pos rfl).trans ((bI_eq (s_isF h hp (by omega) hs he (fun z => hK 1 (by omega) ((kw_iff hs hr (by omega)).mpr z)))).trans ((if_pos rfl).trans ((bI_eq (s_isF h hp (by omega) hs he (fun z => hK 2 (by omega) ((kw_iff hs hr (by omega)).mpr z)))).trans ((if_pos rfl).trans ((bI_eq (s_isF h hp (by omega) hs he (fun z => hK 3 (by omega) ((kw_iff hs hr (by omega)).mpr z)))).trans ((if_pos rfl).trans ((bI_eq (s_isF h hp (by omega) hs he (fun z => hK 4 (by omega) ((kw_iff hs hr (by omega)).mpr z)))).trans ((if_pos rfl).trans ((bI_eq (s_isF h hp (by omega) hs he (fun z => hK 5 (by omega) ((kw_iff hs hr (by omega)).mpr z)))).trans ((if_pos rfl).trans ((bI_eq (s_isF h hp (by omega) hs he (fun z => hK 6 (by omega) ((kw_iff hs hr (by omega)).mpr z)))).trans (if_pos rfl))))))))))))))
theorem m_wants0 (u : MM) : fX7_wants u [.inr (.inl (lN 8861527))] = some (u, some (I 3)) := (qX7_wants u _).trans (if_pos (by decide))
theorem m_kind0 (u : MM) : fX7_kind u [.inr (.inl (lN 8861527))] = some (u, some (I 0)) := (qX7_kind u _).trans (if_pos (by decide))
theorem s_nums0 (v : MM) : fX3_numbersOf v [I 0] = some (v, some (I 3)) := (qX3_numbersOf v _).trans (if_pos rfl)
theorem m_wants1 (u : MM) : fX7_wants u [.inr (.inl (lN 16922))] = some (u, some (I 2)) := (qX7_wants u _).trans ((if_neg (by decide)).trans ((if_neg (by decide)).trans (if_pos (by decide))))
theorem m_kind1 (u : MM) : fX7_kind u [.inr (.inl (lN 16922))] = some (u, some (I 1)) := (qX7_kind u _).trans ((if_neg (by decide)).trans (if_pos (by decide)))
theorem s_nums1 (v : MM) : fX3_numbersOf v [I 1] = some (v, some (I 2)) := (qX3_numbersOf v _).trans ((if_neg (by decide)).trans (if_pos rfl))
theorem m_wants2 (u : MM) : fX7_wants u [.inr (.inl (lN 267413))] = some (u, some (I 3)) := (qX7_wants u _).trans ((if_neg (by decide)).trans (if_pos (by decide)))
theorem m_kind2 (u : MM) : fX7_kind u [.inr (.inl (lN 267413))] = some (u, some (I 2)) := (qX7_kind u _).trans ((if_neg (by decide)).trans ((if_neg (by decide)).trans (if_pos (by decide))))
theorem s_nums2 (v : MM) : fX3_numbersOf v [I 2] = some (v, some (I 3)) := (qX3_numbersOf v _).trans ((if_neg (by decide)).trans ((if_neg (by decide)).trans (if_pos rfl)))
theorem m_wants3 (u : MM) : fX7_wants u [.inr (.inl (lN 355115))] = some (u, some (I 2)) := (qX7_wants u _).trans ((if_neg (by decide)).trans ((if_neg (by decide)).trans ((if_neg (by decide)).trans (if_pos (by decide)))))
theorem m_kind3 (u : MM) : fX7_kind u [.inr (.inl (lN 355115))] = some (u, some (I 3)) := (qX7_kind u _).trans ((if_neg (by decide)).trans ((if_neg (by decide)).trans ((if_neg (by decide)).trans (if_pos (by decide)))))
theorem s_nums3 (v : MM) : fX3_numbersOf v [I 3] = some (v, some (I 2)) := (qX3_numbersOf v _).trans ((if_neg (by decide)).trans ((if_neg (by decide)).trans ((if_neg (by decide)).trans (if_pos rfl))))
theorem m_wants4 (u : MM) : fX7_wants u [.inr (.inl (lN 1834205))] = some (u, some (I 1)) := (qX7_wants u _).trans ((if_neg (by decide)).trans ((if_neg (by decide)).trans ((if_neg (by decide)).trans ((if_neg (by decide)).trans (if_pos (by decide))))))
theorem m_kind4 (u : MM) : fX7_kind u [.inr (.inl (lN 1834205))] = some (u, some (I 4)) := (qX7_kind u _).trans ((if_neg (by decide)).trans ((if_neg (by decide)).trans ((if_neg (by decide)).trans ((if_neg (by decide)).trans (if_pos (by decide))))))
theorem s_nums4 (v : MM) : fX3_numbersOf v [I 4] = some (v, some (I 1)) := (qX3_numbersOf v _).trans ((if_neg (by decide)).trans ((if_neg (by decide)).trans ((if_neg (by decide)).trans ((if_neg (by decide)).trans (if_pos rfl)))))
theorem m_wants5 (u : MM) : fX7_wants u [.inr (.inl (lN 37077998))] = some (u, some (I 4)) := (qX7_wants u _).trans ((if_neg (by decide)).trans ((if_neg (by decide)).trans ((if_neg (by decide)).trans ((if_neg (by decide)).trans ((if_neg (by decide)).trans (if_pos (by decide)))))))
theorem m_kind5 (u : MM) : fX7_kind u [.inr (.inl (lN 37077998))] = some (u, some (I 5)) := (qX7_kind u _).trans ((if_neg (by decide)).trans ((if_neg (by decide)).trans ((if_neg (by decide)).trans ((if_neg (by decide)).trans ((if_neg (by decide)).trans (if_pos (by decide)))))))
theorem s_nums5 (v : MM) : fX3_numbersOf v [I 5] = some (v, some (I 4)) := (qX3_numbersOf v _).trans ((if_neg (by decide)).trans ((if_neg (by decide)).trans ((if_neg (by decide)).trans ((if_neg (by decide)).trans ((if_neg (by decide)).trans (if_pos rfl))))))
theorem m_wants6 (u : MM) : fX7_wants u [.inr (.inl (lN 2968))] = some (u, some (I 0)) := (qX7_wants u _).trans ((if_neg (by decide)).trans ((if_neg (by decide)).trans ((if_neg (by decide)).trans ((if_neg (by decide)).trans ((if_neg (by decide)).trans ((if_neg (by decide)).trans (if_pos (by decide))))))))
theorem m_kind6 (u : MM) : fX7_kind u [.inr (.inl (lN 2968))] = some (u, some (I 6)) := (qX7_kind u _).trans ((if_neg (by decide)).trans ((if_neg (by decide)).trans ((if_neg (by decide)).trans ((if_neg (by decide)).trans ((if_neg (by decide)).trans (if_neg (by decide)))))))
theorem s_nums6 (v : MM) : fX3_numbersOf v [I 6] = some (v, some (I 0)) := (qX3_numbersOf v _).trans ((if_neg (by decide)).trans ((if_neg (by decide)).trans ((if_neg (by decide)).trans ((if_neg (by decide)).trans ((if_neg (by decide)).trans (if_neg (by decide)))))))
theorem m_wantsN (u : MM) {K : Nat} (hk : K < 2 ^ 63) (hK : ∀ i, i < 7 → K ≠ Cw i) : fX7_wants u [.inr (.inl (lN K))] = some (u, some (I (-9))) := (qX7_wants u _).trans ((if_neg (lg_ne (lN_ne hk (by decide) (fun z => hK 0 (by omega) (z.trans Cw_ok.1.symm))))).trans ((if_neg (lg_ne (lN_ne hk (by decide) (fun z => hK 2 (by omega) (z.trans Cw_ok.2.2.1.symm))))).trans ((if_neg (lg_ne (lN_ne hk (by decide) (fun z => hK 1 (by omega) (z.trans Cw_ok.2.1.symm))))).trans ((if_neg (lg_ne (lN_ne hk (by decide) (fun z => hK 3 (by omega) (z.trans Cw_ok.2.2.2.1.symm))))).trans ((if_neg (lg_ne (lN_ne hk (by decide) (fun z => hK 4 (by omega) (z.trans Cw_ok.2.2.2.2.1.symm))))).trans ((if_neg (lg_ne (lN_ne hk (by decide) (fun z => hK 5 (by omega) (z.trans Cw_ok.2.2.2.2.2.1.symm))))).trans (if_neg (lg_ne (lN_ne hk (by decide) (fun z => hK 6 (by omega) (z.trans Cw_ok.2.2.2.2.2.2.symm)))))))))))
end
