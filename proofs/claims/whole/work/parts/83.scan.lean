-- SCANNING: where a run of characters ends
section
variable {n L k s e : Nat} {T : Nat → Nat} {v v' u : MM}
abbrev SC : MV := nm 13 0 0
def CT (v : MM) (T : Nat → Nat) (L : Nat) : Prop := L ≤ 100 ∧ v.1 9 1 = nI L ∧ ∀ k, k < L → T k ≤ 255 ∧ v.1 10 k = nI (T k)
def MT (u : MM) (T : Nat → Nat) (L : Nat) : Prop := L ≤ 100 ∧ u.1 13 6 = nI L ∧ ∀ k, k < L → T k ≤ 255 ∧ SB (u.1 17 k) (T k)
def Rg (lo hi x : Nat) : Prop := lo ≤ x ∧ x ≤ hi
/-- from k on all are in the range up to e, and no further -/
def En (lo hi : Nat) (T : Nat → Nat) (L k e : Nat) : Prop := k ≤ e ∧ e ≤ L ∧ (∀ i, k ≤ i → i < e → Rg lo hi (T i)) ∧ (e < L → ¬ Rg lo hi (T e))
theorem En.next {lo hi : Nat} (h : En lo hi T L k e) (hk : k < e) : En lo hi T L (k + 1) e := ⟨by omega, h.2.1, fun i a b => h.2.2.1 i (by omega) b, h.2.2.2⟩
theorem En.uniq {lo hi e' : Nat} (h : En lo hi T L k e) (h' : En lo hi T L k e') : e = e' := by
  obtain ⟨a1, a2, a3, a4⟩ := h
  obtain ⟨b1, b2, b3, b4⟩ := h'
  rcases Nat.lt_trichotomy e e' with z | z | z
  · exact absurd (b3 e a1 z) (a4 (by omega))
  · exact z
  · exact absurd (a3 e' b1 z) (b4 (by omega))
theorem s_end (h : CT v T L) {lo hi : Nat} (l31 : lo < 2 ^ 31) (h31 : hi < 2 ^ 31) : ∀ d k, d + k = L → ∃ e, En lo hi T L k e ∧ gX3_endOf_3 v (nI k) (nI lo) (nI hi) = some (v, some (I (nI e)))
  | 0, k, e => by
    have ek : k = L := by omega
    subst ek
    refine ⟨k, ⟨Nat.le_refl _, Nat.le_refl _, fun i a b => by omega, fun z => absurd z (Nat.lt_irrefl _)⟩, (qX3_endOf_3 v _ _ _).trans (if_neg (ltF rfl h.2.1 (Nat.le_refl _) ?_))⟩
    have := h.1
    omega
  | d + 1, k, e => by
    obtain ⟨h1, h2, h3⟩ := h
    obtain ⟨tk, ek⟩ := h3 k (by omega)
    have q : (nI k).toNatClampNeg = k := nI_clamp (by omega)
    by_cases c : Rg lo hi (T k)
    · obtain ⟨e, he, ee⟩ := s_end ⟨h1, h2, h3⟩ l31 h31 d (k + 1) (by omega)
      refine ⟨e, ⟨by have := he.1; omega, he.2.1, fun i a b => ?_, he.2.2.2⟩, (qX3_endOf_3 v _ _ _).trans ((if_pos (ltT rfl h2 (by omega) (by omega))).trans ((if_pos (mIn_nI (by omega) (by omega))).trans ?_))⟩
      · by_cases z : i = k
        · rw [z]
          exact c
        · exact he.2.2.1 i (by omega) b
      · simp only [q]
        refine (if_neg (ltF ek rfl c.1 (by omega))).trans ((if_pos (mIn_nI (by omega) (by omega))).trans ((if_neg (ltF rfl ek c.2 h31)).trans ?_))
        exact (congrArg (fun z => gX3_endOf_3 v z (nI lo) (nI hi)) (i_add k 1)).trans ee
    · refine ⟨k, ⟨Nat.le_refl _, by omega, fun i a b => by omega, fun _ => c⟩, (qX3_endOf_3 v _ _ _).trans ((if_pos (ltT rfl h2 (by omega) (by omega))).trans ((if_pos (mIn_nI (by omega) (by omega))).trans ?_))⟩
      simp only [q]
      by_cases c2 : T k < lo
      · exact if_pos (ltT ek rfl c2 (by omega))
      · refine (if_neg (ltF ek rfl (Nat.not_lt.mp c2) (by omega))).trans ((if_pos (mIn_nI (by omega) (by omega))).trans (if_pos (ltT rfl ek ?_ (by omega))))
        exact Nat.not_le.mp (fun z => c ⟨Nat.not_lt.mp c2, z⟩)
theorem s_endOf (h : CT v T L) (hp : v.1 9 2 = nI k) (hk : k ≤ L) {lo hi : Nat} (l31 : lo < 2 ^ 31) (h31 : hi < 2 ^ 31) : ∃ e, En lo hi T L k e ∧ fX3_endOf v [SC, I (nI lo), I (nI hi)] = some (v, some (I (nI e))) := by
  obtain ⟨e, he, ee⟩ := s_end h l31 h31 (L - k) k (by omega)
  refine ⟨e, he, (qX3_endOf v _ _).trans ?_⟩
  rw [hp]
  exact ee
theorem s_skip (h : CT v T L) (hp : v.1 9 2 = nI k) (hk : k ≤ L) : ∃ s, En 32 32 T L k s ∧ fX3_skipSpaces v [SC] = some (mUp v (9, 2) (nI s), none) := by
  obtain ⟨s, hs, es⟩ := s_endOf h hp hk (lo := 32) (hi := 32) (by omega) (by omega)
  exact ⟨s, hs, (qX3_skipSpaces v).trans (bI_eq es)⟩
theorem CT.at (h : CT v T L) (x : Int32) : CT (mUp v (9, 2) x) T L := ⟨h.1, (mUp_o v 9 2 1 x (by decide)).trans h.2.1, fun k hk => ⟨(h.2.2 k hk).1, (congrFun ((Fr.up 9 2 v x).1 10 (by decide)) k).trans (h.2.2 k hk).2⟩⟩
/-- the model's range against the class's -/
theorem SB.rg {x : Int32} (h : SB x n) {lo hi : Nat} (h8 : hi < 128) : ((nI lo : Int32) ≤ x ∧ x ≤ nI hi) ↔ (lo ≤ 128 → Rg lo hi n) ∧ (nI lo ≤ x ∧ x ≤ nI hi) := by
  constructor
  · intro z
    refine ⟨fun l => ?_, z⟩
    rcases h with ⟨a, rfl⟩ | ⟨a, b⟩
    · exact ⟨(i_le (by omega) (by omega)).mp z.1, (i_le (by omega) (by omega)).mp z.2⟩
    · exact absurd (Int32.le_trans (nI_pos' (by omega)) z.1) (Int32.not_le.mpr b)
  · exact fun z => z.2
theorem SB.tt {x : Int32} (h : SB x n) {lo hi : Nat} (h8 : hi < 128) (r : Rg lo hi n) : (nI lo : Int32) ≤ x ∧ x ≤ nI hi := by
  obtain ⟨r1, r2⟩ := r
  rcases h with ⟨a, rfl⟩ | ⟨a, b⟩
  · exact ⟨(i_le (by omega) (by omega)).mpr r1, (i_le (by omega) (by omega)).mpr r2⟩
  · omega
theorem SB.ff {x : Int32} (h : SB x n) {lo hi : Nat} (h8 : hi < 128) (l8 : lo ≤ 128) (r : ¬ Rg lo hi n) : ¬ ((nI lo : Int32) ≤ x ∧ x ≤ nI hi) := fun z => r (((h.rg h8).mp z).1 l8)
theorem SB.val {x : Int32} (h : SB x n) (h8 : n < 128) : x = nI n := by
  rcases h with ⟨a, b⟩ | ⟨a, b⟩
  · exact b
  · omega
/-- what the model's scanning may change -/
def GF (u u' : MM) : Prop := (∀ r, r ≠ 13 → u'.1 r = u.1 r) ∧ ∀ o, o ≠ 9 → o ≠ 10 → o ≠ 12 → o ≠ 13 → u'.1 13 o = u.1 13 o
theorem GF.rf (u : MM) : GF u u := ⟨fun _ _ => rfl, fun _ _ _ _ _ => rfl⟩
theorem GF.tr {u u' u'' : MM} (h : GF u u') (h' : GF u' u'') : GF u u'' := ⟨fun r hr => (h'.1 r hr).trans (h.1 r hr), fun o a b c d => (h'.2 o a b c d).trans (h.2 o a b c d)⟩
theorem GF.up (u : MM) (o : Nat) (x : Int32) (h : o = 9 ∨ o = 10 ∨ o = 12 ∨ o = 13) : GF u (mUp u (13, o) x) := ⟨fun r hr => (Fr.up 13 o u x).1 r hr, fun q a b c d => mUp_o u 13 o q x (by omega)⟩
theorem GF.wd (u : MM) (y : Int64) : GF u (u.1, y) := ⟨fun _ _ => rfl, fun _ _ _ _ _ => rfl⟩
theorem MT.gf (h : MT u T L) {u' : MM} (g : GF u u') : MT u' T L := ⟨h.1, (g.2 6 (by decide) (by decide) (by decide) (by decide)).trans h.2.1, fun k hk => by rw [g.1 17 (by decide)]; exact h.2.2 k hk⟩
/-- only the place 9 is another -/
def G9 (u u' : MM) : Prop := (∀ r, r ≠ 13 → u'.1 r = u.1 r) ∧ (∀ o, o ≠ 9 → u'.1 13 o = u.1 13 o) ∧ u'.2 = u.2
theorem G9.gf {u u' : MM} (h : G9 u u') : GF u u' := ⟨h.1, fun o a _ _ _ => h.2.1 o a⟩
theorem G9.up (u : MM) (x : Int32) : G9 u (mUp u (13, 9) x) := ⟨fun r hr => (Fr.up 13 9 u x).1 r hr, fun o ho => mUp_o u 13 9 o x ho, rfl⟩
theorem G9.rf (u : MM) : G9 u u := ⟨fun _ _ => rfl, fun _ _ => rfl, rfl⟩
theorem G9.tr {u u' u'' : MM} (h : G9 u u') (h' : G9 u' u'') : G9 u u'' := ⟨fun r hr => (h'.1 r hr).trans (h.1 r hr), fun o a => (h'.2.1 o a).trans (h.2.1 o a), h'.2.2.trans h.2.2⟩
theorem m_sp : ∀ d k (u : MM), d + k = s → MT u T L → u.1 13 9 = nI k → En 32 32 T L k s → ∃ u', gX7_goes_0 u = gX7_goes_0 u' ∧ u'.1 13 9 = nI s ∧ G9 u u'
  | 0, k, u, e, h, hp, he => ⟨u, rfl, by rw [hp, show k = s by omega], G9.rf u⟩
  | d + 1, k, u, e, h, hp, he => by
    obtain ⟨h1, h2, h3⟩ := id h
    have l := he.2.1
    have q : (nI k).toNatClampNeg = k := nI_clamp (by omega)
    have r := he.2.2.1 k (Nat.le_refl _) (by omega)
    have t32 : T k = 32 := by
      obtain ⟨r1, r2⟩ := r
      omega
    have x : u.1 17 k = nI (T k) := (h3 k (by omega)).2.val (by omega)
    obtain ⟨u', e', p', g'⟩ := m_sp d (k + 1) (mUp u (13, 9) (nI (k + 1))) (by omega) (h.gf (G9.up u _).gf) (mUp_s _ _ _ _) (he.next (by omega))
    refine ⟨u', ((qX7_goes_0 u).trans ((if_pos (ltT hp h2 (by omega) (by omega))).trans ?_)).trans e', p', (G9.up u _).tr g'⟩
    simp only [hp, q]
    refine (if_pos (mIn_nI (by omega) (by omega))).trans ((if_pos (eqT x (n := 32) rfl t32)).trans ?_)
    rw [show nI k + (1 : Int32) = nI (k + 1) from i_add k 1]
end
