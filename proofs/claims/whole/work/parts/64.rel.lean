-- CLASS AND MODEL side by side
section
def Rel (B : Nat) (v : MM) (p c : Nat) (a : Nat → Nat) : Prop := p < 8 ∧ c ≤ 6 ∧ v.1 12 3 = nI p ∧ v.1 12 4 = nI c ∧ v.1 13 2 = nI c ∧ v.1 12 5 = v.1 13 4 ∧ St 155 v p a ∧ St 151 v 14 a ∧ Wf B a ∧ ∀ q, q < c → ∃ b, St 155 v ((p + 8 - c + q) % 8) b ∧ (∀ k, k < 151 → v.1 15 (151 * q + k) = nI (b k)) ∧ Wf B b
theorem St.row {N : Nat} {v v' : MM} {r : Nat} {a : Nat → Nat} (h : St N v r a) (e : v'.1 r = v.1 r) : St N v' r a := fun k hk => by rw [e]; exact h k hk
theorem Rel.push {B : Nat} {v v' : MM} {p c : Nat} {a a' : Nat → Nat} (h : Rel B v p c a) (h1 : v'.1 12 3 = nI ((p + 1) % 8)) (h2 : v'.1 12 4 = nI (min (c + 1) 6)) (h3 : v'.1 13 2 = nI (min (c + 1) 6)) (h4 : v'.1 12 5 = v'.1 13 4) (h5 : St 155 v' ((p + 1) % 8) a') (h6 : St 151 v' 14 a') (h7 : Wf (B + 1) a') (h8 : ∀ q, q < 8 → q ≠ (p + 1) % 8 → v'.1 q = v.1 q) (h9 : ∀ q, q < 151 → v'.1 15 (151 * min c 5 + q) = v.1 14 q) (h10 : ∀ q, q < 151 * min c 5 → v'.1 15 q = v.1 15 (if c = 6 then q + 151 else q)) : Rel (B + 1) v' ((p + 1) % 8) (min (c + 1) 6) a' := by
  obtain ⟨g1, g2, g3, g4, g5, g6, g7, g8, g9, g10⟩ := h
  refine ⟨by omega, by omega, h1, h2, h3, h4, h5, h6, h7, fun q hq => ?_⟩
  by_cases e : q = min c 5
  · have ep : ((p + 1) % 8 + 8 - min (c + 1) 6 + q) % 8 = p := by omega
    rw [ep, e]
    refine ⟨a, g7.row (h8 p g1 (by omega)), fun k hk => ?_, g9.mono⟩
    rw [h9 k hk]
    exact g8 k hk
  · by_cases z : c = 6
    · obtain ⟨b, b1, b2, b3⟩ := g10 (q + 1) (by omega)
      have ep : ((p + 1) % 8 + 8 - min (c + 1) 6 + q) % 8 = (p + 8 - c + (q + 1)) % 8 := by omega
      rw [ep]
      refine ⟨b, b1.row (h8 _ (by omega) (by omega)), fun k hk => ?_, b3.mono⟩
      rw [h10 _ (by omega), if_pos z, show 151 * q + k + 151 = 151 * (q + 1) + k by omega]
      exact b2 k hk
    · obtain ⟨b, b1, b2, b3⟩ := g10 q (by omega)
      have ep : ((p + 1) % 8 + 8 - min (c + 1) 6 + q) % 8 = (p + 8 - c + q) % 8 := by omega
      rw [ep]
      refine ⟨b, b1.row (h8 _ (by omega) (by omega)), fun k hk => ?_, b3.mono⟩
      rw [h10 _ (by omega), if_neg z]
      exact b2 k hk
/-- nothing but reasons has changed -/
theorem Rel.keep {B : Nat} {v v' : MM} {p c : Nat} {a : Nat → Nat} (h : Rel B v p c a) (h1 : v'.1 12 3 = v.1 12 3) (h2 : v'.1 12 4 = v.1 12 4) (h3 : v'.1 13 2 = v.1 13 2) (h4 : v'.1 12 5 = v'.1 13 4) (h6 : St 151 v' 14 a) (h8 : ∀ q, q < 8 → q ≠ (p + 1) % 8 → v'.1 q = v.1 q) (h9 : v'.1 15 = v.1 15) : Rel (B + 1) v' p c a := by
  obtain ⟨g1, g2, g3, g4, g5, g6, g7, g8, g9, g10⟩ := h
  refine ⟨g1, g2, h1.trans g3, h2.trans g4, h3.trans g5, h4, g7.row (h8 p g1 (by omega)), h6, g9.mono, fun q hq => ?_⟩
  obtain ⟨b, b1, b2, b3⟩ := g10 q hq
  exact ⟨b, b1.row (h8 _ (by omega) (by omega)), fun k hk => by rw [h9]; exact b2 k hk, b3.mono⟩
end
