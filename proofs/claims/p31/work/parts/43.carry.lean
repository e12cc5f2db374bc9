-- THE MODEL CARRIES JUICE
theorem i_addneg (x y : Int32) : x + -y = x - y := (Int32.sub_eq_add_neg x y).symm
theorem au_cg {a B : Nat → Nat} {o x k : Nat} (h2 : k ≠ o → a k = B k) (h1 : x = B o) : au a o x k = B k := by
  show (if k = o then x else a k) = B k
  by_cases c : k = o
  · rw [if_pos c, h1, c]
  · rw [if_neg c, h2 c]
theorem au_same {a : Nat → Nat} {o x : Nat} (e : x = a o) (k : Nat) : au a o x k = a k := by
  show (if k = o then x else a k) = a k
  by_cases c : k = o
  · rw [if_pos c, e, c]
  · rw [if_neg c]
theorem St.adn {N : Nat} {v : MM} {r o m n : Nat} {a : Nat → Nat} (h : St N v r a) (ho : o < N) (e : a o = m) (hn : n ≤ m) : St N (mUp v (r, o) (v.1 r o + -nI n)) r (au a o (m - n)) := by
  rw [i_addneg]
  exact h.sub ho e hn
def aLand (a : Nat → Nat) (f n t : Nat) : Nat → Nat := au (aFill a t n (pt a f 2 n) (pt a f 3 n) (pt a f 4 n)) (60 + 7 * t + 6) (a (60 + 7 * t + 6) + pt a f 6 n)
theorem aLand_f {a : Nat → Nat} {f n t : Nat} (ne : f ≠ t) : ∀ k, k < 7 → aLand a f n t (60 + 7 * f + k) = a (60 + 7 * f + k) := by
  intro k hk
  unfold aLand aFill
  exact by simp only [au]; (repeat' split) <;> first | rfl | omega
theorem aGive_eq {a : Nat → Nat} {f n t : Nat} (ne : f ≠ t) : aGive a f n t = au (au (au (au (au (aLand a f n t) (60 + 7 * f + 2) (a (60 + 7 * f + 2) - pt a f 2 n)) (60 + 7 * f + 3) (a (60 + 7 * f + 3) - pt a f 3 n)) (60 + 7 * f + 4) (a (60 + 7 * f + 4) - pt a f 4 n)) (60 + 7 * f + 6) (a (60 + 7 * f + 6) - pt a f 6 n)) (60 + 7 * f + 1) (a (60 + 7 * f + 1) - n) := by
  have k := aLand_f (a := a) (n := n) ne
  have e : ∀ q, q < 7 → pt (aLand a f n t) f q n = pt a f q n := by
    intro q hq
    unfold pt
    rw [k q hq, k 1 (by omega)]
  show aDrop (aLand a f n t) f n = _
  unfold aDrop
  rw [e 2 (by omega), e 3 (by omega), e 4 (by omega), e 6 (by omega), k 1 (by omega), k 2 (by omega), k 3 (by omega), k 4 (by omega), k 6 (by omega)]
