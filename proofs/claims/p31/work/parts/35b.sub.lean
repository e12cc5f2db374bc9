-- MORE LOCALS THAN A RUN NEEDS do no harm
def dupF : ML → Bool
  | [] => true
  | q :: l => l.all (fun p => !(Nat.beq p.1 q.1)) && dupF l
def Sub (l l' : ML) : Prop := (∀ q ∈ l, q ∈ l') ∧ dupF l' = true
theorem lk_in : ∀ {l : ML} {a : Nat} {w : MV}, dupF l = true → (a, w) ∈ l → lk l a = some w
  | [], _, _, _, h => absurd h List.not_mem_nil
  | (j, u) :: l, a, w, hd, h => by
    have hd : (l.all (fun p => !(Nat.beq p.1 j)) && dupF l) = true := hd
    rw [Bool.and_eq_true] at hd
    unfold lk
    rcases List.mem_cons.mp h with h | h
    · cases h
      rw [Nat.beq_refl]
    · have h1 := List.all_eq_true.mp hd.1 _ h
      have h2 : Nat.beq j a = false := by
        cases hb : Nat.beq j a with
        | false => rfl
        | true =>
          have := Nat.eq_of_beq_eq_true hb
          subst this
          have h1 : (!(Nat.beq j j)) = true := h1
          rw [Nat.beq_refl] at h1
          cases h1
      rw [h2]
      exact lk_in hd.2 h
theorem Sub.lk {l l' : ML} (h : Sub l l') {a : Nat} {w : MV} (e : lk l a = some w) : lk l' a = some w := lk_in h.2 (h.1 _ (lk_mem e))
theorem dupF_filter {p : Nat × MV → Bool} : ∀ {l : ML}, dupF l = true → dupF (l.filter p) = true
  | [], _ => rfl
  | q :: l, hd => by
    have hd : (l.all (fun p => !(Nat.beq p.1 q.1)) && dupF l) = true := hd
    rw [Bool.and_eq_true] at hd
    have ih := dupF_filter (p := p) hd.2
    rw [List.filter_cons]
    split
    · show ((l.filter p).all (fun p => !(Nat.beq p.1 q.1)) && dupF (l.filter p)) = true
      rw [Bool.and_eq_true]
      exact ⟨List.all_eq_true.mpr (fun x hx => List.all_eq_true.mp hd.1 x (List.mem_filter.mp hx).1), ih⟩
    · exact ih
theorem Sub.cons {l l' : ML} {p : Nat × MV → Bool} {a : Nat} {w : MV} (h : Sub l l') (hp : ∀ q, p q = true → (Nat.beq q.1 a) = false) : Sub ((a, w) :: l.filter p) ((a, w) :: l'.filter p) := by
  refine ⟨fun q hq => ?_, ?_⟩
  · rcases List.mem_cons.mp hq with rfl | hq
    · exact List.mem_cons_self
    · exact List.mem_cons_of_mem _ (List.mem_filter.mpr ⟨h.1 _ (List.mem_filter.mp hq).1, (List.mem_filter.mp hq).2⟩)
  · show ((l'.filter p).all (fun p => !(Nat.beq p.1 a)) && dupF (l'.filter p)) = true
    rw [Bool.and_eq_true]
    refine ⟨List.all_eq_true.mpr (fun x hx => ?_), dupF_filter h.2⟩
    rw [hp x (List.mem_filter.mp hx).2]
    rfl
theorem Sub.sto1 {l l' : ML} {a : Nat} {w : MV} (h : Sub l l') : Sub (sto1 l a w) (sto1 l' a w) := h.cons (fun q hq => by
  rw [Bool.and_eq_true] at hq
  have h1 : q.1 ≠ a := by simpa using hq.1
  cases hb : Nat.beq q.1 a with
  | false => rfl
  | true => exact absurd (Nat.eq_of_beq_eq_true hb) h1)
theorem Sub.sto2 {l l' : ML} {a : Nat} {w : MV} (h : Sub l l') : Sub (sto2 l a w) (sto2 l' a w) := h.cons (fun q hq => by
  rw [Bool.and_eq_true] at hq
  have h1 : q.1 ≠ a := by simpa using hq.1
  cases hb : Nat.beq q.1 a with
  | false => rfl
  | true => exact absurd (Nat.eq_of_beq_eq_true hb) h1)
theorem lk_split {l l' : ML} (h : Sub l l') (a : Nat) (f : MV → MR) {r : MM × Option MV} (hf : (match lk l a with
  | some w => f w
  | none => none) = some r) : (match lk l' a with
  | some w => f w
  | none => none) = some r := by
  cases e : lk l a with
  | none =>
    rw [e] at hf
    cases hf
  | some w =>
    rw [e] at hf
    rw [h.lk e]
    exact hf
set_option maxHeartbeats 4000000 in
theorem stI_sub {F : Nat → MF} {K : Nat → ML → List MV → MM → MR} (hK : ∀ i l l' st v r, Sub l l' → K i l st v = some r → K i l' st v = some r) {i : Nat} {l l' : ML} (hs : Sub l l') {st : List MV} {v : MM} {m : MI} {r : MM × Option MV} : stI F K i l st v m = some r → stI F K i l' st v m = some r := by
  obtain ⟨op, a, b, c, x, y, tb⟩ := m
  by_cases h6 : op = 6
  · subst h6
    intro h
    have h : (match lk l a with
      | some (.inl w) => K (i + 1) l (.inl w :: st) v
      | _ => none) = some r := h
    show (match lk l' a with
      | some (.inl w) => K (i + 1) l' (.inl w :: st) v
      | _ => none) = some r
    cases e : lk l a with
    | none =>
      rw [e] at h
      cases h
    | some u =>
      rw [e] at h
      rw [hs.lk e]
      rcases u with u | u | u
      · exact hK _ _ _ _ _ _ hs h
      · cases h
      · cases h
  by_cases h7 : op = 7
  · subst h7
    intro h
    have h : (match lk l a with
      | some (.inr (.inl w)) => K (i + 1) l (.inr (.inl w) :: st) v
      | _ => none) = some r := h
    show (match lk l' a with
      | some (.inr (.inl w)) => K (i + 1) l' (.inr (.inl w) :: st) v
      | _ => none) = some r
    cases e : lk l a with
    | none =>
      rw [e] at h
      cases h
    | some u =>
      rw [e] at h
      rw [hs.lk e]
      rcases u with u | u | u
      · cases h
      · exact hK _ _ _ _ _ _ hs h
      · cases h
  by_cases h8 : op = 8
  · subst h8
    intro h
    have h : (match lk l a with
      | some (.inr (.inr w)) => K (i + 1) l (.inr (.inr w) :: st) v
      | _ => none) = some r := h
    show (match lk l' a with
      | some (.inr (.inr w)) => K (i + 1) l' (.inr (.inr w) :: st) v
      | _ => none) = some r
    cases e : lk l a with
    | none =>
      rw [e] at h
      cases h
    | some u =>
      rw [e] at h
      rw [hs.lk e]
      rcases u with u | u | u
      · cases h
      · cases h
      · exact hK _ _ _ _ _ _ hs h
  by_cases h11 : op = 11
  · subst h11
    intro h
    have h : (match lk l a with
      | some (.inl w) => K (i + 1) (sto1 l a (.inl (w + x))) st v
      | _ => none) = some r := h
    show (match lk l' a with
      | some (.inl w) => K (i + 1) (sto1 l' a (.inl (w + x))) st v
      | _ => none) = some r
    cases e : lk l a with
    | none =>
      rw [e] at h
      cases h
    | some u =>
      rw [e] at h
      rw [hs.lk e]
      rcases u with u | u | u
      · exact hK _ _ _ _ _ _ hs.sto1 h
      · cases h
      · cases h
  revert h6 h7 h8 h11
  unfold stI
  dsimp only
  split
  all_goals intro h6 h7 h8 h11
  all_goals first
    | exact absurd rfl h6
    | exact absurd rfl h7
    | exact absurd rfl h8
    | exact absurd rfl h11
    | skip
  all_goals (repeat' split)
  all_goals intro h
  all_goals first
    | exact hK _ _ _ _ _ _ hs h
    | exact hK _ _ _ _ _ _ hs.sto1 h
    | exact hK _ _ _ _ _ _ hs.sto2 h
    | exact h
    | (obtain ⟨v', x', h1, h2⟩ := bI_some h; rw [h1]; exact hK _ _ _ _ _ _ hs h2)
    | (obtain ⟨v', h1, h2⟩ := bV_some h; rw [h1]; exact hK _ _ _ _ _ _ hs h2)
    | (obtain ⟨v', x', h1, h2⟩ := bN_some h; rw [h1]; exact hK _ _ _ _ _ _ hs h2)
    | (obtain ⟨v', x', h1, h2⟩ := bL_some h; rw [h1]; exact hK _ _ _ _ _ _ hs h2)
    | exact swt_mono (fun t ht => hK _ _ _ _ _ _ hs ht) h
theorem run_sub {F : Nat → MF} {cd : List MI} : ∀ (n i : Nat) (l l' : ML) (st : List MV) (v : MM) (r : MM × Option MV), Sub l l' → run F cd n i l st v = some r → run F cd n i l' st v = some r := by
  intro n
  induction n with
  | zero =>
    intro i l l' st v r _ h
    exact no_of h
  | succ n ih =>
    intro i l l' st v r hs h
    have h : stp F cd (run F cd n) i l st v = some r := h
    show stp F cd (run F cd n) i l' st v = some r
    unfold stp at h ⊢
    cases hi : nth cd i with
    | none =>
      rw [hi] at h
      cases h
    | some mi =>
      rw [hi] at h
      exact stI_sub (fun i l l' st v r hs h => ih i l l' st v r hs h) hs h
/-- a run from fewer locals (those at the places ps) -/
theorem rL_sub {F : Nat → MF} {cd : List MI} {i : Nat} {l l' : ML} {st : List MV} {v : MM} {r : MM × Option MV} (ps : List Nat) (hp : ps.map (fun k => l'[k]?) = l.map some) (hd : dupF l' = true) (h : rLim F cd i l st v = some r) : rLim F cd i l' st v = some r := by
  obtain ⟨n, h⟩ := (rLim_spec r).mp h
  refine (rLim_spec r).mpr ⟨n, run_sub n i l l' st v r ⟨fun q hq => ?_, hd⟩ h⟩
  have h1 : some q ∈ ps.map (fun k => l'[k]?) := by
    rw [hp]
    exact List.mem_map.mpr ⟨q, hq, rfl⟩
  obtain ⟨k, -, hk⟩ := List.mem_map.mp h1
  exact List.mem_of_getElem? hk
