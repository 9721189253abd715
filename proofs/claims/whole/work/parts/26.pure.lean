/-! counting, least ones, ancestors -/
noncomputable def ct (p : Int → Prop) : Nat → Int
  | 0 => 0
  | n + 1 => ct p n + bI (p n)
theorem bI_bd (p : Prop) : 0 ≤ bI p ∧ bI p ≤ 1 := by
  by_cases c : p
  · rw [bI_t c]; decide
  · rw [bI_f c]; decide
theorem bI_o (p : Prop) : bI p = 0 ∨ bI p = 1 := by
  by_cases c : p
  · exact Or.inr (bI_t c)
  · exact Or.inl (bI_f c)
section
variable {p q : Int → Prop}
theorem ct_s {i : Int} (h : 0 ≤ i) : ct p (i + 1).toNat = ct p i.toNat + bI (p i) := by
  rw [show (i + 1).toNat = i.toNat + 1 by omega]
  show ct p i.toNat + bI (p (i.toNat : Int)) = _
  rw [show ((i.toNat : Nat) : Int) = i by omega]
theorem ct_bd (n : Nat) : 0 ≤ ct p n ∧ ct p n ≤ n := by
  induction n with
  | zero => exact ⟨Int.le_refl 0, Int.le_refl 0⟩
  | succ n ih =>
    have := bI_bd (p n)
    show 0 ≤ ct p n + bI (p n) ∧ ct p n + bI (p n) ≤ _
    omega
theorem ct_cg (n : Nat) (h : ∀ i : Int, 0 ≤ i → i < n → (p i ↔ q i)) : ct p n = ct q n := by
  induction n with
  | zero => rfl
  | succ n ih =>
    show ct p n + bI (p n) = ct q n + bI (q n)
    rw [ih (fun i h0 h1 => h i h0 (by omega)), bI_cg (h n (by omega) (by omega))]
theorem ct_add (n m : Nat) : ct p (n + m) = ct p n + ct (fun i => p (i + n)) m := by
  induction m with
  | zero => show ct p n = ct p n + 0; omega
  | succ m ih =>
    show ct p (n + m) + bI (p ((n + m : Nat) : Int)) = ct p n + (ct (fun i => p (i + n)) m + bI (p ((m : Int) + n)))
    rw [ih, show ((n + m : Nat) : Int) = (m : Int) + n by omega]; omega
theorem ct_0 (n : Nat) (h : ∀ i : Int, 0 ≤ i → i < n → ¬ p i) : ct p n = 0 := by
  induction n with
  | zero => rfl
  | succ n ih =>
    show ct p n + bI (p n) = 0
    rw [ih (fun i h0 h1 => h i h0 (by omega)), bI_f (h n (by omega) (by omega))]; rfl
/-- none beyond n -/
theorem ct_more (n m : Nat) (h : ∀ i : Int, n ≤ i → i < n + m → ¬ p i) : ct p (n + m) = ct p n := by
  rw [ct_add, ct_0 m (fun i h0 h1 => h (i + n) (by omega) (by omega))]; omega
theorem ct_pos {n : Nat} {i : Int} (h0 : 0 ≤ i) (h1 : i < n) (h : p i) : 1 ≤ ct p n := by
  induction n with
  | zero => omega
  | succ n ih =>
    show 1 ≤ ct p n + bI (p n)
    by_cases c : i = n
    · rw [← c, bI_t h]; have := (ct_bd (p := p) n).1; omega
    · have := ih (by omega); have := bI_bd (p n); omega
/-- two of them -/
theorem ct_two {n : Nat} {i j : Int} (h0 : 0 ≤ i) (h1 : i < j) (h2 : j < n) (hi : p i) (hj : p j) : 2 ≤ ct p n := by
  induction n with
  | zero => omega
  | succ n ih =>
    show 2 ≤ ct p n + bI (p n)
    by_cases c : j = n
    · rw [← c, bI_t hj]; have := ct_pos (n := n) h0 (by omega) hi; omega
    · have := ih (by omega); have := bI_bd (p n); omega
end
/-- the first one that beats all before it -/
noncomputable def am (ok : Int → Prop) (v : Int → Int) (A : Int) : Nat → Int × Int
  | 0 => (-1, A)
  | n + 1 => if bI (ok n ∧ v n < (am ok v A n).2) = 1 then ((n : Int), v n) else am ok v A n
theorem am_s (ok : Int → Prop) (v : Int → Int) (A : Int) {i : Int} (h : 0 ≤ i) : am ok v A (i + 1).toNat = if bI (ok i ∧ v i < (am ok v A i.toNat).2) = 1 then (i, v i) else am ok v A i.toNat := by
  rw [show (i + 1).toNat = i.toNat + 1 by omega]
  show (if bI (ok (i.toNat : Int) ∧ v (i.toNat : Int) < (am ok v A i.toNat).2) = 1 then (((i.toNat : Nat) : Int), v (i.toNat : Int)) else _) = _
  rw [show ((i.toNat : Nat) : Int) = i by omega]
theorem am_t {ok : Int → Prop} {v : Int → Int} {A i : Int} (h : 0 ≤ i) (h1 : ok i) (h2 : v i < (am ok v A i.toNat).2) : am ok v A (i + 1).toNat = (i, v i) := by
  rw [am_s ok v A h, if_pos (bI_t ⟨h1, h2⟩)]
theorem am_f {ok : Int → Prop} {v : Int → Int} {A i : Int} (h : 0 ≤ i) (h1 : ¬ (ok i ∧ v i < (am ok v A i.toNat).2)) : am ok v A (i + 1).toNat = am ok v A i.toNat := by
  rw [am_s ok v A h, if_neg (fun z => h1 (bI_1.mp z))]
theorem am_cg {ok ok' : Int → Prop} {v v' : Int → Int} {A B : Int} (n : Nat) (h : ∀ i : Int, 0 ≤ i → i < n → (ok i ↔ ok' i)) (h1 : ∀ i : Int, 0 ≤ i → i < n → ok i → v i = v' i ∧ v i < A ∧ v i < B ∨ v i = v' i ∧ A = B) : (am ok v A n).1 = (am ok' v' B n).1 ∧ ((am ok v A n).2 = (am ok' v' B n).2 ∨ ((am ok v A n).2 = A ∧ (am ok' v' B n).2 = B)) := by
  induction n with
  | zero => exact ⟨rfl, Or.inr ⟨rfl, rfl⟩⟩
  | succ n ih =>
    have e := ih (fun i a b => h i a (by omega)) (fun i a b => h1 i a (by omega))
    have e1 := am_s ok v A (i := n) (by omega)
    have e2 := am_s ok' v' B (i := n) (by omega)
    rw [show ((n : Int) + 1).toNat = n + 1 by omega, show ((n : Nat) : Int).toNat = n by omega] at e1 e2
    rw [e1, e2]
    have hk := h n (by omega) (by omega)
    have h2 := h1 n (by omega) (by omega)
    by_cases c : ok n
    · have h3 := h2 c
      by_cases c2 : v n < (am ok v A n).2
      · rw [if_pos (bI_t ⟨c, c2⟩), if_pos (bI_t ⟨hk.mp c, by omega⟩)]
        exact ⟨rfl, Or.inl (by show v n = v' n; omega)⟩
      · rw [if_neg (fun z => c2 (bI_1.mp z).2), if_neg (fun z => c2 (by have := (bI_1.mp z).2; omega))]
        exact e
    · rw [if_neg (fun z => c (bI_1.mp z).1), if_neg (fun z => c (hk.mpr (bI_1.mp z).1))]
      exact e
theorem am_bd (ok : Int → Prop) (v : Int → Int) (A : Int) (n : Nat) : ((am ok v A n).1 = -1 ∧ (am ok v A n).2 = A ∧ ∀ i : Int, 0 ≤ i → i < n → ok i → A ≤ v i) ∨ ((0 ≤ (am ok v A n).1 ∧ (am ok v A n).1 < n) ∧ ok (am ok v A n).1 ∧ (am ok v A n).2 = v (am ok v A n).1 ∧ (am ok v A n).2 < A) := by
  induction n with
  | zero => exact Or.inl ⟨rfl, rfl, fun i a b => by omega⟩
  | succ n ih =>
    have e1 := am_s ok v A (i := n) (by omega)
    rw [show ((n : Int) + 1).toNat = n + 1 by omega, show ((n : Nat) : Int).toNat = n by omega] at e1
    rw [e1]
    by_cases c : ok n ∧ v n < (am ok v A n).2
    · rw [if_pos (bI_t c)]
      exact Or.inr ⟨⟨by show (0 : Int) ≤ n; omega, by show (n : Int) < _; omega⟩, c.1, rfl, by show v n < A; omega⟩
    · rw [if_neg (fun z => c (bI_1.mp z))]
      rcases ih with ⟨a1, a2, a3⟩ | ⟨a1, a2, a3, a4⟩
      · refine Or.inl ⟨a1, a2, fun i h0 h1 h2 => ?_⟩
        by_cases d : i = n
        · rw [d] at h2 ⊢; have : ¬ v n < (am ok v A n).2 := fun z => c ⟨h2, z⟩; omega
        · exact a3 i h0 (by omega) h2
      · exact Or.inr ⟨⟨a1.1, by omega⟩, a2, a3, a4⟩
/-- the ancestors of s: the least set with s that has the parents of its own -/
def An (p q : Int → Int) (s t : Int) : Prop := ∀ R : Int → Prop, R s → (∀ u, R u → 0 ≤ p u → R (p u)) → (∀ u, R u → 0 ≤ q u → R (q u)) → R t
section
variable {p q p' q' : Int → Int} {s t u N : Int}
theorem An.rf : An p q s s := fun _ h _ _ => h
theorem An.p1 (h : An p q s t) (h0 : 0 ≤ p t) : An p q s (p t) := fun R a b c => b t (h R a b c) h0
theorem An.q1 (h : An p q s t) (h0 : 0 ≤ q t) : An p q s (q t) := fun R a b c => c t (h R a b c) h0
theorem An.tr (h : An p q s t) (h' : An p q t u) : An p q s u := fun R a b c => h' R (h R a b c) b c
theorem An_iff : An p q s t ↔ s = t ∨ (0 ≤ p s ∧ An p q (p s) t) ∨ (0 ≤ q s ∧ An p q (q s) t) := by
  constructor
  · intro h
    refine h (fun t => s = t ∨ (0 ≤ p s ∧ An p q (p s) t) ∨ (0 ≤ q s ∧ An p q (q s) t)) (Or.inl rfl) ?_ ?_
    · intro u hu h0
      rcases hu with e | ⟨a, b⟩ | ⟨a, b⟩
      · subst e; exact Or.inr (Or.inl ⟨h0, An.rf⟩)
      · exact Or.inr (Or.inl ⟨a, b.p1 h0⟩)
      · exact Or.inr (Or.inr ⟨a, b.p1 h0⟩)
    · intro u hu h0
      rcases hu with e | ⟨a, b⟩ | ⟨a, b⟩
      · subst e; exact Or.inr (Or.inr ⟨h0, An.rf⟩)
      · exact Or.inr (Or.inl ⟨a, b.q1 h0⟩)
      · exact Or.inr (Or.inr ⟨a, b.q1 h0⟩)
  · rintro (e | ⟨a, b⟩ | ⟨a, b⟩)
    · subst e; exact An.rf
    · exact (An.rf.p1 a).tr b
    · exact (An.rf.q1 a).tr b
/-- parents are lesser -/
def Ls (p q : Int → Int) (N : Int) : Prop := ∀ u, 0 ≤ u → u < N → p u < u ∧ q u < u
theorem An.le (h : An p q s t) (hl : Ls p q N) (h0 : 0 ≤ s) (h1 : s < N) : 0 ≤ t ∧ t ≤ s := by
  refine h (fun t => 0 ≤ t ∧ t ≤ s) ⟨h0, Int.le_refl s⟩ (fun u hu z => ⟨z, ?_⟩) (fun u hu z => ⟨z, ?_⟩)
  · have := hl u hu.1 (by omega); omega
  · have := hl u hu.1 (by omega); omega
theorem An_cg (hl : Ls p q N) (h0 : 0 ≤ s) (h1 : s < N) (h : ∀ u, 0 ≤ u → u < N → p u = p' u ∧ q u = q' u) : An p q s t ↔ An p' q' s t := by
  have hl' : Ls p' q' N := fun u a b => by rw [← (h u a b).1, ← (h u a b).2]; exact hl u a b
  constructor
  · intro z
    refine (z (fun t => (0 ≤ t ∧ t < N) ∧ An p' q' s t) ⟨⟨h0, h1⟩, An.rf⟩ (fun u hu z => ?_) (fun u hu z => ?_)).2
    · have e := h u hu.1.1 hu.1.2
      have := hl u hu.1.1 hu.1.2
      exact ⟨⟨z, by omega⟩, by rw [e.1]; exact hu.2.p1 (by rw [← e.1]; exact z)⟩
    · have e := h u hu.1.1 hu.1.2
      have := hl u hu.1.1 hu.1.2
      exact ⟨⟨z, by omega⟩, by rw [e.2]; exact hu.2.q1 (by rw [← e.2]; exact z)⟩
  · intro z
    refine (z (fun t => (0 ≤ t ∧ t < N) ∧ An p q s t) ⟨⟨h0, h1⟩, An.rf⟩ (fun u hu z => ?_) (fun u hu z => ?_)).2
    · have e := h u hu.1.1 hu.1.2
      have := hl' u hu.1.1 hu.1.2
      exact ⟨⟨z, by omega⟩, by rw [← e.1]; exact hu.2.p1 (by rw [e.1]; exact z)⟩
    · have e := h u hu.1.1 hu.1.2
      have := hl' u hu.1.1 hu.1.2
      exact ⟨⟨z, by omega⟩, by rw [← e.2]; exact hu.2.q1 (by rw [e.2]; exact z)⟩
end
