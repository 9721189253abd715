/-! Texts: fetch, find, make, keep, depth -/
/-- the least of n numbers from i on with a property; -1 without -/
noncomputable def lst (p : Int → Prop) : Nat → Int → Int
  | 0, _ => -1
  | n + 1, i => if bI (p i) = 1 then i else lst p n (i + 1)
theorem lst_cg {p q : Int → Prop} : ∀ (n : Nat) (i : Int), (∀ j, i ≤ j → j < i + n → (p j ↔ q j)) → lst p n i = lst q n i
  | 0, _, _ => rfl
  | n + 1, i, h => by
    unfold lst
    rw [bI_cg (h i (Int.le_refl i) (by omega)), lst_cg n (i + 1) (fun j h1 h2 => h j (by omega) (by omega))]
theorem lst_s {p : Int → Prop} : ∀ (n : Nat) (i : Int), (lst p n i = -1 ∧ ∀ j, i ≤ j → j < i + n → ¬ p j) ∨ (i ≤ lst p n i ∧ lst p n i < i + n ∧ p (lst p n i))
  | 0, i => Or.inl ⟨rfl, fun j h1 h2 => by omega⟩
  | n + 1, i => by
    unfold lst
    by_cases c : p i
    · rw [if_pos (bI_t c)]
      exact Or.inr ⟨Int.le_refl i, by omega, c⟩
    · rw [if_neg (fun z => c (bI_1.mp z))]
      rcases lst_s (p := p) n (i + 1) with ⟨h1, h2⟩ | ⟨h1, h2, h3⟩
      · refine Or.inl ⟨h1, fun j g1 g2 => ?_⟩
        rcases Int.lt_or_eq_of_le g1 with g | g
        · exact h2 j (by omega) (by omega)
        · rw [← g]; exact c
      · exact Or.inr ⟨by omega, by omega, h3⟩
/-- a text has just the lines of a row -/
def hlC (I : AI) (k : Nat) (t : Int) : Prop := I 8 t = I k 1 ∧ ∀ j, 0 ≤ j → j < I k 1 → I 7 (t * 24 + j) = I (k + 1) j
section
variable {L : Nat} {b : Bool} {I : AI} {J : AJ} {k : Nat}
theorem l73 (hk : isRow k = true) {t : Int} (ht : 0 ≤ t ∧ t < 120) (h1 : I k 1 ≤ 24) : ∀ (n : Nat) (i : Int), 0 ≤ i → (I k 1 - i).toNat = n → ev 73 23 [some (vr 6), none, some (vr k), some (vi (t * 24)), some (vi i)] [] (hp L b I J) = some (vi (bI (∀ j, i ≤ j → j < I k 1 → I 7 (t * 24 + j) = I (k + 1) j)), hp L b I J) := by
  intro n
  induction n with
  | zero =>
    intro i h0 hn
    rw [s73_23 _ _ _ hk, if_pos (by omega), g1, bI_t (fun j h2 h3 => by omega)]
  | succ n ih =>
    intro i h0 hn
    rw [s73_23 _ _ _ hk, if_neg (by omega), gd_t (by omega), gd_t (by omega), gd_t (by omega)]
    by_cases c : I 7 (t * 24 + i) = I (k + 1) i
    · rw [if_pos c, gd_t (by omega), ih (i + 1) (by omega) (by omega), bI_cg]
      constructor
      · intro h j h2 h3
        rcases Int.lt_or_eq_of_le h2 with h4 | h4
        · exact h j (by omega) h3
        · rw [← h4]; exact c
      · intro h j h2 h3
        exact h j (by omega) h3
    · rw [if_neg c, g0, bI_f (fun h => c (h i (Int.le_refl i) (by omega)))]
theorem c73 (hk : isRow k = true) {t : Int} (ht : 0 ≤ t ∧ t < 120) (h1 : I k 1 ≤ 24) : evc 73 [vr 6, vi t, vr k] (hp L b I J) = some (vi (bI (hlC I k t)), hp L b I J) := by
  rw [n73, s73_0 _ _ hk, gd_t ht]
  by_cases c : I 8 t = I k 1
  · rw [if_pos c, gd_t (by omega), l73 hk ht h1 _ 0 (Int.le_refl 0) rfl, bI_cg]
    exact ⟨fun h => ⟨c, h⟩, fun h => h.2⟩
  · rw [if_neg c, g0, bI_f (fun h => c h.1)]
theorem l72 (hT : TxC I) (hk : isRow k = true) (h1 : I k 1 ≤ 24) : ∀ (n : Nat) (i : Int), 0 ≤ i → (I 6 9 - i).toNat = n → ev 72 2 [some (vr 6), some (vr k), some (vi i)] [] (hp L b I J) = some (vi (lst (fun t => I 9 t ≠ 3 ∧ hlC I k t) n i), hp L b I J) := by
  have h6 := hT.1
  intro n
  induction n with
  | zero =>
    intro i h0 hn
    rw [s72_2, if_pos (by omega)]; rfl
  | succ n ih =>
    intro i h0 hn
    rw [s72_2, if_neg (by omega), gd_t (by omega)]
    unfold lst
    by_cases c : I 9 i = 3
    · rw [if_pos c, s72_31, gd_t (by omega), ih (i + 1) (by omega) (by omega), if_neg (fun z => (bI_1.mp z).1 c)]
    · rw [if_neg c, c73 hk (by omega) h1]
      simp only [Option.bind_some]
      by_cases c2 : hlC I k i
      · rw [bI_t c2, s72_26, if_neg (by decide), if_pos (bI_t ⟨c, c2⟩)]
      · rw [bI_f c2, s72_26, if_pos rfl, s72_31, gd_t (by omega), ih (i + 1) (by omega) (by omega), if_neg (fun z => c2 (bI_1.mp z).2)]
/-- the text that a row is -/
noncomputable def fdC (I : AI) (k : Nat) : Int := lst (fun t => I 9 t ≠ 3 ∧ hlC I k t) (I 6 9).toNat 0
theorem c72 (hT : TxC I) (hk : isRow k = true) (h1 : I k 1 ≤ 24) : evc 72 [vr 6, vr k] (hp L b I J) = some (vi (fdC I k), hp L b I J) := by
  rw [n72, s72_0, l72 hT hk h1 _ 0 (Int.le_refl 0) rfl, Int.sub_zero]; rfl
end
