/-! Row: clear, push, at, isLike -/
section
variable {L : Nat} {b : Bool} {I : AI} {J : AJ} {k : Nat}
theorem c37 (hk : isRow k = true) : evc 37 [vr k] (hp L b I J) = some (vi 0, hp L b (upI I k 1 0) J) := by rw [n37, s37_0 _ hk]
theorem c38t (hk : isRow k = true) (h0 : 0 ≤ I k 1) (h1 : I k 1 < 24) (x : Int) : evc 38 [vr k, vi x] (hp L b I J) = some (vi 1, hp L b (upI (upI I (k + 1) (I k 1) x) k 1 (I k 1 + 1)) J) := by
  rw [n38, s38_0 _ _ hk, if_pos h1, gd_t ⟨h0, h1⟩, upI_c (by omega), gd_t (by omega), g1]
theorem c38f (hk : isRow k = true) (h1 : ¬ I k 1 < 24) (x : Int) : evc 38 [vr k, vi x] (hp L b I J) = some (vi 0, hp L b I J) := by
  rw [n38, s38_0 _ _ hk, if_neg h1, g0]
theorem c39 (hk : isRow k = true) (h1 : I k 1 ≤ 24) (i : Int) : evc 39 [vr k, vi i] (hp L b I J) = some (vi (if 0 ≤ i ∧ i < I k 1 then I (k + 1) i else 0), hp L b I J) := by
  rw [n39, s39_0 _ _ hk]
  by_cases c1 : i < 0
  · rw [if_pos c1, if_neg (by omega), s39_21]
  rw [if_neg c1]
  by_cases c2 : I k 1 ≤ i
  · rw [if_pos c2, if_neg (by omega), s39_21]
  · rw [if_neg c2, if_pos ⟨by omega, by omega⟩, gd_t (by omega)]
/-- two rows alike from a line on -/
theorem l40 {m : Nat} (hk : isRow k = true) (hm : isRow m = true) (h1 : I k 1 ≤ 24) : ∀ (n : Nat) (i : Int), 0 ≤ i → (I k 1 - i).toNat = n → ev 40 15 [some (vr k), some (vr m), some (vi i)] [] (hp L b I J) = some (vi (bI (∀ j, i ≤ j → j < I k 1 → I (k + 1) j = I (m + 1) j)), hp L b I J) := by
  intro n
  induction n with
  | zero =>
    intro i h0 hn
    rw [s40_15 _ _ _ hk hm, if_pos (by omega), g1, bI_t (fun j h2 h3 => by omega)]
  | succ n ih =>
    intro i h0 hn
    rw [s40_15 _ _ _ hk hm, if_neg (by omega), gd_t (by omega), gd_t (by omega)]
    by_cases c : I (k + 1) i = I (m + 1) i
    · rw [if_pos c, gd_t (by omega), ih (i + 1) (by omega) (by omega)]
      rw [bI_cg]
      constructor
      · intro h j h2 h3
        rcases Int.lt_or_eq_of_le h2 with h4 | h4
        · exact h j (by omega) h3
        · rw [← h4]; exact c
      · intro h j h2 h3
        exact h j (by omega) h3
    · rw [if_neg c, g0, bI_f (fun h => c (h i (Int.le_refl i) (by omega)))]
theorem c40 {m : Nat} (hk : isRow k = true) (hm : isRow m = true) (h1 : I k 1 ≤ 24) : evc 40 [vr k, vr m] (hp L b I J) = some (vi (bI (I k 1 = I m 1 ∧ ∀ j, 0 ≤ j → j < I k 1 → I (k + 1) j = I (m + 1) j)), hp L b I J) := by
  rw [n40, s40_0 _ _ hk hm]
  by_cases c : I k 1 = I m 1
  · rw [if_pos c, l40 hk hm h1 _ 0 (Int.le_refl 0) rfl, bI_cg (p := ∀ j, 0 ≤ j → j < I k 1 → I (k + 1) j = I (m + 1) j)]
    exact ⟨fun h => ⟨c, h⟩, fun h => h.2⟩
  · rw [if_neg c, g0, bI_f (fun h => c h.1)]
end
