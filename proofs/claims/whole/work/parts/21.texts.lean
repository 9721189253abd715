/-! Texts: what only looks -/
/-- the first one that is lost, from u on by stems; -1 without -/
def fl (q stem : Int → Int) : Nat → Int → Int
  | 0, _ => -1
  | n + 1, u => if u < 0 then -1 else if q u = 1 then u else fl q stem n (stem u)
theorem fl_cg {q q' s s' : Int → Int} {N : Int} (h1 : ∀ u, 0 ≤ u → u < N → q u = q' u) (h2 : ∀ u, 0 ≤ u → u < N → ¬ q u = 1 → s u = s' u ∧ s u < N) : ∀ (n : Nat) (u : Int), u < N → fl q s n u = fl q' s' n u
  | 0, _, _ => rfl
  | n + 1, u, hu => by
    unfold fl
    by_cases c : u < 0
    · rw [if_pos c, if_pos c]
    · rw [if_neg c, if_neg c, ← h1 u (by omega) hu]
      by_cases c2 : q u = 1
      · rw [if_pos c2, if_pos c2]
      · rw [if_neg c2, if_neg c2, ← (h2 u (by omega) hu c2).1]
        exact fl_cg h1 h2 n _ (h2 u (by omega) hu c2).2
/-- more steps than the number tell nothing new -/
theorem fl_more {q s : Int → Int} (h : ∀ u, 0 ≤ u → s u < u) : ∀ (n m : Nat) (u : Int), u < n → u < m → fl q s n u = fl q s m u := by
  intro n
  induction n with
  | zero =>
    intro m u h1 h2
    cases m with
    | zero => rfl
    | succ m => unfold fl; rw [if_pos (by omega)]
  | succ n ih =>
    intro m u h1 h2
    cases m with
    | zero => unfold fl; rw [if_pos (by omega)]
    | succ m =>
      unfold fl
      by_cases c : u < 0
      · rw [if_pos c, if_pos c]
      · rw [if_neg c, if_neg c]
        by_cases c2 : q u = 1
        · rw [if_pos c2, if_pos c2]
        · rw [if_neg c2, if_neg c2]
          have := h u (by omega)
          exact ih m (s u) (by omega) (by omega)
/-- the class's own: is a text there, which one is lost, can it be read -/
def thC (I : AI) (t : Int) : Prop := 0 ≤ t ∧ t < I 6 9 ∧ I 9 t ≠ 3
noncomputable def qC (I : AI) (u : Int) : Int := bI (I 9 u = 2)
noncomputable def flC (I : AI) (t : Int) : Int := fl (qC I) (I 10) 120 t
def rdC (I : AI) (t : Int) : Prop := thC I t ∧ flC I t = -1
/-- what the rows of the texts keep to -/
def TxC (I : AI) : Prop := (0 ≤ I 6 9 ∧ I 6 9 ≤ 120) ∧ (∀ t, 0 ≤ t → t < I 6 9 → -1 ≤ I 10 t ∧ I 10 t < t) ∧ (∀ t, 0 ≤ t → t < I 6 9 → 0 ≤ I 8 t ∧ I 8 t ≤ 24)
section
variable {L : Nat} {b : Bool} {I : AI} {J : AJ} {k : Nat}
theorem c64 (t : Int) : evc 64 [vr 6, vi t] (hp L b I J) = some (vi (bI (0 ≤ t ∧ t < I 6 9)), hp L b I J) := by
  rw [n64, s64_0]
  by_cases c1 : t < 0
  · rw [if_pos c1, s64_16, g0, bI_f (by omega)]
  · rw [if_neg c1]
    by_cases c2 : I 6 9 ≤ t
    · rw [if_pos c2, s64_16, g0, bI_f (by omega)]
    · rw [if_neg c2, g1, bI_t (by omega)]
theorem c65 (h : I 6 9 ≤ 120) (t : Int) : evc 65 [vr 6, vi t] (hp L b I J) = some (vi (bI (thC I t)), hp L b I J) := by
  rw [n65, s65_0, c64]
  simp only [Option.bind_some]
  by_cases c1 : 0 ≤ t ∧ t < I 6 9
  · rw [bI_t c1, s65_5, if_neg (by decide), gd_t (by omega)]
    by_cases c2 : I 9 t = 3
    · rw [if_pos c2, s65_22, g0, bI_f (fun z => z.2.2 c2)]
    · rw [if_neg c2, g1, bI_t ⟨c1.1, c1.2, c2⟩]
  · rw [bI_f c1, s65_5, if_pos rfl, s65_22, g0, bI_f (fun z => c1 ⟨z.1, z.2.1⟩)]
theorem l68 (hT : TxC I) : ∀ (n : Nat) (i u : Int), 0 ≤ i → (120 - i).toNat = n → -1 ≤ u → u < I 6 9 → ev 68 4 [some (vr 6), none, some (vi u), some (vi i)] [] (hp L b I J) = some (vi (fl (qC I) (I 10) n u), hp L b I J) := by
  intro n
  induction n with
  | zero =>
    intro i u h0 hn h1 h2
    rw [s68_4, if_pos (by omega), s68_43]; rfl
  | succ n ih =>
    intro i u h0 hn h1 h2
    rw [s68_4, if_neg (by omega), c64]
    simp only [Option.bind_some]
    unfold fl
    by_cases c1 : u < 0
    · rw [if_pos c1, bI_f (by omega), s68_15, if_pos rfl, s68_43]
    · have := hT.1
      rw [if_neg c1, bI_t (by omega), s68_15, if_neg (by decide), gd_t (by omega)]
      by_cases c2 : I 9 u = 2
      · rw [if_neg (fun z => z c2), if_pos (show qC I u = 1 from bI_t c2)]
      · have h3 := hT.2.1 u (by omega) h2
        rw [if_pos c2, gd_t (by omega), gd_t (by omega), if_neg (fun z : qC I u = 1 => c2 (bI_1.mp z)), ih (i + 1) (I 10 u) (by omega) (by omega) (by omega) (by omega)]
theorem c68 (hT : TxC I) (t : Int) (h1 : -1 ≤ t) (h2 : t < I 6 9) : evc 68 [vr 6, vi t] (hp L b I J) = some (vi (flC I t), hp L b I J) := by
  rw [n68, s68_0, l68 hT 120 0 t (by omega) (by omega) h1 h2]; rfl
theorem c66 (hT : TxC I) (t : Int) : evc 66 [vr 6, vi t] (hp L b I J) = some (vi (bI (rdC I t)), hp L b I J) := by
  rw [n66, s66_0, c65 hT.1.2]
  simp only [Option.bind_some]
  by_cases c1 : thC I t
  · rw [bI_t c1, s66_5, if_neg (by decide), c68 hT t (by have := c1.1; omega) c1.2.1]
    simp only [Option.bind_some]
    rw [s66_13]
    by_cases c2 : flC I t = -1
    · rw [if_neg (fun z => z c2), g1, bI_t ⟨c1, c2⟩]
    · rw [if_pos c2, s66_21, g0, bI_f (fun z => c2 z.2)]
  · rw [bI_f c1, s66_5, if_pos rfl, s66_21, g0, bI_f (fun z => c1 z.1)]
theorem c70 (hT : TxC I) (t i : Int) : evc 70 [vr 6, vi t, vi i] (hp L b I J) = some (vi (if (0 ≤ t ∧ t < I 6 9) ∧ 0 ≤ i ∧ i < I 8 t then I 7 (t * 24 + i) else 0), hp L b I J) := by
  rw [n70, s70_0, c64]
  simp only [Option.bind_some]
  have h0 := hT.1
  by_cases c1 : 0 ≤ t ∧ t < I 6 9
  · have h1 := hT.2.2 t c1.1 c1.2
    rw [bI_t c1, s70_5, if_neg (by decide)]
    by_cases c2 : i < 0
    · rw [if_pos c2, s70_36, if_neg (by omega)]
    · rw [if_neg c2, gd_t (by omega)]
      by_cases c3 : I 8 t ≤ i
      · rw [if_pos c3, s70_36, if_neg (by omega)]
      · rw [if_neg c3, gd_t (by omega), gd_t (by omega), gd_t (by omega), if_pos (by omega)]
  · rw [bI_f c1, s70_5, if_pos rfl, s70_36, if_neg (fun z => c1 z.1)]
end
