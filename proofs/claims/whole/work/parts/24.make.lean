/-! Texts: make, keep -/
section
variable {L : Nat} {b : Bool} {J : AJ} {k : Nat}
theorem l75 (hk : isRow k = true) {t : Int} (ht : 0 ≤ t ∧ t < 120) : ∀ (n : Nat) (i : Int) (I : AI), 0 ≤ i → (I k 1 - i).toNat = n → i ≤ I k 1 → I k 1 ≤ 24 → ∃ I' : AI, ev 75 29 [some (vr 6), some (vr k), some (vi t), some (vi i)] [] (hp L b I J) = some (vi t, hp L b I' J) ∧ Same [7, 8, 9, 10] I I' ∧ I' 8 = upI I 8 t (I k 1) 8 ∧ I' 9 = upI I 9 t 0 9 ∧ I' 10 = upI I 10 t (-1) 10 ∧ ∀ x, I' 7 x = if t * 24 + i ≤ x ∧ x < t * 24 + I k 1 then I (k + 1) (x - t * 24) else I 7 x := by
  intro n
  have r7 := row_ne hk (c := 7) (by decide)
  have r8 := row_ne hk (c := 8) (by decide)
  have r9 := row_ne hk (c := 9) (by decide)
  have r10 := row_ne hk (c := 10) (by decide)
  induction n with
  | zero =>
    intro i I h0 hn h1 h2
    refine ⟨upI (upI (upI I 8 t (I k 1)) 9 t 0) 10 t (-1), ?_, ((Same.rf.up (by simp)).up (by simp)).up (by simp), ?_, ?_, ?_, fun x => ?_⟩
    · rw [s75_29 _ _ _ hk, if_pos (by omega), gd_t ht, gd_t ht, gd_t ht]
    · rw [upI_c (by decide), upI_c (by decide)]
    · rw [upI_c (by decide)]
      funext j
      by_cases c : j = t
      · rw [c, upI_s, upI_s]
      · rw [upI_i c, upI_i c, upI_c (by decide)]
    · funext j
      by_cases c : j = t
      · rw [c, upI_s, upI_s]
      · rw [upI_i c, upI_i c, upI_c (by decide), upI_c (by decide)]
    · rw [upI_c (by decide), upI_c (by decide), upI_c (by decide), if_neg (by omega)]
  | succ n ih =>
    intro i I h0 hn h1 h2
    have ek : (upI I 7 (t * 24 + i) (I (k + 1) i)) k = I k := upI_c (Ne.symm r7.1) _ _ _
    have ek1 : (upI I 7 (t * 24 + i) (I (k + 1) i)) (k + 1) = I (k + 1) := upI_c (Ne.symm r7.2) _ _ _
    obtain ⟨I', q1, q2, q3, q4, q5, q6⟩ := ih (i + 1) (upI I 7 (t * 24 + i) (I (k + 1) i)) (by omega) (by rw [ek]; omega) (by rw [ek]; omega) (by rw [ek]; omega)
    refine ⟨I', ?_, Same.tr (Same.rf.up (by simp)) q2, ?_, ?_, ?_, fun x => ?_⟩
    · rw [s75_29 _ _ _ hk, if_neg (by omega), gd_t (by omega), gd_t (by omega), gd_t (by omega), gd_t (by omega), gd_t (by omega)]
      exact q1
    · rw [q3, ek]
      funext j
      by_cases c : j = t
      · rw [c, upI_s, upI_s]
      · rw [upI_i c, upI_i c, upI_c (by decide)]
    · rw [q4]
      funext j
      by_cases c : j = t
      · rw [c, upI_s, upI_s]
      · rw [upI_i c, upI_i c, upI_c (by decide)]
    · rw [q5]
      funext j
      by_cases c : j = t
      · rw [c, upI_s, upI_s]
      · rw [upI_i c, upI_i c, upI_c (by decide)]
    · rw [q6, ek, ek1]
      by_cases c : x = t * 24 + i
      · rw [if_neg (by omega), if_pos (by omega), c, upI_s, show t * 24 + i - t * 24 = i by omega]
      · rw [upI_i c]
        by_cases c2 : t * 24 + (i + 1) ≤ x ∧ x < t * 24 + I k 1
        · rw [if_pos c2, if_pos (by omega)]
        · rw [if_neg c2, if_neg (by omega)]
/-- a new text -/
theorem c75 {I : AI} (hT : TxC I) (hk : isRow k = true) (h1 : 0 ≤ I k 1 ∧ I k 1 ≤ 24) (hr : I 6 9 < 120) : ∃ I' : AI, evc 75 [vr 6, vr k] (hp L b I J) = some (vi (I 6 9), hp L b I' J) ∧ Same [6, 7, 8, 9, 10] I I' ∧ I' 6 = upI I 6 9 (I 6 9 + 1) 6 ∧ I' 8 = upI I 8 (I 6 9) (I k 1) 8 ∧ I' 9 = upI I 9 (I 6 9) 0 9 ∧ I' 10 = upI I 10 (I 6 9) (-1) 10 ∧ ∀ x, I' 7 x = if I 6 9 * 24 ≤ x ∧ x < I 6 9 * 24 + I k 1 then I (k + 1) (x - I 6 9 * 24) else I 7 x := by
  have h6 := hT.1
  have r6 := row_ne hk (c := 6) (by decide)
  have ek : (upI I 6 9 (I 6 9 + 1)) k = I k := upI_c (Ne.symm r6.1) _ _ _
  have ek1 : (upI I 6 9 (I 6 9 + 1)) (k + 1) = I (k + 1) := upI_c (Ne.symm r6.2) _ _ _
  obtain ⟨I', q1, q2, q3, q4, q5, q6⟩ := l75 (L := L) (b := b) (J := J) hk (t := I 6 9) (by omega) _ 0 (upI I 6 9 (I 6 9 + 1)) (Int.le_refl 0) rfl (by rw [ek]; omega) (by rw [ek]; omega)
  refine ⟨I', ?_, ?_, ?_, ?_, ?_, ?_, fun x => ?_⟩
  · rw [n75, s75_0, if_pos hr, gd_t (by omega)]
    exact q1
  · exact Same.tr (Same.rf.up (by simp)) (q2.mono (by simp))
  · exact q2 6 (by decide)
  · rw [q3, ek]
    funext j
    by_cases c : j = I 6 9
    · rw [c, upI_s, upI_s]
    · rw [upI_i c, upI_i c, upI_c (by decide)]
  · rw [q4]
    funext j
    by_cases c : j = I 6 9
    · rw [c, upI_s, upI_s]
    · rw [upI_i c, upI_i c, upI_c (by decide)]
  · rw [q5]
    funext j
    by_cases c : j = I 6 9
    · rw [c, upI_s, upI_s]
    · rw [upI_i c, upI_i c, upI_c (by decide)]
  · rw [q6, ek, ek1, Int.add_zero, upI_c (by decide)]
end
