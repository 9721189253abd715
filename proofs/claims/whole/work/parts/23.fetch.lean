/-! Texts: fetch, make, keep -/
def rowFree (c : Nat) : Bool := [3, 13, 15, 36, 38, 40, 57, 59, 61, 72, 74, 76, 78, 80, 82, 84, 86, 88, 90, 92, 94, 96, 98, 100, 102].all (fun k => k != c && k + 1 != c)
theorem row_ne {k c : Nat} (hk : isRow k = true) (hc : rowFree c = true) : c ≠ k ∧ c ≠ k + 1 := by
  have h := List.all_eq_true.mp hc k (mem_ct hk)
  simp at h
  exact ⟨fun e => h.1 e.symm, fun e => h.2 e.symm⟩
theorem Same.at {k c : Nat} {I I' : AI} (h : Same [k, k + 1] I I') (hk : isRow k = true) (hc : rowFree c = true) : I' c = I c := h c (by
  have := row_ne hk hc
  simp [this.1, this.2])
section
variable {L : Nat} {b : Bool} {J : AJ} {k : Nat}
theorem l71 (hk : isRow k = true) {t : Int} (ht : 0 ≤ t ∧ t < 120) : ∀ (n : Nat) (i : Int) (I : AI), 0 ≤ i → (I 8 t - i).toNat = n → i ≤ I 8 t → I 8 t ≤ 24 → I k 1 = i → ∃ I' : AI, ev 71 20 [some (vr 6), some (vi t), some (vr k), some (vi (t * 24)), some (vi i)] [] (hp L b I J) = some (vi 0, hp L b I' J) ∧ Same [k, k + 1] I I' ∧ I' k 1 = I 8 t ∧ ∀ j, 0 ≤ j → j < I 8 t → I' (k + 1) j = if j < i then I (k + 1) j else I 7 (t * 24 + j) := by
  intro n
  induction n with
  | zero =>
    intro i I h0 hn h1 h2 h3
    refine ⟨I, ?_, Same.rf, by omega, fun j g1 g2 => by rw [if_pos (by omega)]⟩
    rw [s71_20 _ _ _ _ hk, gd_t ht, if_pos (by omega)]
  | succ n ih =>
    intro i I h0 hn h1 h2 h3
    have r8 := row_ne hk (c := 8) (by decide)
    have r7 := row_ne hk (c := 7) (by decide)
    have e8 : (upI (upI I (k + 1) (I k 1) (I 7 (t * 24 + i))) k 1 (I k 1 + 1)) 8 = I 8 := by rw [upI_c r8.1, upI_c r8.2]
    have e7 : (upI (upI I (k + 1) (I k 1) (I 7 (t * 24 + i))) k 1 (I k 1 + 1)) 7 = I 7 := by rw [upI_c r7.1, upI_c r7.2]
    obtain ⟨I', q1, q2, q3, q4⟩ := ih (i + 1) (upI (upI I (k + 1) (I k 1) (I 7 (t * 24 + i))) k 1 (I k 1 + 1)) (by omega) (by rw [e8]; omega) (by rw [e8]; omega) (by rw [e8]; omega) (by rw [upI_s]; omega)
    refine ⟨I', ?_, ?_, by rw [q3, e8], fun j g1 g2 => ?_⟩
    · rw [s71_20 _ _ _ _ hk, gd_t ht, if_neg (by omega), gd_t (by omega), gd_t (by omega), c38t hk (by omega) (by omega)]
      simp only [Option.bind_some]
      rw [s71_44, gd_t (by omega)]
      exact q1
    · exact Same.tr ((Same.rf.up (by simp)).up (by simp)) q2
    · rw [q4 j g1 (by rw [e8]; exact g2), e7]
      rw [upI_c (show k + 1 ≠ k by omega)]
      by_cases c1 : j < i
      · rw [if_pos (by omega), if_pos c1, upI_i (by omega)]
      · rw [if_neg c1]
        by_cases c2 : j < i + 1
        · rw [if_pos c2, show j = I k 1 by omega, upI_s, h3]
        · rw [if_neg c2]
/-- a text's lines come into a row -/
theorem c71 {I : AI} (hT : TxC I) (hk : isRow k = true) (t : Int) : ∃ I' : AI, evc 71 [vr 6, vi t, vr k] (hp L b I J) = some (vi 0, hp L b I' J) ∧ Same [k, k + 1] I I' ∧ I' k 1 = (if 0 ≤ t ∧ t < I 6 9 then I 8 t else 0) ∧ ∀ j, 0 ≤ j → j < I' k 1 → I' (k + 1) j = I 7 (t * 24 + j) := by
  have h6 := hT.1
  have r6 := row_ne hk (c := 6) (by decide)
  have r8 := row_ne hk (c := 8) (by decide)
  have r7 := row_ne hk (c := 7) (by decide)
  rw [n71, s71_0 _ _ hk, c37 hk]
  simp only [Option.bind_some]
  rw [s71_4, c64]
  simp only [Option.bind_some]
  rw [upI_c r6.1]
  by_cases c1 : 0 ≤ t ∧ t < I 6 9
  · have h8 := hT.2.2 t c1.1 c1.2
    rw [bI_t c1, s71_9, if_neg (by decide), gd_t (by omega)]
    obtain ⟨I', q1, q2, q3, q4⟩ := l71 (L := L) (b := b) (J := J) hk (t := t) (by omega) _ 0 (upI I k 1 0) (Int.le_refl 0) rfl (by rw [upI_c r8.1]; omega) (by rw [upI_c r8.1]; omega) (upI_s _ _ _ _)
    rw [upI_c r8.1] at q3 q4
    refine ⟨I', q1, Same.tr (Same.rf.up (by simp)) q2, by rw [q3, if_pos c1], fun j g1 g2 => ?_⟩
    rw [q4 j g1 (by omega), if_neg (by omega), upI_c r7.1]
  · refine ⟨upI I k 1 0, ?_, Same.rf.up (by simp), by rw [upI_s, if_neg c1], fun j g1 g2 => by rw [upI_s] at g2; omega⟩
    rw [bI_f c1, s71_9, if_pos rfl]
end
