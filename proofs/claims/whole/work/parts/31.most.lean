/-! Diff.mostPairs: the class's table -/
def TbA (I : AI) (f g : Int → Int) (n m lo : Int) : Prop := ∀ i j, lo ≤ i → i ≤ n → 0 ≤ j → j ≤ m → I 2 (i * 25 + j) = tb f g n m i j
/-- a row of the class holds n lines f -/
def RwC (I : AI) (k : Nat) (n : Int) (f : Int → Int) : Prop := I k 1 = n ∧ ∀ j, 0 ≤ j → j < n → I (k + 1) j = f j
theorem RwC.up {I : AI} {k : Nat} {n : Int} {f : Int → Int} (h : RwC I k n f) (hk : isRow k = true) {x v : Int} : RwC (upI I 2 x v) k n f := by
  have r := row_ne hk (c := 2) (by decide)
  refine ⟨by rw [upI_c (Ne.symm r.1)]; exact h.1, fun j h1 h2 => by rw [upI_c (Ne.symm r.2)]; exact h.2 j h1 h2⟩
section
variable {L : Nat} {b : Bool} {J : AJ} {ka kb : Nat} {f g : Int → Int} {n m : Int}
theorem l13a (ha : isRow ka = true) (hb : isRow kb = true) (hn : 0 ≤ n ∧ n ≤ 24) (hm : 0 ≤ m ∧ m ≤ 24) : ∀ (N : Nat) (j : Int) (I : AI), 0 ≤ j → (m + 1 - j).toNat = N → RwC I ka n f → RwC I kb m g → (∀ x, 0 ≤ x → x < j → I 2 (n * 25 + x) = 0) → ∃ I' : AI, ev 13 8 [none, some (vr ka), some (vr kb), some (vr 2), some (vi j), none, none, none, none] [] (hp L b I J) = ev 13 44 [none, some (vr ka), some (vr kb), some (vr 2), some (vi (n - 1)), none, none, none, none] [] (hp L b I' J) ∧ Same [2] I I' ∧ RwC I' ka n f ∧ RwC I' kb m g ∧ ∀ x, 0 ≤ x → x ≤ m → I' 2 (n * 25 + x) = 0 := by
  intro N
  induction N with
  | zero =>
    intro j I h0 hN h1 h2 h3
    refine ⟨I, ?_, Same.rf, h1, h2, fun x g1 g2 => h3 x g1 (by omega)⟩
    rw [s13_8 _ _ _ ha hb, h2.1, h1.1, if_pos (by omega), gd_t (by omega)]
  | succ N ih =>
    intro j I h0 hN h1 h2 h3
    obtain ⟨I', q1, q2, q3, q4, q5⟩ := ih (j + 1) (upI I 2 (n * 25 + j) 0) (by omega) (by omega) (h1.up ha) (h2.up hb) (fun x g1 g2 => by
      by_cases c : x = j
      · rw [c, upI_s]
      · rw [upI_i (by omega)]; exact h3 x g1 (by omega))
    refine ⟨I', ?_, Same.tr (Same.rf.up (by simp)) q2, q3, q4, q5⟩
    rw [s13_8 _ _ _ ha hb, h2.1, h1.1, if_neg (by omega), gd_t (by omega), gd_t (by omega), gd_t (by omega), gd_t (by omega)]
    exact q1
end
