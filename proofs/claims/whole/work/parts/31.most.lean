/-! Diff.mostPairs: the class's table -/
def TbA (I : AI) (f g : Int → Int) (n m lo : Int) : Prop := ∀ i j, lo ≤ i → i ≤ n → 0 ≤ j → j ≤ m → I 2 (i * 25 + j) = tb f g n m i j
/-- a row of the class holds n lines f -/
def RwC (I : AI) (k : Nat) (n : Int) (f : Int → Int) : Prop := I k 1 = n ∧ ∀ j, 0 ≤ j → j < n → I (k + 1) j = f j
theorem RwC.up {I : AI} {k : Nat} {n : Int} {f : Int → Int} (h : RwC I k n f) (hk : isRow k = true) {x v : Int} : RwC (upI I 2 x v) k n f := by
  have r := row_ne hk (c := 2) (by decide)
  refine ⟨by rw [upI_c (Ne.symm r.1)]; exact h.1, fun j h1 h2 => by rw [upI_c (Ne.symm r.2)]; exact h.2 j h1 h2⟩
section
variable {L : Nat} {b : Bool} {J : AJ} {ka kb : Nat} {f g : Int → Int} {n m : Int}
theorem l13a (ha : isRow ka = true) (hb : isRow kb = true) (hn : 0 ≤ n ∧ n ≤ 24) (hm : 0 ≤ m ∧ m ≤ 24) : ∀ (N : Nat) (j : Int) (I : AI), 0 ≤ j → (m + 1 - j).toNat = N → RwC I ka n f → RwC I kb m g → (∀ x, 0 ≤ x → x < j → I 2 (n * 25 + x) = 0) → ∃ I' : AI, ev 13 8 [none, some (vr ka), some (vr kb), some (vr 2), some (vi j), none, none, none, none] [] (hp L b I J) = ev 13 44 [none, some (vr ka), some (vr kb), some (vr 2), some (vi (n - 1)), none, none, none, none] [] (hp L b I' J) ∧ Same [2] I I' ∧ RwC I' ka n f ∧ RwC I' kb m g ∧ ∀ x, 0 ≤ x → x ≤ m → I' 2 (n * 25 + x) = 0 := by
  intro N
  induction N with
  | zero =>
    intro j I h0 hN h1 h2 h3
    refine ⟨I, ?_, Same.rf, h1, h2, fun x g1 g2 => h3 x g1 (by omega)⟩
    rw [s13_8 _ _ _ ha hb, h2.1, h1.1, if_pos (by omega), gd_t (by omega)]
  | succ N ih =>
    intro j I h0 hN h1 h2 h3
    obtain ⟨I', q1, q2, q3, q4, q5⟩ := ih (j + 1) (upI I 2 (n * 25 + j) 0) (by omega) (by omega) (h1.up ha) (h2.up hb) (fun x g1 g2 => by
      by_cases c : x = j
      · rw [c, upI_s]
      · rw [upI_i (by omega)]; exact h3 x g1 (by omega))
    refine ⟨I', ?_, Same.tr (Same.rf.up (by simp)) q2, q3, q4, q5⟩
    rw [s13_8 _ _ _ ha hb, h2.1, h1.1, if_neg (by omega), gd_t (by omega), gd_t (by omega), gd_t (by omega), gd_t (by omega)]
    exact q1
theorem lc_le : ∀ p q, lc f g n m p q ≤ p := by
  intro p
  induction p with
  | zero => intro q; exact Int.le_refl 0
  | succ p ih => intro q; have := (lc_mono (f := f) (g := g) (n := n) (m := m) p q).1.2; have := ih q; omega
theorem tb_bd {i j : Int} (h : i ≤ n) : 0 ≤ tb f g n m i j ∧ tb f g n m i j ≤ n - i := by
  unfold tb
  have h1 := lc_nn (f := f) (g := g) (n := n) (m := m) (n - i).toNat (m - j).toNat
  have h2 := lc_le (f := f) (g := g) (n := n) (m := m) (n - i).toNat (m - j).toNat
  omega
/-- a row of the table, from its end to its start -/
theorem l13b (ha : isRow ka = true) (hb : isRow kb = true) (hn : n ≤ 24) (hm : 0 ≤ m ∧ m ≤ 24) {i : Int} (hi : 0 ≤ i ∧ i < n) : ∀ (N : Nat) (j : Int) (I : AI), (j + 1).toNat = N → -1 ≤ j → j < m → RwC I ka n f → RwC I kb m g → TbA I f g n m (i + 1) → (∀ x, j < x → x ≤ m → I 2 (i * 25 + x) = tb f g n m i x) → ∃ I' : AI, ev 13 83 [none, some (vr ka), some (vr kb), some (vr 2), some (vi i), some (vi (i * 25)), some (vi (f i)), some (vi j), none] [] (hp L b I J) = ev 13 44 [none, some (vr ka), some (vr kb), some (vr 2), some (vi (i + (-1))), none, none, none, none] [] (hp L b I' J) ∧ Same [2] I I' ∧ RwC I' ka n f ∧ RwC I' kb m g ∧ TbA I' f g n m i := by
  intro N
  induction N with
  | zero =>
    intro j I hN h0 h1 h2 h3 h4 h5
    refine ⟨I, ?_, Same.rf, h2, h3, fun i' j' g1 g2 g3 g4 => ?_⟩
    · rw [s13_83 _ _ _ _ _ _ hb, if_pos (by omega), gd_t (by omega)]
    · rcases Int.lt_or_eq_of_le g1 with g | g
      · exact h4 i' j' (by omega) g2 g3 g4
      · rw [← g]; exact h5 j' (by omega) g4
  | succ N ih =>
    intro j I hN h0 h1 h2 h3 h4 h5
    have key : ∀ v, v = tb f g n m i j → ∃ I' : AI, ev 13 171 [none, some (vr ka), some (vr kb), some (vr 2), some (vi i), some (vi (i * 25)), some (vi (f i)), some (vi j), none] [] (hp L b (upI I 2 (i * 25 + j) v) J) = ev 13 44 [none, some (vr ka), some (vr kb), some (vr 2), some (vi (i + (-1))), none, none, none, none] [] (hp L b I' J) ∧ Same [2] I I' ∧ RwC I' ka n f ∧ RwC I' kb m g ∧ TbA I' f g n m i := by
      intro v hv
      obtain ⟨I', q1, q2, q3, q4, q5⟩ := ih (j + (-1)) (upI I 2 (i * 25 + j) v) (by omega) (by omega) (by omega) (h2.up ha) (h3.up hb) (fun i' j' g1 g2 g3 g4 => by rw [upI_i (by omega)]; exact h4 i' j' g1 g2 g3 g4) (fun x g1 g2 => by
        by_cases c : x = j
        · rw [c, upI_s, hv]
        · rw [upI_i (by omega)]; exact h5 x (by omega) g2)
      refine ⟨I', ?_, Same.tr (Same.rf.up (by simp)) q2, q3, q4, q5⟩
      rw [s13_171, gd_t (by omega)]
      exact q1
    have b1 := tb_bd (f := f) (g := g) (m := m) (i := i + 1) (j := j + 1) (n := n) (by omega)
    have a1 : I 2 (i * 25 + 25 + j + 1) = tb f g n m (i + 1) (j + 1) := by rw [show i * 25 + 25 + j + 1 = (i + 1) * 25 + (j + 1) by omega]; exact h4 (i + 1) (j + 1) (by omega) (by omega) (by omega) (by omega)
    have a2 : I 2 (i * 25 + 25 + j) = tb f g n m (i + 1) j := by rw [show i * 25 + 25 + j = (i + 1) * 25 + j by omega]; exact h4 (i + 1) j (by omega) (by omega) (by omega) (by omega)
    have a3 : I 2 (i * 25 + j + 1) = tb f g n m i (j + 1) := by rw [show i * 25 + j + 1 = i * 25 + (j + 1) by omega]; exact h5 (j + 1) (by omega) (by omega)
    have e := tb_s (f := f) (g := g) (n := n) (m := m) (i := i) (j := j) (by omega) (by omega)
    rw [s13_83 _ _ _ _ _ _ hb, if_neg (by omega), gd_t (by omega), h3.2 j (by omega) h1]
    by_cases c : f i = g j
    · rw [if_neg (fun z => z c), gd_t (by omega), gd_t (by omega), gd_t (by omega), gd_t (by omega), gd_t (by omega), a1, gd_t (by omega), gd_t (by omega)]
      exact key _ (by rw [e, if_pos c])
    · rw [if_neg c] at e
      rw [if_pos c, gd_t (by omega), gd_t (by omega), gd_t (by omega), gd_t (by omega), gd_t (by omega), gd_t (by omega), gd_t (by omega), a2, a3]
      by_cases c2 : tb f g n m (i + 1) j ≤ tb f g n m i (j + 1)
      · rw [if_pos c2, gd_t (by omega), gd_t (by omega), gd_t (by omega), s13_170, gd_t (by omega)]
        exact key _ (by rw [e, if_neg (by omega)])
      · rw [if_neg c2, s13_170, gd_t (by omega)]
        exact key _ (by rw [e, if_pos (by omega)])
theorem l13c (ha : isRow ka = true) (hb : isRow kb = true) (hn : 0 ≤ n ∧ n ≤ 24) (hm : 0 ≤ m ∧ m ≤ 24) : ∀ (N : Nat) (i : Int) (I : AI), (i + 1).toNat = N → -1 ≤ i → i < n → RwC I ka n f → RwC I kb m g → TbA I f g n m (i + 1) → ∃ I' : AI, ev 13 44 [none, some (vr ka), some (vr kb), some (vr 2), some (vi i), none, none, none, none] [] (hp L b I J) = some (vi (tb f g n m 0 0), hp L b I' J) ∧ Same [2] I I' ∧ TbA I' f g n m 0 := by
  intro N
  induction N with
  | zero =>
    intro i I hN h0 h1 h2 h3 h4
    have hi : i = -1 := by omega
    subst hi
    refine ⟨I, ?_, Same.rf, h4⟩
    rw [s13_44 _ _ _ ha hb, if_pos (by omega), gd_t (by omega), show I 2 0 = tb f g n m 0 0 from h4 0 0 (by omega) (by omega) (by omega) (by omega)]
  | succ N ih =>
    intro i I hN h0 h1 h2 h3 h4
    have r := row_ne hb (c := 2) (by decide)
    have hi : 0 ≤ i ∧ i < n := ⟨by omega, h1⟩
    obtain ⟨I1, q1, q2, q3, q4, q5⟩ := l13b (L := L) (b := b) (J := J) (f := f) (g := g) ha hb hn.2 hm hi _ (m - 1) (upI I 2 (i * 25 + m) 0) rfl (by omega) (by omega) (h2.up ha) (h3.up hb) (fun i' j' g1 g2 g3 g4 => by rw [upI_i (by omega)]; exact h4 i' j' g1 g2 g3 g4) (fun x g1 g2 => by rw [show x = m by omega, upI_s, tb_m])
    obtain ⟨I', p1, p2, p3⟩ := ih (i + (-1)) I1 (by omega) (by omega) (by omega) q3 q4 (fun i' j' g1 g2 g3 g4 => q5 i' j' (by omega) g2 g3 g4)
    refine ⟨I', ?_, Same.tr (Same.tr (Same.rf.up (by simp)) q2) p2, p3⟩
    rw [s13_44 _ _ _ ha hb, if_neg (by omega), h3.1, upI_c (Ne.symm r.1), h3.1, h2.2 i hi.1 hi.2, gd_t (by omega), gd_t (by omega), gd_t (by omega), gd_t (by omega), gd_t (by omega), q1, p1]
/-- the most pairs of two rows, and the whole table -/
theorem c13 {d : Nat} {I : AI} (hd : isDiff d = true) (ha : isRow ka = true) (hb : isRow kb = true) (hn : 0 ≤ n ∧ n ≤ 24) (hm : 0 ≤ m ∧ m ≤ 24) (h1 : RwC I ka n f) (h2 : RwC I kb m g) : ∃ I' : AI, evc 13 [vr d, vr ka, vr kb] (hp L b I J) = some (vi (tb f g n m 0 0), hp L b I' J) ∧ Same [2] I I' ∧ TbA I' f g n m 0 := by
  obtain ⟨I1, q1, q2, q3, q4, q5⟩ := l13a (L := L) (b := b) (J := J) ha hb hn hm _ 0 I (Int.le_refl 0) rfl h1 h2 (fun x g1 g2 => by omega)
  obtain ⟨I', p1, p2, p3⟩ := l13c (L := L) (b := b) (J := J) ha hb hn hm _ (n - 1) I1 rfl (by omega) (by omega) q3 q4 (fun i' j' g1 g2 g3 g4 => by rw [show i' = n by omega, q5 j' g3 g4, tb_n])
  refine ⟨I', ?_, Same.tr q2 p2, p3⟩
  rw [n13, s13_0 _ _ _ hd, q1, p1]
end
