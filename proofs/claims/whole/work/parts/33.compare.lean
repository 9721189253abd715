/-! Diff: firstMate, compare, rightOf, leftOf; Texts.compareTexts -/
def dfFree (c : Nat) : Bool := [17, 32, 45, 48, 66, 69, 107].all (fun k => k != c && (k + 1 != c && k + 2 != c))
theorem df_ne {k c : Nat} (hk : isDiff k = true) (hc : dfFree c = true) : c ≠ k ∧ c ≠ k + 1 ∧ c ≠ k + 2 := by
  have h := List.all_eq_true.mp hc k (mem_ct hk)
  simp at h
  exact ⟨fun e => h.1 e.symm, fun e => h.2.1 e.symm, fun e => h.2.2 e.symm⟩
theorem row_df {k d : Nat} (hk : isRow k = true) (hd : isDiff d = true) : (k ≠ d ∧ k ≠ d + 1 ∧ k ≠ d + 2) ∧ (k + 1 ≠ d ∧ k + 1 ≠ d + 1 ∧ k + 1 ≠ d + 2) := by
  have h : ([3, 13, 15, 36, 38, 40, 57, 59, 61, 72, 74, 76, 78, 80, 82, 84, 86, 88, 90, 92, 94, 96, 98, 100, 102].all (fun k => dfFree k && dfFree (k + 1))) = true := by decide
  have h1 := List.all_eq_true.mp h k (mem_ct hk)
  simp only [Bool.and_eq_true] at h1
  exact ⟨df_ne hd h1.1, df_ne hd h1.2⟩
section
variable {L : Nat} {b : Bool} {J : AJ} {ka kb d : Nat} {f g : Int → Int} {n m : Int}
theorem c15 {I : AI} (hd : isDiff d = true) (hb : isRow kb = true) (hm : 0 ≤ m ∧ m ≤ 24) (h2 : RwC I kb m g) (hT : TbA I f g n m 0) (hn : n ≤ 24) {i from_ due : Int} (hi : 0 ≤ i ∧ i < n) (hf : 0 ≤ from_ ∧ from_ ≤ m) (hu : 0 ≤ due ∧ due ≤ 24) : ∃ v, evc 15 [vr d, vi (f i), vi i, vr kb, vi from_, vi due] (hp L b I J) = some (vi v, hp L b I J) ∧ ((v = -1 ∧ ∀ y, from_ ≤ y → y < m → f i = g y → tb f g n m (i + 1) (y + 1) + 1 ≠ due) ∨ ((from_ ≤ v ∧ v < m) ∧ f i = g v ∧ tb f g n m (i + 1) (v + 1) + 1 = due ∧ ∀ y, from_ ≤ y → y < v → f i = g y → tb f g n m (i + 1) (y + 1) + 1 ≠ due)) := by
  have e1 := h2.1
  rw [n15, s15_0]
  refine lp (lo := from_) (hi := m) (F := fun j (_ : Unit) => ev 15 4 [some (vr d), some (vi (f i)), some (vi i), some (vr kb), none, some (vi due), some (vi j)] [] (hp L b I J)) (Q := fun r => ∃ v, r = some (vi v, hp L b I J) ∧ ((v = -1 ∧ ∀ y, from_ ≤ y → y < m → f i = g y → tb f g n m (i + 1) (y + 1) + 1 ≠ due) ∨ ((from_ ≤ v ∧ v < m) ∧ f i = g v ∧ tb f g n m (i + 1) (v + 1) + 1 = due ∧ ∀ y, from_ ≤ y → y < v → f i = g y → tb f g n m (i + 1) (y + 1) + 1 ≠ due))) (fun j _ => ∀ y, from_ ≤ y → y < j → f i = g y → tb f g n m (i + 1) (y + 1) + 1 ≠ due) ?_ ?_ from_ () (Int.le_refl _) hf.2 (fun y h1 h2 => by omega)
  · intro j _ h3 h4 h5
    have e2 := h2.2 j (by omega) h4
    have e3 := hT (i + 1) (j + 1) (by omega) (by omega) (by omega) (by omega)
    have next : f i ≠ g j ∨ tb f g n m (i + 1) (j + 1) + 1 ≠ due → ∀ y, from_ ≤ y → y < j + 1 → f i = g y → tb f g n m (i + 1) (y + 1) + 1 ≠ due := by
      intro hn y g1 g2 g3
      rcases Int.lt_or_eq_of_le (show y ≤ j by omega) with g4 | g4
      · exact h5 y g1 g4 g3
      · rw [g4] at g3 ⊢
        rcases hn with hn | hn
        · exact absurd g3 hn
        · exact hn
    by_cases c : f i = g j
    · by_cases c2 : tb f g n m (i + 1) (j + 1) + 1 = due
      · left
        refine ⟨j, ?_, Or.inr ⟨⟨h3, h4⟩, c, c2, h5⟩⟩
        try dsimp only
        rw [s15_4 _ _ _ _ _ _ hd hb, e1, e2, show ((i + 1) * 25 + j) + 1 = (i + 1) * 25 + (j + 1) by omega, e3]
        simp (disch := first | assumption | omega) only [↓gd_t, ↓if_pos, ↓if_neg, Option.bind_some, true_or, true_and, gd_t]
      · right
        refine ⟨(), ?_, next (Or.inr c2)⟩
        try dsimp only
        rw [s15_4 _ _ _ _ _ _ hd hb, e1, e2, show ((i + 1) * 25 + j) + 1 = (i + 1) * 25 + (j + 1) by omega, e3]
        simp (disch := first | assumption | omega) only [↓gd_t, ↓if_pos, ↓if_neg, Option.bind_some, true_or, true_and, gd_t, s15_50]
    · right
      refine ⟨(), ?_, next (Or.inl c)⟩
      try dsimp only
      rw [s15_4 _ _ _ _ _ _ hd hb, e1, e2]
      simp (disch := first | assumption | omega) only [↓gd_t, ↓if_pos, ↓if_neg, Option.bind_some, true_or, true_and, gd_t, s15_50]
  · intro _ h5
    refine ⟨-1, ?_, Or.inl ⟨rfl, h5⟩⟩
    try dsimp only
    rw [s15_4 _ _ _ _ _ _ hd hb, e1]
    simp (disch := first | assumption | omega) only [↓gd_t, ↓if_pos, ↓if_neg, Option.bind_some, true_or, true_and, gd_t]
/-- THE DIFF of two rows comes into the cells of a diff -/
theorem c14 {I : AI} (hd : isDiff d = true) (ha : isRow ka = true) (hb : isRow kb = true) (hn : 0 ≤ n ∧ n ≤ 24) (hm : 0 ≤ m ∧ m ≤ 24) (h1 : RwC I ka n f) (h2 : RwC I kb m g) : (fun r => ∃ I' : AI, r = some (vi 0, hp L b I' J) ∧ Same [2, d, d + 1, d + 2] I I' ∧ PO f g n m (I' (d + 1)) (I' (d + 2)) (I' d 3) ∧ I' d 3 = tb f g n m 0 0) (evc 14 [vr d, vr ka, vr kb] (hp L b I J)) := by
  obtain ⟨I1, q1, q2, q3⟩ := c13 (L := L) (b := b) (J := J) hd ha hb hn hm h1 h2
  have ra := row_ne ha (c := 2) (by decide)
  have rb := row_ne hb (c := 2) (by decide)
  have rda := row_df ha hd
  have rdb := row_df hb hd
  have rd := df_ne hd (c := 2) (by decide)
  have k1 : ∀ I2, Same [2, d, d + 1, d + 2] I I2 → RwC I2 ka n f ∧ RwC I2 kb m g := fun I2 s => by
    unfold RwC
    rw [s ka (by simp; omega), s (ka + 1) (by simp; omega), s kb (by simp; omega), s (kb + 1) (by simp; omega)]
    exact ⟨h1, h2⟩
  have bd := tb_bd (f := f) (g := g) (n := n) (m := m) (i := 0) (j := 0) hn.1
  have e0 : evc 14 [vr d, vr ka, vr kb] (hp L b I J) = ev 14 18 [some (vr d), some (vr ka), some (vr kb), some (vi (tb f g n m 0 0)), some (vi 0), some (vi 0), none] [] (hp L b (upI I1 d 3 0) J) := by
    rw [n14]
    simp (disch := first | assumption | omega) only [↓gd_t, ↓if_pos, ↓if_neg, Option.bind_some, true_or, true_and, gd_t, s14_0, q1, s14_6]
  rw [e0]
  refine lp (lo := 0) (hi := n) (F := fun i (s : Int × Int × AI) => ev 14 18 [some (vr d), some (vr ka), some (vr kb), some (vi s.1), some (vi s.2.1), some (vi i), none] [] (hp L b s.2.2 J)) (Q := fun r => ∃ I' : AI, r = some (vi 0, hp L b I' J) ∧ Same [2, d, d + 1, d + 2] I I' ∧ PO f g n m (I' (d + 1)) (I' (d + 2)) (I' d 3) ∧ I' d 3 = tb f g n m 0 0) (fun i s => Same [2, d, d + 1, d + 2] I s.2.2 ∧ TbA s.2.2 f g n m 0 ∧ PO f g n m (s.2.2 (d + 1)) (s.2.2 (d + 2)) (s.2.2 d 3) ∧ (0 ≤ s.2.2 d 3 ∧ s.2.2 d 3 + s.1 = tb f g n m 0 0 ∧ s.1 = tb f g n m (sq (s.2.2 (d + 1)) (s.2.2 d 3)) s.2.1) ∧ (s.2.1 = sq (s.2.2 (d + 2)) (s.2.2 d 3) ∧ 0 ≤ s.2.1 ∧ s.2.1 ≤ m) ∧ (0 ≤ sq (s.2.2 (d + 1)) (s.2.2 d 3) ∧ sq (s.2.2 (d + 1)) (s.2.2 d 3) ≤ i) ∧ ∀ x y, sq (s.2.2 (d + 1)) (s.2.2 d 3) ≤ x → x < i → s.2.1 ≤ y → y < m → f x = g y → tb f g n m (x + 1) (y + 1) + 1 ≠ s.1) ?_ ?_ 0 (tb f g n m 0 0, 0, upI I1 d 3 0) (Int.le_refl _) hn.1 ?_
  · rintro i ⟨due, fr, I2⟩ h3 h4 ⟨v1, v2, v3, ⟨v4, v5, v6⟩, ⟨v7, v8, v9⟩, ⟨v10, v11⟩, v12⟩
    dsimp only at v1 v2 v3 v4 v5 v6 v7 v8 v9 v10 v11 v12
    obtain ⟨r1, r2⟩ := k1 I2 v1
    have e1 := r1.1
    have e2 := r1.2 i h3 h4
    have bd2 := tb_bd (f := f) (g := g) (n := n) (m := m) (i := sq (I2 (d + 1)) (I2 d 3)) (j := fr) (by omega)
    by_cases c : due ≤ 0
    · left
      refine ⟨I2, ?_, v1, v3, by omega⟩
      try dsimp only
      rw [s14_18 _ _ _ _ _ _ hd ha, e1]
      simp (disch := first | assumption | omega) only [↓gd_t, ↓if_pos, ↓if_neg, Option.bind_some, true_or, true_and, gd_t]
    · right
      obtain ⟨v, w1, w2⟩ := c15 (L := L) (b := b) (J := J) hd hb hm r2 v2 hn.2 (i := i) (from_ := fr) (due := due) ⟨h3, h4⟩ ⟨v8, v9⟩ (by omega)
      rcases w2 with ⟨w2, w3⟩ | ⟨w2, w3, w4, w5⟩
      · refine ⟨(due, fr, I2), ?_, v1, v2, v3, ⟨v4, v5, v6⟩, ⟨v7, v8, v9⟩, ⟨v10, by dsimp only; omega⟩, fun x y g1 g2 g3 g4 g5 => ?_⟩
        · try dsimp only
          rw [s14_18 _ _ _ _ _ _ hd ha, e1, e2]
          simp (disch := first | assumption | omega) only [↓gd_t, ↓if_pos, ↓if_neg, Option.bind_some, true_or, true_and, gd_t, w1, s14_48, s14_105]
        · rcases Int.lt_or_eq_of_le (show x ≤ i by omega) with g6 | g6
          · exact v12 x y g1 g6 g3 g4 g5
          · rw [g6] at g5 ⊢; exact w3 y g3 g4 g5
      · have p0 : Same [2, d, d + 1, d + 2] I (upI (upI (upI I2 (d + 1) (I2 d 3) i) (d + 2) (I2 d 3) v) d 3 (I2 d 3 + 1)) := ((v1.up (by simp)).up (by simp)).up (by simp)
        have p1 : ∀ x, x ≠ I2 d 3 → (upI (upI (upI I2 (d + 1) (I2 d 3) i) (d + 2) (I2 d 3) v) d 3 (I2 d 3 + 1)) (d + 1) x = I2 (d + 1) x := fun x hx => by rw [upI_c (by omega), upI_c (by omega), upI_i hx]
        have p2 : ∀ x, x ≠ I2 d 3 → (upI (upI (upI I2 (d + 1) (I2 d 3) i) (d + 2) (I2 d 3) v) d 3 (I2 d 3 + 1)) (d + 2) x = I2 (d + 2) x := fun x hx => by rw [upI_c (by omega), upI_i hx, upI_c (by omega)]
        have p3 : (upI (upI (upI I2 (d + 1) (I2 d 3) i) (d + 2) (I2 d 3) v) d 3 (I2 d 3 + 1)) (d + 1) (I2 d 3) = i := by rw [upI_c (by omega), upI_c (by omega), upI_s]
        have p4 : (upI (upI (upI I2 (d + 1) (I2 d 3) i) (d + 2) (I2 d 3) v) d 3 (I2 d 3 + 1)) (d + 2) (I2 d 3) = v := by rw [upI_c (by omega), upI_s]
        have p5 : (upI (upI (upI I2 (d + 1) (I2 d 3) i) (d + 2) (I2 d 3) v) d 3 (I2 d 3 + 1)) d 3 = I2 d 3 + 1 := by rw [upI_s]
        have p6 : (upI (upI (upI I2 (d + 1) (I2 d 3) i) (d + 2) (I2 d 3) v) d 3 (I2 d 3 + 1)) 2 = I2 2 := by rw [upI_c (by omega), upI_c (by omega), upI_c (by omega)]
        have st : ev 14 18 [some (vr d), some (vr ka), some (vr kb), some (vi due), some (vi fr), some (vi i), none] [] (hp L b I2 J) = ev 14 18 [some (vr d), some (vr ka), some (vr kb), some (vi (due + (-1))), some (vi (v + 1)), some (vi (i + 1)), none] [] (hp L b (upI (upI (upI I2 (d + 1) (I2 d 3) i) (d + 2) (I2 d 3) v) d 3 (I2 d 3 + 1)) J) := by
          rw [s14_18 _ _ _ _ _ _ hd ha, e1, e2]
          simp (disch := first | assumption | omega) only [↓gd_t, ↓if_pos, ↓if_neg, Option.bind_some, true_or, true_and, gd_t, w1]
          rw [s14_48 _ _ _ _ _ _ _ hd]
          simp only [upI_c (show d ≠ d + 1 by omega), upI_c (show d ≠ d + 2 by omega)]
          simp (disch := first | assumption | omega) only [↓gd_t, ↓if_pos, ↓if_neg, Option.bind_some, true_or, true_and, gd_t, s14_105]
        refine ⟨(due + (-1), v + 1, upI (upI (upI I2 (d + 1) (I2 d 3) i) (d + 2) (I2 d 3) v) d 3 (I2 d 3 + 1)), st, ?_⟩
        clear st
        generalize upI (upI (upI I2 (d + 1) (I2 d 3) i) (d + 2) (I2 d 3) v) d 3 (I2 d 3 + 1) = I3 at *
        have z1 : ∀ j, 0 ≤ j → j < I2 d 3 → I2 (d + 1) j = I3 (d + 1) j ∧ I2 (d + 2) j = I3 (d + 2) j := fun j a b => ⟨(p1 j (by omega)).symm, (p2 j (by omega)).symm⟩
        have z2 : sq (I3 (d + 1)) (I2 d 3) = sq (I2 (d + 1)) (I2 d 3) := sq_cg (fun j a b => p1 j (by omega)) v4
        have z3 : sq (I3 (d + 2)) (I2 d 3) = sq (I2 (d + 2)) (I2 d 3) := sq_cg (fun j a b => p2 j (by omega)) v4
        have z4 : PS f g n m (I3 (d + 1)) (I3 (d + 2)) (I2 d 3) := by
          unfold PS
          rw [z2, z3, p3, p4]
          refine ⟨⟨v11, h4⟩, ⟨by omega, w2.2⟩, w3, by omega, fun x y g1 g2 g3 g4 g5 => ?_⟩
          rcases g4 with g4 | ⟨g4, g6⟩
          · have := v12 x y g1 g4 (by omega) g3 g5; omega
          · rw [g4] at g5 ⊢; have := w5 y (by omega) g6 g5; omega
        have z5 : sq (I3 (d + 1)) (I3 d 3) = i + 1 := by rw [p5, sq_s _ v4, p3]
        have z6 : sq (I3 (d + 2)) (I3 d 3) = v + 1 := by rw [p5, sq_s _ v4, p4]
        try dsimp only
        rw [z5, z6, p5]
        refine ⟨p0, fun i' j' g1 g2 g3 g4 => by rw [p6]; exact v2 i' j' g1 g2 g3 g4, fun k a b => ?_, ⟨by omega, by omega, by omega⟩, ⟨rfl, by omega, by omega⟩, ⟨by omega, Int.le_refl _⟩, fun x y g1 g2 => by omega⟩
        by_cases c : k < I2 d 3
        · exact PS_cg a (fun j a b => z1 j a (by omega)) (v3 k a c)
        · rw [show k = I2 d 3 by omega]; exact z4
  · rintro ⟨due, fr, I2⟩ ⟨v1, v2, v3, ⟨v4, v5, v6⟩, ⟨v7, v8, v9⟩, ⟨v10, v11⟩, v12⟩
    dsimp only at v1 v2 v3 v4 v5 v6 v7 v8 v9 v10 v11 v12
    obtain ⟨r1, r2⟩ := k1 I2 v1
    have e1 := r1.1
    have bd2 := tb_bd (f := f) (g := g) (n := n) (m := m) (i := sq (I2 (d + 1)) (I2 d 3)) (j := fr) (by omega)
    have hz : due = 0 := Classical.byContradiction (fun z => by
      obtain ⟨x, y, g1, g2, g3, g4⟩ := tb_ex (f := f) (g := g) _ (sq (I2 (d + 1)) (I2 d 3)) fr rfl v11 v9 (by omega)
      exact v12 x y g1.1 g1.2 g2.1 g2.2 g3 (by omega))
    refine ⟨I2, ?_, v1, v3, by omega⟩
    try dsimp only
    rw [s14_18 _ _ _ _ _ _ hd ha, e1]
    simp (disch := first | assumption | omega) only [↓gd_t, ↓if_pos, ↓if_neg, Option.bind_some, true_or, true_and, gd_t]
  · try dsimp only
    rw [upI_s, sq_0, sq_0]
    refine ⟨(q2.mono (by simp)).up (by simp), fun i' j' g1 g2 g3 g4 => by rw [upI_c rd.1]; exact q3 i' j' g1 g2 g3 g4, fun k a b => by omega, ⟨by omega, by omega, rfl⟩, ⟨rfl, by omega, hm.1⟩, ⟨by omega, by omega⟩, fun x y g1 g2 => by omega⟩
theorem c16 {I : AI} (hd : isDiff d = true) (h1 : 0 ≤ I d 3 ∧ I d 3 ≤ 24) (i : Int) : evc 16 [vr d, vi i] (hp L b I J) = some (vi (mt (I (d + 1)) (I (d + 2)) (I d 3) i), hp L b I J) := by
  rw [n16, s16_0]
  unfold mt
  refine lp (lo := 0) (hi := I d 3) (F := fun k (_ : Unit) => ev 16 2 [some (vr d), some (vi i), some (vi k)] [] (hp L b I J)) (Q := fun r => r = some (vi (if lst (fun k => I (d + 1) k = i) (I d 3).toNat 0 < 0 then -1 else I (d + 2) (lst (fun k => I (d + 1) k = i) (I d 3).toNat 0)), hp L b I J)) (fun k _ => lst (fun k => I (d + 1) k = i) (I d 3).toNat 0 = lst (fun k => I (d + 1) k = i) (I d 3 - k).toNat k) ?_ ?_ 0 () (Int.le_refl _) h1.1 (by rw [Int.sub_zero])
  · intro k _ h2 h3 h4
    obtain ⟨N, hN⟩ : ∃ N : Nat, (I d 3 - k).toNat = N + 1 := ⟨(I d 3 - k).toNat - 1, by omega⟩
    by_cases c : I (d + 1) k = i
    · left
      try dsimp only
      rw [s16_2 _ _ _ hd, h4, hN]
      unfold lst
      rw [if_pos (show bI (I (d + 1) k = i) = 1 from bI_t c)]
      simp (disch := first | assumption | omega) only [↓gd_t, ↓if_pos, ↓if_neg, Option.bind_some, true_or, true_and, gd_t]
    · right
      refine ⟨(), ?_, ?_⟩
      · try dsimp only
        rw [s16_2 _ _ _ hd]
        simp (disch := first | assumption | omega) only [↓gd_t, ↓if_pos, ↓if_neg, Option.bind_some, true_or, true_and, gd_t]
      · rw [h4, hN]
        show (if bI (I (d + 1) k = i) = 1 then _ else _) = _
        rw [if_neg (by rw [bI_f c]; decide), show (I d 3 - (k + 1)).toNat = N by omega]
  · intro _ h4
    try dsimp only
    rw [s16_2 _ _ _ hd, h4, Int.sub_self]
    simp (disch := first | assumption | omega) only [↓gd_t, ↓if_pos, ↓if_neg, Option.bind_some, true_or, true_and, gd_t]
    rfl
theorem c17 {I : AI} (hd : isDiff d = true) (h1 : 0 ≤ I d 3 ∧ I d 3 ≤ 24) (i : Int) : evc 17 [vr d, vi i] (hp L b I J) = some (vi (mt (I (d + 2)) (I (d + 1)) (I d 3) i), hp L b I J) := by
  rw [n17, s17_0]
  unfold mt
  refine lp (lo := 0) (hi := I d 3) (F := fun k (_ : Unit) => ev 17 2 [some (vr d), some (vi i), some (vi k)] [] (hp L b I J)) (Q := fun r => r = some (vi (if lst (fun k => I (d + 2) k = i) (I d 3).toNat 0 < 0 then -1 else I (d + 1) (lst (fun k => I (d + 2) k = i) (I d 3).toNat 0)), hp L b I J)) (fun k _ => lst (fun k => I (d + 2) k = i) (I d 3).toNat 0 = lst (fun k => I (d + 2) k = i) (I d 3 - k).toNat k) ?_ ?_ 0 () (Int.le_refl _) h1.1 (by rw [Int.sub_zero])
  · intro k _ h2 h3 h4
    obtain ⟨N, hN⟩ : ∃ N : Nat, (I d 3 - k).toNat = N + 1 := ⟨(I d 3 - k).toNat - 1, by omega⟩
    by_cases c : I (d + 2) k = i
    · left
      try dsimp only
      rw [s17_2 _ _ _ hd, h4, hN]
      unfold lst
      rw [if_pos (show bI (I (d + 2) k = i) = 1 from bI_t c)]
      simp (disch := first | assumption | omega) only [↓gd_t, ↓if_pos, ↓if_neg, Option.bind_some, true_or, true_and, gd_t]
    · right
      refine ⟨(), ?_, ?_⟩
      · try dsimp only
        rw [s17_2 _ _ _ hd]
        simp (disch := first | assumption | omega) only [↓gd_t, ↓if_pos, ↓if_neg, Option.bind_some, true_or, true_and, gd_t]
      · rw [h4, hN]
        show (if bI (I (d + 2) k = i) = 1 then _ else _) = _
        rw [if_neg (by rw [bI_f c]; decide), show (I d 3 - (k + 1)).toNat = N by omega]
  · intro _ h4
    try dsimp only
    rw [s17_2 _ _ _ hd, h4, Int.sub_self]
    simp (disch := first | assumption | omega) only [↓gd_t, ↓if_pos, ↓if_neg, Option.bind_some, true_or, true_and, gd_t]
    rfl
end
