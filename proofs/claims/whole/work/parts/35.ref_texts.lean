/-! the reference: texts -/
def TxR (I : AI) : Prop := (0 ≤ I 115 5 ∧ I 115 5 ≤ 120) ∧ (∀ t, 0 ≤ t → t < I 115 5 → -1 ≤ I 120 t ∧ I 120 t < t) ∧ (∀ t, 0 ≤ t → t < I 115 5 → 0 ≤ I 117 t ∧ I 117 t ≤ 24) ∧ (∀ t, 0 ≤ t → t < I 115 5 → (I 118 t = 0 ∨ I 118 t = 1) ∧ (I 119 t = 0 ∨ I 119 t = 1))
def thR (I : AI) (t : Int) : Prop := (0 ≤ t ∧ t < I 115 5) ∧ I 119 t = 0
def flR (I : AI) (t : Int) : Int := fl (I 118) (I 120) 120 t
def rdR (I : AI) (t : Int) : Prop := thR I t ∧ flR I t = -1
theorem fl_bd {q s : Int → Int} {N : Int} (h : ∀ u, 0 ≤ u → u < N → s u < u) : ∀ (n : Nat) (u : Int), u < N → fl q s n u = -1 ∨ (0 ≤ fl q s n u ∧ fl q s n u ≤ u ∧ q (fl q s n u) = 1)
  | 0, _, _ => Or.inl rfl
  | n + 1, u, hu => by
    unfold fl
    by_cases c : u < 0
    · rw [if_pos c]; exact Or.inl rfl
    · rw [if_neg c]
      by_cases c2 : q u = 1
      · rw [if_pos c2]; exact Or.inr ⟨by omega, Int.le_refl _, c2⟩
      · rw [if_neg c2]
        have := h u (by omega) hu
        rcases fl_bd h n (s u) (by omega) with z | z
        · exact Or.inl z
        · exact Or.inr ⟨z.1, by omega, z.2.2⟩
section
variable {L : Nat} {b : Bool} {I : AI} {J : AJ} {k : Nat}
theorem c134 (t : Int) : evc 134 [vr 115, vi t] (hp L b I J) = some (vi (bI (0 ≤ t ∧ t < I 115 5)), hp L b I J) := by
  rw [n134, s134_0]
  by_cases c1 : t < 0
  · rw [if_pos c1, s134_16, g0, bI_f (by omega)]
  · rw [if_neg c1]
    by_cases c2 : I 115 5 ≤ t
    · rw [if_pos c2, s134_16, g0, bI_f (by omega)]
    · rw [if_neg c2, g1, bI_t (by omega)]
theorem c135 (h : I 115 5 ≤ 120) (t : Int) : evc 135 [vr 115, vi t] (hp L b I J) = some (vi (bI (thR I t)), hp L b I J) := by
  rw [n135, s135_0, c134]
  by_cases c1 : 0 ≤ t ∧ t < I 115 5
  · by_cases c2 : I 119 t = 0
    · simp (disch := first | assumption | omega) only [↓gd_t, ↓if_pos, ↓if_neg, Option.bind_some, true_or, true_and, gd_t, bI_t c1, s135_5]
      rw [bI_t ⟨c1, c2⟩]
    · simp (disch := first | assumption | omega) only [↓gd_t, ↓if_pos, ↓if_neg, Option.bind_some, true_or, true_and, gd_t, bI_t c1, s135_5, s135_21]
      rw [bI_f (fun z => c2 z.2)]
  · simp (disch := first | assumption | omega) only [↓gd_t, ↓if_pos, ↓if_neg, Option.bind_some, true_or, true_and, gd_t, bI_f c1, s135_5, s135_21]
    rw [bI_f (fun z => c1 z.1)]
theorem l136 (hT : TxR I) : ∀ (n : Nat) (u : Int), -1 ≤ u → u < I 115 5 → u < n → ev 136 2 [some (vr 115), none, some (vi u)] [] (hp L b I J) = some (vi (fl (I 118) (I 120) n u), hp L b I J) := by
  intro n
  have h0 := hT.1
  induction n with
  | zero =>
    intro u h1 h2 h3
    rw [s136_2, if_pos (by omega), s136_25, show u = -1 by omega]; rfl
  | succ n ih =>
    intro u h1 h2 h3
    rw [s136_2]
    unfold fl
    by_cases c : u < 0
    · rw [if_pos c, if_pos c, s136_25, show u = -1 by omega]
    · have h4 := (hT.2.2.2 u (by omega) h2).1
      have h5 := hT.2.1 u (by omega) h2
      rw [if_neg c, if_neg c, gd_t (by omega)]
      by_cases c2 : I 118 u = 1
      · rw [if_pos (by omega), if_pos c2, s136_25]
      · rw [if_neg (by omega), if_neg c2, gd_t (by omega), ih (I 120 u) (by omega) (by omega) (by omega)]
theorem c136 (hT : TxR I) (t : Int) (h1 : -1 ≤ t) (h2 : t < I 115 5) : evc 136 [vr 115, vi t] (hp L b I J) = some (vi (flR I t), hp L b I J) := by
  have h0 := hT.1
  rw [n136, s136_0, l136 hT 120 t h1 h2 (by omega)]; rfl
theorem flR_bd (hT : TxR I) {t : Int} (h : t < I 115 5) : flR I t = -1 ∨ (0 ≤ flR I t ∧ flR I t ≤ t ∧ I 118 (flR I t) = 1) := fl_bd (fun u a b => (hT.2.1 u a b).2) 120 t h
theorem c137 (hT : TxR I) (t : Int) : evc 137 [vr 115, vi t] (hp L b I J) = some (vi (bI (rdR I t)), hp L b I J) := by
  rw [n137, s137_0, c135 hT.1.2]
  by_cases c1 : thR I t
  · have hb := flR_bd hT c1.1.2
    have c11 := c1.1
    simp (disch := first | assumption | omega) only [↓gd_t, ↓if_pos, ↓if_neg, Option.bind_some, true_or, true_and, gd_t, bI_t c1, s137_5]
    rw [c136 hT t (by omega) c1.1.2]
    by_cases c2 : flR I t = -1
    · simp (disch := first | assumption | omega) only [↓gd_t, ↓if_pos, ↓if_neg, Option.bind_some, true_or, true_and, gd_t, s137_13, c2]
      rw [bI_t ⟨c1, c2⟩]
    · simp (disch := first | assumption | omega) only [↓gd_t, ↓if_pos, ↓if_neg, Option.bind_some, true_or, true_and, gd_t, s137_13, s137_20]
      rw [bI_f (fun z => c2 z.2)]
  · simp (disch := first | assumption | omega) only [↓gd_t, ↓if_pos, ↓if_neg, Option.bind_some, true_or, true_and, gd_t, bI_f c1, s137_5, s137_20]
    rw [bI_f (fun z => c1 z.1)]
def isT (k : Nat) : Bool := [121, 153].contains k
theorem isT_k (ht : isT k = true) : (hk L b)[k]? = some (0, aL k) ∧ 0 < k ∧ k ≠ 115 ∧ k ≠ 116 ∧ k ≠ 117 ∧ k ≠ 118 ∧ k ≠ 119 ∧ k ≠ 120 := by
  have := mem_ct ht
  simp at this
  rcases this with h | h <;> subst h
  · exact ⟨hk_at b 120 (0, 24) rfl, by decide⟩
  · exact ⟨hk_at b 152 (0, 384) rfl, by decide⟩
/-- a text has just n lines f -/
def hl (I : AI) (n : Int) (f : Int → Int) (t : Int) : Prop := I 119 t = 0 ∧ I 117 t = n ∧ ∀ i, 0 ≤ i → i < n → I 116 (24 * t + i) = f i
noncomputable def fdR (I : AI) (n : Int) (f : Int → Int) : Int := lst (hl I n f) (I 115 5).toNat 0
theorem l141 (ht : isT k = true) {from_ n t : Int} (hn : 0 ≤ n ∧ n ≤ 24) (hf : 0 ≤ from_ ∧ from_ + n ≤ (aL k : Nat)) (h2 : 0 ≤ t ∧ t < 120) (h3 : from_ ≤ 1000) (P : Prop) : ev 141 51 [some (vr 115), some (vr k), some (vi from_), some (vi n), none, some (vi t), some (vi (bI P)), some (vi 0)] [] (hp L b I J) = ev 141 97 [some (vr 115), some (vr k), some (vi from_), some (vi n), none, some (vi t), some (vi (bI (P ∧ ∀ i, 0 ≤ i → i < n → I 116 (24 * t + i) = I k (from_ + i)))), none] [] (hp L b I J) := by
  obtain ⟨k1, k2, -⟩ := isT_k (L := L) (b := b) ht
  refine lp (lo := 0) (hi := n) (F := fun i (y : Int) => ev 141 51 [some (vr 115), some (vr k), some (vi from_), some (vi n), none, some (vi t), some (vi y), some (vi i)] [] (hp L b I J)) (Q := fun r => r = ev 141 97 [some (vr 115), some (vr k), some (vi from_), some (vi n), none, some (vi t), some (vi (bI (P ∧ ∀ i, 0 ≤ i → i < n → I 116 (24 * t + i) = I k (from_ + i)))), none] [] (hp L b I J)) (fun i y => y = bI (P ∧ ∀ j, 0 ≤ j → j < i → I 116 (24 * t + j) = I k (from_ + j))) ?_ ?_ 0 (bI P) (Int.le_refl _) hn.1 (bI_cg ⟨fun h => ⟨h, fun j a b => by omega⟩, fun h => h.1⟩)
  · intro i y g1 g2 v
    by_cases c : P ∧ ∀ j, 0 ≤ j → j < i → I 116 (24 * t + j) = I k (from_ + j)
    · rw [bI_t c] at v
      right
      by_cases c2 : I 116 (24 * t + i) = I k (from_ + i)
      · refine ⟨1, ?_, (bI_t ⟨c.1, fun j a b => ?_⟩).symm⟩
        · try dsimp only
          rw [s141_51 _ _ _ _ _ _ k1 k2, v]
          simp (disch := first | assumption | omega) only [↓gd_t, ↓if_pos, ↓if_neg, Option.bind_some, true_or, true_and, gd_t, s141_89]
        · by_cases d : j = i
          · rw [d]; exact c2
          · exact c.2 j a (by omega)
      · refine ⟨0, ?_, (bI_f (fun z => c2 (z.2 i g1 (by omega)))).symm⟩
        try dsimp only
        rw [s141_51 _ _ _ _ _ _ k1 k2, v]
        simp (disch := first | assumption | omega) only [↓gd_t, ↓if_pos, ↓if_neg, Option.bind_some, true_or, true_and, gd_t, s141_89]
    · rw [bI_f c] at v
      left
      try dsimp only
      rw [s141_51 _ _ _ _ _ _ k1 k2, v, bI_f (fun z => c ⟨z.1, fun j a b => z.2 j a (by omega)⟩)]
      simp (disch := first | assumption | omega) only [↓gd_t, ↓if_pos, ↓if_neg, Option.bind_some, true_or, true_and, gd_t]
  · intro y v
    try dsimp only
    rw [s141_51 _ _ _ _ _ _ k1 k2, v]
    simp (disch := first | assumption | omega) only [↓gd_t, ↓if_pos, ↓if_neg, Option.bind_some, true_or, true_and, gd_t]
theorem c141 (hT : TxR I) (ht : isT k = true) {from_ n : Int} (hn : 0 ≤ n ∧ n ≤ 24) (hf : 0 ≤ from_ ∧ from_ + n ≤ (aL k : Nat)) (h3 : from_ ≤ 1000) : evc 141 [vr 115, vr k, vi from_, vi n] (hp L b I J) = some (vi (fdR I n (fun i => I k (from_ + i))), hp L b I J) := by
  have h0 := hT.1
  rw [n141, s141_0]
  refine lp (lo := 0) (hi := I 115 5) (F := fun t (y : Int) => ev 141 6 [some (vr 115), some (vr k), some (vi from_), some (vi n), some (vi y), some (vi t), none, none] [] (hp L b I J)) (Q := fun r => r = some (vi (fdR I n (fun i => I k (from_ + i))), hp L b I J)) (fun t y => (y = -1 ∧ fdR I n (fun i => I k (from_ + i)) = lst (hl I n (fun i => I k (from_ + i))) (I 115 5 - t).toNat t) ∨ (0 ≤ y ∧ y = fdR I n (fun i => I k (from_ + i)))) ?_ ?_ 0 (-1) (Int.le_refl _) h0.1 (Or.inl ⟨rfl, by rw [Int.sub_zero]; rfl⟩)
  · intro t y g1 g2 v
    rcases v with ⟨v1, v2⟩ | ⟨v1, v2⟩
    · right
      obtain ⟨N, hN⟩ : ∃ N : Nat, (I 115 5 - t).toNat = N + 1 := ⟨(I 115 5 - t).toNat - 1, by omega⟩
      rw [hN] at v2
      have e1 : ∀ P : Prop, ev 141 97 [some (vr 115), some (vr k), some (vi from_), some (vi n), none, some (vi t), some (vi (bI P)), none] [] (hp L b I J) = ev 141 6 [some (vr 115), some (vr k), some (vi from_), some (vi n), some (vi (if bI P = 1 then t else -1)), some (vi (t + 1)), none, none] [] (hp L b I J) := fun P => by
        rw [s141_97]
        by_cases c : P
        · rw [bI_t c]
          simp (disch := first | assumption | omega) only [↓gd_t, ↓if_pos, ↓if_neg, Option.bind_some, true_or, true_and, gd_t, s141_108]
        · rw [bI_f c]
          simp (disch := first | assumption | omega) only [↓gd_t, ↓if_pos, ↓if_neg, Option.bind_some, true_or, true_and, gd_t, s141_108]
      refine ⟨if bI (hl I n (fun i => I k (from_ + i)) t) = 1 then t else -1, ?_, ?_⟩
      · try dsimp only
        rw [s141_6, if_neg (by omega), if_neg (by omega), gd_t (by omega)]
        have a := l141 (L := L) (b := b) (I := I) (J := J) ht (from_ := from_) (n := n) (t := t) hn hf (by omega) h3 (I 119 t = 0 ∧ I 117 t = n)
        rw [e1] at a
        have a' : bI ((I 119 t = 0 ∧ I 117 t = n) ∧ ∀ i, 0 ≤ i → i < n → I 116 (24 * t + i) = I k (from_ + i)) = bI (hl I n (fun i => I k (from_ + i)) t) := bI_cg ⟨fun h => ⟨h.1.1, h.1.2, h.2⟩, fun h => ⟨⟨h.1, h.2.1⟩, h.2.2⟩⟩
        rw [a'] at a
        rw [← a]
        by_cases c1 : I 119 t = 0
        · by_cases c2 : I 117 t = n
          · rw [bI_t ⟨c1, c2⟩]
            simp (disch := first | assumption | omega) only [↓gd_t, ↓if_pos, ↓if_neg, Option.bind_some, true_or, true_and, gd_t, s141_46]
          · rw [bI_f (fun z => c2 z.2)]
            simp (disch := first | assumption | omega) only [↓gd_t, ↓if_pos, ↓if_neg, Option.bind_some, true_or, true_and, gd_t, s141_45, s141_46]
        · rw [bI_f (fun z => c1 z.1)]
          simp (disch := first | assumption | omega) only [↓gd_t, ↓if_pos, ↓if_neg, Option.bind_some, true_or, true_and, gd_t, s141_45, s141_46]
      · rw [v2]
        show (_ ∧ (if bI (hl I n (fun i => I k (from_ + i)) t) = 1 then t else lst _ N (t + 1)) = _) ∨ (_ ∧ _ = (if bI (hl I n (fun i => I k (from_ + i)) t) = 1 then t else lst _ N (t + 1)))
        by_cases c : bI (hl I n (fun i => I k (from_ + i)) t) = 1
        · rw [if_pos c, if_pos c]; exact Or.inr ⟨g1, rfl⟩
        · rw [if_neg c, if_neg c, show (I 115 5 - (t + 1)).toNat = N by omega]; exact Or.inl ⟨rfl, rfl⟩
    · left
      try dsimp only
      rw [s141_6, v2]
      rw [v2] at v1
      simp (disch := first | assumption | omega) only [↓gd_t, ↓if_pos, ↓if_neg, Option.bind_some, true_or, true_and, gd_t, s141_116]
  · intro y v
    try dsimp only
    rw [s141_6]
    simp (disch := first | assumption | omega) only [↓gd_t, ↓if_pos, ↓if_neg, Option.bind_some, true_or, true_and, gd_t, s141_116]
    rcases v with ⟨v1, v2⟩ | ⟨v1, v2⟩
    · rw [v2, Int.sub_self, v1]; rfl
    · rw [v2]
theorem fdR_bd (hT : TxR I) {n : Int} {f : Int → Int} : (fdR I n f = -1 ∧ ∀ t, 0 ≤ t → t < I 115 5 → ¬ hl I n f t) ∨ ((0 ≤ fdR I n f ∧ fdR I n f < I 115 5) ∧ hl I n f (fdR I n f)) := by
  have h0 := hT.1
  rcases lst_s (p := hl I n f) (I 115 5).toNat 0 with ⟨h1, h2⟩ | ⟨h1, h2, h3⟩
  · exact Or.inl ⟨h1, fun t a b => h2 t a (by omega)⟩
  · exact Or.inr ⟨⟨h1, by unfold fdR; omega⟩, h3⟩
/-- a text that is there already -/
theorem c142a (hT : TxR I) (ht : isT k = true) {from_ n : Int} (hn : 0 ≤ n ∧ n ≤ 24) (hf : 0 ≤ from_ ∧ from_ + n ≤ (aL k : Nat)) (h3 : from_ ≤ 1000) {t : Int} (hd : fdR I n (fun i => I k (from_ + i)) = t) (h4 : 0 ≤ t) : evc 142 [vr 115, vr k, vi from_, vi n] (hp L b I J) = some (vi t, hp L b (if 0 ≤ flR I t then upI (upI I 118 t 0) 120 t (-1) else I) J) := by
  have h0 := hT.1
  have h5 : t < I 115 5 := by
    rcases fdR_bd hT (n := n) (f := fun i => I k (from_ + i)) with z | z
    · omega
    · omega
  rw [n142, s142_0, c141 hT ht hn hf h3, hd]
  simp only [Option.bind_some]
  rw [s142_7]
  simp (disch := first | assumption | omega) only [↓gd_t, ↓if_pos, ↓if_neg, Option.bind_some, true_or, true_and, gd_t]
  rw [c136 hT t (by omega) h5]
  simp only [Option.bind_some]
  rw [s142_20]
  by_cases c : 0 ≤ flR I t
  · simp (disch := first | assumption | omega) only [↓gd_t, ↓if_pos, ↓if_neg, Option.bind_some, true_or, true_and, gd_t, s142_39]
  · simp (disch := first | assumption | omega) only [↓gd_t, ↓if_pos, ↓if_neg, Option.bind_some, true_or, true_and, gd_t, s142_39]
/-- a new text -/
theorem c142b (hT : TxR I) (ht : isT k = true) {from_ n : Int} (hn : 0 ≤ n ∧ n ≤ 24) (hf : 0 ≤ from_ ∧ from_ + n ≤ (aL k : Nat)) (h3 : from_ ≤ 1000) (hd : fdR I n (fun i => I k (from_ + i)) = -1) (h4 : I 115 5 < 120) : (fun r => ∃ I', r = some (vi (I 115 5), hp L b I' J) ∧ Sm [116, 117, 118, 119, 120] [5] I I' ∧ I' 115 5 = I 115 5 + 1 ∧ (I' 117 (I 115 5) = n ∧ I' 118 (I 115 5) = 0 ∧ I' 119 (I 115 5) = 0 ∧ I' 120 (I 115 5) = -1) ∧ (∀ t, t ≠ I 115 5 → I' 117 t = I 117 t ∧ I' 118 t = I 118 t ∧ I' 119 t = I 119 t ∧ I' 120 t = I 120 t) ∧ ∀ x, I' 116 x = if 24 * I 115 5 ≤ x ∧ x < 24 * I 115 5 + n then I k (from_ + (x - 24 * I 115 5)) else I 116 x) (evc 142 [vr 115, vr k, vi from_, vi n] (hp L b I J)) := by
  have h0 := hT.1
  obtain ⟨k1, k2, k3, k4, k5, k6, k7, k8⟩ := isT_k (L := L) (b := b) ht
  have e0 : evc 142 [vr 115, vr k, vi from_, vi n] (hp L b I J) = ev 142 85 [some (vr 115), some (vr k), some (vi from_), some (vi n), none, some (vi 0)] [] (hp L b (upI (upI (upI (upI I 117 (I 115 5) n) 120 (I 115 5) (-1)) 118 (I 115 5) 0) 119 (I 115 5) 0) J) := by
    rw [n142, s142_0, c141 hT ht hn hf h3, hd]
    simp only [Option.bind_some]
    rw [s142_7]
    simp (disch := first | assumption | omega) only [↓gd_t, ↓if_pos, ↓if_neg, Option.bind_some, true_or, true_and, gd_t, upI_c (show (115 : Nat) ≠ 117 by decide), upI_c (show (115 : Nat) ≠ 118 by decide), upI_c (show (115 : Nat) ≠ 120 by decide)]
  rw [e0]
  refine lp (lo := 0) (hi := n) (F := fun i (I' : AI) => ev 142 85 [some (vr 115), some (vr k), some (vi from_), some (vi n), none, some (vi i)] [] (hp L b I' J)) (Q := fun r => ∃ I', r = some (vi (I 115 5), hp L b I' J) ∧ Sm [116, 117, 118, 119, 120] [5] I I' ∧ I' 115 5 = I 115 5 + 1 ∧ (I' 117 (I 115 5) = n ∧ I' 118 (I 115 5) = 0 ∧ I' 119 (I 115 5) = 0 ∧ I' 120 (I 115 5) = -1) ∧ (∀ t, t ≠ I 115 5 → I' 117 t = I 117 t ∧ I' 118 t = I 118 t ∧ I' 119 t = I 119 t ∧ I' 120 t = I 120 t) ∧ ∀ x, I' 116 x = if 24 * I 115 5 ≤ x ∧ x < 24 * I 115 5 + n then I k (from_ + (x - 24 * I 115 5)) else I 116 x) (fun i I' => Sm [116, 117, 118, 119, 120] [] I I' ∧ (I' 117 (I 115 5) = n ∧ I' 118 (I 115 5) = 0 ∧ I' 119 (I 115 5) = 0 ∧ I' 120 (I 115 5) = -1) ∧ (∀ t, t ≠ I 115 5 → I' 117 t = I 117 t ∧ I' 118 t = I 118 t ∧ I' 119 t = I 119 t ∧ I' 120 t = I 120 t) ∧ ∀ x, I' 116 x = if 24 * I 115 5 ≤ x ∧ x < 24 * I 115 5 + i then I k (from_ + (x - 24 * I 115 5)) else I 116 x) ?_ ?_ 0 _ (Int.le_refl _) hn.1 ?_
  · intro i I2 g1 g2 ⟨v1, v2, v3, v4⟩
    have e5 : I2 115 5 = I 115 5 := v1.2 5 (by decide)
    have ek : I2 k = I k := v1.1 k (by simp; omega) k3
    right
    refine ⟨upI I2 116 (24 * I 115 5 + i) (I k (from_ + i)), ?_, v1.up (by simp) (by decide), ?_, fun t z => ?_, fun x => ?_⟩
    · try dsimp only
      rw [s142_85 _ _ _ _ k1 k2, e5, ek]
      simp (disch := first | assumption | omega) only [↓gd_t, ↓if_pos, ↓if_neg, Option.bind_some, true_or, true_and, gd_t]
    · rw [upI_c (by decide), upI_c (by decide), upI_c (by decide), upI_c (by decide)]; exact v2
    · rw [upI_c (by decide), upI_c (by decide), upI_c (by decide), upI_c (by decide)]; exact v3 t z
    · by_cases c : x = 24 * I 115 5 + i
      · rw [c, upI_s, if_pos (by omega), show 24 * I 115 5 + i - 24 * I 115 5 = i by omega]
      · rw [upI_i c, v4]
        by_cases c2 : 24 * I 115 5 ≤ x ∧ x < 24 * I 115 5 + i
        · rw [if_pos c2, if_pos (by omega)]
        · rw [if_neg c2, if_neg (by omega)]
  · intro I2 ⟨v1, v2, v3, v4⟩
    have e5 : I2 115 5 = I 115 5 := v1.2 5 (by decide)
    refine ⟨upI I2 115 5 (I 115 5 + 1), ?_, (v1.mono (by simp) (by simp)).fld (by simp), upI_s _ _ _ _, ?_, fun t z => ?_, fun x => ?_⟩
    · try dsimp only
      rw [s142_85 _ _ _ _ k1 k2, e5, upI_s]
      simp (disch := first | assumption | omega) only [↓gd_t, ↓if_pos, ↓if_neg, Option.bind_some, true_or, true_and, gd_t]
      rw [show I 115 5 + 1 - 1 = I 115 5 by omega]
    · rw [upI_c (by decide), upI_c (by decide), upI_c (by decide), upI_c (by decide)]; exact v2
    · rw [upI_c (by decide), upI_c (by decide), upI_c (by decide), upI_c (by decide)]; exact v3 t z
    · rw [upI_c (by decide)]; exact v4 x
  · refine ⟨(((Sm.rf.up (by simp) (by decide)).up (by simp) (by decide)).up (by simp) (by decide)).up (by simp) (by decide), ⟨?_, ?_, ?_, ?_⟩, fun t z => ⟨?_, ?_, ?_, ?_⟩, fun x => ?_⟩
    · rw [upI_c (by decide), upI_c (by decide), upI_c (by decide), upI_s]
    · rw [upI_c (by decide), upI_s]
    · rw [upI_s]
    · rw [upI_c (by decide), upI_c (by decide), upI_s]
    · rw [upI_c (by decide), upI_c (by decide), upI_c (by decide), upI_i z]
    · rw [upI_c (by decide), upI_i z, upI_c (by decide), upI_c (by decide)]
    · rw [upI_i z, upI_c (by decide), upI_c (by decide), upI_c (by decide)]
    · rw [upI_c (by decide), upI_c (by decide), upI_i z, upI_c (by decide)]
    · rw [upI_c (by decide), upI_c (by decide), upI_c (by decide), upI_c (by decide), if_neg (by omega)]
end
