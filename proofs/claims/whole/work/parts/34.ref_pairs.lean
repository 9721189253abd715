/-! the reference: linesOf, isLike, findMost, findPairs -/
/-- the lines of a text, and how many -/
def tl (I : AI) (t : Int) : Int → Int := fun i => I 116 (24 * t + i)
def ts (I : AI) (t : Int) : Int := if 0 ≤ t then I 117 t else 0
section
variable {f g : Int → Int} {n m : Int}
theorem tb_up {i j : Int} (hi : i < n) (hj : j < m) : tb f g n m (i + 1) j ≤ tb f g n m (i + 1) (j + 1) + 1 ∧ tb f g n m i (j + 1) ≤ tb f g n m (i + 1) (j + 1) + 1 := by
  unfold tb
  obtain ⟨p, hp⟩ : ∃ p : Nat, (n - i).toNat = p + 1 := ⟨(n - i).toNat - 1, by omega⟩
  obtain ⟨q, hq⟩ : ∃ q : Nat, (m - j).toNat = q + 1 := ⟨(m - j).toNat - 1, by omega⟩
  rw [hp, hq, show (n - (i + 1)).toNat = p by omega, show (m - (j + 1)).toNat = q by omega]
  exact ⟨(lc_mono p q).2.2, (lc_mono p q).1.2⟩
end
def TbR (I : AI) (f g : Int → Int) (n m lo : Int) : Prop := ∀ i j, lo ≤ i → i ≤ n → 0 ≤ j → j ≤ m → I 135 (25 * i + j) = tb f g n m i j
section
variable {L : Nat} {b : Bool} {I : AI} {J : AJ} {t u : Int}
theorem c172 (ht : t < 120) : evc 172 [vr 115, vi t] (hp L b I J) = some (vi (ts I t), hp L b I J) := by
  rw [n172, s172_0]
  unfold ts
  by_cases c : 0 ≤ t
  · simp (disch := first | assumption | omega) only [↓gd_t, ↓if_pos, ↓if_neg, Option.bind_some, true_or, true_and, gd_t]
  · simp (disch := first | assumption | omega) only [↓gd_t, ↓if_pos, ↓if_neg, Option.bind_some, true_or, true_and, gd_t]
theorem c173 {i j : Int} (h1 : 0 ≤ t ∧ t < 120) (h2 : 0 ≤ u ∧ u < 120) (h3 : 0 ≤ i ∧ i < 24) (h4 : 0 ≤ j ∧ j < 24) : evc 173 [vr 115, vi t, vi i, vi u, vi j] (hp L b I J) = some (vi (bI (tl I t i = tl I u j)), hp L b I J) := by
  rw [n173, s173_0]
  show _ = some (vi (bI (I 116 (24 * t + i) = I 116 (24 * u + j))), _)
  by_cases c : I 116 (24 * t + i) = I 116 (24 * u + j)
  · rw [bI_t c]; simp (disch := first | assumption | omega) only [↓gd_t, ↓if_pos, ↓if_neg, Option.bind_some, true_or, true_and, gd_t]
  · rw [bI_f c]; simp (disch := first | assumption | omega) only [↓gd_t, ↓if_pos, ↓if_neg, Option.bind_some, true_or, true_and, gd_t]
theorem l174 (ht : t < 120) (hu : u < 120) {f g : Int → Int} {n m i : Int} (hf : f = tl I t) (hg : g = tl I u) (en : n = ts I t) (em : m = ts I u) (hn : 0 ≤ n ∧ n ≤ 24) (hm : 0 ≤ m ∧ m ≤ 24) (hi : 0 ≤ i ∧ i ≤ n) {I1 : AI} (h1 : Sm [135] [] I I1) (h2 : TbR I1 f g n m (i + 1)) : (fun r => ∃ I', r = ev 174 6 [some (vr 115), some (vi t), some (vi u), some (vi (i + (-1))), none, none, none, none] [] (hp L b I' J) ∧ Sm [135] [] I I' ∧ TbR I' f g n m i) (ev 174 17 [some (vr 115), some (vi t), some (vi u), some (vi i), some (vi m), none, none, none] [] (hp L b I1 J)) := by
  have zt : 0 < n → 0 ≤ t := fun z => by rw [en] at z; unfold ts at z; split at z <;> omega
  have zu : 0 < m → 0 ≤ u := fun z => by rw [em] at z; unfold ts at z; split at z <;> omega
  refine lpd (lo := -1) (hi := m) (F := fun j (I' : AI) => ev 174 17 [some (vr 115), some (vi t), some (vi u), some (vi i), some (vi j), none, none, none] [] (hp L b I' J)) (Q := fun r => ∃ I', r = ev 174 6 [some (vr 115), some (vi t), some (vi u), some (vi (i + (-1))), none, none, none, none] [] (hp L b I' J) ∧ Sm [135] [] I I' ∧ TbR I' f g n m i) (fun j I' => Sm [135] [] I I' ∧ TbR I' f g n m (i + 1) ∧ ∀ x, j < x → x ≤ m → I' 135 (25 * i + x) = tb f g n m i x) ?_ ?_ m I1 (by omega) (Int.le_refl _) ⟨h1, h2, fun x g1 g2 => by omega⟩
  · intro j I2 h3 h4 ⟨v1, v2, v3⟩
    have ets : ∀ t, ts I2 t = ts I t := fun t => by unfold ts; rw [v1.1 117 (by decide) (by decide)]
    have etl : ∀ t, tl I2 t = tl I t := fun t => by unfold tl; rw [v1.1 116 (by decide) (by decide)]
    right
    have key : ∀ v, v = tb f g n m i j → ev 174 160 [some (vr 115), some (vi t), some (vi u), some (vi i), some (vi j), some (vi v), none, none] [] (hp L b I2 J) = ev 174 17 [some (vr 115), some (vi t), some (vi u), some (vi i), some (vi (j + (-1))), none, none, none] [] (hp L b (upI I2 135 (25 * i + j) (tb f g n m i j)) J) := fun v hv => by
      rw [s174_160, hv]
      simp (disch := first | assumption | omega) only [↓gd_t, ↓if_pos, ↓if_neg, Option.bind_some, true_or, true_and, gd_t]
    refine ⟨upI I2 135 (25 * i + j) (tb f g n m i j), ?_, v1.up (by simp) (by decide), fun i' j' g1 g2 g3 g4 => by rw [upI_i (by omega)]; exact v2 i' j' g1 g2 g3 g4, fun x g1 g2 => ?_⟩
    · try dsimp only
      rw [s174_17]
      simp (disch := first | assumption | omega) only [↓gd_t, ↓if_pos, ↓if_neg, Option.bind_some, true_or, true_and, gd_t, c172, ets, ← en]
      rw [s174_31]
      by_cases c1 : n ≤ i
      · simp (disch := first | assumption | omega) only [↓gd_t, ↓if_pos, ↓if_neg, Option.bind_some, true_or, true_and, gd_t]
        exact key 0 (by rw [show i = n by omega, tb_n])
      · simp (disch := first | assumption | omega) only [↓gd_t, ↓if_pos, ↓if_neg, Option.bind_some, true_or, true_and, gd_t, c172, ets, ← em]
        rw [s174_41]
        by_cases c2 : m ≤ j
        · simp (disch := first | assumption | omega) only [↓gd_t, ↓if_pos, ↓if_neg, Option.bind_some, true_or, true_and, gd_t]
          exact key 0 (by rw [show j = m by omega, tb_m])
        · have a1 := v2 (i + 1) (j + 1) (by omega) (by omega) (by omega) (by omega)
          have a2 := v2 (i + 1) j (by omega) (by omega) (by omega) (by omega)
          have a3 := v3 (j + 1) (by omega) (by omega)
          rw [show 25 * (i + 1) + (j + 1) = 25 * (i + 1) + j + 1 by omega] at a1
          rw [show 25 * i + (j + 1) = 25 * i + j + 1 by omega] at a3
          have b1 := tb_bd (f := f) (g := g) (m := m) (i := i + 1) (j := j + 1) (n := n) (by omega)
          have b2 := tb_up (f := f) (g := g) (n := n) (m := m) (i := i) (j := j) (by omega) (by omega)
          have e := tb_s (f := f) (g := g) (n := n) (m := m) (i := i) (j := j) (by omega) (by omega)
          have z1 := zt (by omega)
          have z2 := zu (by omega)
          have fin : ∀ w, w = (if tb f g n m i (j + 1) < tb f g n m (i + 1) j then tb f g n m (i + 1) j else tb f g n m i (j + 1)) → ev 174 106 [some (vr 115), some (vi t), some (vi u), some (vi i), some (vi j), none, none, none] [vi w] (hp L b I2 J) = ev 174 17 [some (vr 115), some (vi t), some (vi u), some (vi i), some (vi (j + (-1))), none, none, none] [] (hp L b (upI I2 135 (25 * i + j) (tb f g n m i j)) J) := fun w hw => by
            rw [s174_106, c173 (by omega) (by omega) (by omega) (by omega), etl, etl, ← hf, ← hg]
            by_cases c3 : f i = g j
            · rw [if_pos c3] at e
              simp (disch := first | assumption | omega) only [↓gd_t, ↓if_pos, ↓if_neg, Option.bind_some, true_or, true_and, gd_t, bI_t c3, s174_117, a1]
              rw [s174_142]
              by_cases c4 : 1 + tb f g n m (i + 1) (j + 1) ≤ w
              · simp (disch := first | assumption | omega) only [↓gd_t, ↓if_pos, ↓if_neg, Option.bind_some, true_or, true_and, gd_t, s174_158]
                exact key w (by split at hw <;> omega)
              · simp (disch := first | assumption | omega) only [↓gd_t, ↓if_pos, ↓if_neg, Option.bind_some, true_or, true_and, gd_t, s174_158]
                exact key _ (by omega)
            · rw [if_neg c3] at e
              simp (disch := first | assumption | omega) only [↓gd_t, ↓if_pos, ↓if_neg, Option.bind_some, true_or, true_and, gd_t, bI_f c3, s174_117]
              rw [s174_142]
              have b3 := tb_bd (f := f) (g := g) (m := m) (i := i + 1) (j := j) (n := n) (by omega)
              have b4 := tb_bd (f := f) (g := g) (m := m) (i := i) (j := j + 1) (n := n) (by omega)
              simp (disch := first | assumption | omega) only [↓gd_t, ↓if_pos, ↓if_neg, Option.bind_some, true_or, true_and, gd_t, s174_158]
              exact key w (by rw [e, hw])
          by_cases c5 : tb f g n m (i + 1) j ≤ tb f g n m i (j + 1)
          · simp (disch := first | assumption | omega) only [↓gd_t, ↓if_pos, ↓if_neg, Option.bind_some, true_or, true_and, gd_t, a2, a3]
            exact fin _ (by rw [if_neg (by omega)])
          · simp (disch := first | assumption | omega) only [↓gd_t, ↓if_pos, ↓if_neg, Option.bind_some, true_or, true_and, gd_t, a2, a3]
            exact fin _ (by rw [if_pos (by omega)])
    · by_cases c : x = j
      · rw [c, upI_s]
      · rw [upI_i (by omega)]; exact v3 x (by omega) g2
  · intro I2 ⟨v1, v2, v3⟩
    refine ⟨I2, ?_, v1, fun i' j' g1 g2 g3 g4 => ?_⟩
    · try dsimp only
      rw [s174_17]
      simp (disch := first | assumption | omega) only [↓gd_t, ↓if_pos, ↓if_neg, Option.bind_some, true_or, true_and, gd_t]
    · rcases Int.lt_or_eq_of_le g1 with g | g
      · exact v2 i' j' (by omega) g2 g3 g4
      · rw [← g]; exact v3 j' (by omega) g4
theorem c174 (ht : t < 120) (hu : u < 120) {f g : Int → Int} {n m : Int} (hf : f = tl I t) (hg : g = tl I u) (en : n = ts I t) (em : m = ts I u) (hn : 0 ≤ n ∧ n ≤ 24) (hm : 0 ≤ m ∧ m ≤ 24) : (fun r => ∃ I', r = some (vi 0, hp L b I' J) ∧ Sm [135] [] I I' ∧ TbR I' f g n m 0) (evc 174 [vr 115, vi t, vi u] (hp L b I J)) := by
  have e0 : evc 174 [vr 115, vi t, vi u] (hp L b I J) = ev 174 6 [some (vr 115), some (vi t), some (vi u), some (vi n), none, none, none, none] [] (hp L b I J) := by
    rw [n174]
    simp (disch := first | assumption | omega) only [↓gd_t, ↓if_pos, ↓if_neg, Option.bind_some, true_or, true_and, gd_t, s174_0, c172, s174_5, ← en]
  rw [e0]
  refine lpd (lo := -1) (hi := n) (F := fun i (I' : AI) => ev 174 6 [some (vr 115), some (vi t), some (vi u), some (vi i), none, none, none, none] [] (hp L b I' J)) (Q := fun r => ∃ I', r = some (vi 0, hp L b I' J) ∧ Sm [135] [] I I' ∧ TbR I' f g n m 0) (fun i I' => Sm [135] [] I I' ∧ TbR I' f g n m (i + 1)) ?_ ?_ n I (by omega) (Int.le_refl _) ⟨Sm.rf, fun i' j' g1 g2 g3 g4 => by omega⟩
  · intro i I2 h3 h4 ⟨v1, v2⟩
    right
    have ets : ∀ t, ts I2 t = ts I t := fun t => by unfold ts; rw [v1.1 117 (by decide) (by decide)]
    obtain ⟨I', q1, q2, q3⟩ := l174 (L := L) (b := b) (J := J) ht hu hf hg en em hn hm (i := i) (by omega) v1 v2
    refine ⟨I', ?_, q2, fun i' j' g1 g2 g3 g4 => q3 i' j' (by omega) g2 g3 g4⟩
    try dsimp only
    rw [s174_6]
    simp (disch := first | assumption | omega) only [↓gd_t, ↓if_pos, ↓if_neg, Option.bind_some, true_or, true_and, gd_t, c172, ets, ← em, s174_15]
    exact q1
  · intro I2 ⟨v1, v2⟩
    refine ⟨I2, ?_, v1, fun i' j' g1 g2 g3 g4 => v2 i' j' (by omega) g2 g3 g4⟩
    try dsimp only
    rw [s174_6]
    simp (disch := first | assumption | omega) only [↓gd_t, ↓if_pos, ↓if_neg, Option.bind_some, true_or, true_and, gd_t]
theorem l175a (ht : t < 120) (hu : u < 120) {f g : Int → Int} {n m x j left : Int} (hf : f = tl I t) (hg : g = tl I u) (en : n = ts I t) (em : m = ts I u) (hn : 0 ≤ n ∧ n ≤ 24) (hm : 0 ≤ m ∧ m ≤ 24) (hx : 0 ≤ x ∧ x < n) (hj : 0 ≤ j ∧ j ≤ m) (hT : TbR I f g n m 0) : (fun r => ∃ v, r = ev 175 126 [some (vr 115), some (vi t), some (vi u), none, some (vi j), some (vi left), some (vi x), some (vi v), none] [] (hp L b I J) ∧ ((v = -1 ∧ ∀ y, j ≤ y → y < m → f x = g y → tb f g n m (x + 1) (y + 1) + 1 ≠ left) ∨ ((j ≤ v ∧ v < m) ∧ f x = g v ∧ tb f g n m (x + 1) (v + 1) + 1 = left ∧ ∀ y, j ≤ y → y < v → f x = g y → tb f g n m (x + 1) (y + 1) + 1 ≠ left))) (ev 175 60 [some (vr 115), some (vi t), some (vi u), none, some (vi j), some (vi left), some (vi x), some (vi (-1)), some (vi j)] [] (hp L b I J)) := by
  have zt : 0 < n → 0 ≤ t := fun z => by rw [en] at z; unfold ts at z; split at z <;> omega
  have zu : 0 < m → 0 ≤ u := fun z => by rw [em] at z; unfold ts at z; split at z <;> omega
  refine lp (lo := j) (hi := m) (F := fun k y => ev 175 60 [some (vr 115), some (vi t), some (vi u), none, some (vi j), some (vi left), some (vi x), some (vi y), some (vi k)] [] (hp L b I J)) (Q := fun r => ∃ v, r = ev 175 126 [some (vr 115), some (vi t), some (vi u), none, some (vi j), some (vi left), some (vi x), some (vi v), none] [] (hp L b I J) ∧ ((v = -1 ∧ ∀ y, j ≤ y → y < m → f x = g y → tb f g n m (x + 1) (y + 1) + 1 ≠ left) ∨ ((j ≤ v ∧ v < m) ∧ f x = g v ∧ tb f g n m (x + 1) (v + 1) + 1 = left ∧ ∀ y, j ≤ y → y < v → f x = g y → tb f g n m (x + 1) (y + 1) + 1 ≠ left))) (fun k y => (y = -1 ∧ ∀ y, j ≤ y → y < k → f x = g y → tb f g n m (x + 1) (y + 1) + 1 ≠ left) ∨ ((j ≤ y ∧ y < m) ∧ f x = g y ∧ tb f g n m (x + 1) (y + 1) + 1 = left ∧ ∀ z, j ≤ z → z < y → f x = g z → tb f g n m (x + 1) (z + 1) + 1 ≠ left)) ?_ ?_ j (-1) (Int.le_refl _) hj.2 (Or.inl ⟨rfl, fun y g1 g2 => by omega⟩)
  · intro k y h3 h4 v
    have z1 := zt (by omega)
    have z2 := zu (by omega)
    rcases v with ⟨v1, v2⟩ | v
    · right
      have a1 := hT (x + 1) (k + 1) (by omega) (by omega) (by omega) (by omega)
      rw [show 25 * (x + 1) + (k + 1) = 25 * (x + 1) + k + 1 by omega] at a1
      have b1 := tb_bd (f := f) (g := g) (m := m) (i := x + 1) (j := k + 1) (n := n) (by omega)
      have next : f x ≠ g k ∨ tb f g n m (x + 1) (k + 1) + 1 ≠ left → ∀ y, j ≤ y → y < k + 1 → f x = g y → tb f g n m (x + 1) (y + 1) + 1 ≠ left := by
        intro hn y g1 g2 g3
        rcases Int.lt_or_eq_of_le (show y ≤ k by omega) with g4 | g4
        · exact v2 y g1 g4 g3
        · rw [g4] at g3 ⊢
          rcases hn with hn | hn
          · exact absurd g3 hn
          · exact hn
      by_cases c : f x = g k
      · by_cases c2 : tb f g n m (x + 1) (k + 1) + 1 = left
        · refine ⟨k, ?_, Or.inr ⟨⟨h3, h4⟩, c, c2, v2⟩⟩
          try dsimp only
          rw [s175_60]
          simp (disch := first | assumption | omega) only [↓gd_t, ↓if_pos, ↓if_neg, Option.bind_some, true_or, true_and, gd_t, c172, ← em, s175_67, c173, ← hf, ← hg, bI_t c, s175_85, a1, s175_118]
        · refine ⟨-1, ?_, Or.inl ⟨rfl, next (Or.inr c2)⟩⟩
          try dsimp only
          rw [s175_60]
          simp (disch := first | assumption | omega) only [↓gd_t, ↓if_pos, ↓if_neg, Option.bind_some, true_or, true_and, gd_t, c172, ← em, s175_67, c173, ← hf, ← hg, bI_t c, s175_85, a1, s175_117, s175_118]
      · refine ⟨-1, ?_, Or.inl ⟨rfl, next (Or.inl c)⟩⟩
        try dsimp only
        rw [s175_60]
        simp (disch := first | assumption | omega) only [↓gd_t, ↓if_pos, ↓if_neg, Option.bind_some, true_or, true_and, gd_t, c172, ← em, s175_67, c173, ← hf, ← hg, bI_f c, s175_85, s175_117, s175_118]
    · left
      refine ⟨y, ?_, Or.inr v⟩
      have v1 := v.1
      try dsimp only
      rw [s175_60]
      simp (disch := first | assumption | omega) only [↓gd_t, ↓if_pos, ↓if_neg, Option.bind_some, true_or, true_and, gd_t, c172, ← em, s175_67]
  · intro y v
    refine ⟨y, ?_, v⟩
    try dsimp only
    rw [s175_60]
    simp (disch := first | assumption | omega) only [↓gd_t, ↓if_pos, ↓if_neg, Option.bind_some, true_or, true_and, gd_t, c172, ← em, s175_67]
theorem l175b (ht : t < 120) (hu : u < 120) {f g : Int → Int} {n m i j left : Int} (hf : f = tl I t) (hg : g = tl I u) (en : n = ts I t) (em : m = ts I u) (hn : 0 ≤ n ∧ n ≤ 24) (hm : 0 ≤ m ∧ m ≤ 24) (hi : 0 ≤ i ∧ i ≤ n) (hj : 0 ≤ j ∧ j ≤ m) (hT : TbR I f g n m 0) (hl : 0 < left ∧ left = tb f g n m i j) : (fun r => ∃ x v, r = ev 175 51 [some (vr 115), some (vi t), some (vi u), none, some (vi j), some (vi left), some (vi x), some (vi v), none] [] (hp L b I J) ∧ (i ≤ x ∧ x < n) ∧ (j ≤ v ∧ v < m) ∧ f x = g v ∧ tb f g n m (x + 1) (v + 1) + 1 = left ∧ ∀ x' y, i ≤ x' → j ≤ y → y < m → (x' < x ∨ (x' = x ∧ y < v)) → f x' = g y → tb f g n m (x' + 1) (y + 1) + 1 ≠ left) (ev 175 51 [some (vr 115), some (vi t), some (vi u), none, some (vi j), some (vi left), some (vi i), some (vi (-1)), none] [] (hp L b I J)) := by
  refine lp (lo := i) (hi := n) (F := fun x (_ : Unit) => ev 175 51 [some (vr 115), some (vi t), some (vi u), none, some (vi j), some (vi left), some (vi x), some (vi (-1)), none] [] (hp L b I J)) (Q := fun r => ∃ x v, r = ev 175 51 [some (vr 115), some (vi t), some (vi u), none, some (vi j), some (vi left), some (vi x), some (vi v), none] [] (hp L b I J) ∧ (i ≤ x ∧ x < n) ∧ (j ≤ v ∧ v < m) ∧ f x = g v ∧ tb f g n m (x + 1) (v + 1) + 1 = left ∧ ∀ x' y, i ≤ x' → j ≤ y → y < m → (x' < x ∨ (x' = x ∧ y < v)) → f x' = g y → tb f g n m (x' + 1) (y + 1) + 1 ≠ left) (fun x _ => ∀ x' y, i ≤ x' → x' < x → j ≤ y → y < m → f x' = g y → tb f g n m (x' + 1) (y + 1) + 1 ≠ left) ?_ ?_ i () (Int.le_refl _) hi.2 (fun x' y g1 g2 => by omega)
  · intro x _ h3 h4 v1
    obtain ⟨v, w1, w2⟩ := l175a (L := L) (b := b) (J := J) (left := left) ht hu hf hg en em hn hm (x := x) (j := j) (by omega) hj hT
    have e1 : ev 175 51 [some (vr 115), some (vi t), some (vi u), none, some (vi j), some (vi left), some (vi x), some (vi (-1)), none] [] (hp L b I J) = ev 175 126 [some (vr 115), some (vi t), some (vi u), none, some (vi j), some (vi left), some (vi x), some (vi v), none] [] (hp L b I J) := by
      rw [s175_51]
      simp (disch := first | assumption | omega) only [↓gd_t, ↓if_pos, ↓if_neg, Option.bind_some, true_or, true_and, gd_t]
      exact w1
    rcases w2 with ⟨w2, w3⟩ | ⟨w2, w3, w4, w5⟩
    · right
      refine ⟨(), ?_, fun x' y g1 g2 g3 g4 g5 => ?_⟩
      · try dsimp only
        rw [e1, s175_126]
        simp (disch := first | assumption | omega) only [↓gd_t, ↓if_pos, ↓if_neg, Option.bind_some, true_or, true_and, gd_t, s175_138, w2]
      · rcases Int.lt_or_eq_of_le (show x' ≤ x by omega) with g6 | g6
        · exact v1 x' y g1 g6 g3 g4 g5
        · rw [g6] at g5 ⊢; exact w3 y g3 g4 g5
    · left
      refine ⟨x, v, ?_, ⟨h3, h4⟩, w2, w3, w4, fun x' y g1 g2 g3 g4 g5 => ?_⟩
      · try dsimp only
        rw [e1, s175_126]
        simp (disch := first | assumption | omega) only [↓gd_t, ↓if_pos, ↓if_neg, Option.bind_some, true_or, true_and, gd_t, s175_138, Int.add_zero]
      · rcases g4 with g4 | ⟨g4, g6⟩
        · exact v1 x' y g1 g4 g2 g3 g5
        · rw [g4] at g5 ⊢; exact w5 y g2 g6 g5
  · intro _ v1
    obtain ⟨x, y, g1, g2, g3, g4⟩ := tb_ex (f := f) (g := g) _ i j rfl hi.2 hj.2 (by omega)
    exact absurd (by omega) (v1 x y g1.1 g1.2 g2.1 g2.2 g3)
theorem c175 (ht : t < 120) (hu : u < 120) {f g : Int → Int} {n m : Int} (hf : f = tl I t) (hg : g = tl I u) (en : n = ts I t) (em : m = ts I u) (hn : 0 ≤ n ∧ n ≤ 24) (hm : 0 ≤ m ∧ m ≤ 24) : (fun r => ∃ I' : AI, r = some (vi 0, hp L b I' J) ∧ Sm [135, 136, 137] [27] I I' ∧ PO f g n m (I' 136) (I' 137) (I' 115 27) ∧ I' 115 27 = tb f g n m 0 0) (evc 175 [vr 115, vi t, vi u] (hp L b I J)) := by
  obtain ⟨I1, q1, q2, q3⟩ := c174 (L := L) (b := b) (J := J) ht hu hf hg en em hn hm
  have bd := tb_bd (f := f) (g := g) (n := n) (m := m) (i := 0) (j := 0) hn.1
  have e0 : evc 175 [vr 115, vi t, vi u] (hp L b I J) = ev 175 16 [some (vr 115), some (vi t), some (vi u), some (vi 0), some (vi 0), none, none, none, none] [] (hp L b (upI I1 115 27 0) J) := by
    rw [n175]
    simp (disch := first | assumption | omega) only [↓gd_t, ↓if_pos, ↓if_neg, Option.bind_some, true_or, true_and, gd_t, s175_0, q1, s175_6]
  rw [e0]
  refine lp (lo := 0) (hi := tb f g n m 0 0) (F := fun _ (s : Int × Int × AI) => ev 175 16 [some (vr 115), some (vi t), some (vi u), some (vi s.1), some (vi s.2.1), none, none, none, none] [] (hp L b s.2.2 J)) (Q := fun r => ∃ I' : AI, r = some (vi 0, hp L b I' J) ∧ Sm [135, 136, 137] [27] I I' ∧ PO f g n m (I' 136) (I' 137) (I' 115 27) ∧ I' 115 27 = tb f g n m 0 0) (fun k s => Sm [135, 136, 137] [27] I s.2.2 ∧ TbR s.2.2 f g n m 0 ∧ s.2.2 115 27 = k ∧ PO f g n m (s.2.2 136) (s.2.2 137) k ∧ (s.1 = sq (s.2.2 136) k ∧ s.2.1 = sq (s.2.2 137) k) ∧ (0 ≤ s.1 ∧ s.1 ≤ n) ∧ (0 ≤ s.2.1 ∧ s.2.1 ≤ m) ∧ tb f g n m s.1 s.2.1 = tb f g n m 0 0 - k) ?_ ?_ 0 (0, 0, upI I1 115 27 0) (Int.le_refl _) bd.1 ?_
  · rintro k ⟨i, j, I2⟩ h3 h4 ⟨v1, v2, v3, v4, ⟨v5, v6⟩, v7, v8, v9⟩
    dsimp only at v1 v2 v3 v4 v5 v6 v7 v8 v9
    right
    have a1 := v2 i j v7.1 v7.2 v8.1 v8.2
    have ets : ∀ t, ts I2 t = ts I t := fun t => by unfold ts; rw [v1.1 117 (by decide) (by decide)]
    have etl : ∀ t, tl I2 t = tl I t := fun t => by unfold tl; rw [v1.1 116 (by decide) (by decide)]
    obtain ⟨x, v, w1, w2, w3, w4, w5, w6⟩ := l175b (L := L) (b := b) (J := J) (I := I2) (t := t) (u := u) (f := f) (g := g) (n := n) (m := m) (i := i) (j := j) (left := tb f g n m i j) ht hu (by rw [etl]; exact hf) (by rw [etl]; exact hg) (by rw [ets]; exact en) (by rw [ets]; exact em) hn hm v7 v8 v2 ⟨by omega, rfl⟩
    have st : ev 175 16 [some (vr 115), some (vi t), some (vi u), some (vi i), some (vi j), none, none, none, none] [] (hp L b I2 J) = ev 175 16 [some (vr 115), some (vi t), some (vi u), some (vi (x + 1)), some (vi (v + 1)), none, none, none, none] [] (hp L b (upI (upI (upI I2 136 k x) 137 k v) 115 27 (k + 1)) J) := by
      rw [s175_16, a1]
      simp (disch := first | assumption | omega) only [↓gd_t, ↓if_pos, ↓if_neg, Option.bind_some, true_or, true_and, gd_t]
      rw [w1, s175_51]
      simp only [upI_c (show 115 ≠ 136 by decide), upI_c (show 115 ≠ 137 by decide), v3]
      simp (disch := first | assumption | omega) only [↓gd_t, ↓if_pos, ↓if_neg, Option.bind_some, true_or, true_and, gd_t]
    have p0 : Sm [135, 136, 137] [27] I (upI (upI (upI I2 136 k x) 137 k v) 115 27 (k + 1)) := ((v1.up (by simp) (by decide)).up (by simp) (by decide)).fld (by simp)
    have p1 : ∀ y, y ≠ k → (upI (upI (upI I2 136 k x) 137 k v) 115 27 (k + 1)) 136 y = I2 136 y := fun y hy => by rw [upI_c (by decide), upI_c (by decide), upI_i hy]
    have p2 : ∀ y, y ≠ k → (upI (upI (upI I2 136 k x) 137 k v) 115 27 (k + 1)) 137 y = I2 137 y := fun y hy => by rw [upI_c (by decide), upI_i hy, upI_c (by decide)]
    have p3 : (upI (upI (upI I2 136 k x) 137 k v) 115 27 (k + 1)) 136 k = x := by rw [upI_c (by decide), upI_c (by decide), upI_s]
    have p4 : (upI (upI (upI I2 136 k x) 137 k v) 115 27 (k + 1)) 137 k = v := by rw [upI_c (by decide), upI_s]
    have p5 : (upI (upI (upI I2 136 k x) 137 k v) 115 27 (k + 1)) 115 27 = k + 1 := by rw [upI_s]
    have p6 : (upI (upI (upI I2 136 k x) 137 k v) 115 27 (k + 1)) 135 = I2 135 := by rw [upI_c (by decide), upI_c (by decide), upI_c (by decide)]
    refine ⟨(x + 1, v + 1, upI (upI (upI I2 136 k x) 137 k v) 115 27 (k + 1)), st, ?_⟩
    clear st
    generalize upI (upI (upI I2 136 k x) 137 k v) 115 27 (k + 1) = I3 at *
    have z1 : ∀ j, 0 ≤ j → j < k → I2 136 j = I3 136 j ∧ I2 137 j = I3 137 j := fun j a b => ⟨(p1 j (by omega)).symm, (p2 j (by omega)).symm⟩
    have z2 : sq (I3 136) k = sq (I2 136) k := sq_cg (fun j a b => p1 j (by omega)) h3
    have z3 : sq (I3 137) k = sq (I2 137) k := sq_cg (fun j a b => p2 j (by omega)) h3
    have z4 : PS f g n m (I3 136) (I3 137) k := by
      unfold PS
      rw [z2, z3, p3, p4]
      refine ⟨⟨by omega, w2.2⟩, ⟨by omega, w3.2⟩, w4, by omega, fun x' y g1 g2 g3 g4 g5 => ?_⟩
      have := w6 x' y (by omega) (by omega) g3 g4 g5
      omega
    try dsimp only
    rw [sq_s _ h3, sq_s _ h3, p3, p4]
    refine ⟨p0, fun i' j' g1 g2 g3 g4 => by rw [p6]; exact v2 i' j' g1 g2 g3 g4, p5, fun y a b => ?_, ⟨rfl, rfl⟩, ⟨by omega, by omega⟩, ⟨by omega, by omega⟩, by omega⟩
    by_cases c : y < k
    · exact PS_cg a (fun j a b => z1 j a (by omega)) (v4 y a c)
    · rw [show y = k by omega]; exact z4
  · rintro ⟨i, j, I2⟩ ⟨v1, v2, v3, v4, ⟨v5, v6⟩, v7, v8, v9⟩
    dsimp only at v1 v2 v3 v4 v5 v6 v7 v8 v9
    have a1 := v2 i j v7.1 v7.2 v8.1 v8.2
    refine ⟨I2, ?_, v1, by rw [v3]; exact v4, v3⟩
    try dsimp only
    rw [s175_16, a1]
    simp (disch := first | assumption | omega) only [↓gd_t, ↓if_pos, ↓if_neg, Option.bind_some, true_or, true_and, gd_t]
  · try dsimp only
    rw [upI_s, sq_0, sq_0]
    refine ⟨(q2.mono (by simp) (by simp)).fld (by simp), fun i' j' g1 g2 g3 g4 => by rw [upI_c (by decide)]; exact q3 i' j' g1 g2 g3 g4, rfl, fun k a b => by omega, ⟨rfl, rfl⟩, ⟨by omega, by omega⟩, ⟨by omega, by omega⟩, by omega⟩
end
