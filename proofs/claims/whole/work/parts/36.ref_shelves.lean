/-! the reference: shelves -/
def SvR (I : AI) : Prop := (0 ≤ I 115 10 ∧ I 115 10 ≤ 100) ∧ ∀ s, 0 ≤ s → s < I 115 10 → (I 123 s = 0 ∨ I 123 s = 1)
def shR (I : AI) (s : Int) : Prop := (0 ≤ s ∧ s < I 115 10) ∧ I 123 s = 0
section
variable {L : Nat} {b : Bool} {I : AI} {J : AJ} {k : Nat}
theorem c149 (x : Int) : evc 149 [vi x] (hp L b I J) = some (vi (bI (0 ≤ x ∧ x < 16)), hp L b I J) := by
  rw [n149, s149_0]
  by_cases c1 : x < 0
  · rw [if_pos c1, s149_14, g0, bI_f (by omega)]
  · rw [if_neg c1]
    by_cases c2 : 16 ≤ x
    · rw [if_pos c2, s149_14, g0, bI_f (by omega)]
    · rw [if_neg c2, g1, bI_t (by omega)]
theorem c150 (h : I 115 10 ≤ 100) (s : Int) : evc 150 [vr 115, vi s] (hp L b I J) = some (vi (bI (shR I s)), hp L b I J) := by
  rw [n150, s150_0]
  by_cases c1 : s < 0
  · rw [if_pos c1, s150_25, g0, bI_f (fun z => by have := z.1; omega)]
  · rw [if_neg c1]
    by_cases c2 : I 115 10 ≤ s
    · rw [if_pos c2, s150_25, g0, bI_f (fun z => by have := z.1; omega)]
    · rw [if_neg c2, gd_t (by omega)]
      by_cases c3 : I 123 s = 0
      · rw [if_neg (fun z => z c3), g1, bI_t ⟨by omega, c3⟩]
      · rw [if_pos c3, s150_25, g0, bI_f (fun z => c3 z.2)]
theorem c153 : evc 153 [vr 124, vi 0] (hp L b I J) = some (vi (ct (fun j => 0 ≤ I 124 j) 16), hp L b I J) := by
  have k1 : (hk L b)[124]? = some (0, 16) := hk_at b 123 (0, 16) rfl
  rw [n153, s153_0]
  refine lp (lo := 0) (hi := 16) (F := fun i (y : Int) => ev 153 4 [some (vr 124), some (vi 0), some (vi y), some (vi i)] [] (hp L b I J)) (Q := fun r => r = some (vi (ct (fun j => 0 ≤ I 124 j) 16), hp L b I J)) (fun i y => y = ct (fun j => 0 ≤ I 124 j) i.toNat) ?_ ?_ 0 0 (Int.le_refl _) (by decide) rfl
  · intro i y g1 g2 v
    right
    have hb := ct_bd (p := fun j => 0 ≤ I 124 j) i.toNat
    refine ⟨y + bI (0 ≤ I 124 i), ?_, by rw [v, ct_s g1]⟩
    try dsimp only
    rw [s153_4 _ _ _ _ k1 (by decide), Int.zero_add]
    by_cases c : 0 ≤ I 124 i
    · rw [bI_t c]
      simp (disch := first | assumption | omega) only [↓gd_t, ↓if_pos, ↓if_neg, Option.bind_some, true_or, true_and, gd_t, s153_24]
    · rw [bI_f c]
      simp (disch := first | assumption | omega) only [↓gd_t, ↓if_pos, ↓if_neg, Option.bind_some, true_or, true_and, gd_t, s153_24]
  · intro y v
    try dsimp only
    rw [s153_4 _ _ _ _ k1 (by decide), v]
    simp (disch := first | assumption | omega) only [↓gd_t, ↓if_pos, ↓if_neg, Option.bind_some, true_or, true_and, gd_t]
    rfl
def isN (k : Nat) : Bool := [124, 155].contains k
theorem isN_k (ht : isN k = true) : (hk L b)[k]? = some (0, 16) ∧ 0 < k ∧ k ≠ 115 ∧ k ≠ 122 ∧ k ≠ 123 := by
  have := mem_ct ht
  simp at this
  rcases this with h | h <;> subst h
  · exact ⟨hk_at b 123 (0, 16) rfl, by decide⟩
  · exact ⟨hk_at b 154 (0, 16) rfl, by decide⟩
/-- a shelf that is there is like a row -/
def lk (I : AI) (f : Int → Int) (s : Int) : Prop := I 123 s = 0 ∧ ∀ j, 0 ≤ j → j < 16 → I 122 (16 * s + j) = f j
noncomputable def fsR (I : AI) (f : Int → Int) : Int := lst (lk I f) (I 115 10).toNat 0
theorem l155 (ht : isN k = true) {s : Int} (h2 : 0 ≤ s ∧ s < 100) (P : Prop) : ev 155 35 [some (vr 115), some (vr k), none, some (vi s), some (vi (bI P)), some (vi 0)] [] (hp L b I J) = ev 155 79 [some (vr 115), some (vr k), none, some (vi s), some (vi (bI (P ∧ ∀ j, 0 ≤ j → j < 16 → I 122 (16 * s + j) = I k j))), none] [] (hp L b I J) := by
  obtain ⟨k1, k2, -⟩ := isN_k (L := L) (b := b) ht
  refine lp (lo := 0) (hi := 16) (F := fun i (y : Int) => ev 155 35 [some (vr 115), some (vr k), none, some (vi s), some (vi y), some (vi i)] [] (hp L b I J)) (Q := fun r => r = ev 155 79 [some (vr 115), some (vr k), none, some (vi s), some (vi (bI (P ∧ ∀ j, 0 ≤ j → j < 16 → I 122 (16 * s + j) = I k j))), none] [] (hp L b I J)) (fun i y => y = bI (P ∧ ∀ j, 0 ≤ j → j < i → I 122 (16 * s + j) = I k j)) ?_ ?_ 0 (bI P) (Int.le_refl _) (by decide) (bI_cg ⟨fun h => ⟨h, fun j a b => by omega⟩, fun h => h.1⟩)
  · intro i y g1 g2 v
    by_cases c : P ∧ ∀ j, 0 ≤ j → j < i → I 122 (16 * s + j) = I k j
    · rw [bI_t c] at v
      right
      by_cases c2 : I 122 (16 * s + i) = I k i
      · refine ⟨1, ?_, (bI_t ⟨c.1, fun j a b => ?_⟩).symm⟩
        · try dsimp only
          rw [s155_35 _ _ _ _ k1 k2, v]
          simp (disch := first | assumption | omega) only [↓gd_t, ↓if_pos, ↓if_neg, Option.bind_some, true_or, true_and, gd_t, s155_71]
        · by_cases d : j = i
          · rw [d]; exact c2
          · exact c.2 j a (by omega)
      · refine ⟨0, ?_, (bI_f (fun z => c2 (z.2 i g1 (by omega)))).symm⟩
        try dsimp only
        rw [s155_35 _ _ _ _ k1 k2, v]
        simp (disch := first | assumption | omega) only [↓gd_t, ↓if_pos, ↓if_neg, Option.bind_some, true_or, true_and, gd_t, s155_71]
    · rw [bI_f c] at v
      left
      try dsimp only
      rw [s155_35 _ _ _ _ k1 k2, v, bI_f (fun z => c ⟨z.1, fun j a b => z.2 j a (by omega)⟩)]
      simp (disch := first | assumption | omega) only [↓gd_t, ↓if_pos, ↓if_neg, Option.bind_some, true_or, true_and, gd_t]
  · intro y v
    try dsimp only
    rw [s155_35 _ _ _ _ k1 k2, v]
    simp (disch := first | assumption | omega) only [↓gd_t, ↓if_pos, ↓if_neg, Option.bind_some, true_or, true_and, gd_t]
theorem c155 (hS : SvR I) (ht : isN k = true) : evc 155 [vr 115, vr k] (hp L b I J) = some (vi (fsR I (I k)), hp L b I J) := by
  have h0 := hS.1
  rw [n155, s155_0]
  refine lp (lo := 0) (hi := I 115 10) (F := fun t (y : Int) => ev 155 4 [some (vr 115), some (vr k), some (vi y), some (vi t), none, none] [] (hp L b I J)) (Q := fun r => r = some (vi (fsR I (I k)), hp L b I J)) (fun t y => (y = -1 ∧ fsR I (I k) = lst (lk I (I k)) (I 115 10 - t).toNat t) ∨ (0 ≤ y ∧ y = fsR I (I k))) ?_ ?_ 0 (-1) (Int.le_refl _) h0.1 (Or.inl ⟨rfl, by rw [Int.sub_zero]; rfl⟩)
  · intro t y g1 g2 v
    rcases v with ⟨v1, v2⟩ | ⟨v1, v2⟩
    · right
      obtain ⟨N, hN⟩ : ∃ N : Nat, (I 115 10 - t).toNat = N + 1 := ⟨(I 115 10 - t).toNat - 1, by omega⟩
      rw [hN] at v2
      have e1 : ∀ P : Prop, ev 155 79 [some (vr 115), some (vr k), none, some (vi t), some (vi (bI P)), none] [] (hp L b I J) = ev 155 4 [some (vr 115), some (vr k), some (vi (if bI P = 1 then t else -1)), some (vi (t + 1)), none, none] [] (hp L b I J) := fun P => by
        rw [s155_79]
        by_cases c : P
        · rw [bI_t c]
          simp (disch := first | assumption | omega) only [↓gd_t, ↓if_pos, ↓if_neg, Option.bind_some, true_or, true_and, gd_t, s155_89]
        · rw [bI_f c]
          simp (disch := first | assumption | omega) only [↓gd_t, ↓if_pos, ↓if_neg, Option.bind_some, true_or, true_and, gd_t, s155_89]
      refine ⟨if bI (lk I (I k) t) = 1 then t else -1, ?_, ?_⟩
      · try dsimp only
        rw [s155_4, if_neg (by omega), if_neg (by omega), gd_t (by omega)]
        have a := l155 (L := L) (b := b) (I := I) (J := J) ht (s := t) (by omega) (I 123 t = 0)
        rw [e1] at a
        have a' : bI (I 123 t = 0 ∧ ∀ j, 0 ≤ j → j < 16 → I 122 (16 * t + j) = I k j) = bI (lk I (I k) t) := rfl
        rw [a'] at a
        rw [← a]
        by_cases c1 : I 123 t = 0
        · rw [bI_t c1]
          simp (disch := first | assumption | omega) only [↓gd_t, ↓if_pos, ↓if_neg, Option.bind_some, true_or, true_and, gd_t, s155_30]
        · rw [bI_f c1]
          simp (disch := first | assumption | omega) only [↓gd_t, ↓if_pos, ↓if_neg, Option.bind_some, true_or, true_and, gd_t, s155_30]
      · rw [v2]
        show (_ ∧ (if bI (lk I (I k) t) = 1 then t else lst _ N (t + 1)) = _) ∨ (_ ∧ _ = (if bI (lk I (I k) t) = 1 then t else lst _ N (t + 1)))
        by_cases c : bI (lk I (I k) t) = 1
        · rw [if_pos c, if_pos c]; exact Or.inr ⟨g1, rfl⟩
        · rw [if_neg c, if_neg c, show (I 115 10 - (t + 1)).toNat = N by omega]; exact Or.inl ⟨rfl, rfl⟩
    · left
      try dsimp only
      rw [s155_4, v2]
      rw [v2] at v1
      simp (disch := first | assumption | omega) only [↓gd_t, ↓if_pos, ↓if_neg, Option.bind_some, true_or, true_and, gd_t, s155_96]
  · intro y v
    try dsimp only
    rw [s155_4]
    simp (disch := first | assumption | omega) only [↓gd_t, ↓if_pos, ↓if_neg, Option.bind_some, true_or, true_and, gd_t, s155_96]
    rcases v with ⟨v1, v2⟩ | ⟨v1, v2⟩
    · rw [v2, Int.sub_self, v1]; rfl
    · rw [v2]
theorem fsR_bd (hS : SvR I) {f : Int → Int} : (fsR I f = -1 ∧ ∀ s, 0 ≤ s → s < I 115 10 → ¬ lk I f s) ∨ ((0 ≤ fsR I f ∧ fsR I f < I 115 10) ∧ lk I f (fsR I f)) := by
  have h0 := hS.1
  rcases lst_s (p := lk I f) (I 115 10).toNat 0 with ⟨h1, h2⟩ | ⟨h1, h2, h3⟩
  · exact Or.inl ⟨h1, fun t a b => h2 t a (by omega)⟩
  · exact Or.inr ⟨⟨h1, by unfold fsR; omega⟩, h3⟩
/-- a text in a row is gone -/
def hg (I : AI) (f : Int → Int) (n : Int) : Prop := ∃ j, (0 ≤ j ∧ j < n) ∧ 0 ≤ f j ∧ I 119 (f j) ≠ 0
theorem c156 (ht : isN k = true) (hr : ∀ j, 0 ≤ j → j < 16 → I k j < 120) : evc 156 [vr 115, vr k] (hp L b I J) = some (vi (bI (hg I (I k) 16)), hp L b I J) := by
  obtain ⟨k1, k2, -⟩ := isN_k (L := L) (b := b) ht
  rw [n156, s156_0]
  refine lp (lo := 0) (hi := 16) (F := fun i (y : Int) => ev 156 4 [some (vr 115), some (vr k), some (vi y), some (vi i)] [] (hp L b I J)) (Q := fun r => r = some (vi (bI (hg I (I k) 16)), hp L b I J)) (fun i y => y = bI (hg I (I k) i)) ?_ ?_ 0 0 (Int.le_refl _) (by decide) (by rw [bI_f]; rintro ⟨j, h, -⟩; omega)
  · intro i y g1 g2 v
    right
    have hi := hr i g1 g2
    have up : hg I (I k) (i + 1) ↔ hg I (I k) i ∨ (0 ≤ I k i ∧ I 119 (I k i) ≠ 0) := by
      constructor
      · rintro ⟨j, h1, h2⟩
        by_cases c : j = i
        · rw [c] at h2; exact Or.inr h2
        · exact Or.inl ⟨j, ⟨h1.1, by omega⟩, h2⟩
      · rintro (⟨j, h1, h2⟩ | h)
        · exact ⟨j, ⟨h1.1, by omega⟩, h2⟩
        · exact ⟨i, ⟨g1, by omega⟩, h⟩
    refine ⟨bI (hg I (I k) (i + 1)), ?_, rfl⟩
    try dsimp only
    rw [s156_4 _ _ _ k1 k2, v]
    by_cases c : hg I (I k) i
    · rw [bI_t c, bI_t (up.mpr (Or.inl c))]
      simp (disch := first | assumption | omega) only [↓gd_t, ↓if_pos, ↓if_neg, Option.bind_some, true_or, true_and, gd_t, s156_31, s156_36]
    · rw [bI_f c]
      by_cases c1 : I k i < 0
      · rw [bI_f (fun z => by rcases up.mp z with z | z; exact c z; omega)]
        simp (disch := first | assumption | omega) only [↓gd_t, ↓if_pos, ↓if_neg, Option.bind_some, true_or, true_and, gd_t, s156_35, s156_36]
      · by_cases c2 : I 119 (I k i) = 0
        · rw [bI_f (fun z => by rcases up.mp z with z | z; exact c z; exact z.2 c2)]
          simp (disch := first | assumption | omega) only [↓gd_t, ↓if_pos, ↓if_neg, Option.bind_some, true_or, true_and, gd_t, s156_35, s156_36]
        · rw [bI_t (up.mpr (Or.inr ⟨by omega, c2⟩))]
          simp (disch := first | assumption | omega) only [↓gd_t, ↓if_pos, ↓if_neg, Option.bind_some, true_or, true_and, gd_t, s156_31, s156_36]
  · intro y v
    try dsimp only
    rw [s156_4 _ _ _ k1 k2, v, bI_g]
    simp (disch := first | assumption | omega) only [↓gd_t, ↓if_pos, ↓if_neg, Option.bind_some, true_or, true_and, gd_t]
/-- a row as a shelf: what it comes to -/
theorem c157a (hS : SvR I) (ht : isN k = true) (hr : ∀ j, 0 ≤ j → j < 16 → I k j < 120) (h : hg I (I k) 16 ∨ (¬ hg I (I k) 16 ∧ fsR I (I k) = -1 ∧ I 115 10 = 100)) : evc 157 [vr 115, vr k] (hp L b I J) = some (vi (-2), hp L b I J) := by
  rw [n157, s157_0, c156 ht hr]
  rcases h with h | ⟨h, h1, h2⟩
  · simp (disch := first | assumption | omega) only [↓gd_t, ↓if_pos, ↓if_neg, Option.bind_some, true_or, true_and, gd_t, bI_t h, s157_5]
  · simp (disch := first | assumption | omega) only [↓gd_t, ↓if_pos, ↓if_neg, Option.bind_some, true_or, true_and, gd_t, bI_f h, s157_5]
    rw [c155 hS ht, h1]
    simp (disch := first | assumption | omega) only [↓gd_t, ↓if_pos, ↓if_neg, Option.bind_some, true_or, true_and, gd_t, s157_16]
theorem c157b (hS : SvR I) (ht : isN k = true) (hr : ∀ j, 0 ≤ j → j < 16 → I k j < 120) (h : ¬ hg I (I k) 16) (h1 : 0 ≤ fsR I (I k)) : evc 157 [vr 115, vr k] (hp L b I J) = some (vi (fsR I (I k)), hp L b I J) := by
  rw [n157, s157_0, c156 ht hr]
  simp (disch := first | assumption | omega) only [↓gd_t, ↓if_pos, ↓if_neg, Option.bind_some, true_or, true_and, gd_t, bI_f h, s157_5]
  rw [c155 hS ht]
  simp (disch := first | assumption | omega) only [↓gd_t, ↓if_pos, ↓if_neg, Option.bind_some, true_or, true_and, gd_t, s157_16]
theorem c157c (hS : SvR I) (ht : isN k = true) (hr : ∀ j, 0 ≤ j → j < 16 → I k j < 120) (h : ¬ hg I (I k) 16) (h1 : fsR I (I k) = -1) (h2 : I 115 10 < 100) : (fun r => ∃ I', r = some (vi (I 115 10), hp L b I' J) ∧ Sm [122, 123] [10] I I' ∧ I' 115 10 = I 115 10 + 1 ∧ I' 123 (I 115 10) = 0 ∧ (∀ s, s ≠ I 115 10 → I' 123 s = I 123 s) ∧ ∀ x, I' 122 x = if 16 * I 115 10 ≤ x ∧ x < 16 * I 115 10 + 16 then I k (x - 16 * I 115 10) else I 122 x) (evc 157 [vr 115, vr k] (hp L b I J)) := by
  have h0 := hS.1
  obtain ⟨k1, k2, k3, k4, k5⟩ := isN_k (L := L) (b := b) ht
  have e0 : evc 157 [vr 115, vr k] (hp L b I J) = ev 157 37 [some (vr 115), some (vr k), none, some (vi 0)] [] (hp L b I J) := by
    rw [n157, s157_0, c156 ht hr]
    simp (disch := first | assumption | omega) only [↓gd_t, ↓if_pos, ↓if_neg, Option.bind_some, true_or, true_and, gd_t, bI_f h, s157_5]
    rw [c155 hS ht, h1]
    simp (disch := first | assumption | omega) only [↓gd_t, ↓if_pos, ↓if_neg, Option.bind_some, true_or, true_and, gd_t, s157_16]
  rw [e0]
  refine lp (lo := 0) (hi := 16) (F := fun i (I' : AI) => ev 157 37 [some (vr 115), some (vr k), none, some (vi i)] [] (hp L b I' J)) (Q := fun r => ∃ I', r = some (vi (I 115 10), hp L b I' J) ∧ Sm [122, 123] [10] I I' ∧ I' 115 10 = I 115 10 + 1 ∧ I' 123 (I 115 10) = 0 ∧ (∀ s, s ≠ I 115 10 → I' 123 s = I 123 s) ∧ ∀ x, I' 122 x = if 16 * I 115 10 ≤ x ∧ x < 16 * I 115 10 + 16 then I k (x - 16 * I 115 10) else I 122 x) (fun i I' => Sm [122] [] I I' ∧ ∀ x, I' 122 x = if 16 * I 115 10 ≤ x ∧ x < 16 * I 115 10 + i then I k (x - 16 * I 115 10) else I 122 x) ?_ ?_ 0 I (Int.le_refl _) (by decide) ⟨Sm.rf, fun x => by rw [if_neg (by omega)]⟩
  · intro i I2 g1 g2 ⟨v1, v2⟩
    have e10 : I2 115 10 = I 115 10 := v1.2 10 (by decide)
    have ek : I2 k = I k := v1.1 k (by simp; omega) k3
    right
    refine ⟨upI I2 122 (16 * I 115 10 + i) (I k i), ?_, v1.up (by simp) (by decide), fun x => ?_⟩
    · try dsimp only
      rw [s157_37 _ _ k1 k2, e10, ek]
      simp (disch := first | assumption | omega) only [↓gd_t, ↓if_pos, ↓if_neg, Option.bind_some, true_or, true_and, gd_t]
    · by_cases c : x = 16 * I 115 10 + i
      · rw [c, upI_s, if_pos (by omega), show 16 * I 115 10 + i - 16 * I 115 10 = i by omega]
      · rw [upI_i c, v2]
        by_cases c2 : 16 * I 115 10 ≤ x ∧ x < 16 * I 115 10 + i
        · rw [if_pos c2, if_pos (by omega)]
        · rw [if_neg c2, if_neg (by omega)]
  · intro I2 ⟨v1, v2⟩
    have e10 : I2 115 10 = I 115 10 := v1.2 10 (by decide)
    refine ⟨upI (upI I2 123 (I 115 10) 0) 115 10 (I 115 10 + 1), ?_, ((v1.mono (by simp) (by simp)).up (by simp) (by decide)).fld (by simp), upI_s _ _ _ _, ?_, fun s z => ?_, fun x => ?_⟩
    · try dsimp only
      rw [s157_37 _ _ k1 k2, e10, upI_c (by decide), e10, upI_s]
      simp (disch := first | assumption | omega) only [↓gd_t, ↓if_pos, ↓if_neg, Option.bind_some, true_or, true_and, gd_t]
      rw [show I 115 10 + 1 - 1 = I 115 10 by omega]
    · rw [upI_c (by decide), upI_s]
    · rw [upI_c (by decide), upI_i z, v1.1 123 (by decide) (by decide)]
    · rw [upI_c (by decide), upI_c (by decide)]; exact v2 x
end
