/-! the class: shelves, names -/
def SvC (I : AI) : Prop := 0 ≤ I 20 2 ∧ I 20 2 ≤ 100
def shC (I : AI) (s : Int) : Prop := (0 ≤ s ∧ s < I 20 2) ∧ I 22 s = 0
section
variable {L : Nat} {b : Bool} {I : AI} {J : AJ} {k : Nat}
theorem c131 (x : Int) : evc 131 [vi x] (hp L b I J) = some (vi (bI (0 ≤ x ∧ x < 16)), hp L b I J) := by
  rw [n131, s131_0]
  by_cases c1 : x < 0
  · rw [if_pos c1, s131_14, g0, bI_f (by omega)]
  · rw [if_neg c1]
    by_cases c2 : 16 ≤ x
    · rw [if_pos c2, s131_14, g0, bI_f (by omega)]
    · rw [if_neg c2, g1, bI_t (by omega)]
theorem c42 (h : I 20 2 ≤ 100) (s : Int) : evc 42 [vr 20, vi s] (hp L b I J) = some (vi (bI (shC I s)), hp L b I J) := by
  rw [n42, s42_0]
  by_cases c1 : s < 0
  · rw [if_pos c1, s42_25, g0, bI_f (fun z => by have := z.1; omega)]
  · rw [if_neg c1]
    by_cases c2 : I 20 2 ≤ s
    · rw [if_pos c2, s42_25, g0, bI_f (fun z => by have := z.1; omega)]
    · rw [if_neg c2, gd_t (by omega)]
      by_cases c3 : I 22 s = 0
      · rw [if_neg (fun z => z c3), g1, bI_t ⟨by omega, c3⟩]
      · rw [if_pos c3, s42_25, g0, bI_f (fun z => c3 z.2)]
theorem c43 (h : I 20 2 ≤ 100) {s x : Int} (hs : 0 ≤ s ∧ s < I 20 2) (hx : 0 ≤ x ∧ x < 16) : evc 43 [vr 20, vi s, vi x] (hp L b I J) = some (vi (I 21 (s * 16 + x)), hp L b I J) := by
  rw [n43, s43_0, if_neg (by omega), if_neg (by omega), c131, bI_t hx]
  simp (disch := first | assumption | omega) only [↓gd_t, ↓if_pos, ↓if_neg, Option.bind_some, true_or, true_and, gd_t, s43_16]
def isM (k : Nat) : Bool := [5, 55].contains k
theorem isM_k (ht : isM k = true) : (hk L b)[k]? = some (0, 16) ∧ 0 < k ∧ k ≠ 20 ∧ k ≠ 21 ∧ k ≠ 22 := by
  have := mem_ct ht
  simp at this
  rcases this with h | h <;> subst h
  · exact ⟨hk_at b 4 (0, 16) rfl, by decide⟩
  · exact ⟨hk_at b 54 (0, 16) rfl, by decide⟩
def lkC (I : AI) (f : Int → Int) (s : Int) : Prop := I 22 s = 0 ∧ ∀ j, 0 ≤ j → j < 16 → I 21 (s * 16 + j) = f j
theorem c45 (h : SvC I) (ht : isM k = true) {s : Int} (hs : 0 ≤ s ∧ s < I 20 2) : evc 45 [vr 20, vi s, vr k] (hp L b I J) = some (vi (bI (∀ j, 0 ≤ j → j < 16 → I 21 (s * 16 + j) = I k j)), hp L b I J) := by
  obtain ⟨k1, k2, -⟩ := isM_k (L := L) (b := b) ht
  have h1 := h.2
  rw [n45, s45_0]
  refine lp (lo := 0) (hi := 16) (F := fun i (_ : Unit) => ev 45 2 [some (vr 20), some (vi s), some (vr k), some (vi i)] [] (hp L b I J)) (Q := fun r => r = some (vi (bI (∀ j, 0 ≤ j → j < 16 → I 21 (s * 16 + j) = I k j)), hp L b I J)) (fun i _ => ∀ j, 0 ≤ j → j < i → I 21 (s * 16 + j) = I k j) ?_ ?_ 0 () (Int.le_refl _) (by decide) (fun j a b => by omega)
  · intro i _ g1 g2 v
    by_cases c : I 21 (s * 16 + i) = I k i
    · right
      refine ⟨(), ?_, fun j a b => ?_⟩
      · try dsimp only
        rw [s45_2 _ _ _ k1, if_neg (by omega), if_neg (by omega), c43 h1 hs ⟨g1, g2⟩]
        simp only [Option.bind_some]
        rw [s45_20 _ _ _ _ k1 k2]
        simp (disch := first | assumption | omega) only [↓gd_t, ↓if_pos, ↓if_neg, Option.bind_some, true_or, true_and, gd_t]
      · by_cases d : j = i
        · rw [d]; exact c
        · exact v j a (by omega)
    · left
      try dsimp only
      rw [s45_2 _ _ _ k1, if_neg (by omega), if_neg (by omega), c43 h1 hs ⟨g1, g2⟩]
      simp only [Option.bind_some]
      rw [s45_20 _ _ _ _ k1 k2, bI_f (fun z => c (z i g1 g2))]
      simp (disch := first | assumption | omega) only [↓gd_t, ↓if_pos, ↓if_neg, Option.bind_some, true_or, true_and, gd_t]
  · intro _ v
    try dsimp only
    rw [s45_2 _ _ _ k1, bI_t v]
    simp (disch := first | assumption | omega) only [↓gd_t, ↓if_pos, ↓if_neg, Option.bind_some, true_or, true_and, gd_t, s45_34]
noncomputable def fsC (I : AI) (f : Int → Int) : Int := lst (lkC I f) (I 20 2).toNat 0
theorem c44 (h : SvC I) (ht : isM k = true) : evc 44 [vr 20, vr k] (hp L b I J) = some (vi (fsC I (I k)), hp L b I J) := by
  have h1 := h.1
  have h2 := h.2
  rw [n44, s44_0]
  refine lp (lo := 0) (hi := I 20 2) (F := fun i (_ : Unit) => ev 44 2 [some (vr 20), some (vr k), some (vi i)] [] (hp L b I J)) (Q := fun r => r = some (vi (fsC I (I k)), hp L b I J)) (fun i _ => fsC I (I k) = lst (lkC I (I k)) (I 20 2 - i).toNat i) ?_ ?_ 0 () (Int.le_refl _) h1 (by rw [Int.sub_zero]; rfl)
  · intro i _ g1 g2 v
    obtain ⟨N, hN⟩ : ∃ N : Nat, (I 20 2 - i).toNat = N + 1 := ⟨(I 20 2 - i).toNat - 1, by omega⟩
    rw [hN] at v
    have v : fsC I (I k) = if bI (lkC I (I k) i) = 1 then i else lst (lkC I (I k)) N (i + 1) := v
    by_cases c : lkC I (I k) i
    · left
      try dsimp only
      have c1 := c.1
      rw [s44_2, v, if_pos (bI_t c), if_neg (by omega), gd_t (by omega), if_neg (by omega), c45 h ht ⟨g1, g2⟩, bI_t c.2]
      simp (disch := first | assumption | omega) only [↓gd_t, ↓if_pos, ↓if_neg, Option.bind_some, true_or, true_and, gd_t, s44_25]
    · right
      rw [if_neg (fun z => c (bI_1.mp z))] at v
      refine ⟨(), ?_, by rw [v, show (I 20 2 - (i + 1)).toNat = N by omega]⟩
      try dsimp only
      rw [s44_2]
      by_cases c1 : I 22 i = 0
      · rw [if_neg (by omega), gd_t (by omega), if_neg (by omega), c45 h ht ⟨g1, g2⟩, bI_f (fun z => c ⟨c1, z⟩)]
        simp (disch := first | assumption | omega) only [↓gd_t, ↓if_pos, ↓if_neg, Option.bind_some, true_or, true_and, gd_t, s44_25, s44_30]
      · simp (disch := first | assumption | omega) only [↓gd_t, ↓if_pos, ↓if_neg, Option.bind_some, true_or, true_and, gd_t, s44_30]
  · intro _ v
    try dsimp only
    rw [s44_2, v, Int.sub_self]
    simp (disch := first | assumption | omega) only [↓gd_t, ↓if_pos, ↓if_neg, Option.bind_some, true_or, true_and, gd_t]
    rfl
theorem c46a (h : SvC I) (ht : isM k = true) (h1 : fsC I (I k) = -1) (h2 : I 20 2 = 100) : evc 46 [vr 20, vr k] (hp L b I J) = some (vi (-2), hp L b I J) := by
  rw [n46, s46_0, c44 h ht, h1]
  simp (disch := first | assumption | omega) only [↓gd_t, ↓if_pos, ↓if_neg, Option.bind_some, true_or, true_and, gd_t, s46_5]
theorem c46b (h : SvC I) (ht : isM k = true) (h1 : 0 ≤ fsC I (I k)) : evc 46 [vr 20, vr k] (hp L b I J) = some (vi (fsC I (I k)), hp L b I J) := by
  rw [n46, s46_0, c44 h ht]
  simp (disch := first | assumption | omega) only [↓gd_t, ↓if_pos, ↓if_neg, Option.bind_some, true_or, true_and, gd_t, s46_5]
theorem c46c (h : SvC I) (ht : isM k = true) (h1 : fsC I (I k) = -1) (h2 : I 20 2 < 100) : (fun r => ∃ I', r = some (vi (I 20 2), hp L b I' J) ∧ Same [20, 21] I I' ∧ I' 20 2 = I 20 2 + 1 ∧ ∀ x, I' 21 x = if I 20 2 * 16 ≤ x ∧ x < I 20 2 * 16 + 16 then I k (x - I 20 2 * 16) else I 21 x) (evc 46 [vr 20, vr k] (hp L b I J)) := by
  obtain ⟨k1, k2, k3, k4, k5⟩ := isM_k (L := L) (b := b) ht
  have h3 := h.1
  have e0 : evc 46 [vr 20, vr k] (hp L b I J) = ev 46 42 [some (vr 20), some (vr k), some (vi (I 20 2)), some (vi 0)] [] (hp L b (upI I 20 2 (I 20 2 + 1)) J) := by
    rw [n46, s46_0, c44 h ht, h1]
    simp (disch := first | assumption | omega) only [↓gd_t, ↓if_pos, ↓if_neg, Option.bind_some, true_or, true_and, gd_t, s46_5]
  rw [e0]
  refine lp (lo := 0) (hi := 16) (F := fun i (I' : AI) => ev 46 42 [some (vr 20), some (vr k), some (vi (I 20 2)), some (vi i)] [] (hp L b I' J)) (Q := fun r => ∃ I', r = some (vi (I 20 2), hp L b I' J) ∧ Same [20, 21] I I' ∧ I' 20 2 = I 20 2 + 1 ∧ ∀ x, I' 21 x = if I 20 2 * 16 ≤ x ∧ x < I 20 2 * 16 + 16 then I k (x - I 20 2 * 16) else I 21 x) (fun i I' => Same [20, 21] I I' ∧ I' 20 2 = I 20 2 + 1 ∧ ∀ x, I' 21 x = if I 20 2 * 16 ≤ x ∧ x < I 20 2 * 16 + i then I k (x - I 20 2 * 16) else I 21 x) ?_ ?_ 0 _ (Int.le_refl _) (by decide) ⟨Same.rf.up (by simp), upI_s _ _ _ _, fun x => by rw [upI_c (by decide), if_neg (by omega)]⟩
  · intro i I2 g1 g2 ⟨v1, v2, v3⟩
    have ek : I2 k = I k := v1 k (by simp; omega)
    right
    refine ⟨upI I2 21 (I 20 2 * 16 + i) (I k i), ?_, v1.up (by simp), by rw [upI_c (by decide)]; exact v2, fun x => ?_⟩
    · try dsimp only
      rw [s46_42 _ _ _ k1 k2, ek]
      simp (disch := first | assumption | omega) only [↓gd_t, ↓if_pos, ↓if_neg, Option.bind_some, true_or, true_and, gd_t]
    · by_cases c : x = I 20 2 * 16 + i
      · rw [c, upI_s, if_pos (by omega), show I 20 2 * 16 + i - I 20 2 * 16 = i by omega]
      · rw [upI_i c, v3]
        by_cases c2 : I 20 2 * 16 ≤ x ∧ x < I 20 2 * 16 + i
        · rw [if_pos c2, if_pos (by omega)]
        · rw [if_neg c2, if_neg (by omega)]
  · intro I2 ⟨v1, v2, v3⟩
    refine ⟨I2, ?_, v1, v2, v3⟩
    try dsimp only
    rw [s46_42 _ _ _ k1 k2]
    simp (disch := first | assumption | omega) only [↓gd_t, ↓if_pos, ↓if_neg, Option.bind_some, true_or, true_and, gd_t, s46_74]
theorem c47 (h : SvC I) : evc 47 [vr 20] (hp L b I J) = some (vi (ct (fun s => I 22 s = 0) (I 20 2).toNat), hp L b I J) := by
  have h1 := h.1
  have h2 := h.2
  rw [n47, s47_0]
  refine lp (lo := 0) (hi := I 20 2) (F := fun i (y : Int) => ev 47 4 [some (vr 20), some (vi y), some (vi i)] [] (hp L b I J)) (Q := fun r => r = some (vi (ct (fun s => I 22 s = 0) (I 20 2).toNat), hp L b I J)) (fun i y => y = ct (fun s => I 22 s = 0) i.toNat) ?_ ?_ 0 0 (Int.le_refl _) h1 rfl
  · intro i y g1 g2 v
    right
    have hb := ct_bd (p := fun s => I 22 s = 0) i.toNat
    refine ⟨y + bI (I 22 i = 0), ?_, by rw [v, ct_s g1]⟩
    try dsimp only
    rw [s47_4]
    by_cases c : I 22 i = 0
    · rw [bI_t c]
      simp (disch := first | assumption | omega) only [↓gd_t, ↓if_pos, ↓if_neg, Option.bind_some, true_or, true_and, gd_t, s47_24]
    · rw [bI_f c, Int.add_zero]
      simp (disch := first | assumption | omega) only [↓gd_t, ↓if_pos, ↓if_neg, Option.bind_some, true_or, true_and, gd_t, s47_24]
  · intro y v
    try dsimp only
    rw [s47_4, v]
    simp (disch := first | assumption | omega) only [↓gd_t, ↓if_pos, ↓if_neg, Option.bind_some, true_or, true_and, gd_t]
theorem c132 : evc 132 [vr 5] (hp L b I J) = some (vi (ct (fun j => I 5 j ≠ -1) 16), hp L b I J) := by
  have k1 : (hk L b)[5]? = some (0, 16) := hk_at b 4 (0, 16) rfl
  rw [n132, s132_0]
  refine lp (lo := 0) (hi := 16) (F := fun i (y : Int) => ev 132 4 [some (vr 5), some (vi y), some (vi i)] [] (hp L b I J)) (Q := fun r => r = some (vi (ct (fun j => I 5 j ≠ -1) 16), hp L b I J)) (fun i y => y = ct (fun j => I 5 j ≠ -1) i.toNat) ?_ ?_ 0 0 (Int.le_refl _) (by decide) rfl
  · intro i y g1 g2 v
    right
    have hb := ct_bd (p := fun j => I 5 j ≠ -1) i.toNat
    refine ⟨y + bI (I 5 i ≠ -1), ?_, by rw [v, ct_s g1]⟩
    try dsimp only
    rw [s132_4 _ _ _ k1 (by decide)]
    by_cases c : I 5 i = -1
    · rw [bI_f (fun z => z c), Int.add_zero]
      simp (disch := first | assumption | omega) only [↓gd_t, ↓if_pos, ↓if_neg, Option.bind_some, true_or, true_and, gd_t, s132_26]
    · rw [bI_t c]
      simp (disch := first | assumption | omega) only [↓gd_t, ↓if_pos, ↓if_neg, Option.bind_some, true_or, true_and, gd_t, s132_26]
  · intro y v
    try dsimp only
    rw [s132_4 _ _ _ k1 (by decide), v]
    simp (disch := first | assumption | omega) only [↓gd_t, ↓if_pos, ↓if_neg, Option.bind_some, true_or, true_and, gd_t, s132_32]
    rfl
/-- all texts of a row are there -/
def ath (I : AI) (f : Int → Int) (n : Int) : Prop := ∀ j, 0 ≤ j → j < n → f j = -1 ∨ thC I (f j)
theorem c67 (hT : I 6 9 ≤ 120) (ht : isM k = true) : evc 67 [vr 6, vr k] (hp L b I J) = some (vi (bI (ath I (I k) 16)), hp L b I J) := by
  obtain ⟨k1, k2, -⟩ := isM_k (L := L) (b := b) ht
  rw [n67, s67_0]
  refine lp (lo := 0) (hi := 16) (F := fun i (_ : Unit) => ev 67 2 [some (vr 6), some (vr k), some (vi i)] [] (hp L b I J)) (Q := fun r => r = some (vi (bI (ath I (I k) 16)), hp L b I J)) (fun i _ => ath I (I k) i) ?_ ?_ 0 () (Int.le_refl _) (by decide) (fun j a b => by omega)
  · intro i _ g1 g2 v
    have next : (I k i = -1 ∨ thC I (I k i)) → ath I (I k) (i + 1) := fun h j a b => by
      by_cases d : j = i
      · rw [d]; exact h
      · exact v j a (by omega)
    by_cases c : I k i = -1
    · right
      refine ⟨(), ?_, next (Or.inl c)⟩
      try dsimp only
      rw [s67_2 _ _ k1 k2]
      simp (disch := first | assumption | omega) only [↓gd_t, ↓if_pos, ↓if_neg, Option.bind_some, true_or, true_and, gd_t, s67_27]
    · by_cases c2 : thC I (I k i)
      · right
        refine ⟨(), ?_, next (Or.inr c2)⟩
        try dsimp only
        rw [s67_2 _ _ k1 k2]
        simp (disch := first | assumption | omega) only [↓gd_t, ↓if_pos, ↓if_neg, Option.bind_some, true_or, true_and, gd_t, c65, bI_t c2, s67_22, s67_27]
      · left
        try dsimp only
        rw [s67_2 _ _ k1 k2, bI_f (fun z => by rcases z i g1 g2 with z | z; exact c z; exact c2 z)]
        simp (disch := first | assumption | omega) only [↓gd_t, ↓if_pos, ↓if_neg, Option.bind_some, true_or, true_and, gd_t, c65, bI_f c2, s67_22]
  · intro _ v
    try dsimp only
    rw [s67_2 _ _ k1 k2, bI_t v]
    simp (disch := first | assumption | omega) only [↓gd_t, ↓if_pos, ↓if_neg, Option.bind_some, true_or, true_and, gd_t]
end
