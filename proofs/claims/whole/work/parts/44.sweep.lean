/-! the class: survey, sweep; the reference's sweep -/
section
variable {L : Nat} {b : Bool} {I G : AI} {J : AJ} {k : Nat}
theorem rs_shelf (hH : RH I G) {s : Int} (h : rsG G s) : G 123 (G 125 s) = 0 := by
  obtain ⟨x, a, c, d⟩ := h
  exact (hH x a.1 a.2).2.2 c s d
/-- a shelf is reached: it and its texts -/
theorem c33R (hT : RT I G) (hS : RS I G) {x : Int} (hx : 0 ≤ x ∧ x < G 115 10) (hg : G 123 x = 0) {I1 : AI} (h1 : Same [112, 113] I I1) (hb : I1 112 x = 0 ∨ I1 112 x = 1) : ∃ I', evc 33 [vr 110, vi x] (hp L b I1 J) = some (vi 0, hp L b I' J) ∧ Same [112, 113] I I' ∧ (∀ y, I' 112 y = if y = x then 1 else I1 112 y) ∧ ∀ t, I' 113 t = if I1 112 x = 0 ∧ bI (∃ j, (0 ≤ j ∧ j < 16) ∧ 0 ≤ G 122 (16 * x + j) ∧ G 122 (16 * x + j) = t) = 1 then 1 else I1 113 t := by
  have s0 := hS.1.1
  have t0 := hT.1.1
  have hS1 : RS I1 G := hS.cg (fun c z => h1 c (by revert c; decide)) (fun _ _ => rfl) rfl rfl
  have st : evc 33 [vr 110, vi x] (hp L b I1 J) = ev 33 8 [some (vr 110), some (vi x), none, none] [vi 1] (hp L b I1 J) := by
    rw [n33, s33_0, c42R hS1, bI_t (show shR G x from ⟨hx, hg⟩)]
    simp only [Option.bind_some]
  rw [st]
  by_cases c : I1 112 x = 0
  · have st2 : ev 33 8 [some (vr 110), some (vi x), none, none] [vi 1] (hp L b I1 J) = ev 33 30 [some (vr 110), some (vi x), some (vi 0), none] [] (hp L b (upI I1 112 x 1) J) := by
      rw [s33_8]
      simp (disch := first | assumption | omega) only [↓gd_t, ↓if_pos, ↓if_neg, Option.bind_some, true_or, true_and, gd_t]
    rw [st2]
    refine lp (lo := 0) (hi := 16) (F := fun i (X : AI) => ev 33 30 [some (vr 110), some (vi x), some (vi i), none] [] (hp L b X J)) (Q := fun r => ∃ I', r = some (vi 0, hp L b I' J) ∧ Same [112, 113] I I' ∧ (∀ y, I' 112 y = if y = x then 1 else I1 112 y) ∧ ∀ t, I' 113 t = if I1 112 x = 0 ∧ bI (∃ j, (0 ≤ j ∧ j < 16) ∧ 0 ≤ G 122 (16 * x + j) ∧ G 122 (16 * x + j) = t) = 1 then 1 else I1 113 t) (fun i X => Same [112, 113] I X ∧ (∀ y, X 112 y = if y = x then 1 else I1 112 y) ∧ ∀ t, X 113 t = if bI (∃ j, (0 ≤ j ∧ j < i) ∧ 0 ≤ G 122 (16 * x + j) ∧ G 122 (16 * x + j) = t) = 1 then 1 else I1 113 t) ?_ ?_ 0 _ (Int.le_refl _) (by decide) ⟨h1.up (by simp), fun y => ?_, fun t => ?_⟩
    · intro i X g1 g2 ⟨v1, v2, v3⟩
      right
      have hSX : RS X G := hS.cg (fun c z => v1 c (by revert c; decide)) (fun _ _ => rfl) rfl rfl
      have hTX : RT X G := hT.cg (fun c z => v1 c (by revert c; decide)) (fun _ _ => rfl) rfl
      have r := ((hS.2.2.1 x hx.1 hx.2).2 i g1 g2).2.1
      have up : ∀ t, (∃ j, (0 ≤ j ∧ j < i + 1) ∧ 0 ≤ G 122 (16 * x + j) ∧ G 122 (16 * x + j) = t) ↔ (∃ j, (0 ≤ j ∧ j < i) ∧ 0 ≤ G 122 (16 * x + j) ∧ G 122 (16 * x + j) = t) ∨ (0 ≤ G 122 (16 * x + i) ∧ G 122 (16 * x + i) = t) := fun t => by
        constructor
        · rintro ⟨j, z1, z2⟩
          by_cases d : j = i
          · rw [d] at z2; exact Or.inr z2
          · exact Or.inl ⟨j, ⟨z1.1, by omega⟩, z2⟩
        · rintro (⟨j, z1, z2⟩ | z)
          · exact ⟨j, ⟨z1.1, by omega⟩, z2⟩
          · exact ⟨i, ⟨g1, by omega⟩, z⟩
      have st3 : ev 33 30 [some (vr 110), some (vi x), some (vi i), none] [] (hp L b X J) = ev 33 54 [some (vr 110), some (vi x), some (vi i), some (vi (G 122 (16 * x + i)))] [vi (bI (0 ≤ G 122 (16 * x + i) ∧ G 122 (16 * x + i) < G 115 5))] (hp L b X J) := by
        rw [s33_30, if_neg (by omega), c43R hSX hx ⟨g1, g2⟩]
        simp only [Option.bind_some]
        rw [s33_45, c64R hTX]
        simp only [Option.bind_some]
      by_cases d : 0 ≤ G 122 (16 * x + i)
      · refine ⟨upI X 113 (G 122 (16 * x + i)) 1, ?_, v1.up (by simp), fun y => by rw [upI_c (by decide)]; exact v2 y, fun t => ?_⟩
        · try dsimp only
          rw [st3, bI_t ⟨d, r.2⟩, s33_54]
          simp (disch := first | assumption | omega) only [↓gd_t, ↓if_pos, ↓if_neg, Option.bind_some, true_or, true_and, gd_t, s33_64]
        · by_cases e : t = G 122 (16 * x + i)
          · rw [e, upI_s, if_pos (bI_t ((up _).mpr (Or.inr ⟨d, rfl⟩)))]
          · rw [upI_i e, v3, bI_cg (show (∃ j, (0 ≤ j ∧ j < i) ∧ 0 ≤ G 122 (16 * x + j) ∧ G 122 (16 * x + j) = t) ↔ (∃ j, (0 ≤ j ∧ j < i + 1) ∧ 0 ≤ G 122 (16 * x + j) ∧ G 122 (16 * x + j) = t) from ⟨fun z => (up t).mpr (Or.inl z), fun z => by rcases (up t).mp z with z | z; exact z; exact absurd z.2.symm e⟩)]
      · refine ⟨X, ?_, v1, v2, fun t => ?_⟩
        · try dsimp only
          rw [st3, bI_f (fun z => d z.1), s33_54]
          simp (disch := first | assumption | omega) only [↓gd_t, ↓if_pos, ↓if_neg, Option.bind_some, true_or, true_and, gd_t, s33_64]
        · rw [v3, bI_cg (show (∃ j, (0 ≤ j ∧ j < i) ∧ 0 ≤ G 122 (16 * x + j) ∧ G 122 (16 * x + j) = t) ↔ (∃ j, (0 ≤ j ∧ j < i + 1) ∧ 0 ≤ G 122 (16 * x + j) ∧ G 122 (16 * x + j) = t) from ⟨fun z => (up t).mpr (Or.inl z), fun z => by rcases (up t).mp z with z | z; exact z; exact absurd z.1 d⟩)]
    · intro X ⟨v1, v2, v3⟩
      refine ⟨X, ?_, v1, v2, fun t => ?_⟩
      · try dsimp only
        rw [s33_30]
        simp (disch := first | assumption | omega) only [↓gd_t, ↓if_pos, ↓if_neg, Option.bind_some, true_or, true_and, gd_t]
      · rw [v3]
        by_cases d : bI (∃ j, (0 ≤ j ∧ j < 16) ∧ 0 ≤ G 122 (16 * x + j) ∧ G 122 (16 * x + j) = t) = 1
        · rw [if_pos d, if_pos ⟨c, d⟩]
        · rw [if_neg d, if_neg (fun z => d z.2)]
    · by_cases d : y = x
      · rw [d, upI_s, if_pos rfl]
      · rw [upI_i d, if_neg d]
    · rw [upI_c (by decide), if_neg]; rw [bI_1]; rintro ⟨j, z, -⟩; omega
  · refine ⟨I1, ?_, h1, fun y => ?_, fun t => by rw [if_neg (fun z => c z.1)]⟩
    · rw [s33_8]
      simp (disch := first | assumption | omega) only [↓gd_t, ↓if_pos, ↓if_neg, Option.bind_some, true_or, true_and, gd_t]
    · by_cases d : y = x
      · rw [if_pos d, d]; rcases hb with z | z; exact absurd z c; exact z
      · rw [if_neg d]
/-- a text in a shelf of a step that is reached -/
def dxG (G : AI) (n t : Int) : Prop := ∃ s j, (0 ≤ s ∧ s < n) ∧ rsG G s ∧ (0 ≤ j ∧ j < 16) ∧ 0 ≤ G 122 (16 * G 125 s + j) ∧ G 122 (16 * G 125 s + j) = t
theorem dx_tx {G : AI} {t : Int} (h : dxG G (G 115 16) t) : txG G t := by
  obtain ⟨s, j, a, c, d, e, f⟩ := h
  exact ⟨s, j, a, c, d, e, by rw [f]; exact An.rf⟩
theorem tx_th (hT : RT I G) (hS : RS I G) (hP : RP I J G) (hH : RH I G) {t : Int} (h : txG G t) : (0 ≤ t ∧ t < G 115 5) ∧ G 119 t = 0 := by
  obtain ⟨s, j, a, c, d, e, f⟩ := h
  have r := (hP.2.2.1 s a.1 a.2).2.1
  have q := (hS.2.2.1 _ r.1 r.2).2 j d.1 d.2
  refine f (fun t => (0 ≤ t ∧ t < G 115 5) ∧ G 119 t = 0) ⟨⟨e, q.2.1.2⟩, q.2.2 (rs_shelf hH c) e⟩ (fun u z y => ?_) (fun u z y => absurd (show (0 : Int) ≤ -1 from y) (by decide))
  have w := hT.2.2 u z.1.1 z.1.2
  have v := hT.1.2.1 u z.1.1 z.1.2
  exact ⟨⟨y, by omega⟩, w.2.2.2.2.1 z.2 y⟩
theorem c32R (hT : RT I G) (hS : RS I G) (hP : RP I J G) (hH : RH I G) : (fun r => ∃ I' J', r = some (vi 0, hp L b I' J') ∧ Same [112, 113] I I' ∧ (∀ c, c ≠ 111 → J' c = J c) ∧ (∀ x, 0 ≤ x → x < G 115 10 → I' 112 x = bI (sxG G x)) ∧ ∀ t, 0 ≤ t → t < G 115 5 → I' 113 t = bI (txG G t)) (evc 32 [vr 110] (hp L b I J)) := by
  have s0 := hS.1.1
  have t0 := hT.1.1
  have p0 := hP.1.1
  have e6 := hT.2.1
  have e20 := hS.2.1
  have e23 := hP.2.1
  obtain ⟨J1, q1, q2, q3⟩ := c49 (L := L) (b := b) (I := I) (J := J) (k := 111) (by decide)
  have e0 : evc 32 [vr 110] (hp L b I J) = ev 32 9 [some (vr 110), some (vi 0)] [] (hp L b I J1) := by
    rw [n32]
    simp (disch := first | assumption | omega) only [↓gd_t, ↓if_pos, ↓if_neg, Option.bind_some, true_or, true_and, gd_t, s32_0, q1, s32_7]
  rw [e0]
  have A : (fun r => ∃ J', r = ev 32 43 [some (vr 110), some (vi 0)] [] (hp L b I J') ∧ (∀ c, c ≠ 111 → J' c = J c) ∧ ∀ s, sb J' 111 s ↔ rsG G s) (ev 32 9 [some (vr 110), some (vi 0)] [] (hp L b I J1)) := by
    refine lp (lo := 0) (hi := 8) (F := fun i (X : AJ) => ev 32 9 [some (vr 110), some (vi i)] [] (hp L b I X)) (Q := fun r => ∃ J', r = ev 32 43 [some (vr 110), some (vi 0)] [] (hp L b I J') ∧ (∀ c, c ≠ 111 → J' c = J c) ∧ ∀ s, sb J' 111 s ↔ rsG G s) (fun i X => (∀ c, c ≠ 111 → X c = J c) ∧ ∀ s, sb X 111 s ↔ ∃ h, (0 ≤ h ∧ h < i) ∧ 0 ≤ G 129 h ∧ anR G (G 129 h) s) ?_ ?_ 0 J1 (Int.le_refl _) (by decide) ⟨q2, fun s => ⟨fun z => absurd z (q3 s), fun ⟨h, z, _⟩ => by omega⟩⟩
    · intro i X g1 g2 ⟨v1, v2⟩
      right
      have hh := hH i g1 g2
      obtain ⟨Y, w1, w2, w3⟩ := c57 (L := L) (b := b) (I := I) (J := X) (k := 111) (by decide) (RP_n hP).2 (I 30 i)
      refine ⟨Y, ?_, fun c hc => by rw [w2 c hc, v1 c hc], fun s => ?_⟩
      · try dsimp only
        rw [s32_9]
        simp (disch := first | assumption | omega) only [↓gd_t, ↓if_pos, ↓if_neg, Option.bind_some, true_or, true_and, gd_t, w1, s32_35]
      · rw [w3, v2, ab_cg (v1 28 (by decide)) (v1 29 (by decide)), hh.1, e23]
        constructor
        · rintro (⟨h, z1, z2⟩ | ⟨z1, z2⟩)
          · exact ⟨h, ⟨z1.1, by omega⟩, z2⟩
          · exact ⟨i, ⟨g1, by omega⟩, z1.1, ((hP.2.2.1 _ z1.1 z1.2).2.2.2.2.2.2 s).mp z2⟩
        · rintro ⟨h, z1, z2, z3⟩
          by_cases e : h = i
          · rw [e] at z2 z3
            exact Or.inr ⟨⟨z2, hh.2.1.2⟩, ((hP.2.2.1 _ z2 hh.2.1.2).2.2.2.2.2.2 s).mpr z3⟩
          · exact Or.inl ⟨h, ⟨z1.1, by omega⟩, z2, z3⟩
    · intro X ⟨v1, v2⟩
      refine ⟨X, ?_, v1, v2⟩
      try dsimp only
      rw [s32_9]
      simp (disch := first | assumption | omega) only [↓gd_t, ↓if_pos, ↓if_neg, Option.bind_some, true_or, true_and, gd_t]
  obtain ⟨J2, a1, a2, a3⟩ := A
  rw [a1]
  have B : (fun r => ∃ I', r = ev 32 69 [some (vr 110), some (vi 0)] [] (hp L b I' J2) ∧ Same [112] I I' ∧ ∀ x, 0 ≤ x → x < G 115 10 → I' 112 x = 0) (ev 32 43 [some (vr 110), some (vi 0)] [] (hp L b I J2)) := by
    refine lp (lo := 0) (hi := G 115 10) (F := fun i (X : AI) => ev 32 43 [some (vr 110), some (vi i)] [] (hp L b X J2)) (Q := fun r => ∃ I', r = ev 32 69 [some (vr 110), some (vi 0)] [] (hp L b I' J2) ∧ Same [112] I I' ∧ ∀ x, 0 ≤ x → x < G 115 10 → I' 112 x = 0) (fun i X => Same [112] I X ∧ ∀ x, 0 ≤ x → x < i → X 112 x = 0) ?_ ?_ 0 I (Int.le_refl _) s0.1 ⟨Same.rf, fun x a c => by omega⟩
    · intro i X g1 g2 ⟨v1, v2⟩
      right
      refine ⟨upI X 112 i 0, ?_, v1.up (by simp), fun x a c => ?_⟩
      · try dsimp only
        rw [s32_43, v1 20 (by decide), e20]
        simp (disch := first | assumption | omega) only [↓gd_t, ↓if_pos, ↓if_neg, Option.bind_some, true_or, true_and, gd_t]
      · by_cases d : x = i
        · rw [d, upI_s]
        · rw [upI_i d]; exact v2 x a (by omega)
    · intro X ⟨v1, v2⟩
      refine ⟨X, ?_, v1, v2⟩
      try dsimp only
      rw [s32_43, v1 20 (by decide), e20]
      simp (disch := first | assumption | omega) only [↓gd_t, ↓if_pos, ↓if_neg, Option.bind_some, true_or, true_and, gd_t]
  obtain ⟨I2, b1, b2, b3⟩ := B
  rw [b1]
  have C : (fun r => ∃ I', r = ev 32 95 [some (vr 110), some (vi 0)] [] (hp L b I' J2) ∧ Same [112, 113] I I' ∧ I' 112 = I2 112 ∧ ∀ x, 0 ≤ x → x < G 115 5 → I' 113 x = 0) (ev 32 69 [some (vr 110), some (vi 0)] [] (hp L b I2 J2)) := by
    refine lp (lo := 0) (hi := G 115 5) (F := fun i (X : AI) => ev 32 69 [some (vr 110), some (vi i)] [] (hp L b X J2)) (Q := fun r => ∃ I', r = ev 32 95 [some (vr 110), some (vi 0)] [] (hp L b I' J2) ∧ Same [112, 113] I I' ∧ I' 112 = I2 112 ∧ ∀ x, 0 ≤ x → x < G 115 5 → I' 113 x = 0) (fun i X => Same [112, 113] I X ∧ X 112 = I2 112 ∧ ∀ x, 0 ≤ x → x < i → X 113 x = 0) ?_ ?_ 0 I2 (Int.le_refl _) t0.1 ⟨b2.mono (by simp), rfl, fun x a c => by omega⟩
    · intro i X g1 g2 ⟨v1, v2, v3⟩
      right
      refine ⟨upI X 113 i 0, ?_, v1.up (by simp), by rw [upI_c (by decide)]; exact v2, fun x a c => ?_⟩
      · try dsimp only
        rw [s32_69, v1 6 (by decide), e6]
        simp (disch := first | assumption | omega) only [↓gd_t, ↓if_pos, ↓if_neg, Option.bind_some, true_or, true_and, gd_t]
      · by_cases d : x = i
        · rw [d, upI_s]
        · rw [upI_i d]; exact v3 x a (by omega)
    · intro X ⟨v1, v2, v3⟩
      refine ⟨X, ?_, v1, v2, v3⟩
      try dsimp only
      rw [s32_69, v1 6 (by decide), e6]
      simp (disch := first | assumption | omega) only [↓gd_t, ↓if_pos, ↓if_neg, Option.bind_some, true_or, true_and, gd_t]
  obtain ⟨I3, c1, c2, c3, c4⟩ := C
  rw [c1]
  have D : (fun r => ∃ I', r = ev 32 146 [some (vr 110), some (vi (G 115 5 - 1))] [] (hp L b I' J2) ∧ Same [112, 113] I I' ∧ (∀ x, 0 ≤ x → x < G 115 10 → I' 112 x = bI (sxG G x)) ∧ ∀ t, 0 ≤ t → t < G 115 5 → I' 113 t = bI (dxG G (G 115 16) t)) (ev 32 95 [some (vr 110), some (vi 0)] [] (hp L b I3 J2)) := by
    refine lp (lo := 0) (hi := G 115 16) (F := fun i (X : AI) => ev 32 95 [some (vr 110), some (vi i)] [] (hp L b X J2)) (Q := fun r => ∃ I', r = ev 32 146 [some (vr 110), some (vi (G 115 5 - 1))] [] (hp L b I' J2) ∧ Same [112, 113] I I' ∧ (∀ x, 0 ≤ x → x < G 115 10 → I' 112 x = bI (sxG G x)) ∧ ∀ t, 0 ≤ t → t < G 115 5 → I' 113 t = bI (dxG G (G 115 16) t)) (fun i X => Same [112, 113] I X ∧ (∀ x, 0 ≤ x → x < G 115 10 → X 112 x = bI (∃ s, (0 ≤ s ∧ s < i) ∧ rsG G s ∧ G 125 s = x)) ∧ ∀ t, 0 ≤ t → t < G 115 5 → X 113 t = bI (dxG G i t)) ?_ ?_ 0 I3 (Int.le_refl _) p0.1 ⟨c2, fun x a c => by rw [c3, b3 x a c, bI_f]; rintro ⟨s, z, -⟩; omega, fun t a c => by rw [c4 t a c, bI_f]; rintro ⟨s, j, z, -⟩; omega⟩
    · intro i X g1 g2 ⟨v1, v2, v3⟩
      right
      have r := hP.2.2.1 i g1 g2
      have st : ev 32 95 [some (vr 110), some (vi i)] [] (hp L b X J2) = ev 32 114 [some (vr 110), some (vi i)] [vi (bI (rsG G i))] (hp L b X J2) := by
        rw [s32_95, v1 23 (by decide), e23, if_neg (by omega), c50 (by decide)]
        simp only [Option.bind_some]
        rw [bI_cg (show i < 80 ∧ sb J2 111 i ↔ rsG G i from ⟨fun z => (a3 i).mp z.2, fun z => ⟨by omega, (a3 i).mpr z⟩⟩)]
      by_cases c : rsG G i
      · have cx := v2 (G 125 i) r.2.1.1 r.2.1.2
        obtain ⟨Y, w1, w2, w3, w4⟩ := c33R (L := L) (b := b) (J := J2) hT hS r.2.1 (rs_shelf hH c) v1 (by rw [cx]; exact bI_o _)
        refine ⟨Y, ?_, w2, fun x a d => ?_, fun t a d => ?_⟩
        · try dsimp only
          rw [st, bI_t c, s32_114, v1 24 (by decide), r.1]
          simp (disch := first | assumption | omega) only [↓gd_t, ↓if_pos, ↓if_neg, Option.bind_some, true_or, true_and, gd_t, w1, s32_130]
        · rw [w3]
          by_cases e : x = G 125 i
          · rw [if_pos e, bI_t ⟨i, ⟨g1, by omega⟩, c, e.symm⟩]
          · rw [if_neg e, v2 x a d]
            refine bI_cg ⟨fun ⟨s, z1, z2⟩ => ⟨s, ⟨z1.1, by omega⟩, z2⟩, fun ⟨s, z1, z2, z3⟩ => ⟨s, ⟨z1.1, ?_⟩, z2, z3⟩⟩
            by_cases y : s = i
            · rw [y] at z3; exact absurd z3.symm e
            · omega
        · rw [w4, v3 t a d, cx]
          have up : dxG G (i + 1) t ↔ dxG G i t ∨ ∃ j, (0 ≤ j ∧ j < 16) ∧ 0 ≤ G 122 (16 * G 125 i + j) ∧ G 122 (16 * G 125 i + j) = t := by
            constructor
            · rintro ⟨s, j, z1, z2, z3, z4⟩
              by_cases y : s = i
              · rw [y] at z4; exact Or.inr ⟨j, z3, z4⟩
              · exact Or.inl ⟨s, j, ⟨z1.1, by omega⟩, z2, z3, z4⟩
            · rintro (⟨s, j, z1, z2⟩ | ⟨j, z1, z2⟩)
              · exact ⟨s, j, ⟨z1.1, by omega⟩, z2⟩
              · exact ⟨i, j, ⟨g1, by omega⟩, c, z1, z2⟩
          rw [bI_cg up]
          by_cases e : ∃ j, (0 ≤ j ∧ j < 16) ∧ 0 ≤ G 122 (16 * G 125 i + j) ∧ G 122 (16 * G 125 i + j) = t
          · rw [bI_t (Or.inr e)]
            by_cases y : ∃ s, (0 ≤ s ∧ s < i) ∧ rsG G s ∧ G 125 s = G 125 i
            · rw [if_neg (fun z => by rw [bI_t y] at z; omega)]
              refine bI_t ?_
              obtain ⟨s, y1, y2, y3⟩ := y
              obtain ⟨j, z1, z2⟩ := e
              exact ⟨s, j, y1, y2, z1, by rw [y3]; exact z2⟩
            · rw [if_pos ⟨bI_f y, bI_t e⟩]
          · rw [if_neg (fun z => e (bI_1.mp z.2))]
            exact bI_cg ⟨Or.inl, fun z => by rcases z with z | z; exact z; exact absurd z e⟩
      · refine ⟨X, ?_, v1, fun x a d => ?_, fun t a d => ?_⟩
        · try dsimp only
          rw [st, bI_f c, s32_114]
          simp (disch := first | assumption | omega) only [↓gd_t, ↓if_pos, ↓if_neg, Option.bind_some, true_or, true_and, gd_t, s32_130]
        · rw [v2 x a d]
          refine bI_cg ⟨fun ⟨s, z1, z2⟩ => ⟨s, ⟨z1.1, by omega⟩, z2⟩, fun ⟨s, z1, z2, z3⟩ => ⟨s, ⟨z1.1, ?_⟩, z2, z3⟩⟩
          by_cases y : s = i
          · rw [y] at z2; exact absurd z2 c
          · omega
        · rw [v3 t a d]
          refine bI_cg ⟨fun ⟨s, j, z1, z2⟩ => ⟨s, j, ⟨z1.1, by omega⟩, z2⟩, fun ⟨s, j, z1, z2, z3⟩ => ⟨s, j, ⟨z1.1, ?_⟩, z2, z3⟩⟩
          by_cases y : s = i
          · rw [y] at z2; exact absurd z2 c
          · omega
    · intro X ⟨v1, v2, v3⟩
      refine ⟨X, ?_, v1, v2, v3⟩
      try dsimp only
      rw [s32_95, v1 23 (by decide), e23, v1 6 (by decide), e6]
      simp (disch := first | assumption | omega) only [↓gd_t, ↓if_pos, ↓if_neg, Option.bind_some, true_or, true_and, gd_t]
  obtain ⟨I4, d1, d2, d3, d4⟩ := D
  rw [d1]
  refine lpd (lo := -1) (hi := G 115 5 - 1) (F := fun i (X : AI) => ev 32 146 [some (vr 110), some (vi i)] [] (hp L b X J2)) (Q := fun r => ∃ I' J', r = some (vi 0, hp L b I' J') ∧ Same [112, 113] I I' ∧ (∀ c, c ≠ 111 → J' c = J c) ∧ (∀ x, 0 ≤ x → x < G 115 10 → I' 112 x = bI (sxG G x)) ∧ ∀ t, 0 ≤ t → t < G 115 5 → I' 113 t = bI (txG G t)) (fun i X => Same [112, 113] I X ∧ X 112 = I4 112 ∧ (∀ t, 0 ≤ t → t < G 115 5 → X 113 t = 0 ∨ X 113 t = 1) ∧ (∀ t, 0 ≤ t → t < G 115 5 → X 113 t = 1 → txG G t) ∧ (∀ t, 0 ≤ t → t < G 115 5 → dxG G (G 115 16) t → X 113 t = 1) ∧ ∀ t, i < t → 0 ≤ t → t < G 115 5 → X 113 t = 1 → 0 ≤ G 120 t → X 113 (G 120 t) = 1) ?_ ?_ (G 115 5 - 1) I4 (by omega) (Int.le_refl _) ⟨d2, rfl, fun t a c => by rw [d4 t a c]; exact bI_o _, fun t a c z => by rw [d4 t a c] at z; exact dx_tx (bI_1.mp z), fun t a c z => by rw [d4 t a c]; exact bI_t z, fun t a c d => by omega⟩
  · intro i X g1 g2 ⟨v1, v2, v3, v4, v5, v6⟩
    right
    have r := hT.2.2 i (by omega) (by omega)
    have w := hT.1.2.1 i (by omega) (by omega)
    have hTX : RT X G := hT.cg (fun c z => v1 c (by revert c; decide)) (fun _ _ => rfl) rfl
    by_cases c : X 113 i = 0
    · refine ⟨X, ?_, v1, v2, v3, v4, v5, fun t a d e f g => ?_⟩
      · try dsimp only
        rw [s32_146]
        simp (disch := first | assumption | omega) only [↓gd_t, ↓if_pos, ↓if_neg, Option.bind_some, true_or, true_and, gd_t, s32_193]
      · by_cases y : t = i
        · rw [y] at f; omega
        · exact v6 t (by omega) d e f g
    · have c1 : X 113 i = 1 := by rcases v3 i (by omega) (by omega) with z | z; exact absurd z c; exact z
      have tx := v4 i (by omega) (by omega) c1
      have e10 : X 10 i = G 120 i := by rw [v1 10 (by decide), r.2.2.2.1, (tx_th hT hS hP hH tx).2]; rfl
      have st : ev 32 146 [some (vr 110), some (vi i)] [] (hp L b X J2) = ev 32 175 [some (vr 110), some (vi i)] [vi (bI (0 ≤ G 120 i ∧ G 120 i < G 115 5))] (hp L b X J2) := by
        rw [s32_146, e10]
        simp (disch := first | assumption | omega) only [↓gd_t, ↓if_pos, ↓if_neg, Option.bind_some, true_or, true_and, gd_t, c64R hTX]
      by_cases d : 0 ≤ G 120 i
      · refine ⟨upI X 113 (G 120 i) 1, ?_, v1.up (by simp), by rw [upI_c (by decide)]; exact v2, fun t a e => ?_, fun t a e f => ?_, fun t a e f => ?_, fun t a e f g h => ?_⟩
        · try dsimp only
          rw [st, bI_t ⟨d, by omega⟩, s32_175, e10]
          simp (disch := first | assumption | omega) only [↓gd_t, ↓if_pos, ↓if_neg, Option.bind_some, true_or, true_and, gd_t, s32_193]
        · by_cases y : t = G 120 i
          · rw [y, upI_s]; exact Or.inr rfl
          · rw [upI_i y]; exact v3 t a e
        · by_cases y : t = G 120 i
          · rw [y]; exact txG_st tx d
          · rw [upI_i y] at f; exact v4 t a e f
        · by_cases y : t = G 120 i
          · rw [y, upI_s]
          · rw [upI_i y]; exact v5 t a e f
        · by_cases y : G 120 t = G 120 i
          · rw [y, upI_s]
          · rw [upI_i y]
            rw [upI_i (by omega)] at g
            by_cases x : t = i
            · rw [x] at y; exact absurd rfl y
            · exact v6 t (by omega) e f g h
      · refine ⟨X, ?_, v1, v2, v3, v4, v5, fun t a e f g h => ?_⟩
        · try dsimp only
          rw [st, bI_f (fun z => d z.1), s32_175]
          simp (disch := first | assumption | omega) only [↓gd_t, ↓if_pos, ↓if_neg, Option.bind_some, true_or, true_and, gd_t, s32_193]
        · by_cases x : t = i
          · rw [x] at h; omega
          · exact v6 t (by omega) e f g h
  · intro X ⟨v1, v2, v3, v4, v5, v6⟩
    refine ⟨X, J2, ?_, v1, a2, fun x a c => by rw [v2]; exact d3 x a c, fun t a c => ?_⟩
    · try dsimp only
      rw [s32_146]
      simp (disch := first | assumption | omega) only [↓gd_t, ↓if_pos, ↓if_neg, Option.bind_some, true_or, true_and, gd_t]
    · have key : txG G t → X 113 t = 1 := by
        rintro ⟨s, j, z1, z2, z3, z4, z5⟩
        have q := (hS.2.2.1 _ ((hP.2.2.1 s z1.1 z1.2).2.1.1) ((hP.2.2.1 s z1.1 z1.2).2.1.2)).2 j z3.1 z3.2
        refine (z5 (fun t => (0 ≤ t ∧ t < G 115 5) ∧ X 113 t = 1) ⟨⟨z4, q.2.1.2⟩, v5 _ z4 q.2.1.2 ⟨s, j, z1, z2, z3, z4, rfl⟩⟩ (fun u y1 y2 => ?_) (fun u y1 y2 => absurd (show (0 : Int) ≤ -1 from y2) (by decide))).2
        have w := hT.1.2.1 u y1.1.1 y1.1.2
        exact ⟨⟨y2, by omega⟩, v6 u (by omega) y1.1.1 y1.1.2 y1.2 y2⟩
      by_cases d : txG G t
      · rw [bI_t d]; exact key d
      · rw [bI_f d]
        rcases v3 t a c with z | z
        · exact z
        · exact absurd (v4 t a c z) d
theorem c34R (hT : RT I G) (hS : RS I G) (hP : RP I J G) (hH : RH I G) : ∃ I' J', evc 34 [vr 110] (hp L b I J) = some (vi (ct (txG G) (G 115 5).toNat), hp L b I' J') ∧ Same [112, 113] I I' ∧ (∀ c, c ≠ 111 → J' c = J c) := by
  have t0 := hT.1.1
  obtain ⟨I1, J1, q1, q2, q3, q4, q5⟩ := c32R (L := L) (b := b) hT hS hP hH
  have e6 : I1 6 9 = G 115 5 := by rw [q2 6 (by decide)]; exact hT.2.1
  refine ⟨I1, J1, ?_, q2, q3⟩
  rw [n34, s34_0, q1]
  simp only [Option.bind_some]
  rw [s34_4]
  refine lp (lo := 0) (hi := G 115 5) (F := fun i (y : Int) => ev 34 8 [some (vr 110), some (vi y), some (vi i)] [] (hp L b I1 J1)) (Q := fun r => r = some (vi (ct (txG G) (G 115 5).toNat), hp L b I1 J1)) (fun i y => y = ct (txG G) i.toNat) ?_ ?_ 0 0 (Int.le_refl _) t0.1 rfl
  · intro i y g1 g2 v
    right
    have hb := ct_bd (p := txG G) i.toNat
    refine ⟨y + bI (txG G i), ?_, by rw [v, ct_s g1]⟩
    try dsimp only
    rw [s34_8, q5 i g1 g2, e6]
    by_cases c : txG G i
    · rw [bI_t c]
      simp (disch := first | assumption | omega) only [↓gd_t, ↓if_pos, ↓if_neg, Option.bind_some, true_or, true_and, gd_t, s34_31]
    · rw [bI_f c, Int.add_zero]
      simp (disch := first | assumption | omega) only [↓gd_t, ↓if_pos, ↓if_neg, Option.bind_some, true_or, true_and, gd_t, s34_31]
  · intro y v
    try dsimp only
    rw [s34_8, v, e6]
    simp (disch := first | assumption | omega) only [↓gd_t, ↓if_pos, ↓if_neg, Option.bind_some, true_or, true_and, gd_t]
end
