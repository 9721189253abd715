/-! the reference: findReached -/
section
variable {L : Nat} {b : Bool} {I : AI} {J : AJ} {k : Nat}
/-- what the reference's own cells keep to -/
def ShR (G : AI) : Prop := SvR G ∧ ∀ s, 0 ≤ s → s < G 115 10 → ∀ j, 0 ≤ j → j < 16 → -1 ≤ G 122 (16 * s + j) ∧ G 122 (16 * s + j) < G 115 5
def SpR (G : AI) : Prop := StR G ∧ (∀ s, 0 ≤ s → s < G 115 16 → (0 ≤ G 125 s ∧ G 125 s < G 115 10)) ∧ ∀ h, 0 ≤ h → h < 8 → -1 ≤ G 129 h ∧ G 129 h < G 115 16
theorem RS.shr {I G : AI} (h : RS I G) : ShR G := ⟨h.1, fun s a c j d e => ((h.2.2.1 s a c).2 j d e).2.1⟩
theorem RP.spr {I G : AI} {J : AJ} (h : RP I J G) (h2 : RH I G) : SpR G := ⟨h.1, fun s a c => (h.2.2.1 s a c).2.1, fun x a c => (h2 x a c).2.1⟩
theorem c192R (hS : SvR I) (hP : SpR I) {s x : Int} (hs : -1 ≤ s ∧ s < I 115 16) (hx : 0 ≤ x ∧ x < 16) {X : AI} (hg : ∀ c ∈ [122, 125], X c = I c) : evc 192 [vr 115, vi s, vi x] (hp L b X J) = some (vi (if s < 0 then -1 else I 122 (16 * I 125 s + x)), hp L b X J) := by
  have h0 := hP.1.1
  have h1 := hS.1
  rw [n192, s192_0, hg 122 (by decide), hg 125 (by decide)]
  by_cases c : 0 ≤ s
  · have r := hP.2.1 s c hs.2
    simp (disch := first | assumption | omega) only [↓gd_t, ↓if_pos, ↓if_neg, Option.bind_some, true_or, true_and, gd_t]
  · simp (disch := first | assumption | omega) only [↓gd_t, ↓if_pos, ↓if_neg, Option.bind_some, true_or, true_and, gd_t]
theorem c223 (hT : TxR I) (hS : ShR I) (hP : SpR I) : (fun r => ∃ I', r = some (vi (ct (txG I) (I 115 5).toNat), hp L b I' J) ∧ Sm [130, 131, 159, 160] [] I I' ∧ (∀ x, 0 ≤ x → x < 100 → I' 160 x = bI (sxG I x)) ∧ ∀ t, 0 ≤ t → t < 120 → I' 159 t = bI (txG I t)) (evc 223 [vr 115] (hp L b I J)) := by
  have t0 := hT.1
  have p0 := hP.1.1
  have s0 := hS.1.1
  obtain ⟨I1, q1, q2, q3⟩ := c164 (L := L) (b := b) (I := I) (J := J) (k := 131) (by decide)
  have e0 : evc 223 [vr 115] (hp L b I J) = ev 223 9 [some (vr 115), some (vi 0), none] [] (hp L b I1 J) := by
    rw [n223]
    simp (disch := first | assumption | omega) only [↓gd_t, ↓if_pos, ↓if_neg, Option.bind_some, true_or, true_and, gd_t, s223_0, q1, s223_7]
  rw [e0]
  -- the steps
  have A : (fun r => ∃ I', r = ev 223 46 [some (vr 115), some (vi 0), none] [] (hp L b I' J) ∧ Sm [130, 131] [] I I' ∧ ∀ s, 0 ≤ s → s < 80 → I' 131 s = bI (rsG I s)) (ev 223 9 [some (vr 115), some (vi 0), none] [] (hp L b I1 J)) := by
    refine lp (lo := 0) (hi := 8) (F := fun i (I2 : AI) => ev 223 9 [some (vr 115), some (vi i), none] [] (hp L b I2 J)) (Q := fun r => ∃ I', r = ev 223 46 [some (vr 115), some (vi 0), none] [] (hp L b I' J) ∧ Sm [130, 131] [] I I' ∧ ∀ s, 0 ≤ s → s < 80 → I' 131 s = bI (rsG I s)) (fun i I2 => Sm [130, 131] [] I I2 ∧ ∀ s, 0 ≤ s → s < 80 → I2 131 s = bI (∃ h, (0 ≤ h ∧ h < i) ∧ 0 ≤ I 129 h ∧ anR I (I 129 h) s)) ?_ ?_ 0 I1 (Int.le_refl _) (by decide) ⟨q2.mono (by simp) (by simp), fun s a c => by rw [q3 s a c, bI_f]; rintro ⟨h, z, -⟩; omega⟩
    · intro i I2 g1 g2 ⟨v1, v2⟩
      right
      have e129 : I2 129 = I 129 := v1.1 129 (by decide) (by decide)
      have hh := hP.2.2 i g1 g2
      have hS2 : StR I2 := hP.1.cg (fun c z => v1.1 c (by revert c; decide) (by revert c; decide)) (v1.2 16 (by decide))
      have ea : anR I2 = anR I := anR_cg (fun c z => v1.1 c (by revert c; decide) (by revert c; decide))
      have up : ∀ s, (∃ h, (0 ≤ h ∧ h < i + 1) ∧ 0 ≤ I 129 h ∧ anR I (I 129 h) s) ↔ (∃ h, (0 ≤ h ∧ h < i) ∧ 0 ≤ I 129 h ∧ anR I (I 129 h) s) ∨ (0 ≤ I 129 i ∧ anR I (I 129 i) s) := fun s => by
        constructor
        · rintro ⟨h, z1, z2⟩
          by_cases c : h = i
          · rw [c] at z2; exact Or.inr z2
          · exact Or.inl ⟨h, ⟨z1.1, by omega⟩, z2⟩
        · rintro (⟨h, z1, z2⟩ | z)
          · exact ⟨h, ⟨z1.1, by omega⟩, z2⟩
          · exact ⟨i, ⟨g1, by omega⟩, z⟩
      by_cases c : I 129 i < 0
      · refine ⟨I2, ?_, v1, fun s a d => ?_⟩
        · try dsimp only
          rw [s223_9, e129]
          simp (disch := first | assumption | omega) only [↓gd_t, ↓if_pos, ↓if_neg, Option.bind_some, true_or, true_and, gd_t, s223_38]
        · rw [v2 s a d]
          exact bI_cg ⟨fun z => (up s).mpr (Or.inl z), fun z => by rcases (up s).mp z with z | z; exact z; omega⟩
      · obtain ⟨I3, w1, w2, w3⟩ := c163 (L := L) (b := b) (I := I2) (J := J) (k := 131) (by decide) (by decide) hS2 (fun j a c => by rw [v2 j a c]; exact bI_o _) (s := I 129 i) ⟨by omega, by rw [v1.2 16 (by decide)]; exact hh.2⟩
        refine ⟨I3, ?_, v1.tr (w2.mono (by simp) (by simp)), fun s a d => ?_⟩
        · try dsimp only
          rw [s223_9, e129]
          simp (disch := first | assumption | omega) only [↓gd_t, ↓if_pos, ↓if_neg, Option.bind_some, true_or, true_and, gd_t, w1, s223_38]
        · rw [w3 s a d, v2 s a d, ea]
          refine bI_cg ?_
          rw [up s, bI_1]
          exact ⟨fun z => by rcases z with z | z; exact Or.inl z; exact Or.inr ⟨by omega, z⟩, fun z => by rcases z with z | z; exact Or.inl z; exact Or.inr z.2⟩
    · intro I2 ⟨v1, v2⟩
      refine ⟨I2, ?_, v1, v2⟩
      try dsimp only
      rw [s223_9]
      simp (disch := first | assumption | omega) only [↓gd_t, ↓if_pos, ↓if_neg, Option.bind_some, true_or, true_and, gd_t]
  obtain ⟨I2, a1, a2, a3⟩ := A
  rw [a1]
  -- the rows are fresh
  have B : (fun r => ∃ I', r = ev 223 67 [some (vr 115), some (vi 0), none] [] (hp L b I' J) ∧ Sm [130, 131, 160] [] I I' ∧ I' 131 = I2 131 ∧ ∀ x, 0 ≤ x → x < 100 → I' 160 x = 0) (ev 223 46 [some (vr 115), some (vi 0), none] [] (hp L b I2 J)) := by
    refine lp (lo := 0) (hi := 100) (F := fun i (I3 : AI) => ev 223 46 [some (vr 115), some (vi i), none] [] (hp L b I3 J)) (Q := fun r => ∃ I', r = ev 223 67 [some (vr 115), some (vi 0), none] [] (hp L b I' J) ∧ Sm [130, 131, 160] [] I I' ∧ I' 131 = I2 131 ∧ ∀ x, 0 ≤ x → x < 100 → I' 160 x = 0) (fun i I3 => Sm [130, 131, 160] [] I I3 ∧ I3 131 = I2 131 ∧ ∀ x, 0 ≤ x → x < i → I3 160 x = 0) ?_ ?_ 0 I2 (Int.le_refl _) (by decide) ⟨a2.mono (by simp) (by simp), rfl, fun x a c => by omega⟩
    · intro i I3 g1 g2 ⟨v1, v2, v3⟩
      right
      refine ⟨upI I3 160 i 0, ?_, v1.up (by simp) (by decide), by rw [upI_c (by decide)]; exact v2, fun x a c => ?_⟩
      · try dsimp only
        rw [s223_46]
        simp (disch := first | assumption | omega) only [↓gd_t, ↓if_pos, ↓if_neg, Option.bind_some, true_or, true_and, gd_t]
      · by_cases d : x = i
        · rw [d, upI_s]
        · rw [upI_i d]; exact v3 x a (by omega)
    · intro I3 ⟨v1, v2, v3⟩
      refine ⟨I3, ?_, v1, v2, v3⟩
      try dsimp only
      rw [s223_46]
      simp (disch := first | assumption | omega) only [↓gd_t, ↓if_pos, ↓if_neg, Option.bind_some, true_or, true_and, gd_t]
  obtain ⟨I3, b1, b2, b3, b4⟩ := B
  rw [b1]
  have C : (fun r => ∃ I', r = ev 223 88 [some (vr 115), some (vi 0), none] [] (hp L b I' J) ∧ Sm [130, 131, 159, 160] [] I I' ∧ I' 131 = I2 131 ∧ I' 160 = I3 160 ∧ ∀ x, 0 ≤ x → x < 120 → I' 159 x = 0) (ev 223 67 [some (vr 115), some (vi 0), none] [] (hp L b I3 J)) := by
    refine lp (lo := 0) (hi := 120) (F := fun i (I4 : AI) => ev 223 67 [some (vr 115), some (vi i), none] [] (hp L b I4 J)) (Q := fun r => ∃ I', r = ev 223 88 [some (vr 115), some (vi 0), none] [] (hp L b I' J) ∧ Sm [130, 131, 159, 160] [] I I' ∧ I' 131 = I2 131 ∧ I' 160 = I3 160 ∧ ∀ x, 0 ≤ x → x < 120 → I' 159 x = 0) (fun i I4 => Sm [130, 131, 159, 160] [] I I4 ∧ I4 131 = I2 131 ∧ I4 160 = I3 160 ∧ ∀ x, 0 ≤ x → x < i → I4 159 x = 0) ?_ ?_ 0 I3 (Int.le_refl _) (by decide) ⟨b2.mono (by simp) (by simp), b3, rfl, fun x a c => by omega⟩
    · intro i I4 g1 g2 ⟨v1, v2, v3, v4⟩
      right
      refine ⟨upI I4 159 i 0, ?_, v1.up (by simp) (by decide), by rw [upI_c (by decide)]; exact v2, by rw [upI_c (by decide)]; exact v3, fun x a c => ?_⟩
      · try dsimp only
        rw [s223_67]
        simp (disch := first | assumption | omega) only [↓gd_t, ↓if_pos, ↓if_neg, Option.bind_some, true_or, true_and, gd_t]
      · by_cases d : x = i
        · rw [d, upI_s]
        · rw [upI_i d]; exact v4 x a (by omega)
    · intro I4 ⟨v1, v2, v3, v4⟩
      refine ⟨I4, ?_, v1, v2, v3, v4⟩
      try dsimp only
      rw [s223_67]
      simp (disch := first | assumption | omega) only [↓gd_t, ↓if_pos, ↓if_neg, Option.bind_some, true_or, true_and, gd_t]
  obtain ⟨I4, c1, c2, c3, c4, c5⟩ := C
  rw [c1]
  -- the names of a step
  have N : ∀ (s : Int) (I5 : AI), (0 ≤ s ∧ s < I 115 16) → Sm [130, 131, 159, 160] [] I I5 → ∃ I', ev 223 119 [some (vr 115), some (vi s), some (vi 0)] [] (hp L b I5 J) = ev 223 141 [some (vr 115), some (vi s), none] [] (hp L b I' J) ∧ Sm [159] [] I5 I' ∧ ∀ t, I' 159 t = if bI (∃ j, (0 ≤ j ∧ j < 16) ∧ chG I (I 122 (16 * I 125 s + j)) t) = 1 then 1 else I5 159 t := by
    intro s I5 hs h5
    have hT5 : TxR I5 := hT.cg (fun c z => h5.1 c (by revert c; decide) (by revert c; decide)) (h5.2 5 (by decide))
    refine lp (lo := 0) (hi := 16) (F := fun j (X : AI) => ev 223 119 [some (vr 115), some (vi s), some (vi j)] [] (hp L b X J)) (Q := fun r => ∃ I', r = ev 223 141 [some (vr 115), some (vi s), none] [] (hp L b I' J) ∧ Sm [159] [] I5 I' ∧ ∀ t, I' 159 t = if bI (∃ j, (0 ≤ j ∧ j < 16) ∧ chG I (I 122 (16 * I 125 s + j)) t) = 1 then 1 else I5 159 t) (fun i X => Sm [159] [] I5 X ∧ ∀ t, X 159 t = if bI (∃ j, (0 ≤ j ∧ j < i) ∧ chG I (I 122 (16 * I 125 s + j)) t) = 1 then 1 else I5 159 t) ?_ ?_ 0 I5 (Int.le_refl _) (by decide) ⟨Sm.rf, fun t => by rw [if_neg]; rw [bI_1]; rintro ⟨j, z, -⟩; omega⟩
    · intro i X g1 g2 ⟨v1, v2⟩
      right
      have hg : ∀ c ∈ [122, 125], X c = I c := fun c z => by rw [v1.1 c (by revert c; decide) (by revert c; decide), h5.1 c (by revert c; decide) (by revert c; decide)]
      have hb := hS.2 (I 125 s) (hP.2.1 s hs.1 hs.2).1 (hP.2.1 s hs.1 hs.2).2 i g1 g2
      obtain ⟨Y, w1, w2, w3⟩ := c224 (L := L) (b := b) (J := J) hT5 v1 (u := I 122 (16 * I 125 s + i)) ⟨hb.1, by rw [h5.2 5 (by decide)]; exact hb.2⟩
      have ec : chG I5 = chG I := by unfold chG; rw [h5.1 120 (by decide) (by decide)]
      rw [ec] at w3
      refine ⟨Y, ?_, v1.tr w2, fun t => ?_⟩
      · try dsimp only
        rw [s223_119, if_neg (by omega), c192R hS.1 hP ⟨by omega, hs.2⟩ ⟨g1, g2⟩ hg, if_neg (by omega)]
        simp only [Option.bind_some]
        rw [s223_132]
        simp (disch := first | assumption | omega) only [↓gd_t, ↓if_pos, ↓if_neg, Option.bind_some, true_or, true_and, gd_t, w1, s223_135]
      · rw [w3, v2]
        have up : (∃ j, (0 ≤ j ∧ j < i + 1) ∧ chG I (I 122 (16 * I 125 s + j)) t) ↔ (∃ j, (0 ≤ j ∧ j < i) ∧ chG I (I 122 (16 * I 125 s + j)) t) ∨ chG I (I 122 (16 * I 125 s + i)) t := by
          constructor
          · rintro ⟨j, z1, z2⟩
            by_cases c : j = i
            · rw [c] at z2; exact Or.inr z2
            · exact Or.inl ⟨j, ⟨z1.1, by omega⟩, z2⟩
          · rintro (⟨j, z1, z2⟩ | z)
            · exact ⟨j, ⟨z1.1, by omega⟩, z2⟩
            · exact ⟨i, ⟨g1, by omega⟩, z⟩
        rw [bI_cg up]
        by_cases d : chG I (I 122 (16 * I 125 s + i)) t
        · rw [if_pos (bI_t d), if_pos (bI_t (Or.inr d))]
        · rw [if_neg (fun z => d (bI_1.mp z))]
          by_cases e : ∃ j, (0 ≤ j ∧ j < i) ∧ chG I (I 122 (16 * I 125 s + j)) t
          · rw [if_pos (bI_t e), if_pos (bI_t (Or.inl e))]
          · rw [if_neg (fun z => e (bI_1.mp z)), if_neg (fun z => by rcases bI_1.mp z with z | z; exact e z; exact d z)]
    · intro X ⟨v1, v2⟩
      refine ⟨X, ?_, v1, v2⟩
      try dsimp only
      rw [s223_119]
      simp (disch := first | assumption | omega) only [↓gd_t, ↓if_pos, ↓if_neg, Option.bind_some, true_or, true_and, gd_t]
  -- the steps' shelves and texts
  have D : (fun r => ∃ I', r = ev 223 151 [some (vr 115), some (vi 0), some (vi 0)] [] (hp L b I' J) ∧ Sm [130, 131, 159, 160] [] I I' ∧ (∀ x, 0 ≤ x → x < 100 → I' 160 x = bI (sxG I x)) ∧ ∀ t, 0 ≤ t → t < 120 → I' 159 t = bI (txG I t)) (ev 223 88 [some (vr 115), some (vi 0), none] [] (hp L b I4 J)) := by
    refine lp (lo := 0) (hi := I 115 16) (F := fun s (X : AI) => ev 223 88 [some (vr 115), some (vi s), none] [] (hp L b X J)) (Q := fun r => ∃ I', r = ev 223 151 [some (vr 115), some (vi 0), some (vi 0)] [] (hp L b I' J) ∧ Sm [130, 131, 159, 160] [] I I' ∧ (∀ x, 0 ≤ x → x < 100 → I' 160 x = bI (sxG I x)) ∧ ∀ t, 0 ≤ t → t < 120 → I' 159 t = bI (txG I t)) (fun i X => Sm [130, 131, 159, 160] [] I X ∧ X 131 = I2 131 ∧ (∀ x, 0 ≤ x → x < 100 → X 160 x = bI (∃ s, (0 ≤ s ∧ s < i) ∧ rsG I s ∧ I 125 s = x)) ∧ ∀ t, 0 ≤ t → t < 120 → X 159 t = bI (∃ s j, (0 ≤ s ∧ s < i) ∧ rsG I s ∧ (0 ≤ j ∧ j < 16) ∧ chG I (I 122 (16 * I 125 s + j)) t)) ?_ ?_ 0 I4 (Int.le_refl _) p0.1 ⟨c2, c3, fun x a c => by rw [c4, b4 x a c, bI_f]; rintro ⟨s, z, -⟩; omega, fun t a c => by rw [c5 t a c, bI_f]; rintro ⟨s, j, z, -⟩; omega⟩
    · intro i X g1 g2 ⟨v1, v2, v3, v4⟩
      right
      have e16 : X 115 16 = I 115 16 := v1.2 16 (by decide)
      have e125 : X 125 = I 125 := v1.1 125 (by decide) (by decide)
      have rs := a3 i g1 (by omega)
      have hb := hP.2.1 i g1 g2
      by_cases c : rsG I i
      · rw [bI_t c] at rs
        obtain ⟨Y, w1, w2, w3⟩ := N i (upI X 160 (I 125 i) 1) ⟨g1, g2⟩ (v1.up (by simp) (by decide))
        refine ⟨Y, ?_, (v1.up (by simp) (by decide)).tr (w2.mono (by simp) (by simp)), ?_, fun x a d => ?_, fun t a d => ?_⟩
        · try dsimp only
          rw [s223_88, e16, v2, rs, e125]
          simp (disch := first | assumption | omega) only [↓gd_t, ↓if_pos, ↓if_neg, Option.bind_some, true_or, true_and, gd_t, w1, s223_141]
        · rw [w2.1 131 (by decide) (by decide), upI_c (by decide)]; exact v2
        · rw [w2.1 160 (by decide) (by decide)]
          by_cases e : x = I 125 i
          · rw [e, upI_s, bI_t ⟨i, ⟨g1, by omega⟩, c, rfl⟩]
          · rw [upI_i e, v3 x a d]
            refine bI_cg ⟨fun ⟨s, z1, z2⟩ => ⟨s, ⟨z1.1, by omega⟩, z2⟩, fun ⟨s, z1, z2, z3⟩ => ⟨s, ⟨z1.1, ?_⟩, z2, z3⟩⟩
            by_cases y : s = i
            · rw [y] at z3; exact absurd z3.symm e
            · omega
        · rw [w3, upI_c (by decide), v4 t a d]
          by_cases e : ∃ j, (0 ≤ j ∧ j < 16) ∧ chG I (I 122 (16 * I 125 i + j)) t
          · rw [if_pos (bI_t e)]
            obtain ⟨j, z1, z2⟩ := e
            rw [bI_t ⟨i, j, ⟨g1, by omega⟩, c, z1, z2⟩]
          · rw [if_neg (fun z => e (bI_1.mp z))]
            refine bI_cg ⟨fun ⟨s, j, z1, z2⟩ => ⟨s, j, ⟨z1.1, by omega⟩, z2⟩, fun ⟨s, j, z1, z2, z3, z4⟩ => ⟨s, j, ⟨z1.1, ?_⟩, z2, z3, z4⟩⟩
            by_cases y : s = i
            · rw [y] at z4; exact absurd ⟨j, z3, z4⟩ e
            · omega
      · rw [bI_f c] at rs
        refine ⟨X, ?_, v1, v2, fun x a d => ?_, fun t a d => ?_⟩
        · try dsimp only
          rw [s223_88, e16, v2, rs]
          simp (disch := first | assumption | omega) only [↓gd_t, ↓if_pos, ↓if_neg, Option.bind_some, true_or, true_and, gd_t, s223_141]
        · rw [v3 x a d]
          refine bI_cg ⟨fun ⟨s, z1, z2⟩ => ⟨s, ⟨z1.1, by omega⟩, z2⟩, fun ⟨s, z1, z2, z3⟩ => ⟨s, ⟨z1.1, ?_⟩, z2, z3⟩⟩
          by_cases y : s = i
          · rw [y] at z2; exact absurd z2 c
          · omega
        · rw [v4 t a d]
          refine bI_cg ⟨fun ⟨s, j, z1, z2⟩ => ⟨s, j, ⟨z1.1, by omega⟩, z2⟩, fun ⟨s, j, z1, z2, z3⟩ => ⟨s, j, ⟨z1.1, ?_⟩, z2, z3⟩⟩
          by_cases y : s = i
          · rw [y] at z2; exact absurd z2 c
          · omega
    · intro X ⟨v1, v2, v3, v4⟩
      have e16 : X 115 16 = I 115 16 := v1.2 16 (by decide)
      refine ⟨X, ?_, v1, v3, v4⟩
      try dsimp only
      rw [s223_88, e16]
      simp (disch := first | assumption | omega) only [↓gd_t, ↓if_pos, ↓if_neg, Option.bind_some, true_or, true_and, gd_t]
  obtain ⟨I5, d1, d2, d3, d4⟩ := D
  rw [d1]
  refine ⟨I5, ?_, d2, d3, d4⟩
  have e5 : I5 115 5 = I 115 5 := d2.2 5 (by decide)
  refine lp (lo := 0) (hi := I 115 5) (F := fun i (y : Int) => ev 223 151 [some (vr 115), some (vi y), some (vi i)] [] (hp L b I5 J)) (Q := fun r => r = some (vi (ct (txG I) (I 115 5).toNat), hp L b I5 J)) (fun i y => y = ct (txG I) i.toNat) ?_ ?_ 0 0 (Int.le_refl _) t0.1 rfl
  · intro i y g1 g2 v
    right
    have hb := ct_bd (p := txG I) i.toNat
    refine ⟨y + bI (txG I i), ?_, by rw [v, ct_s g1]⟩
    try dsimp only
    rw [s223_151, d4 i g1 (by omega), e5]
    by_cases c : txG I i
    · rw [bI_t c]
      simp (disch := first | assumption | omega) only [↓gd_t, ↓if_pos, ↓if_neg, Option.bind_some, true_or, true_and, gd_t, s223_174]
    · rw [bI_f c]
      simp (disch := first | assumption | omega) only [↓gd_t, ↓if_pos, ↓if_neg, Option.bind_some, true_or, true_and, gd_t, s223_174]
  · intro y v
    try dsimp only
    rw [s223_151, v, e5]
    simp (disch := first | assumption | omega) only [↓gd_t, ↓if_pos, ↓if_neg, Option.bind_some, true_or, true_and, gd_t]
end
