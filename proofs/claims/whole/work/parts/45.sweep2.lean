/-! sweeping: the class, the reference, and what holds then -/
/-- the reference's cells after a sweep -/
noncomputable def swG (G : AI) : AI := fun c x => if c = 123 ∧ 0 ≤ x ∧ x < G 115 10 then bI (G 123 x = 1 ∨ ¬ sxG G x) else if c = 119 ∧ 0 ≤ x ∧ x < G 115 5 then bI (G 119 x = 1 ∨ ¬ txG G x) else G c x
theorem swG_o (G : AI) {c : Nat} (h1 : c ≠ 119) (h2 : c ≠ 123) : swG G c = G c := by
  funext x; unfold swG; rw [if_neg (fun z => h2 z.1), if_neg (fun z => h1 z.1)]
theorem swG_123 (G : AI) {x : Int} (h : 0 ≤ x ∧ x < G 115 10) : swG G 123 x = bI (G 123 x = 1 ∨ ¬ sxG G x) := by unfold swG; rw [if_pos ⟨rfl, h⟩]
theorem swG_119 (G : AI) {x : Int} (h : 0 ≤ x ∧ x < G 115 5) : swG G 119 x = bI (G 119 x = 1 ∨ ¬ txG G x) := by unfold swG; rw [if_neg (by omega), if_pos ⟨rfl, h⟩]
theorem swG_123' (G : AI) {x : Int} (h : ¬ (0 ≤ x ∧ x < G 115 10)) : swG G 123 x = G 123 x := by unfold swG; rw [if_neg (fun z => h z.2), if_neg (by omega)]
theorem swG_119' (G : AI) {x : Int} (h : ¬ (0 ≤ x ∧ x < G 115 5)) : swG G 119 x = G 119 x := by unfold swG; rw [if_neg (by omega), if_neg (fun z => h z.2)]
section
variable {L : Nat} {b : Bool} {I G : AI} {J : AJ} {k : Nat}
theorem c225 (hT : TxR I) (hS : ShR I) (hP : SpR I) : (fun r => ∃ I', r = some (vi (ct (fun t => I 119 t = 0 ∧ ¬ txG I t) (I 115 5).toNat), hp L b I' J) ∧ Sm [119, 123, 130, 131, 159, 160] [] I I' ∧ I' 119 = swG I 119 ∧ I' 123 = swG I 123) (evc 225 [vr 115] (hp L b I J)) := by
  have t0 := hT.1
  have s0 := hS.1.1
  obtain ⟨I1, q1, q2, q3, q4⟩ := c223 (L := L) (b := b) (J := J) hT hS hP
  have e0 : evc 225 [vr 115] (hp L b I J) = ev 225 7 [some (vr 115), none, some (vi 0), none] [] (hp L b I1 J) := by
    rw [n225]
    simp (disch := first | assumption | omega) only [↓gd_t, ↓if_pos, ↓if_neg, Option.bind_some, true_or, true_and, gd_t, s225_0, q1, s225_4]
  rw [e0]
  have A : (fun r => ∃ I', r = ev 225 54 [some (vr 115), none, some (vi 0), some (vi 0)] [] (hp L b I' J) ∧ Sm [123, 130, 131, 159, 160] [] I I' ∧ I' 123 = swG I 123 ∧ I' 159 = I1 159) (ev 225 7 [some (vr 115), none, some (vi 0), none] [] (hp L b I1 J)) := by
    refine lp (lo := 0) (hi := I 115 10) (F := fun i (X : AI) => ev 225 7 [some (vr 115), none, some (vi i), none] [] (hp L b X J)) (Q := fun r => ∃ I', r = ev 225 54 [some (vr 115), none, some (vi 0), some (vi 0)] [] (hp L b I' J) ∧ Sm [123, 130, 131, 159, 160] [] I I' ∧ I' 123 = swG I 123 ∧ I' 159 = I1 159) (fun i X => Sm [123, 130, 131, 159, 160] [] I X ∧ (∀ x, X 123 x = if 0 ≤ x ∧ x < i then swG I 123 x else I 123 x) ∧ X 159 = I1 159 ∧ X 160 = I1 160) ?_ ?_ 0 I1 (Int.le_refl _) s0.1 ⟨q2.mono (by simp) (by simp), fun x => by rw [if_neg (by omega), q2.1 123 (by decide) (by decide)], rfl, rfl⟩
    · intro i X g1 g2 ⟨v1, v2, v3, v4⟩
      right
      have e10 : X 115 10 = I 115 10 := v1.2 10 (by decide)
      have hx : X 123 i = I 123 i := by rw [v2, if_neg (by omega)]
      have h0 := hS.1.2 i g1 g2
      have h6 : X 160 i = bI (sxG I i) := by rw [v4]; exact q3 i g1 (by omega)
      refine ⟨upI X 123 i (swG I 123 i), ?_, v1.up (by simp) (by decide), fun x => ?_, by rw [upI_c (by decide)]; exact v3, by rw [upI_c (by decide)]; exact v4⟩
      · try dsimp only
        rw [s225_7, e10, hx, h6, swG_123 I ⟨g1, g2⟩]
        by_cases c : I 123 i = 0
        · by_cases d : sxG I i
          · rw [bI_f (show ¬ (I 123 i = 1 ∨ ¬ sxG I i) from fun z => by rcases z with z | z; omega; exact z d), bI_t d]
            simp (disch := first | assumption | omega) only [↓gd_t, ↓if_pos, ↓if_neg, Option.bind_some, true_or, true_and, gd_t, s225_43]
          · rw [bI_t (show I 123 i = 1 ∨ ¬ sxG I i from Or.inr d), bI_f d]
            simp (disch := first | assumption | omega) only [↓gd_t, ↓if_pos, ↓if_neg, Option.bind_some, true_or, true_and, gd_t, s225_38, s225_43]
        · rw [bI_t (show I 123 i = 1 ∨ ¬ sxG I i from Or.inl (by omega))]
          simp (disch := first | assumption | omega) only [↓gd_t, ↓if_pos, ↓if_neg, Option.bind_some, true_or, true_and, gd_t, s225_38, s225_43]
      · by_cases d : x = i
        · rw [d, upI_s, if_pos (by omega)]
        · rw [upI_i d, v2]
          by_cases e : 0 ≤ x ∧ x < i
          · rw [if_pos e, if_pos (by omega)]
          · rw [if_neg e, if_neg (by omega)]
    · intro X ⟨v1, v2, v3, v4⟩
      have e10 : X 115 10 = I 115 10 := v1.2 10 (by decide)
      refine ⟨X, ?_, v1, ?_, v3⟩
      · try dsimp only
        rw [s225_7, e10]
        simp (disch := first | assumption | omega) only [↓gd_t, ↓if_pos, ↓if_neg, Option.bind_some, true_or, true_and, gd_t]
      · funext x
        rw [v2]
        by_cases e : 0 ≤ x ∧ x < I 115 10
        · rw [if_pos e]
        · rw [if_neg e, swG_123' I e]
  obtain ⟨I2, a1, a2, a3, a4⟩ := A
  rw [a1]
  refine lp (lo := 0) (hi := I 115 5) (F := fun i (s : Int × AI) => ev 225 54 [some (vr 115), none, some (vi s.1), some (vi i)] [] (hp L b s.2 J)) (Q := fun r => ∃ I', r = some (vi (ct (fun t => I 119 t = 0 ∧ ¬ txG I t) (I 115 5).toNat), hp L b I' J) ∧ Sm [119, 123, 130, 131, 159, 160] [] I I' ∧ I' 119 = swG I 119 ∧ I' 123 = swG I 123) (fun i s => s.1 = ct (fun t => I 119 t = 0 ∧ ¬ txG I t) i.toNat ∧ Sm [119, 123, 130, 131, 159, 160] [] I s.2 ∧ (∀ x, s.2 119 x = if 0 ≤ x ∧ x < i then swG I 119 x else I 119 x) ∧ s.2 123 = swG I 123 ∧ s.2 159 = I1 159) ?_ ?_ 0 (0, I2) (Int.le_refl _) t0.1 ⟨rfl, a2.mono (by simp) (by simp), fun x => by dsimp only; rw [if_neg (by omega), a2.1 119 (by decide) (by decide)], a3, a4⟩
  · rintro i ⟨y, X⟩ g1 g2 ⟨v1, v2, v3, v4, v5⟩
    dsimp only at v1 v2 v3 v4 v5
    right
    have e5 : X 115 5 = I 115 5 := v2.2 5 (by decide)
    have hx : X 119 i = I 119 i := by rw [v3, if_neg (by omega)]
    have h0 := (hT.2.2.2 i g1 g2).2
    have h6 : X 159 i = bI (txG I i) := by rw [v5]; exact q4 i g1 (by omega)
    have hb := ct_bd (p := fun t => I 119 t = 0 ∧ ¬ txG I t) i.toNat
    refine ⟨(y + bI (I 119 i = 0 ∧ ¬ txG I i), upI X 119 i (swG I 119 i)), ?_, by show y + _ = _; rw [v1, ct_s g1], v2.up (by simp) (by decide), fun x => ?_, by dsimp only; rw [upI_c (by decide)]; exact v4, by dsimp only; rw [upI_c (by decide)]; exact v5⟩
    · try dsimp only
      rw [s225_54, e5, hx, h6, swG_119 I ⟨g1, g2⟩]
      by_cases c : I 119 i = 0
      · by_cases d : txG I i
        · rw [bI_f (show ¬ (I 119 i = 1 ∨ ¬ txG I i) from fun z => by rcases z with z | z; omega; exact z d), bI_f (show ¬ (I 119 i = 0 ∧ ¬ txG I i) from fun z => z.2 d), bI_t d]
          simp (disch := first | assumption | omega) only [↓gd_t, ↓if_pos, ↓if_neg, Option.bind_some, true_or, true_and, gd_t, s225_85]
          rw [s225_86, hx, h6, bI_t d]
          simp (disch := first | assumption | omega) only [↓gd_t, ↓if_pos, ↓if_neg, Option.bind_some, true_or, true_and, gd_t, s225_116]
        · rw [bI_t (show I 119 i = 1 ∨ ¬ txG I i from Or.inr d), bI_t (show I 119 i = 0 ∧ ¬ txG I i from ⟨c, d⟩), bI_f d]
          simp (disch := first | assumption | omega) only [↓gd_t, ↓if_pos, ↓if_neg, Option.bind_some, true_or, true_and, gd_t]
          rw [s225_86, hx, h6, bI_f d]
          simp (disch := first | assumption | omega) only [↓gd_t, ↓if_pos, ↓if_neg, Option.bind_some, true_or, true_and, gd_t, s225_111, s225_116]
      · rw [bI_t (show I 119 i = 1 ∨ ¬ txG I i from Or.inl (by omega)), bI_f (show ¬ (I 119 i = 0 ∧ ¬ txG I i) from fun z => c z.1)]
        simp (disch := first | assumption | omega) only [↓gd_t, ↓if_pos, ↓if_neg, Option.bind_some, true_or, true_and, gd_t, s225_85]
        rw [s225_86, hx, h6]
        simp (disch := first | assumption | omega) only [↓gd_t, ↓if_pos, ↓if_neg, Option.bind_some, true_or, true_and, gd_t, s225_111, s225_116]
    · show (upI X 119 i (swG I 119 i)) 119 x = _
      by_cases d : x = i
      · rw [d, upI_s, if_pos (by omega)]
      · rw [upI_i d, v3]
        by_cases e : 0 ≤ x ∧ x < i
        · rw [if_pos e, if_pos (by omega)]
        · rw [if_neg e, if_neg (by omega)]
  · rintro ⟨y, X⟩ ⟨v1, v2, v3, v4, v5⟩
    dsimp only at v1 v2 v3 v4 v5
    have e5 : X 115 5 = I 115 5 := v2.2 5 (by decide)
    refine ⟨X, ?_, v2, ?_, v4⟩
    · try dsimp only
      rw [s225_54, e5, v1]
      simp (disch := first | assumption | omega) only [↓gd_t, ↓if_pos, ↓if_neg, Option.bind_some, true_or, true_and, gd_t]
    · funext x
      rw [v3]
      by_cases e : 0 ≤ x ∧ x < I 115 5
      · rw [if_pos e]
      · rw [if_neg e, swG_119' I e]
theorem c35R (hT : RT I G) (hS : RS I G) (hP : RP I J G) (hH : RH I G) : (fun r => ∃ I' J', r = some (vi (ct (fun t => G 119 t = 0 ∧ ¬ txG G t) (G 115 5).toNat), hp L b I' J') ∧ Same [112, 113, 22, 9, 10] I I' ∧ (∀ c, c ≠ 111 → J' c = J c) ∧ (∀ x, I' 22 x = if 0 ≤ x ∧ x < G 115 10 ∧ bI (sxG G x) = 0 then 1 else I 22 x) ∧ ∀ t, (I' 9 t = if 0 ≤ t ∧ t < G 115 5 ∧ G 119 t = 0 ∧ bI (txG G t) = 0 then 3 else I 9 t) ∧ (I' 10 t = if 0 ≤ t ∧ t < G 115 5 ∧ G 119 t = 0 ∧ bI (txG G t) = 0 then -1 else I 10 t)) (evc 35 [vr 110] (hp L b I J)) := by
  have t0 := hT.1.1
  have s0 := hS.1.1
  obtain ⟨I1, J1, q1, q2, q3, q4, q5⟩ := c32R (L := L) (b := b) hT hS hP hH
  have e0 : evc 35 [vr 110] (hp L b I J) = ev 35 6 [some (vr 110), some (vi 0), none] [] (hp L b I1 J1) := by
    rw [n35]
    simp (disch := first | assumption | omega) only [↓gd_t, ↓if_pos, ↓if_neg, Option.bind_some, true_or, true_and, gd_t, s35_0, q1, s35_4]
  rw [e0]
  have A : (fun r => ∃ I', r = ev 35 46 [some (vr 110), some (vi 0), some (vi 0)] [] (hp L b I' J1) ∧ Same [112, 113, 22] I I' ∧ I' 113 = I1 113 ∧ ∀ x, I' 22 x = if 0 ≤ x ∧ x < G 115 10 ∧ bI (sxG G x) = 0 then 1 else I 22 x) (ev 35 6 [some (vr 110), some (vi 0), none] [] (hp L b I1 J1)) := by
    refine lp (lo := 0) (hi := G 115 10) (F := fun i (X : AI) => ev 35 6 [some (vr 110), some (vi i), none] [] (hp L b X J1)) (Q := fun r => ∃ I', r = ev 35 46 [some (vr 110), some (vi 0), some (vi 0)] [] (hp L b I' J1) ∧ Same [112, 113, 22] I I' ∧ I' 113 = I1 113 ∧ ∀ x, I' 22 x = if 0 ≤ x ∧ x < G 115 10 ∧ bI (sxG G x) = 0 then 1 else I 22 x) (fun i X => Same [112, 113, 22] I X ∧ X 112 = I1 112 ∧ X 113 = I1 113 ∧ ∀ x, X 22 x = if 0 ≤ x ∧ x < i ∧ bI (sxG G x) = 0 then 1 else I 22 x) ?_ ?_ 0 I1 (Int.le_refl _) s0.1 ⟨q2.mono (by simp), rfl, rfl, fun x => by rw [if_neg (by omega), q2 22 (by decide)]⟩
    · intro i X g1 g2 ⟨v1, v2, v3, v4⟩
      right
      have e20 : X 20 2 = G 115 10 := by rw [v1 20 (by decide)]; exact hS.2.1
      have h6 : X 112 i = bI (sxG G i) := by rw [v2]; exact q4 i g1 g2
      by_cases c : sxG G i
      · refine ⟨X, ?_, v1, v2, v3, fun x => ?_⟩
        · try dsimp only
          rw [s35_6, e20, h6, bI_t c]
          simp (disch := first | assumption | omega) only [↓gd_t, ↓if_pos, ↓if_neg, Option.bind_some, true_or, true_and, gd_t, s35_36]
        · rw [v4]
          by_cases e : 0 ≤ x ∧ x < i ∧ bI (sxG G x) = 0
          · rw [if_pos e, if_pos (by omega)]
          · rw [if_neg e, if_neg (fun z => e ⟨z.1, by
              by_cases y : x = i
              · have := z.2.2; rw [y, bI_t c] at this; omega
              · omega, z.2.2⟩)]
      · refine ⟨upI X 22 i 1, ?_, v1.up (by simp), by rw [upI_c (by decide)]; exact v2, by rw [upI_c (by decide)]; exact v3, fun x => ?_⟩
        · try dsimp only
          rw [s35_6, e20, h6, bI_f c]
          simp (disch := first | assumption | omega) only [↓gd_t, ↓if_pos, ↓if_neg, Option.bind_some, true_or, true_and, gd_t, s35_36]
        · by_cases d : x = i
          · rw [d, upI_s, if_pos ⟨g1, by omega, bI_f c⟩]
          · rw [upI_i d, v4]
            by_cases e : 0 ≤ x ∧ x < i ∧ bI (sxG G x) = 0
            · rw [if_pos e, if_pos (by omega)]
            · rw [if_neg e, if_neg (by omega)]
    · intro X ⟨v1, v2, v3, v4⟩
      have e20 : X 20 2 = G 115 10 := by rw [v1 20 (by decide)]; exact hS.2.1
      refine ⟨X, ?_, v1, v3, v4⟩
      try dsimp only
      rw [s35_6, e20]
      simp (disch := first | assumption | omega) only [↓gd_t, ↓if_pos, ↓if_neg, Option.bind_some, true_or, true_and, gd_t]
  obtain ⟨I2, a1, a2, a3, a4⟩ := A
  rw [a1]
  refine lp (lo := 0) (hi := G 115 5) (F := fun i (s : Int × AI) => ev 35 46 [some (vr 110), some (vi s.1), some (vi i)] [] (hp L b s.2 J1)) (Q := fun r => ∃ I' J', r = some (vi (ct (fun t => G 119 t = 0 ∧ ¬ txG G t) (G 115 5).toNat), hp L b I' J') ∧ Same [112, 113, 22, 9, 10] I I' ∧ (∀ c, c ≠ 111 → J' c = J c) ∧ (∀ x, I' 22 x = if 0 ≤ x ∧ x < G 115 10 ∧ bI (sxG G x) = 0 then 1 else I 22 x) ∧ ∀ t, (I' 9 t = if 0 ≤ t ∧ t < G 115 5 ∧ G 119 t = 0 ∧ bI (txG G t) = 0 then 3 else I 9 t) ∧ (I' 10 t = if 0 ≤ t ∧ t < G 115 5 ∧ G 119 t = 0 ∧ bI (txG G t) = 0 then -1 else I 10 t)) (fun i s => s.1 = ct (fun t => G 119 t = 0 ∧ ¬ txG G t) i.toNat ∧ Same [112, 113, 22, 9, 10] I s.2 ∧ s.2 113 = I1 113 ∧ s.2 22 = I2 22 ∧ ∀ t, (s.2 9 t = if 0 ≤ t ∧ t < i ∧ G 119 t = 0 ∧ bI (txG G t) = 0 then 3 else I 9 t) ∧ (s.2 10 t = if 0 ≤ t ∧ t < i ∧ G 119 t = 0 ∧ bI (txG G t) = 0 then -1 else I 10 t)) ?_ ?_ 0 (0, I2) (Int.le_refl _) t0.1 ⟨rfl, a2.mono (by simp), a3, rfl, fun t => by dsimp only; rw [if_neg (by omega), if_neg (by omega), a2 9 (by decide), a2 10 (by decide)]; exact ⟨rfl, rfl⟩⟩
  · rintro i ⟨y, X⟩ g1 g2 ⟨v1, v2, v3, v4, v5⟩
    dsimp only at v1 v2 v3 v4 v5
    right
    have e6 : X 6 9 = G 115 5 := by rw [v2 6 (by decide)]; exact hT.2.1
    have h6 : X 113 i = bI (txG G i) := by rw [v3]; exact q5 i g1 g2
    have hb := ct_bd (p := fun t => G 119 t = 0 ∧ ¬ txG G t) i.toNat
    have x9 : X 9 i = I 9 i := by rw [(v5 i).1, if_neg (by omega)]
    have th : thC X i ↔ G 119 i = 0 := by
      unfold thC
      rw [e6, x9]
      have z := RT_th hT i
      unfold thC thR at z
      rw [hT.2.1] at z
      exact ⟨fun w => (z.mp w).2, fun w => z.mpr ⟨⟨g1, g2⟩, w⟩⟩
    have same : ∀ (P : Prop), ¬ P → (P ↔ (G 119 i = 0 ∧ bI (txG G i) = 0)) → ∀ t, (X 9 t = if 0 ≤ t ∧ t < i + 1 ∧ G 119 t = 0 ∧ bI (txG G t) = 0 then 3 else I 9 t) ∧ (X 10 t = if 0 ≤ t ∧ t < i + 1 ∧ G 119 t = 0 ∧ bI (txG G t) = 0 then -1 else I 10 t) := fun P hP hq t => by
      rw [(v5 t).1, (v5 t).2]
      by_cases e : 0 ≤ t ∧ t < i ∧ G 119 t = 0 ∧ bI (txG G t) = 0
      · rw [if_pos e, if_pos (by omega), if_pos e, if_pos (by omega)]; exact ⟨rfl, rfl⟩
      · have e' : ¬ (0 ≤ t ∧ t < i + 1 ∧ G 119 t = 0 ∧ bI (txG G t) = 0) := fun z => by
          by_cases w : t = i
          · have := z.2.2; rw [w] at this; exact hP (hq.mpr this)
          · exact e ⟨z.1, by omega, z.2.2⟩
        rw [if_neg e, if_neg e', if_neg e, if_neg e']; exact ⟨rfl, rfl⟩
    by_cases c : txG G i
    · refine ⟨(y, X), ?_, by show y = _; rw [v1, ct_s g1, bI_f (fun z => z.2 c), Int.add_zero], v2, v3, v4, same False id ⟨False.elim, fun z => by rw [bI_t c] at z; omega⟩⟩
      try dsimp only
      rw [s35_46, e6, h6, bI_t c]
      simp (disch := first | assumption | omega) only [↓gd_t, ↓if_pos, ↓if_neg, Option.bind_some, true_or, true_and, gd_t, s35_100]
    · have st : ev 35 46 [some (vr 110), some (vi y), some (vi i)] [] (hp L b X J1) = ev 35 74 [some (vr 110), some (vi y), some (vi i)] [vi (bI (G 119 i = 0))] (hp L b X J1) := by
        rw [s35_46, e6, h6, bI_f c, if_neg (by omega), gd_t (by omega), if_neg (by decide), c65 (by omega), bI_cg th]
        simp only [Option.bind_some]
      by_cases d : G 119 i = 0
      · refine ⟨(y + 1, upI (upI X 9 i 3) 10 i (-1)), ?_, by show y + 1 = _; rw [v1, ct_s g1, bI_t ⟨d, c⟩], (v2.up (by simp)).up (by simp), by dsimp only; rw [upI_c (by decide), upI_c (by decide)]; exact v3, by dsimp only; rw [upI_c (by decide), upI_c (by decide)]; exact v4, fun t => ?_⟩
        · try dsimp only
          rw [st, bI_t d, s35_74]
          simp (disch := first | assumption | omega) only [↓gd_t, ↓if_pos, ↓if_neg, Option.bind_some, true_or, true_and, gd_t, s35_100]
        · show (upI (upI X 9 i 3) 10 i (-1)) 9 t = _ ∧ (upI (upI X 9 i 3) 10 i (-1)) 10 t = _
          rw [upI_c (show 9 ≠ 10 by decide)]
          by_cases e : t = i
          · rw [e, upI_s, upI_s, if_pos ⟨g1, by omega, d, bI_f c⟩, if_pos ⟨g1, by omega, d, bI_f c⟩]; exact ⟨rfl, rfl⟩
          · rw [upI_i e, upI_i e, upI_c (show 10 ≠ 9 by decide), (v5 t).1, (v5 t).2]
            by_cases f : 0 ≤ t ∧ t < i ∧ G 119 t = 0 ∧ bI (txG G t) = 0
            · rw [if_pos f, if_pos (by omega), if_pos f, if_pos (by omega)]; exact ⟨rfl, rfl⟩
            · rw [if_neg f, if_neg (by omega), if_neg f, if_neg (by omega)]; exact ⟨rfl, rfl⟩
      · refine ⟨(y, X), ?_, by show y = _; rw [v1, ct_s g1, bI_f (fun z => d z.1), Int.add_zero], v2, v3, v4, same False id ⟨False.elim, fun z => d z.1⟩⟩
        try dsimp only
        rw [st, bI_f d, s35_74]
        simp (disch := first | assumption | omega) only [↓gd_t, ↓if_pos, ↓if_neg, Option.bind_some, true_or, true_and, gd_t, s35_100]
  · rintro ⟨y, X⟩ ⟨v1, v2, v3, v4, v5⟩
    dsimp only at v1 v2 v3 v4 v5
    have e6 : X 6 9 = G 115 5 := by rw [v2 6 (by decide)]; exact hT.2.1
    refine ⟨X, J1, ?_, v2, q3, fun x => by rw [v4]; exact a4 x, v5⟩
    try dsimp only
    rw [s35_46, e6, v1]
    simp (disch := first | assumption | omega) only [↓gd_t, ↓if_pos, ↓if_neg, Option.bind_some, true_or, true_and, gd_t]
/-- what holds after a sweep -/
theorem sw_rel (hT : RT I G) (hS : RS I G) (hP : RP I J G) (hH : RH I G) {I' : AI} (h1 : ∀ c ∈ [6, 7, 8, 20, 21, 30], I' c = I c) (h22 : ∀ x, I' 22 x = if 0 ≤ x ∧ x < G 115 10 ∧ bI (sxG G x) = 0 then 1 else I 22 x) (h9 : ∀ t, (I' 9 t = if 0 ≤ t ∧ t < G 115 5 ∧ G 119 t = 0 ∧ bI (txG G t) = 0 then 3 else I 9 t) ∧ (I' 10 t = if 0 ≤ t ∧ t < G 115 5 ∧ G 119 t = 0 ∧ bI (txG G t) = 0 then -1 else I 10 t)) : RT I' (swG G) ∧ RS I' (swG G) ∧ RH I' (swG G) := by
  have o : ∀ c, c ≠ 119 → c ≠ 123 → swG G c = G c := fun c => swG_o G
  have e5 : swG G 115 5 = G 115 5 := by rw [o 115 (by decide) (by decide)]
  have e10 : swG G 115 10 = G 115 10 := by rw [o 115 (by decide) (by decide)]
  have e16 : swG G 115 16 = G 115 16 := by rw [o 115 (by decide) (by decide)]
  have g119 : ∀ t, 0 ≤ t → t < G 115 5 → (swG G 119 t = 0 ↔ G 119 t = 0 ∧ txG G t) := fun t a c => by
    rw [swG_119 G ⟨a, c⟩, bI_0]
    have := (hT.1.2.2.2 t a c).2
    constructor
    · intro z
      refine ⟨?_, Classical.byContradiction (fun w => z (Or.inr w))⟩
      rcases this with w | w
      · exact w
      · exact absurd (Or.inl w) z
    · rintro ⟨z, w⟩ (y | y)
      · omega
      · exact y w
  have b119 : ∀ t, 0 ≤ t → t < G 115 5 → (swG G 119 t = 0 ∨ swG G 119 t = 1) := fun t a c => by rw [swG_119 G ⟨a, c⟩]; exact bI_o _
  have g123 : ∀ t, 0 ≤ t → t < G 115 10 → (swG G 123 t = 0 ↔ G 123 t = 0 ∧ sxG G t) := fun t a c => by
    rw [swG_123 G ⟨a, c⟩, bI_0]
    have := hS.1.2 t a c
    constructor
    · intro z
      refine ⟨?_, Classical.byContradiction (fun w => z (Or.inr w))⟩
      rcases this with w | w
      · exact w
      · exact absurd (Or.inl w) z
    · rintro ⟨z, w⟩ (y | y)
      · omega
      · exact y w
  have b123 : ∀ t, 0 ≤ t → t < G 115 10 → (swG G 123 t = 0 ∨ swG G 123 t = 1) := fun t a c => by rw [swG_123 G ⟨a, c⟩]; exact bI_o _
  refine ⟨⟨⟨?_, fun t a c => ?_, fun t a c => ?_, fun t a c => ?_⟩, ?_, fun t a c => ?_⟩, ⟨⟨?_, fun s a c => ?_⟩, ?_, fun s a c => ⟨?_, fun j d e => ⟨?_, ?_, fun f g => ?_⟩⟩, fun s a c => ?_⟩, fun x a c => ⟨?_, ?_, fun d s e => ?_⟩⟩
  · rw [e5]; exact hT.1.1
  · rw [e5] at c; rw [o 120 (by decide) (by decide)]; exact hT.1.2.1 t a c
  · rw [e5] at c; rw [o 117 (by decide) (by decide)]; exact hT.1.2.2.1 t a c
  · rw [e5] at c; rw [o 118 (by decide) (by decide)]; exact ⟨(hT.1.2.2.2 t a c).1, b119 t a c⟩
  · rw [e5, h1 6 (by decide)]; exact hT.2.1
  · rw [e5] at c
    have r := hT.2.2 t a c
    have z := hT.1.2.1 t a c
    have w := (hT.1.2.2.2 t a c).2
    unfold RT1 at r ⊢
    rw [h1 8 (by decide), h1 7 (by decide), o 117 (by decide) (by decide), o 116 (by decide) (by decide), o 118 (by decide) (by decide), o 120 (by decide) (by decide), (h9 t).1, (h9 t).2]
    have b0 := bI_o (txG G t)
    refine ⟨r.1, r.2.1, ?_, ?_, fun d e => ?_, r.2.2.2.2.2⟩
    · by_cases d : swG G 119 t = 0
      · have y := (g119 t a c).mp d
        rw [if_neg (fun q => by rw [bI_t y.2] at q; omega), if_neg (by omega), r.2.2.1, if_neg (by omega)]
      · have d1 : swG G 119 t = 1 := by have := b119 t a c; omega
        rw [if_pos d1]
        by_cases y : G 119 t = 0
        · rw [if_pos ⟨a, c, y, bI_f (fun q => d ((g119 t a c).mpr ⟨y, q⟩))⟩]
        · rw [if_neg (fun q => y q.2.2.1), r.2.2.1, if_pos (by omega)]
    · by_cases d : swG G 119 t = 0
      · have y := (g119 t a c).mp d
        rw [if_neg (fun q => by rw [bI_t y.2] at q; omega), if_neg (by omega), r.2.2.2.1, if_neg (by omega)]
      · have d1 : swG G 119 t = 1 := by have := b119 t a c; omega
        rw [if_pos d1]
        by_cases y : G 119 t = 0
        · rw [if_pos ⟨a, c, y, bI_f (fun q => d ((g119 t a c).mpr ⟨y, q⟩))⟩]
        · rw [if_neg (fun q => y q.2.2.1), r.2.2.2.1, if_pos (by omega)]
    · have y := (g119 t a c).mp d
      exact (g119 _ e (by omega)).mpr ⟨r.2.2.2.2.1 y.1 e, txG_st y.2 e⟩
  · rw [e10]; exact hS.1.1
  · rw [e10] at c; exact b123 s a c
  · rw [e10, h1 20 (by decide)]; exact hS.2.1
  · rw [e10] at c
    rw [h22, (hS.2.2.1 s a c).1]
    by_cases d : sxG G s
    · rw [if_neg (fun q => by rw [bI_t d] at q; omega), swG_123 G ⟨a, c⟩]
      rcases hS.1.2 s a c with y | y
      · rw [y, bI_f]; rintro (q | q); omega; exact q d
      · rw [y, bI_t (Or.inl rfl)]
    · rw [if_pos ⟨a, c, bI_f d⟩, swG_123 G ⟨a, c⟩, bI_t (Or.inr d)]
  · rw [e10] at c; rw [h1 21 (by decide), o 122 (by decide) (by decide)]; exact ((hS.2.2.1 s a c).2 j d e).1
  · rw [e10] at c; rw [e5, o 122 (by decide) (by decide)]; exact ((hS.2.2.1 s a c).2 j d e).2.1
  · rw [e10] at c
    rw [o 122 (by decide) (by decide)] at g ⊢
    have r := (hS.2.2.1 s a c).2 j d e
    have y := (g123 s a c).mp f
    refine (g119 _ g r.2.1.2).mpr ⟨r.2.2 y.1 g, ?_⟩
    obtain ⟨u, u1, u2, u3⟩ := y.2
    exact ⟨u, j, u1, u2, ⟨d, e⟩, by rw [u3]; exact ⟨g, An.rf⟩⟩
  · rw [e10] at a
    rw [h22, if_neg (by omega)]; exact hS.2.2.2 s a c
  · rw [h1 30 (by decide), o 129 (by decide) (by decide)]; exact (hH x a c).1
  · rw [o 129 (by decide) (by decide), e16]; exact (hH x a c).2.1
  · rw [o 129 (by decide) (by decide)] at d e
    rw [o 125 (by decide) (by decide)]
    have ea : anR (swG G) = anR G := anR_cg (fun c z => o c (by revert c; decide) (by revert c; decide))
    rw [ea] at e
    have hb := hH x a c
    have hl := An.le e hP.1.ls d hb.2.1.2
    have r := hP.2.2.1 s hl.1 (by omega)
    exact (g123 _ r.2.1.1 r.2.1.2).mpr ⟨hb.2.2 d s e, s, ⟨hl.1, by omega⟩, ⟨x, ⟨a, c⟩, d, e⟩, rfl⟩
end
