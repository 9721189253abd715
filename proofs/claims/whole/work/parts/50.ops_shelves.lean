/-! calls on both sides: shelves, new shelves, new steps -/
section
variable {L : Nat} {b : Bool} {I G I' G' : AI} {J J' : AJ} {k m : Nat}
theorem fsR_cg {f g : Int → Int} (h : ∀ j, 0 ≤ j → j < 16 → f j = g j) : fsR G f = fsR G g := by
  unfold fsR
  refine lst_cg _ _ (fun s _ _ => ?_)
  unfold lk
  exact ⟨fun z => ⟨z.1, fun j a c => (z.2 j a c).trans (h j a c)⟩, fun z => ⟨z.1, fun j a c => (z.2 j a c).trans (h j a c).symm⟩⟩
theorem ath_hg (hT : RT I G) {f g : Int → Int} (h : ∀ j, 0 ≤ j → j < 16 → f j = g j ∧ (-1 ≤ g j ∧ g j < G 115 5)) : ath I f 16 ↔ ¬ hg G g 16 := by
  unfold ath hg
  constructor
  · rintro z ⟨j, a, c, d⟩
    have r := h j a.1 a.2
    rcases z j a.1 a.2 with y | y
    · omega
    · rw [r.1] at y
      exact d ((RT_th hT _).mp y).2
  · intro z j a c
    have r := h j a c
    by_cases e : f j = -1
    · exact Or.inl e
    · refine Or.inr ((RT_th hT _).mpr ⟨by rw [r.1]; omega, Classical.byContradiction (fun y => z ⟨j, ⟨a, c⟩, by omega, by rw [← r.1]; exact y⟩)⟩)
/-- a new shelf -/
theorem sh_new (hS : RS I G) (hP : RP I J G) (hH : RH I G) {f g : Int → Int} (hf : ∀ j, 0 ≤ j → j < 16 → f j = g j ∧ (-1 ≤ g j ∧ g j < G 115 5)) (hgn : ¬ hg G g 16) (hr : G 115 10 < 100)
    (c1 : Same [20, 21] I I') (c2 : I' 20 2 = G 115 10 + 1) (c3 : ∀ x, I' 21 x = if G 115 10 * 16 ≤ x ∧ x < G 115 10 * 16 + 16 then f (x - G 115 10 * 16) else I 21 x)
    (g1 : Sm [122, 123] [10] G G') (g2 : G' 115 10 = G 115 10 + 1) (g3 : G' 123 (G 115 10) = 0) (g4 : ∀ s, s ≠ G 115 10 → G' 123 s = G 123 s) (g5 : ∀ x, G' 122 x = if 16 * G 115 10 ≤ x ∧ x < 16 * G 115 10 + 16 then g (x - 16 * G 115 10) else G 122 x) : RS I' G' ∧ RP I' J G' ∧ RH I' G' := by
  have s0 := hS.1.1
  have e5 : G' 115 5 = G 115 5 := g1.2 5 (by decide)
  have e16 : G' 115 16 = G 115 16 := g1.2 16 (by decide)
  have o : ∀ c, c ∉ [122, 123] → c ≠ 115 → G' c = G c := g1.1
  refine ⟨⟨⟨by rw [g2]; omega, fun s a c => ?_⟩, by rw [c2, g2], fun s a c => ?_, fun s a c => ?_⟩, ⟨hP.1.cg (fun c z => o c (by revert c; decide) (by revert c; decide)) e16, by rw [c1 23 (by decide), e16]; exact hP.2.1, fun s a c => ?_, fun s a c => ?_⟩, fun h a c => ?_⟩
  · rw [g2] at c
    by_cases e : s = G 115 10
    · rw [e, g3]; exact Or.inl rfl
    · rw [g4 s e]; exact hS.1.2 s a (by omega)
  · rw [g2] at c
    by_cases e : s = G 115 10
    · rw [e, c1 22 (by decide), g3]
      refine ⟨hS.2.2.2 _ (Int.le_refl _) hr, fun j d e => ?_⟩
      rw [c3, g5, if_pos (by omega), if_pos (by omega), show G 115 10 * 16 + j - G 115 10 * 16 = j by omega, show 16 * G 115 10 + j - 16 * G 115 10 = j by omega, e5, o 119 (by decide) (by decide)]
      exact ⟨(hf j d e).1, (hf j d e).2, fun _ w => Classical.byContradiction (fun y => hgn ⟨j, ⟨d, e⟩, w, y⟩)⟩
    · have r := hS.2.2.1 s a (by omega)
      rw [c1 22 (by decide), g4 s e]
      refine ⟨r.1, fun j d e' => ?_⟩
      rw [c3, g5, if_neg (by omega), if_neg (by omega), e5, o 119 (by decide) (by decide)]
      exact r.2 j d e'
  · rw [g2] at a
    rw [c1 22 (by decide)]; exact hS.2.2.2 s (by omega) c
  · rw [e16] at c
    have r := hP.2.2.1 s a c
    rw [c1 24 (by decide), c1 25 (by decide), c1 26 (by decide), c1 27 (by decide), o 125 (by decide) (by decide), o 126 (by decide) (by decide), o 127 (by decide) (by decide), o 128 (by decide) (by decide), g2]
    refine ⟨r.1, ⟨r.2.1.1, by omega⟩, r.2.2.1, r.2.2.2.1, r.2.2.2.2.1, r.2.2.2.2.2.1, ?_⟩
    rw [anR_cg (fun c z => o c (by revert c; decide) (by revert c; decide))]; exact r.2.2.2.2.2.2
  · rw [e16] at a
    rw [c1 27 (by decide)]; exact hP.2.2.2 s a c
  · have r := hH h a c
    rw [c1 30 (by decide), o 129 (by decide) (by decide), e16, o 125 (by decide) (by decide), anR_cg (fun c z => o c (by revert c; decide) (by revert c; decide))]
    refine ⟨r.1, r.2.1, fun d s e => ?_⟩
    have l := An.le e hP.1.ls d r.2.1.2
    have q := (hP.2.2.1 s l.1 (by omega)).2.1
    rw [g4 _ (by omega)]
    exact r.2.2 d s e
theorem c161 (hN : 0 ≤ I 115 16 ∧ I 115 16 < 80) (x p q : Int) : evc 161 [vr 115, vi x, vi p, vi q] (hp L b I J) = some (vi (I 115 16), hp L b (upI (upI (upI (upI (upI I 125 (I 115 16) x) 126 (I 115 16) p) 127 (I 115 16) q) 128 (I 115 16) 0) 115 16 (I 115 16 + 1)) J) := by
  rw [n161, s161_0]
  simp only [upI_c (show (115 : Nat) ≠ 125 by decide), upI_c (show (115 : Nat) ≠ 126 by decide), upI_c (show (115 : Nat) ≠ 127 by decide), upI_c (show (115 : Nat) ≠ 128 by decide), upI_s]
  simp (disch := first | assumption | omega) only [↓gd_t, ↓if_pos, ↓if_neg, Option.bind_some, true_or, true_and, gd_t]
  rw [show I 115 16 + 1 - 1 = I 115 16 by omega]
/-- a new step -/
theorem st_new (hP : RP I J G) (hH : RH I G) {x p q : Int} (hN : G 115 16 < 80) (hx : 0 ≤ x ∧ x < G 115 10) (hp1 : -1 ≤ p ∧ p < G 115 16) (hq1 : -1 ≤ q ∧ q < G 115 16)
    (c0 : I' = upI (upI (upI (upI I 23 8 (I 23 8 + 1)) 24 (I 23 8) x) 25 (I 23 8) p) 26 (I 23 8) q) (j1 : ∀ s, s ≠ I 23 8 → ab J' s = ab J s) (j2 : ∀ t, ab J' (I 23 8) t ↔ t = I 23 8 ∨ ((0 ≤ p ∧ p < I 23 8) ∧ ab J p t) ∨ ((0 ≤ q ∧ q < I 23 8) ∧ ab J q t))
    (g0 : ∀ s, G' 125 s = (if s = G 115 16 then x else G 125 s) ∧ G' 126 s = (if s = G 115 16 then p else G 126 s) ∧ G' 127 s = (if s = G 115 16 then q else G 127 s) ∧ G' 128 s = (if s = G 115 16 then 0 else G 128 s)) (g1 : G' 115 16 = G 115 16 + 1) (g2 : G' 115 10 = G 115 10) (g3 : G' 123 = G 123) (g4 : G' 129 = G 129) : RP I' J' G' ∧ RH I' G' := by
  have p0 := hP.1.1
  have e23 := hP.2.1
  have ls := hP.1.ls
  have an : ∀ s t, 0 ≤ s → s < G 115 16 → (anR G' s t ↔ anR G s t) := fun s t a c => (An_cg ls a c (fun u d e => by rw [(g0 u).2.1, (g0 u).2.2.1, if_neg (by omega), if_neg (by omega)]; exact ⟨rfl, rfl⟩)).symm
  have u8 : I' 23 8 = G 115 16 + 1 := by rw [c0, upI_c (by decide), upI_c (by decide), upI_c (by decide), upI_s, e23]
  have u24 : ∀ s, I' 24 s = if s = G 115 16 then x else I 24 s := fun s => by
    rw [c0, upI_c (by decide), upI_c (by decide), e23]
    by_cases e : s = G 115 16
    · rw [e, upI_s, if_pos rfl]
    · rw [upI_i e, upI_c (by decide), if_neg e]
  have u25 : ∀ s, I' 25 s = if s = G 115 16 then p else I 25 s := fun s => by
    rw [c0, upI_c (by decide), e23]
    by_cases e : s = G 115 16
    · rw [e, upI_s, if_pos rfl]
    · rw [upI_i e, upI_c (by decide), upI_c (by decide), if_neg e]
  have u26 : ∀ s, I' 26 s = if s = G 115 16 then q else I 26 s := fun s => by
    rw [c0, e23]
    by_cases e : s = G 115 16
    · rw [e, upI_s, if_pos rfl]
    · rw [upI_i e, upI_c (by decide), upI_c (by decide), upI_c (by decide), if_neg e]
  have u27 : I' 27 = I 27 := by rw [c0, upI_c (by decide), upI_c (by decide), upI_c (by decide), upI_c (by decide)]
  have u30 : I' 30 = I 30 := by rw [c0, upI_c (by decide), upI_c (by decide), upI_c (by decide), upI_c (by decide)]
  refine ⟨⟨⟨by rw [g1]; omega, fun s a c => ?_⟩, by rw [u8, g1], fun s a c => ?_, fun s a c => ?_⟩, fun h a c => ?_⟩
  · rw [g1] at c
    rw [(g0 s).2.1, (g0 s).2.2.1]
    by_cases e : s = G 115 16
    · rw [if_pos e, if_pos e]; omega
    · rw [if_neg e, if_neg e]; exact hP.1.2 s a (by omega)
  · rw [g1] at c
    rw [u24, u25, u26, u27, (g0 s).1, (g0 s).2.1, (g0 s).2.2.1, (g0 s).2.2.2, g2]
    by_cases e : s = G 115 16
    · rw [if_pos e, if_pos e, if_pos e, if_pos e, if_pos e, if_pos e, if_pos e]
      refine ⟨rfl, hx, rfl, rfl, ?_, by decide, fun t => ?_⟩
      · rw [e]; exact hP.2.2.2 _ (Int.le_refl _) hN
      · rw [e]
        have z := j2 t
        rw [e23] at z
        rw [z]
        unfold anR
        rw [An_iff, (g0 (G 115 16)).2.1, (g0 (G 115 16)).2.2.1, if_pos rfl, if_pos rfl]
        constructor
        · rintro (y | ⟨y1, y2⟩ | ⟨y1, y2⟩)
          · exact Or.inl y.symm
          · exact Or.inr (Or.inl ⟨y1.1, (an p t y1.1 y1.2).mpr (((hP.2.2.1 p y1.1 y1.2).2.2.2.2.2.2 t).mp y2)⟩)
          · exact Or.inr (Or.inr ⟨y1.1, (an q t y1.1 y1.2).mpr (((hP.2.2.1 q y1.1 y1.2).2.2.2.2.2.2 t).mp y2)⟩)
        · rintro (y | ⟨y1, y2⟩ | ⟨y1, y2⟩)
          · exact Or.inl y.symm
          · exact Or.inr (Or.inl ⟨⟨y1, hp1.2⟩, ((hP.2.2.1 p y1 hp1.2).2.2.2.2.2.2 t).mpr ((an p t y1 hp1.2).mp y2)⟩)
          · exact Or.inr (Or.inr ⟨⟨y1, hq1.2⟩, ((hP.2.2.1 q y1 hq1.2).2.2.2.2.2.2 t).mpr ((an q t y1 hq1.2).mp y2)⟩)
    · have r := hP.2.2.1 s a (by omega)
      rw [if_neg e, if_neg e, if_neg e, if_neg e, if_neg e, if_neg e, if_neg e]
      refine ⟨r.1, r.2.1, r.2.2.1, r.2.2.2.1, r.2.2.2.2.1, r.2.2.2.2.2.1, fun t => ?_⟩
      rw [j1 s (by omega), an s t a (by omega)]
      exact r.2.2.2.2.2.2 t
  · rw [g1] at a
    rw [u27]; exact hP.2.2.2 s (by omega) c
  · have r := hH h a c
    rw [u30, g4, g1, g3]
    refine ⟨r.1, ⟨r.2.1.1, by omega⟩, fun d s e => ?_⟩
    have e' := (an _ s d r.2.1.2).mp e
    have l := An.le e' ls d r.2.1.2
    rw [(g0 s).1, if_neg (by omega)]
    exact r.2.2 d s e'
end
theorem op_lay (x t : Int) : Op 98 151 [vi x, vi t] := by
  intro L b I J h
  obtain ⟨hT, hC, hU, hD, hB, hS, hP, hH, hF, hM, hJ⟩ := id h
  have t0 := hT.1.1
  by_cases c : (0 ≤ x ∧ x < 16) ∧ thR I t
  · have c1 := c.1
    have th := c.2.1
    refine ⟨I 124 x, b, upI I 5 x t, J, upI (upI I 5 x t) 124 x t, ?_, ?_, ?_⟩
    · rw [n98, s98_0, c131, bI_t c.1]
      simp only [Option.bind_some]
      rw [s98_4, if_neg (by decide), c65R hT, bI_t c.2]
      simp (disch := first | assumption | omega) only [↓gd_t, ↓if_pos, ↓if_neg, Option.bind_some, true_or, true_and, gd_t, s98_15, (hB x c1.1 c1.2).1]
    · have th' : thR (upI I 5 x t) t := by unfold thR; rw [upI_c (by decide), upI_c (by decide)]; exact c.2
      rw [n151, s151_0, c149, bI_t c.1]
      simp only [Option.bind_some]
      rw [s151_4, if_neg (by decide), c135 (by rw [upI_c (by decide)]; exact t0.2), bI_t th']
      simp only [Option.bind_some]
      rw [s151_12]
      simp (disch := first | assumption | omega) only [↓gd_t, ↓if_pos, ↓if_neg, Option.bind_some, true_or, true_and, gd_t, upI_c (show (124 : Nat) ≠ 5 by decide)]
    · have hA : Sm [5, 124] [] I (upI (upI I 5 x t) 124 x t) := (Sm.rf.up (by simp) (by decide)).up (by simp) (by decide)
      have hb : RB (upI (upI I 5 x t) 124 x t) (upI (upI I 5 x t) 124 x t) := fun j a d => by
        rw [upI_c (show 5 ≠ 124 by decide), upI_c (show 115 ≠ 124 by decide), upI_c (show 115 ≠ 5 by decide)]
        by_cases e : j = x
        · rw [e, upI_s, upI_s]; exact ⟨rfl, by omega, by omega⟩
        · rw [upI_i e, upI_i e, upI_c (by decide)]; exact hB j a d
      exact ⟨⟨RT.cg (h.1) (fun c z => hA.1 c (by revert c; decide) (by revert c; decide)) (fun c z => hA.1 c (by revert c; decide) (by revert c; decide)) (hA.2 5 (by decide)), RC.cg (h.2.1) (hA.1 161 (by decide) (by decide)) (fun c z => hA.1 c (by revert c; decide) (by revert c; decide)) (hA.2 5 (by decide)), RU.cg (h.2.2.1) (hA.1 11 (by decide) (by decide)) (fun c z => hA.1 c (by revert c; decide) (by revert c; decide)) (hA.2 5 (by decide)), RD.cg (h.2.2.2.1) (fun c z => hA.1 c (by revert c; decide) (by revert c; decide)) (hA.1 121 (by decide) (by decide)) (hA.2 7 (by decide)), hb, RS.cg (h.2.2.2.2.2.1) (fun c z => hA.1 c (by revert c; decide) (by revert c; decide)) (fun c z => hA.1 c (by revert c; decide) (by revert c; decide)) (hA.2 5 (by decide)) (hA.2 10 (by decide)), RP.cg (h.2.2.2.2.2.2.1) (fun c z => hA.1 c (by revert c; decide) (by revert c; decide)) (fun _ _ => rfl) (fun c z => hA.1 c (by revert c; decide) (by revert c; decide)) (hA.2 10 (by decide)) (hA.2 16 (by decide)), RH.cg (h.2.2.2.2.2.2.2.1) (hA.1 30 (by decide) (by decide)) (fun c z => hA.1 c (by revert c; decide) (by revert c; decide)) (hA.2 16 (by decide)), RF.cg (h.2.2.2.2.2.2.2.2.1) (fun c z => hA.1 c (by revert c; decide) (by revert c; decide)) (fun c z => hA.1 c (by revert c; decide) (by revert c; decide)) (hA.2 30 (by decide)), RM.cg (h.2.2.2.2.2.2.2.2.2.1) (fun c z => hA.1 c (by revert c; decide) (by revert c; decide)) (fun c z => hA.1 c (by revert c; decide) (by revert c; decide)) (fun j z => hA.2 j (by revert j; decide)), RJ.cg (h.2.2.2.2.2.2.2.2.2.2) (fun c z => hA.1 c (by revert c; decide) (by revert c; decide)) (hA.1 155 (by decide) (by decide)) (fun j z => hA.2 j (by revert j; decide))⟩, hA.1 0 (by decide) (by decide)⟩
  · refine ⟨-2, b, I, J, I, ?_, ?_, h, rfl⟩
    · rw [n98, s98_0, c131]
      by_cases d : 0 ≤ x ∧ x < 16
      · rw [bI_t d]
        simp only [Option.bind_some]
        rw [s98_4, if_neg (by decide), c65R hT, bI_f (fun z => c ⟨d, z⟩)]
        simp (disch := first | assumption | omega) only [↓gd_t, ↓if_pos, ↓if_neg, Option.bind_some, true_or, true_and, gd_t, s98_15, s98_18]
      · rw [bI_f d]
        simp (disch := first | assumption | omega) only [↓gd_t, ↓if_pos, ↓if_neg, Option.bind_some, true_or, true_and, gd_t, s98_4, s98_18]
    · rw [n151, s151_0, c149]
      by_cases d : 0 ≤ x ∧ x < 16
      · rw [bI_t d]
        simp only [Option.bind_some]
        rw [s151_4, if_neg (by decide), c135 t0.2, bI_f (fun z => c ⟨d, z⟩)]
        simp (disch := first | assumption | omega) only [↓gd_t, ↓if_pos, ↓if_neg, Option.bind_some, true_or, true_and, gd_t, s151_12, s151_15]
      · rw [bI_f d]
        simp (disch := first | assumption | omega) only [↓gd_t, ↓if_pos, ↓if_neg, Option.bind_some, true_or, true_and, gd_t, s151_4, s151_15]
theorem op_take (x : Int) : Op 99 152 [vi x] := by
  intro L b I J h
  obtain ⟨hT, hC, hU, hD, hB, hS, hP, hH, hF, hM, hJ⟩ := id h
  have t0 := hT.1.1
  by_cases c : 0 ≤ x ∧ x < 16
  · refine ⟨I 124 x, b, upI I 5 x (-1), J, upI (upI I 5 x (-1)) 124 x (-1), ?_, ?_, ?_⟩
    · rw [n99, s99_0, c131, bI_t c]
      simp (disch := first | assumption | omega) only [↓gd_t, ↓if_pos, ↓if_neg, Option.bind_some, true_or, true_and, gd_t, s99_4, (hB x c.1 c.2).1]
    · rw [n152, s152_0, c149, bI_t c]
      simp only [Option.bind_some]
      rw [s152_4]
      simp (disch := first | assumption | omega) only [↓gd_t, ↓if_pos, ↓if_neg, Option.bind_some, true_or, true_and, gd_t, upI_c (show (124 : Nat) ≠ 5 by decide)]
    · have hA : Sm [5, 124] [] I (upI (upI I 5 x (-1)) 124 x (-1)) := (Sm.rf.up (by simp) (by decide)).up (by simp) (by decide)
      have hb : RB (upI (upI I 5 x (-1)) 124 x (-1)) (upI (upI I 5 x (-1)) 124 x (-1)) := fun j a d => by
        rw [upI_c (show 5 ≠ 124 by decide), upI_c (show 115 ≠ 124 by decide), upI_c (show 115 ≠ 5 by decide)]
        by_cases e : j = x
        · rw [e, upI_s, upI_s]; exact ⟨rfl, by omega, by omega⟩
        · rw [upI_i e, upI_i e, upI_c (by decide)]; exact hB j a d
      exact ⟨⟨RT.cg (h.1) (fun c z => hA.1 c (by revert c; decide) (by revert c; decide)) (fun c z => hA.1 c (by revert c; decide) (by revert c; decide)) (hA.2 5 (by decide)), RC.cg (h.2.1) (hA.1 161 (by decide) (by decide)) (fun c z => hA.1 c (by revert c; decide) (by revert c; decide)) (hA.2 5 (by decide)), RU.cg (h.2.2.1) (hA.1 11 (by decide) (by decide)) (fun c z => hA.1 c (by revert c; decide) (by revert c; decide)) (hA.2 5 (by decide)), RD.cg (h.2.2.2.1) (fun c z => hA.1 c (by revert c; decide) (by revert c; decide)) (hA.1 121 (by decide) (by decide)) (hA.2 7 (by decide)), hb, RS.cg (h.2.2.2.2.2.1) (fun c z => hA.1 c (by revert c; decide) (by revert c; decide)) (fun c z => hA.1 c (by revert c; decide) (by revert c; decide)) (hA.2 5 (by decide)) (hA.2 10 (by decide)), RP.cg (h.2.2.2.2.2.2.1) (fun c z => hA.1 c (by revert c; decide) (by revert c; decide)) (fun _ _ => rfl) (fun c z => hA.1 c (by revert c; decide) (by revert c; decide)) (hA.2 10 (by decide)) (hA.2 16 (by decide)), RH.cg (h.2.2.2.2.2.2.2.1) (hA.1 30 (by decide) (by decide)) (fun c z => hA.1 c (by revert c; decide) (by revert c; decide)) (hA.2 16 (by decide)), RF.cg (h.2.2.2.2.2.2.2.2.1) (fun c z => hA.1 c (by revert c; decide) (by revert c; decide)) (fun c z => hA.1 c (by revert c; decide) (by revert c; decide)) (hA.2 30 (by decide)), RM.cg (h.2.2.2.2.2.2.2.2.2.1) (fun c z => hA.1 c (by revert c; decide) (by revert c; decide)) (fun c z => hA.1 c (by revert c; decide) (by revert c; decide)) (fun j z => hA.2 j (by revert j; decide)), RJ.cg (h.2.2.2.2.2.2.2.2.2.2) (fun c z => hA.1 c (by revert c; decide) (by revert c; decide)) (hA.1 155 (by decide) (by decide)) (fun j z => hA.2 j (by revert j; decide))⟩, hA.1 0 (by decide) (by decide)⟩
  · refine ⟨-2, b, I, J, I, ?_, ?_, h, rfl⟩
    · rw [n99, s99_0, c131, bI_f c]
      simp (disch := first | assumption | omega) only [↓gd_t, ↓if_pos, ↓if_neg, Option.bind_some, true_or, true_and, gd_t, s99_4]
    · rw [n152, s152_0, c149, bI_f c]
      simp (disch := first | assumption | omega) only [↓gd_t, ↓if_pos, ↓if_neg, Option.bind_some, true_or, true_and, gd_t, s152_4]
theorem op_on (s x : Int) : Op 102 159 [vi s, vi x] := by
  intro L b I J h
  obtain ⟨hT, hC, hU, hD, hB, hS, hP, hH, hF, hM, hJ⟩ := id h
  have s0 := hS.1.1
  by_cases c : shR I s
  · have c1 := c.1
    by_cases d : 0 ≤ x ∧ x < 16
    · refine ⟨I 122 (16 * s + x), b, I, J, I, ?_, ?_, h, rfl⟩
      · rw [n102, s102_0, c42R hS, bI_t c]
        simp only [Option.bind_some]
        rw [s102_8, if_neg (by decide), c131, bI_t d]
        simp only [Option.bind_some]
        rw [s102_15, if_neg (by decide), c43R hS c1 d]
        simp (disch := first | assumption | omega) only [↓gd_t, ↓if_pos, ↓if_neg, Option.bind_some, true_or, true_and, gd_t, s102_27]
      · rw [n159, s159_0, c150 s0.2, bI_t c]
        simp only [Option.bind_some]
        rw [s159_5, if_neg (by decide), c149, bI_t d]
        simp (disch := first | assumption | omega) only [↓gd_t, ↓if_pos, ↓if_neg, Option.bind_some, true_or, true_and, gd_t, s159_12]
    · refine ⟨-2, b, I, J, I, ?_, ?_, h, rfl⟩
      · rw [n102, s102_0, c42R hS, bI_t c]
        simp only [Option.bind_some]
        rw [s102_8, if_neg (by decide), c131, bI_f d]
        simp (disch := first | assumption | omega) only [↓gd_t, ↓if_pos, ↓if_neg, Option.bind_some, true_or, true_and, gd_t, s102_15, s102_30]
      · rw [n159, s159_0, c150 s0.2, bI_t c]
        simp only [Option.bind_some]
        rw [s159_5, if_neg (by decide), c149, bI_f d]
        simp (disch := first | assumption | omega) only [↓gd_t, ↓if_pos, ↓if_neg, Option.bind_some, true_or, true_and, gd_t, s159_12, s159_29]
  · refine ⟨-2, b, I, J, I, ?_, ?_, h, rfl⟩
    · rw [n102, s102_0, c42R hS, bI_f c]
      simp (disch := first | assumption | omega) only [↓gd_t, ↓if_pos, ↓if_neg, Option.bind_some, true_or, true_and, gd_t, s102_8, s102_30]
    · rw [n159, s159_0, c150 s0.2, bI_f c]
      simp (disch := first | assumption | omega) only [↓gd_t, ↓if_pos, ↓if_neg, Option.bind_some, true_or, true_and, gd_t, s159_5, s159_29]
theorem op_load (s : Int) : Op 100 154 [vi s] := by
  intro L b I J h
  obtain ⟨hT, hC, hU, hD, hB, hS, hP, hH, hF, hM, hJ⟩ := id h
  have s0 := hS.1.1
  by_cases c : shR I s
  · have c1 := c.1
    have r := (hS.2.2.1 s c1.1 c1.2).2
    have A : (fun r => ∃ I1, r = some (vi (ct (fun j => 0 ≤ I 122 (16 * s + j)) 16), hp L b I1 J) ∧ Same [5] I I1 ∧ ∀ j, 0 ≤ j → j < 16 → I1 5 j = I 122 (16 * s + j)) (ev 100 16 [some (vr 1), some (vi s), some (vi 0)] [] (hp L b I J)) := by
      refine lp (lo := 0) (hi := 16) (F := fun i (X : AI) => ev 100 16 [some (vr 1), some (vi s), some (vi i)] [] (hp L b X J)) (Q := fun r => ∃ I1, r = some (vi (ct (fun j => 0 ≤ I 122 (16 * s + j)) 16), hp L b I1 J) ∧ Same [5] I I1 ∧ ∀ j, 0 ≤ j → j < 16 → I1 5 j = I 122 (16 * s + j)) (fun i X => Same [5] I X ∧ ∀ j, 0 ≤ j → j < i → X 5 j = I 122 (16 * s + j)) ?_ ?_ 0 I (Int.le_refl _) (by decide) ⟨Same.rf, fun j a d => by omega⟩
      · intro i X g1 g2 ⟨v1, v2⟩
        right
        have hSX : RS X I := hS.cg (fun c z => v1 c (by revert c; decide)) (fun _ _ => rfl) rfl rfl
        refine ⟨upI X 5 i (I 122 (16 * s + i)), ?_, v1.up (by simp), fun j a d => ?_⟩
        · try dsimp only
          rw [s100_16, if_neg (by omega), c43R hSX c1 ⟨g1, g2⟩]
          simp only [Option.bind_some]
          rw [s100_36]
          simp (disch := first | assumption | omega) only [↓gd_t, ↓if_pos, ↓if_neg, Option.bind_some, true_or, true_and, gd_t]
        · by_cases e : j = i
          · rw [e, upI_s]
          · rw [upI_i e]; exact v2 j a (by omega)
      · intro X ⟨v1, v2⟩
        refine ⟨X, ?_, v1, v2⟩
        try dsimp only
        rw [s100_16, if_pos (Int.le_refl _), c132]
        simp only [Option.bind_some]
        rw [s100_50, ct_cg 16 (q := fun j => 0 ≤ I 122 (16 * s + j)) (fun j a d => by rw [v2 j a (by omega)]; have := (r j a (by omega)).2.1; omega)]
    obtain ⟨I1, q1, q2, q3⟩ := A
    have B : (fun r => ∃ I2, r = some (vi (ct (fun j => 0 ≤ I 122 (16 * s + j)) 16), hp L b I2 J) ∧ Sm [124] [] I1 I2 ∧ ∀ j, 0 ≤ j → j < 16 → I2 124 j = I 122 (16 * s + j)) (ev 154 13 [some (vr 115), some (vi s), some (vi 0)] [] (hp L b I1 J)) := by
      refine lp (lo := 0) (hi := 16) (F := fun i (X : AI) => ev 154 13 [some (vr 115), some (vi s), some (vi i)] [] (hp L b X J)) (Q := fun r => ∃ I2, r = some (vi (ct (fun j => 0 ≤ I 122 (16 * s + j)) 16), hp L b I2 J) ∧ Sm [124] [] I1 I2 ∧ ∀ j, 0 ≤ j → j < 16 → I2 124 j = I 122 (16 * s + j)) (fun i X => Sm [124] [] I1 X ∧ ∀ j, 0 ≤ j → j < i → X 124 j = I 122 (16 * s + j)) ?_ ?_ 0 I1 (Int.le_refl _) (by decide) ⟨Sm.rf, fun j a d => by omega⟩
      · intro i X g1 g2 ⟨v1, v2⟩
        right
        refine ⟨upI X 124 i (I 122 (16 * s + i)), ?_, v1.up (by simp) (by decide), fun j a d => ?_⟩
        · try dsimp only
          rw [s154_13, v1.1 122 (by decide) (by decide), q2 122 (by decide)]
          simp (disch := first | assumption | omega) only [↓gd_t, ↓if_pos, ↓if_neg, Option.bind_some, true_or, true_and, gd_t]
        · by_cases e : j = i
          · rw [e, upI_s]
          · rw [upI_i e]; exact v2 j a (by omega)
      · intro X ⟨v1, v2⟩
        refine ⟨X, ?_, v1, v2⟩
        try dsimp only
        rw [s154_13, if_pos (Int.le_refl _), c153]
        simp only [Option.bind_some]
        rw [s154_50, ct_cg 16 (q := fun j => 0 ≤ I 122 (16 * s + j)) (fun j a d => by rw [v2 j a (by omega)])]
    obtain ⟨I2, w1, w2, w3⟩ := B
    refine ⟨ct (fun j => 0 ≤ I 122 (16 * s + j)) 16, b, I1, J, I2, ?_, ?_, ?_⟩
    · rw [n100, s100_0, c42R hS, bI_t c]
      simp (disch := first | assumption | omega) only [↓gd_t, ↓if_pos, ↓if_neg, Option.bind_some, true_or, true_and, gd_t, s100_8, q1]
    · have sh1 : shR I1 s := by unfold shR; rw [q2 115 (by decide), q2 123 (by decide)]; exact c
      rw [n154, s154_0, c150 (by rw [q2 115 (by decide)]; exact s0.2), bI_t sh1]
      simp (disch := first | assumption | omega) only [↓gd_t, ↓if_pos, ↓if_neg, Option.bind_some, true_or, true_and, gd_t, s154_5, w1]
    · have hA : Sm [5, 124] [] I I2 := Sm.of2 q2 w2 (by decide) (by simp) (by simp)
      have hb : RB I2 I2 := fun j a d => by
        rw [w2.1 5 (by decide) (by decide), q3 j a d, w3 j a d, hA.2 5 (by decide)]
        exact ⟨rfl, (r j a d).2.1⟩
      exact ⟨⟨RT.cg (h.1) (fun c z => hA.1 c (by revert c; decide) (by revert c; decide)) (fun c z => hA.1 c (by revert c; decide) (by revert c; decide)) (hA.2 5 (by decide)), RC.cg (h.2.1) (hA.1 161 (by decide) (by decide)) (fun c z => hA.1 c (by revert c; decide) (by revert c; decide)) (hA.2 5 (by decide)), RU.cg (h.2.2.1) (hA.1 11 (by decide) (by decide)) (fun c z => hA.1 c (by revert c; decide) (by revert c; decide)) (hA.2 5 (by decide)), RD.cg (h.2.2.2.1) (fun c z => hA.1 c (by revert c; decide) (by revert c; decide)) (hA.1 121 (by decide) (by decide)) (hA.2 7 (by decide)), hb, RS.cg (h.2.2.2.2.2.1) (fun c z => hA.1 c (by revert c; decide) (by revert c; decide)) (fun c z => hA.1 c (by revert c; decide) (by revert c; decide)) (hA.2 5 (by decide)) (hA.2 10 (by decide)), RP.cg (h.2.2.2.2.2.2.1) (fun c z => hA.1 c (by revert c; decide) (by revert c; decide)) (fun _ _ => rfl) (fun c z => hA.1 c (by revert c; decide) (by revert c; decide)) (hA.2 10 (by decide)) (hA.2 16 (by decide)), RH.cg (h.2.2.2.2.2.2.2.1) (hA.1 30 (by decide) (by decide)) (fun c z => hA.1 c (by revert c; decide) (by revert c; decide)) (hA.2 16 (by decide)), RF.cg (h.2.2.2.2.2.2.2.2.1) (fun c z => hA.1 c (by revert c; decide) (by revert c; decide)) (fun c z => hA.1 c (by revert c; decide) (by revert c; decide)) (hA.2 30 (by decide)), RM.cg (h.2.2.2.2.2.2.2.2.2.1) (fun c z => hA.1 c (by revert c; decide) (by revert c; decide)) (fun c z => hA.1 c (by revert c; decide) (by revert c; decide)) (fun j z => hA.2 j (by revert j; decide)), RJ.cg (h.2.2.2.2.2.2.2.2.2.2) (fun c z => hA.1 c (by revert c; decide) (by revert c; decide)) (hA.1 155 (by decide) (by decide)) (fun j z => hA.2 j (by revert j; decide))⟩, hA.1 0 (by decide) (by decide)⟩
  · refine ⟨-2, b, I, J, I, ?_, ?_, h, rfl⟩
    · rw [n100, s100_0, c42R hS, bI_f c]
      simp (disch := first | assumption | omega) only [↓gd_t, ↓if_pos, ↓if_neg, Option.bind_some, true_or, true_and, gd_t, s100_8]
    · rw [n154, s154_0, c150 s0.2, bI_f c]
      simp (disch := first | assumption | omega) only [↓gd_t, ↓if_pos, ↓if_neg, Option.bind_some, true_or, true_and, gd_t, s154_5]
theorem l101 {L : Nat} {b : Bool} {I : AI} {J : AJ} (v : Int) : ∃ I1, ev 101 37 [some (vr 1), some (vi v), some (vi 0)] [] (hp L b I J) = some (vi v, hp L b I1 J) ∧ Same [5] I I1 ∧ ∀ j, 0 ≤ j → j < 16 → I1 5 j = -1 := by
  refine lp (lo := 0) (hi := 16) (F := fun i (X : AI) => ev 101 37 [some (vr 1), some (vi v), some (vi i)] [] (hp L b X J)) (Q := fun r => ∃ I1, r = some (vi v, hp L b I1 J) ∧ Same [5] I I1 ∧ ∀ j, 0 ≤ j → j < 16 → I1 5 j = -1) (fun i X => Same [5] I X ∧ ∀ j, 0 ≤ j → j < i → X 5 j = -1) ?_ ?_ 0 I (Int.le_refl _) (by decide) ⟨Same.rf, fun j a d => by omega⟩
  · intro i X g1 g2 ⟨v1, v2⟩
    right
    refine ⟨upI X 5 i (-1), ?_, v1.up (by simp), fun j a d => ?_⟩
    · try dsimp only
      rw [s101_37]
      simp (disch := first | assumption | omega) only [↓gd_t, ↓if_pos, ↓if_neg, Option.bind_some, true_or, true_and, gd_t]
    · by_cases e : j = i
      · rw [e, upI_s]
      · rw [upI_i e]; exact v2 j a (by omega)
  · intro X ⟨v1, v2⟩
    refine ⟨X, ?_, v1, v2⟩
    try dsimp only
    rw [s101_37]
    simp (disch := first | assumption | omega) only [↓gd_t, ↓if_pos, ↓if_neg, Option.bind_some, true_or, true_and, gd_t, s101_56]
theorem l158 {L : Nat} {b : Bool} {I : AI} {J : AJ} {v : Int} (hv : 0 ≤ v) : ∃ I1, ev 158 11 [some (vr 115), some (vi v), some (vi 0)] [] (hp L b I J) = some (vi v, hp L b I1 J) ∧ Sm [124] [] I I1 ∧ ∀ j, 0 ≤ j → j < 16 → I1 124 j = -1 := by
  refine lp (lo := 0) (hi := 16) (F := fun i (X : AI) => ev 158 11 [some (vr 115), some (vi v), some (vi i)] [] (hp L b X J)) (Q := fun r => ∃ I1, r = some (vi v, hp L b I1 J) ∧ Sm [124] [] I I1 ∧ ∀ j, 0 ≤ j → j < 16 → I1 124 j = -1) (fun i X => Sm [124] [] I X ∧ ∀ j, 0 ≤ j → j < i → X 124 j = -1) ?_ ?_ 0 I (Int.le_refl _) (by decide) ⟨Sm.rf, fun j a d => by omega⟩
  · intro i X g1 g2 ⟨v1, v2⟩
    right
    refine ⟨upI X 124 i (-1), ?_, v1.up (by simp) (by decide), fun j a d => ?_⟩
    · try dsimp only
      rw [s158_11]
      simp (disch := first | assumption | omega) only [↓gd_t, ↓if_pos, ↓if_neg, Option.bind_some, true_or, true_and, gd_t]
    · by_cases e : j = i
      · rw [e, upI_s]
      · rw [upI_i e]; exact v2 j a (by omega)
  · intro X ⟨v1, v2⟩
    refine ⟨X, ?_, v1, v2⟩
    try dsimp only
    rw [s158_11]
    simp (disch := first | assumption | omega) only [↓gd_t, ↓if_pos, ↓if_neg, Option.bind_some, true_or, true_and, gd_t, s158_34]
theorem op_shelf : Op 101 158 [] := by
  intro L b I J h
  obtain ⟨hT, hC, hU, hD, hB, hS, hP, hH, hF, hM, hJ⟩ := id h
  have t0 := hT.1.1
  have s0 := hS.1.1
  have b6 : I 6 9 ≤ 120 := by rw [hT.2.1]; exact t0.2
  have hr : ∀ j, 0 ≤ j → j < 16 → I 124 j < 120 := fun j a c => by have := (hB j a c).2; omega
  have ah := ath_hg hT (f := I 5) (g := I 124) hB
  have fse : fsC I (I 5) = fsR I (I 124) := by rw [RS_fs hS, fsR_cg (fun j a c => (hB j a c).1)]
  have fsb := fsR_bd hS.1 (f := I 124)
  have ref0 : ∀ (X : AI) (v : Int), v < 0 → evc 157 [vr 115, vr 124] (hp L b X J) = some (vi v, hp L b X J) → evc 158 [vr 115] (hp L b X J) = some (vi v, hp L b X J) := fun X v hv z => by
    rw [n158, s158_0, z]
    simp only [Option.bind_some]
    rw [s158_8, s158_11]
    simp (disch := first | assumption | omega) only [↓gd_t, ↓if_pos, ↓if_neg, Option.bind_some, true_or, true_and, gd_t, s158_34]
  by_cases g : hg I (I 124) 16
  · refine ⟨-2, b, I, J, I, ?_, ref0 I (-2) (by decide) (c157a hS.1 (by decide) hr (Or.inl g)), h, rfl⟩
    rw [n101, s101_0, c67 b6 (by decide), bI_f (fun z => (ah.mp z) g)]
    simp (disch := first | assumption | omega) only [↓gd_t, ↓if_pos, ↓if_neg, Option.bind_some, true_or, true_and, gd_t, s101_11]
  · have st : ∀ (r : Option (AV × Hp)), evc 46 [vr 20, vr 5] (hp L b I J) = r → evc 101 [vr 1] (hp L b I J) = r.bind (fun q => ev 101 28 [some (vr 1), none, none] (q.1 :: []) q.2) := fun r z => by
      rw [n101, s101_0, c67 b6 (by decide), bI_t (ah.mpr g)]
      simp only [Option.bind_some]
      rw [s101_11, if_pos (by decide), z]
    have fin : ∀ (v : Int) (I1 : AI), 0 ≤ v → evc 46 [vr 20, vr 5] (hp L b I J) = some (vi v, hp L b I1 J) → ∃ I2, evc 101 [vr 1] (hp L b I J) = some (vi v, hp L b I2 J) ∧ Same [5] I1 I2 ∧ ∀ j, 0 ≤ j → j < 16 → I2 5 j = -1 := fun v I1 hv z => by
      obtain ⟨I2, y1, y2, y3⟩ := l101 (L := L) (b := b) (I := I1) (J := J) v
      refine ⟨I2, ?_, y2, y3⟩
      rw [st _ z]
      simp only [Option.bind_some]
      rw [s101_28, if_neg (by omega), y1]
    by_cases c : 0 ≤ fsR I (I 124)
    · obtain ⟨I2, y1, y2, y3⟩ := fin (fsR I (I 124)) I c (by rw [← fse]; exact c46b (RS_svc hS) (by decide) (by rw [fse]; exact c))
      have o : ∀ c, c ∉ [5] → I2 c = I c := y2
      have hS2 : SvR I2 := by have z := hS.1; unfold SvR at *; rw [o 115 (by decide), o 123 (by decide)]; exact z
      have fs2 : fsR I2 (I2 124) = fsR I (I 124) := by unfold fsR lk; rw [o 115 (by decide), o 123 (by decide), o 122 (by decide), o 124 (by decide)]
      have g2 : ¬ hg I2 (I2 124) 16 := by unfold hg; rw [o 124 (by decide), o 119 (by decide)]; exact g
      obtain ⟨I3, w1, w2, w3⟩ := l158 (L := L) (b := b) (I := I2) (J := J) c
      refine ⟨fsR I (I 124), b, I2, J, I3, y1, ?_, ?_⟩
      · rw [n158, s158_0, c157b hS2 (by decide) (by rw [o 124 (by decide)]; exact hr) g2 (by rw [fs2]; exact c), fs2]
        simp only [Option.bind_some]
        rw [s158_8, w1]
      · have hA : Sm [5, 124] [] I I3 := Sm.of2 y2 w2 (by decide) (by simp) (by simp)
        have hb : RB I3 I3 := fun j a d => by
          rw [w2.1 5 (by decide) (by decide), y3 j a d, w3 j a d, hA.2 5 (by decide)]
          exact ⟨rfl, by omega, by omega⟩
        exact ⟨⟨RT.cg (h.1) (fun c z => hA.1 c (by revert c; decide) (by revert c; decide)) (fun c z => hA.1 c (by revert c; decide) (by revert c; decide)) (hA.2 5 (by decide)), RC.cg (h.2.1) (hA.1 161 (by decide) (by decide)) (fun c z => hA.1 c (by revert c; decide) (by revert c; decide)) (hA.2 5 (by decide)), RU.cg (h.2.2.1) (hA.1 11 (by decide) (by decide)) (fun c z => hA.1 c (by revert c; decide) (by revert c; decide)) (hA.2 5 (by decide)), RD.cg (h.2.2.2.1) (fun c z => hA.1 c (by revert c; decide) (by revert c; decide)) (hA.1 121 (by decide) (by decide)) (hA.2 7 (by decide)), hb, RS.cg (h.2.2.2.2.2.1) (fun c z => hA.1 c (by revert c; decide) (by revert c; decide)) (fun c z => hA.1 c (by revert c; decide) (by revert c; decide)) (hA.2 5 (by decide)) (hA.2 10 (by decide)), RP.cg (h.2.2.2.2.2.2.1) (fun c z => hA.1 c (by revert c; decide) (by revert c; decide)) (fun _ _ => rfl) (fun c z => hA.1 c (by revert c; decide) (by revert c; decide)) (hA.2 10 (by decide)) (hA.2 16 (by decide)), RH.cg (h.2.2.2.2.2.2.2.1) (hA.1 30 (by decide) (by decide)) (fun c z => hA.1 c (by revert c; decide) (by revert c; decide)) (hA.2 16 (by decide)), RF.cg (h.2.2.2.2.2.2.2.2.1) (fun c z => hA.1 c (by revert c; decide) (by revert c; decide)) (fun c z => hA.1 c (by revert c; decide) (by revert c; decide)) (hA.2 30 (by decide)), RM.cg (h.2.2.2.2.2.2.2.2.2.1) (fun c z => hA.1 c (by revert c; decide) (by revert c; decide)) (fun c z => hA.1 c (by revert c; decide) (by revert c; decide)) (fun j z => hA.2 j (by revert j; decide)), RJ.cg (h.2.2.2.2.2.2.2.2.2.2) (fun c z => hA.1 c (by revert c; decide) (by revert c; decide)) (hA.1 155 (by decide) (by decide)) (fun j z => hA.2 j (by revert j; decide))⟩, hA.1 0 (by decide) (by decide)⟩
    · have c' : fsR I (I 124) = -1 := by rcases fsb with z | z; exact z.1; exact absurd z.1.1 c
      by_cases d : I 115 10 = 100
      · refine ⟨-2, b, I, J, I, ?_, ref0 I (-2) (by decide) (c157a hS.1 (by decide) hr (Or.inr ⟨g, c', d⟩)), h, rfl⟩
        rw [st _ (c46a (RS_svc hS) (by decide) (by rw [fse]; exact c') (by rw [hS.2.1]; exact d))]
        simp only [Option.bind_some]
        rw [s101_28, if_pos rfl, s101_56]
      · obtain ⟨I1, q1, q2, q3, q4⟩ := c46c (L := L) (b := b) (J := J) (k := 5) (RS_svc hS) (by decide) (by rw [fse]; exact c') (by rw [hS.2.1]; omega)
        rw [hS.2.1] at q1 q3 q4
        obtain ⟨I2, y1, y2, y3⟩ := fin (I 115 10) I1 s0.1 q1
        have o : ∀ c, c ∉ [5, 20, 21] → I2 c = I c := fun c hc => by rw [y2 c (fun z => hc (by simp at z ⊢; omega)), q2 c (fun z => hc (by simp at z ⊢; omega))]
        have e115 : I2 115 = I 115 := o 115 (by decide)
        have e124 : I2 124 = I 124 := o 124 (by decide)
        have hS2 : SvR I2 := by have z := hS.1; unfold SvR at *; rw [e115, o 123 (by decide)]; exact z
        have fs2 : fsR I2 (I2 124) = -1 := by rw [← c']; unfold fsR lk; rw [e115, o 123 (by decide), o 122 (by decide), e124]
        have g2 : ¬ hg I2 (I2 124) 16 := by unfold hg; rw [e124, o 119 (by decide)]; exact g
        obtain ⟨I3, x1, x2, x3, x4, x5, x6⟩ := c157c (L := L) (b := b) (J := J) (k := 124) hS2 (by decide) (by rw [e124]; exact hr) g2 fs2 (by rw [e115]; omega)
        rw [e115] at x1 x3 x4 x5 x6
        obtain ⟨I4, w1, w2, w3⟩ := l158 (L := L) (b := b) (I := I3) (J := J) s0.1
        refine ⟨I 115 10, b, I2, J, I4, y1, ?_, ?_⟩
        · rw [n158, s158_0, x1]
          simp only [Option.bind_some]
          rw [s158_8, w1]
        · have hA : Sm [5, 20, 21, 122, 123, 124] [10] I I4 := ((Sm.of2 (es := [5, 20, 21, 122, 123, 124]) (Same.tr (q2.mono (ds := [5, 20, 21]) (by simp)) (y2.mono (by simp))) x2 (by decide) (by simp) (by simp))).tr (w2.mono (by simp) (by simp))
          have g1 : Sm [122, 123] [10] I (fun c => if c = 122 then I3 122 else if c = 123 then I3 123 else if c = 115 then I3 115 else I c) := by
            refine ⟨fun c hc hd => ?_, fun j hj => ?_⟩
            · simp at hc; show (if c = 122 then _ else _) = _; rw [if_neg hc.1, if_neg hc.2, if_neg hd]
            · show (if (115 : Nat) = 122 then I3 122 else if (115 : Nat) = 123 then I3 123 else if (115 : Nat) = 115 then I3 115 else I 115) j = _
              rw [if_neg (by decide), if_neg (by decide), if_pos rfl, x2.2 j hj, e115]
          have n1 := sh_new hS hP hH (I' := I1) hB g (by omega) q2 q3 q4 g1 (by show I3 115 10 = _; exact x3) (by show I3 123 _ = 0; exact x4) (fun s hs => by show I3 123 s = _; rw [x5 s hs, o 123 (by decide)]) (fun x => by show I3 122 x = _; rw [x6, e124, o 122 (by decide)])
          have oc : ∀ c ∈ [20, 21, 22, 23, 24, 25, 26, 27, 30], I4 c = I1 c := fun c z => by rw [w2.1 c (by revert c; decide) (by revert c; decide), x2.1 c (by revert c; decide) (by revert c; decide), y2 c (by revert c; decide)]
          have of : ∀ j, I4 115 j = I3 115 j := fun j => w2.2 j (by simp)
          have og : ∀ c ∈ [119, 122, 123, 125, 126, 127, 128, 129], I4 c = (fun c => if c = 122 then I3 122 else if c = 123 then I3 123 else if c = 115 then I3 115 else I c) c := fun c z => by
            rw [w2.1 c (by revert c; decide) (by revert c; decide)]
            show I3 c = if c = 122 then I3 122 else if c = 123 then I3 123 else if c = 115 then I3 115 else I c
            by_cases e1 : c = 122
            · rw [if_pos e1, e1]
            · by_cases e2 : c = 123
              · rw [if_neg e1, if_pos e2, e2]
              · rw [if_neg e1, if_neg e2, if_neg (by simp at z; omega), x2.1 c (by simp; omega) (by simp at z; omega), o c (by simp at z ⊢; omega)]
          have hb : RB I4 I4 := fun j a d => by
            rw [w2.1 5 (by decide) (by decide), x2.1 5 (by decide) (by decide), y3 j a d, w3 j a d, hA.2 5 (by decide)]
            exact ⟨rfl, by omega, by omega⟩
          exact ⟨⟨RT.cg (h.1) (fun c z => hA.1 c (by revert c; decide) (by revert c; decide)) (fun c z => hA.1 c (by revert c; decide) (by revert c; decide)) (hA.2 5 (by decide)), RC.cg (h.2.1) (hA.1 161 (by decide) (by decide)) (fun c z => hA.1 c (by revert c; decide) (by revert c; decide)) (hA.2 5 (by decide)), RU.cg (h.2.2.1) (hA.1 11 (by decide) (by decide)) (fun c z => hA.1 c (by revert c; decide) (by revert c; decide)) (hA.2 5 (by decide)), RD.cg (h.2.2.2.1) (fun c z => hA.1 c (by revert c; decide) (by revert c; decide)) (hA.1 121 (by decide) (by decide)) (hA.2 7 (by decide)), hb, n1.1.cg (fun c z => oc c (by revert c; decide)) (fun c z => og c (by revert c; decide)) (of 5) (of 10), n1.2.1.cg (fun c z => oc c (by revert c; decide)) (fun _ _ => rfl) (fun c z => og c (by revert c; decide)) (of 10) (of 16), n1.2.2.cg (oc 30 (by decide)) (fun c z => og c (by revert c; decide)) (of 16), RF.cg (h.2.2.2.2.2.2.2.2.1) (fun c z => hA.1 c (by revert c; decide) (by revert c; decide)) (fun c z => hA.1 c (by revert c; decide) (by revert c; decide)) (hA.2 30 (by decide)), RM.cg (h.2.2.2.2.2.2.2.2.2.1) (fun c z => hA.1 c (by revert c; decide) (by revert c; decide)) (fun c z => hA.1 c (by revert c; decide) (by revert c; decide)) (fun j z => hA.2 j (by revert j; decide)), RJ.cg (h.2.2.2.2.2.2.2.2.2.2) (fun c z => hA.1 c (by revert c; decide) (by revert c; decide)) (hA.1 155 (by decide) (by decide)) (fun j z => hA.2 j (by revert j; decide))⟩, hA.1 0 (by decide) (by decide)⟩
