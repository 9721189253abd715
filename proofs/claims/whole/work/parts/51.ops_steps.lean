/-! calls on both sides: steps -/
section
variable {L : Nat} {b : Bool} {I G : AI} {J : AJ} {k : Nat}
theorem ab_an (hP : RP I J G) {s : Int} (hs : 0 ≤ s ∧ s < G 115 16) (t : Int) : ab J s t ↔ anR G s t := (hP.2.2.1 s hs.1 hs.2).2.2.2.2.2.2 t
theorem an_bd (hP : StR G) {s t : Int} (hs : 0 ≤ s ∧ s < G 115 16) (h : anR G s t) : 0 ≤ t ∧ t ≤ s := An.le h hP.ls hs.1 hs.2
/-- sets of steps that there are -/
theorem ct_128 {p : Int → Prop} {n : Int} (h0 : 0 ≤ n ∧ n ≤ 80) (h : ∀ t, p t → t < n) : ct p 128 = ct p n.toNat := by
  have e : (128 : Nat) = n.toNat + (128 - n.toNat) := by omega
  rw [e]
  exact ct_more _ _ (fun i a c z => by have := h i z; omega)
theorem ba_eq (hP : RP I J G) {s t : Int} (hs : 0 ≤ s ∧ s < G 115 16) (ht : 0 ≤ t ∧ t < G 115 16) (c : Int) : ((ab J s c ∧ ab J t c) ∧ ¬ ∃ d, (0 ≤ d ∧ d < I 23 8) ∧ (ab J s d ∧ ab J t d) ∧ (((0 ≤ I 25 d ∧ I 25 d < I 23 8) ∧ ab J (I 25 d) c) ∨ ((0 ≤ I 26 d ∧ I 26 d < I 23 8) ∧ ab J (I 26 d) c))) ↔ baG G s t c := by
  unfold baG
  rw [ab_an hP hs, ab_an hP ht, hP.2.1]
  constructor
  · rintro ⟨h1, h2⟩
    refine ⟨h1, fun d a1 a2 a3 a4 a5 a6 => h2 ⟨d, ⟨a1, a2⟩, ⟨(ab_an hP hs d).mpr a4, (ab_an hP ht d).mpr a5⟩, ?_⟩⟩
    have r := hP.2.2.1 d a1 a2
    have q := hP.1.2 d a1 a2
    rw [r.2.2.1, r.2.2.2.1]
    rcases An_iff.mp a6 with z | ⟨z1, z2⟩ | ⟨z1, z2⟩
    · exact absurd z a3
    · exact Or.inl ⟨⟨z1, by omega⟩, (ab_an hP ⟨z1, by omega⟩ c).mpr z2⟩
    · exact Or.inr ⟨⟨z1, by omega⟩, (ab_an hP ⟨z1, by omega⟩ c).mpr z2⟩
  · rintro ⟨h1, h2⟩
    refine ⟨h1, ?_⟩
    rintro ⟨d, a1, ⟨a2, a3⟩, a4⟩
    have r := hP.2.2.1 d a1.1 a1.2
    have q := hP.1.2 d a1.1 a1.2
    rw [r.2.2.1, r.2.2.2.1] at a4
    have h3 := fun y : d ≠ c => h2 d a1.1 a1.2 y ((ab_an hP hs d).mp a2) ((ab_an hP ht d).mp a3)
    rcases a4 with ⟨z1, z2⟩ | ⟨z1, z2⟩
    · have z3 := (ab_an hP z1 c).mp z2
      have := an_bd hP.1 z1 z3
      exact h3 (by omega) (An_iff.mpr (Or.inr (Or.inl ⟨z1.1, z3⟩)))
    · have z3 := (ab_an hP z1 c).mp z2
      have := an_bd hP.1 z1 z3
      exact h3 (by omega) (An_iff.mpr (Or.inr (Or.inr ⟨z1.1, z3⟩)))
theorem ba_bd (hP : StR G) {s t c : Int} (hs : 0 ≤ s ∧ s < G 115 16) (h : baG G s t c) : 0 ≤ c ∧ c < G 115 16 := by
  have := an_bd hP hs h.1.1; omega
/-- the bases come into a set of the class -/
theorem c59R (hk : isSet k = true) (hn : k ≠ 31) (hP : RP I J G) {s t : Int} (hs : 0 ≤ s ∧ s < G 115 16) (ht : 0 ≤ t ∧ t < G 115 16) : ∃ J', evc 59 [vr 23, vi s, vi t, vr k] (hp L b I J) = some (vi 0, hp L b I J') ∧ (∀ c, c ≠ k → c ≠ 31 → J' c = J c) ∧ ∀ c, sb J' k c ↔ baG G s t c := by
  obtain ⟨J', q1, q2, q3⟩ := c59 (L := L) (b := b) (I := I) (J := J) hk hn (RP_n hP).2 (s := s) (t := t) (by rw [hP.2.1]; exact hs) (by rw [hP.2.1]; exact ht)
  exact ⟨J', q1, q2, fun c => by rw [q3 c]; exact ba_eq hP hs ht c⟩
theorem lb_eq (hP : RP I J G) : lbC I = lbR G := by
  have p0 := hP.1.1
  unfold lbC lbR
  rw [hP.2.1]
  exact lst_cg _ _ (fun s a c => by rw [(hP.2.2.1 s a (by omega)).2.2.2.2.1])
theorem c61R (hk : isSet k = true) (hn : k ≠ 31) (hP : RP I J G) : ∃ J', evc 61 [vr 23, vr k] (hp L b I J) = some (vi 0, hp L b I J') ∧ (∀ c, c ≠ k → c ≠ 31 → J' c = J c) ∧ ∀ t, sb J' k t ↔ quG G t := by
  obtain ⟨J', q1, q2, q3⟩ := c61 (L := L) (b := b) (I := I) (J := J) hk hn (RP_n hP)
  refine ⟨J', q1, q2, fun t => ?_⟩
  have lb := lbR_bd (I := G) hP.1.1.1
  rw [q3 t, lb_eq hP, hP.2.1]
  unfold quG
  constructor
  · rintro ⟨⟨a1, a2⟩, a3⟩
    refine ⟨⟨a1.1, (ab_an hP a1 t).mp a2⟩, ?_⟩
    rintro ⟨s, z1, z2, z3⟩
    exact a3 ⟨s, z1, by rw [(hP.2.2.1 s z1.1 z1.2).2.2.2.2.1]; exact z2, (ab_an hP z1 t).mpr z3⟩
  · rintro ⟨⟨a1, a2⟩, a3⟩
    have a1' : 0 ≤ lbR G ∧ lbR G < G 115 16 := by rcases lb with z | z; omega; exact z.1
    refine ⟨⟨a1', (ab_an hP a1' t).mpr a2⟩, ?_⟩
    rintro ⟨s, z1, z2, z3⟩
    exact a3 ⟨s, z1, by rw [← (hP.2.2.1 s z1.1 z1.2).2.2.2.2.1]; exact z2, (ab_an hP z1 t).mp z3⟩
theorem qu_bd (hP : StR G) {t : Int} (h : quG G t) : 0 ≤ t ∧ t < G 115 16 := by
  have lb := lbR_bd (I := G) hP.1.1
  have a1 := h.1.1
  have a1' : 0 ≤ lbR G ∧ lbR G < G 115 16 := by rcases lb with z | z; omega; exact z.1
  have := an_bd hP a1' h.1.2; omega
end
theorem op_mark (s x : Int) : Op 121 211 [vi s, vi x] := by
  intro L b I J h
  obtain ⟨hT, hC, hU, hD, hB, hS, hP, hH, hF, hM, hJ⟩ := id h
  have p0 := hP.1.1
  by_cases c : 0 ≤ s ∧ s < I 115 16
  · by_cases d : 0 ≤ x ∧ x ≤ 2
    · have r := hP.2.2.1 s c.1 c.2
      refine ⟨I 128 s, b, upI I 27 s x, J, upI (upI I 27 s x) 128 s x, ?_, ?_, ?_⟩
      · rw [n121, s121_0, c54R hP, bI_t c]
        simp (disch := first | assumption | omega) only [↓gd_t, ↓if_pos, ↓if_neg, Option.bind_some, true_or, true_and, gd_t, s121_8, r.2.2.2.2.1]
      · rw [n211, s211_0, c160, upI_c (by decide), bI_t c]
        simp only [Option.bind_some]
        rw [s211_5]
        simp (disch := first | assumption | omega) only [↓gd_t, ↓if_pos, ↓if_neg, Option.bind_some, true_or, true_and, gd_t, upI_c (show (128 : Nat) ≠ 27 by decide)]
      · have hA : Sm [27, 128] [] I (upI (upI I 27 s x) 128 s x) := (Sm.rf.up (by simp) (by decide)).up (by simp) (by decide)
        have u27 : ∀ y, (upI (upI I 27 s x) 128 s x) 27 y = if y = s then x else I 27 y := fun y => by
          rw [upI_c (by decide)]
          by_cases e : y = s
          · rw [e, upI_s, if_pos rfl]
          · rw [upI_i e, if_neg e]
        have u128 : ∀ y, (upI (upI I 27 s x) 128 s x) 128 y = if y = s then x else I 128 y := fun y => by
          by_cases e : y = s
          · rw [e, upI_s, if_pos rfl]
          · rw [upI_i e, upI_c (by decide), if_neg e]
        generalize upI (upI I 27 s x) 128 s x = X at *
        have o := hA.1
        have e16 : X 115 16 = I 115 16 := hA.2 16 (by simp)
        have hp' : RP X J X := by
          refine ⟨hP.1.cg (fun c z => o c (by revert c; decide) (by revert c; decide)) e16, by rw [e16, o 23 (by decide) (by decide)]; exact hP.2.1, fun y a c' => ?_, fun y a c' => ?_⟩
          · rw [e16] at c'
            have r := hP.2.2.1 y a c'
            rw [o 24 (by decide) (by decide), o 25 (by decide) (by decide), o 26 (by decide) (by decide), o 125 (by decide) (by decide), o 126 (by decide) (by decide), o 127 (by decide) (by decide), hA.2 10 (by simp), u27, u128, anR_cg (fun c z => o c (by revert c; decide) (by revert c; decide))]
            refine ⟨r.1, r.2.1, r.2.2.1, r.2.2.2.1, ?_, ?_, r.2.2.2.2.2.2⟩
            · by_cases e : y = s
              · rw [if_pos e, if_pos e]
              · rw [if_neg e, if_neg e]; exact r.2.2.2.2.1
            · by_cases e : y = s
              · rw [if_pos e]; exact d
              · rw [if_neg e]; exact r.2.2.2.2.2.1
          · rw [e16] at a
            rw [u27, if_neg (by omega)]; exact hP.2.2.2 y a c'
        exact ⟨⟨RT.cg (h.1) (fun c z => hA.1 c (by revert c; decide) (by revert c; decide)) (fun c z => hA.1 c (by revert c; decide) (by revert c; decide)) (hA.2 5 (by decide)), RC.cg (h.2.1) (hA.1 161 (by decide) (by decide)) (fun c z => hA.1 c (by revert c; decide) (by revert c; decide)) (hA.2 5 (by decide)), RU.cg (h.2.2.1) (hA.1 11 (by decide) (by decide)) (fun c z => hA.1 c (by revert c; decide) (by revert c; decide)) (hA.2 5 (by decide)), RD.cg (h.2.2.2.1) (fun c z => hA.1 c (by revert c; decide) (by revert c; decide)) (hA.1 121 (by decide) (by decide)) (hA.2 7 (by decide)), RB.cg (h.2.2.2.2.1) (hA.1 5 (by decide) (by decide)) (hA.1 124 (by decide) (by decide)) (hA.2 5 (by decide)), RS.cg (h.2.2.2.2.2.1) (fun c z => hA.1 c (by revert c; decide) (by revert c; decide)) (fun c z => hA.1 c (by revert c; decide) (by revert c; decide)) (hA.2 5 (by decide)) (hA.2 10 (by decide)), hp', RH.cg (h.2.2.2.2.2.2.2.1) (hA.1 30 (by decide) (by decide)) (fun c z => hA.1 c (by revert c; decide) (by revert c; decide)) (hA.2 16 (by decide)), RF.cg (h.2.2.2.2.2.2.2.2.1) (fun c z => hA.1 c (by revert c; decide) (by revert c; decide)) (fun c z => hA.1 c (by revert c; decide) (by revert c; decide)) (hA.2 30 (by decide)), RM.cg (h.2.2.2.2.2.2.2.2.2.1) (fun c z => hA.1 c (by revert c; decide) (by revert c; decide)) (fun c z => hA.1 c (by revert c; decide) (by revert c; decide)) (fun j z => hA.2 j (by revert j; decide)), RJ.cg (h.2.2.2.2.2.2.2.2.2.2) (fun c z => hA.1 c (by revert c; decide) (by revert c; decide)) (hA.1 155 (by decide) (by decide)) (fun j z => hA.2 j (by revert j; decide))⟩, hA.1 0 (by decide) (by decide)⟩
    · refine ⟨-2, b, I, J, I, ?_, ?_, h, rfl⟩
      · rw [n121, s121_0, c54R hP, bI_t c]
        simp only [Option.bind_some]
        rw [s121_8, if_neg (by decide)]
        by_cases e : x < 0
        · simp (disch := first | assumption | omega) only [↓gd_t, ↓if_pos, ↓if_neg, Option.bind_some, true_or, true_and, gd_t, s121_20]
        · simp (disch := first | assumption | omega) only [↓gd_t, ↓if_pos, ↓if_neg, Option.bind_some, true_or, true_and, gd_t, s121_20]
      · rw [n211, s211_0, c160, bI_t c]
        simp only [Option.bind_some]
        rw [s211_5, if_neg (by decide)]
        by_cases e : x < 0
        · simp (disch := first | assumption | omega) only [↓gd_t, ↓if_pos, ↓if_neg, Option.bind_some, true_or, true_and, gd_t, s211_17]
        · simp (disch := first | assumption | omega) only [↓gd_t, ↓if_pos, ↓if_neg, Option.bind_some, true_or, true_and, gd_t, s211_17]
  · refine ⟨-2, b, I, J, I, ?_, ?_, h, rfl⟩
    · rw [n121, s121_0, c54R hP, bI_f c]
      simp (disch := first | assumption | omega) only [↓gd_t, ↓if_pos, ↓if_neg, Option.bind_some, true_or, true_and, gd_t, s121_8, s121_20]
    · rw [n211, s211_0, c160, bI_f c]
      simp (disch := first | assumption | omega) only [↓gd_t, ↓if_pos, ↓if_neg, Option.bind_some, true_or, true_and, gd_t, s211_5, s211_17]
theorem op_of (s x : Int) : Op 104 167 [vi s, vi x] := by
  intro L b I J h
  obtain ⟨hT, hC, hU, hD, hB, hS, hP, hH, hF, hM, hJ⟩ := id h
  have p0 := hP.1.1
  by_cases c : 0 ≤ s ∧ s < I 115 16
  · have r := hP.2.2.1 s c.1 c.2
    have st : evc 104 [vr 1, vi s, vi x] (hp L b I J) = ev 104 8 [some (vr 1), some (vi s), some (vi x)] [vi 1] (hp L b I J) := by
      rw [n104, s104_0, c54R hP, bI_t c]; simp only [Option.bind_some]
    have st2 : evc 167 [vr 115, vi s, vi x] (hp L b I J) = ev 167 5 [some (vr 115), some (vi s), some (vi x)] [vi 1] (hp L b I J) := by
      rw [n167, s167_0, c160, bI_t c]; simp only [Option.bind_some]
    by_cases x0 : x = 0
    · refine ⟨I 125 s, b, I, J, I, ?_, ?_, h, rfl⟩
      · rw [st, s104_8]; simp (disch := first | assumption | omega) only [↓gd_t, ↓if_pos, ↓if_neg, Option.bind_some, true_or, true_and, gd_t, r.1]
      · rw [st2, s167_5]; simp (disch := first | assumption | omega) only [↓gd_t, ↓if_pos, ↓if_neg, Option.bind_some, true_or, true_and, gd_t]
    by_cases x1 : x = 1
    · refine ⟨I 126 s, b, I, J, I, ?_, ?_, h, rfl⟩
      · rw [st, s104_8]; simp (disch := first | assumption | omega) only [↓gd_t, ↓if_pos, ↓if_neg, Option.bind_some, true_or, true_and, gd_t, r.2.2.1]
      · rw [st2, s167_5]; simp (disch := first | assumption | omega) only [↓gd_t, ↓if_pos, ↓if_neg, Option.bind_some, true_or, true_and, gd_t]
    by_cases x2 : x = 2
    · refine ⟨I 127 s, b, I, J, I, ?_, ?_, h, rfl⟩
      · rw [st, s104_8]; simp (disch := first | assumption | omega) only [↓gd_t, ↓if_pos, ↓if_neg, Option.bind_some, true_or, true_and, gd_t, r.2.2.2.1]
      · rw [st2, s167_5]; simp (disch := first | assumption | omega) only [↓gd_t, ↓if_pos, ↓if_neg, Option.bind_some, true_or, true_and, gd_t]
    by_cases x3 : x = 3
    · obtain ⟨J1, q1, q2, q3⟩ := c49 (L := L) (b := b) (I := I) (J := J) (k := 114) (by decide)
      obtain ⟨J2, w1, w2, w3⟩ := c57 (L := L) (b := b) (I := I) (J := J1) (k := 114) (by decide) (RP_n hP).2 s
      obtain ⟨I2, u1, u2⟩ := c166 (L := L) (b := b) (J := J2) hP.1 c
      have e : ct (sb J2 114) 128 = ct (anR I s) (I 115 16).toNat := by
        have z : ∀ t, sb J2 114 t ↔ anR I s t := fun t => by
          rw [w3 t, ab_cg (q2 28 (by decide)) (q2 29 (by decide)), hP.2.1]
          exact ⟨fun y => by rcases y with y | y; exact absurd y (q3 t); exact (ab_an hP c t).mp y.2, fun y => Or.inr ⟨c, (ab_an hP c t).mpr y⟩⟩
        rw [ct_cg 128 (fun t _ _ => z t)]
        exact ct_128 p0 (fun t y => by have := an_bd hP.1 c y; omega)
      refine ⟨ct (anR I s) (I 115 16).toNat, b, I, J2, I2, ?_, ?_, rel_ro h u2 (fun c z => by rw [w2 c (by revert c; decide), q2 c (by revert c; decide)]) (by decide)⟩
      · rw [st, s104_8]
        simp (disch := first | assumption | omega) only [↓gd_t, ↓if_pos, ↓if_neg, Option.bind_some, true_or, true_and, gd_t, q1, s104_81, w1, s104_93, c51 (show isSet 114 = true by decide), s104_100]
        rw [e]
      · have st2' : evc 167 [vr 115, vi s, vi x] (hp L b I J2) = ev 167 5 [some (vr 115), some (vi s), some (vi x)] [vi 1] (hp L b I J2) := by
          rw [n167, s167_0, c160, bI_t c]; simp only [Option.bind_some]
        rw [st2', s167_5]
        simp (disch := first | assumption | omega) only [↓gd_t, ↓if_pos, ↓if_neg, Option.bind_some, true_or, true_and, gd_t, u1, s167_70]
    · refine ⟨-2, b, I, J, I, ?_, ?_, h, rfl⟩
      · rw [st, s104_8]; simp (disch := first | assumption | omega) only [↓gd_t, ↓if_pos, ↓if_neg, Option.bind_some, true_or, true_and, gd_t]
      · rw [st2, s167_5]; simp (disch := first | assumption | omega) only [↓gd_t, ↓if_pos, ↓if_neg, Option.bind_some, true_or, true_and, gd_t]
  · refine ⟨-2, b, I, J, I, ?_, ?_, h, rfl⟩
    · rw [n104, s104_0, c54R hP, bI_f c]
      simp (disch := first | assumption | omega) only [↓gd_t, ↓if_pos, ↓if_neg, Option.bind_some, true_or, true_and, gd_t, s104_8]
    · rw [n167, s167_0, c160, bI_f c]
      simp (disch := first | assumption | omega) only [↓gd_t, ↓if_pos, ↓if_neg, Option.bind_some, true_or, true_and, gd_t, s167_5]
theorem op_reaches (s t : Int) : Op 105 168 [vi s, vi t] := by
  intro L b I J h
  obtain ⟨hT, hC, hU, hD, hB, hS, hP, hH, hF, hM, hJ⟩ := id h
  have p0 := hP.1.1
  by_cases c : 0 ≤ s ∧ s < I 115 16
  · by_cases d : 0 ≤ t ∧ t < I 115 16
    · obtain ⟨J1, q1, q2⟩ := c58 (L := L) (b := b) (I := I) (J := J) (RP_n hP).2 s t
      obtain ⟨I2, w1, w2⟩ := c165 (L := L) (b := b) (J := J1) hP.1 (s := s) (t := t) c (by omega)
      have e : bI (t < 80 ∧ (0 ≤ s ∧ s < I 23 8) ∧ ab J s t) = bI (anR I s t) := bI_cg (by
        rw [hP.2.1]
        exact ⟨fun z => (ab_an hP c t).mp z.2.2, fun z => ⟨by omega, c, (ab_an hP c t).mpr z⟩⟩)
      rw [e] at q1
      refine ⟨bI (anR I s t), b, I, J1, I2, ?_, ?_, rel_ro h w2 (fun c z => q2 c (by revert c; decide)) (by decide)⟩
      · rw [n105, s105_0, c54R hP, bI_t c]
        simp only [Option.bind_some]
        rw [s105_8, if_neg (by decide), c54R hP, bI_t d]
        simp only [Option.bind_some]
        rw [s105_19, if_pos (by decide), q1]
        simp only [Option.bind_some]
        rw [s105_34]
        by_cases z : anR I s t
        · rw [bI_t z]; simp (disch := first | assumption | omega) only [↓gd_t, ↓if_pos, ↓if_neg, Option.bind_some, true_or, true_and, gd_t]
        · rw [bI_f z]; simp (disch := first | assumption | omega) only [↓gd_t, ↓if_pos, ↓if_neg, Option.bind_some, true_or, true_and, gd_t]
      · rw [n168, s168_0, c160, bI_t c]
        simp only [Option.bind_some]
        rw [s168_5, if_neg (by decide), c160, bI_t d]
        simp only [Option.bind_some]
        rw [s168_13, if_neg (by decide), w1]
        simp only [Option.bind_some]
        rw [s168_22]
        by_cases z : anR I s t
        · rw [bI_t z]; simp (disch := first | assumption | omega) only [↓gd_t, ↓if_pos, ↓if_neg, Option.bind_some, true_or, true_and, gd_t]
        · rw [bI_f z]; simp (disch := first | assumption | omega) only [↓gd_t, ↓if_pos, ↓if_neg, Option.bind_some, true_or, true_and, gd_t]
    · refine ⟨-2, b, I, J, I, ?_, ?_, h, rfl⟩
      · rw [n105, s105_0, c54R hP, bI_t c]
        simp only [Option.bind_some]
        rw [s105_8, if_neg (by decide), c54R hP, bI_f d]
        simp (disch := first | assumption | omega) only [↓gd_t, ↓if_pos, ↓if_neg, Option.bind_some, true_or, true_and, gd_t, s105_19, s105_22]
      · rw [n168, s168_0, c160, bI_t c]
        simp only [Option.bind_some]
        rw [s168_5, if_neg (by decide), c160, bI_f d]
        simp (disch := first | assumption | omega) only [↓gd_t, ↓if_pos, ↓if_neg, Option.bind_some, true_or, true_and, gd_t, s168_13, s168_33]
  · refine ⟨-2, b, I, J, I, ?_, ?_, h, rfl⟩
    · rw [n105, s105_0, c54R hP, bI_f c]
      simp (disch := first | assumption | omega) only [↓gd_t, ↓if_pos, ↓if_neg, Option.bind_some, true_or, true_and, gd_t, s105_8, s105_22]
    · rw [n168, s168_0, c160, bI_f c]
      simp (disch := first | assumption | omega) only [↓gd_t, ↓if_pos, ↓if_neg, Option.bind_some, true_or, true_and, gd_t, s168_5, s168_33]
theorem op_question : Op 122 214 [] := by
  intro L b I J h
  obtain ⟨hT, hC, hU, hD, hB, hS, hP, hH, hF, hM, hJ⟩ := id h
  obtain ⟨J1, q1, q2, q3⟩ := c61R (L := L) (b := b) (k := 114) (by decide) (by decide) hP
  obtain ⟨I2, w1, w2, w3⟩ := c213 (L := L) (b := b) (J := J1) hP.1
  have e : ct (sb J1 114) 128 = ct (quG I) (I 115 16).toNat := by
    rw [ct_cg 128 (fun t _ _ => q3 t)]
    exact ct_128 hP.1.1 (fun t y => (qu_bd hP.1 y).2)
  refine ⟨ct (quG I) (I 115 16).toNat, b, I, J1, I2, ?_, ?_, rel_ro h w2 (fun c z => q2 c (by revert c; decide) (by revert c; decide)) (by decide)⟩
  · rw [n122, s122_0, q1]
    simp (disch := first | assumption | omega) only [↓gd_t, ↓if_pos, ↓if_neg, Option.bind_some, true_or, true_and, gd_t, s122_11, c51 (show isSet 114 = true by decide), s122_18]
    rw [e]
  · rw [n214, s214_0, w1]
    simp (disch := first | assumption | omega) only [↓gd_t, ↓if_pos, ↓if_neg, Option.bind_some, true_or, true_and, gd_t, s214_4]
theorem op_found : Op 124 216 [] := by
  intro L b I J h
  obtain ⟨hT, hC, hU, hD, hB, hS, hP, hH, hF, hM, hJ⟩ := id h
  have p0 := hP.1.1
  have lb := lbR_bd (I := I) p0.1
  obtain ⟨J1, q1, q2, q3⟩ := c61R (L := L) (b := b) (k := 114) (by decide) (by decide) hP
  obtain ⟨I2, w1, w2, w3⟩ := c213 (L := L) (b := b) (J := J1) hP.1
  have e16 : I2 115 16 = I 115 16 := w2.2 16 (by decide)
  have e : ct (sb J1 114) 128 = ct (quG I) (I 115 16).toNat := by
    rw [ct_cg 128 (fun t _ _ => q3 t)]
    exact ct_128 hP.1.1 (fun t y => (qu_bd hP.1 y).2)
  have cls : evc 124 [vr 1] (hp L b I J) = some (vi (if ct (quG I) (I 115 16).toNat = 1 then lbR I else -1), hp L b I J1) := by
    rw [n124, s124_0, q1]
    simp only [Option.bind_some]
    rw [s124_11, c51 (by decide), e]
    simp only [Option.bind_some]
    rw [s124_18]
    by_cases c : ct (quG I) (I 115 16).toNat = 1
    · rw [if_neg (fun z => z c), if_pos c, c60 (RP_n hP), show lst (fun s => I 27 s = 2) (I 23 8).toNat 0 = lbC I from rfl, lb_eq hP]
      simp (disch := first | assumption | omega) only [↓gd_t, ↓if_pos, ↓if_neg, Option.bind_some, true_or, true_and, gd_t, s124_29]
    · rw [if_pos c, if_neg c]
  -- the only one in question is the least bad one
  have only : ct (quG I) (I 115 16).toNat = 1 → quG I (lbR I) ∧ (0 ≤ lbR I ∧ lbR I < I 115 16) ∧ ∀ t, quG I t → t = lbR I := fun c => by
    obtain ⟨x, a1, a2, -⟩ := ct_ex (p := quG I) (I 115 16).toNat 0 (Int.le_refl _) (by omega)
    have b1 : 0 ≤ lbR I ∧ lbR I < I 115 16 := by have := a2.1.1; rcases lb with z | z; omega; exact z.1
    have qb : quG I (lbR I) := by
      refine ⟨⟨b1.1, An.rf⟩, ?_⟩
      rintro ⟨s, z1, z2, z3⟩
      exact a2.2 ⟨s, z1, z2, z3.tr a2.1.2⟩
    refine ⟨qb, b1, fun t ht => Classical.byContradiction (fun ne => ?_)⟩
    have bt := qu_bd hP.1 ht
    by_cases l : t < lbR I
    · have := ct_two (p := quG I) (n := (I 115 16).toNat) bt.1 l (by omega) ht qb; omega
    · have := ct_two (p := quG I) (n := (I 115 16).toNat) b1.1 (show lbR I < t by omega) (by omega) qb ht; omega
  have ref : evc 216 [vr 115] (hp L b I J1) = some (vi (if ct (quG I) (I 115 16).toNat = 1 then lbR I else -1), hp L b I2 J1) := by
    rw [n216, s216_0, w1]
    simp only [Option.bind_some]
    rw [s216_4]
    by_cases c : ct (quG I) (I 115 16).toNat = 1
    · obtain ⟨o1, o2, o3⟩ := only c
      rw [if_pos c, c]
      refine lp (lo := 0) (hi := I 115 16) (F := fun i (y : Int) => ev 216 9 [some (vr 115), some (vi 1), some (vi y), some (vi i)] [] (hp L b I2 J1)) (Q := fun r => r = some (vi (lbR I), hp L b I2 J1)) (fun i y => y = if i ≤ lbR I then -1 else lbR I) ?_ ?_ 0 (-1) (Int.le_refl _) p0.1 (by rw [if_pos o2.1])
      · intro i y g1 g2 v
        right
        by_cases z : i = lbR I
        · refine ⟨i, ?_, by rw [if_neg (by omega)]; exact z⟩
          try dsimp only
          rw [s216_9, e16, w3 i g1 g2, bI_t (show quG I i by rw [z]; exact o1)]
          simp (disch := first | assumption | omega) only [↓gd_t, ↓if_pos, ↓if_neg, Option.bind_some, true_or, true_and, gd_t, s216_36]
        · refine ⟨y, ?_, ?_⟩
          · try dsimp only
            rw [s216_9, e16, w3 i g1 g2, bI_f (fun y => z (o3 i y))]
            simp (disch := first | assumption | omega) only [↓gd_t, ↓if_pos, ↓if_neg, Option.bind_some, true_or, true_and, gd_t, s216_36]
          · rw [v]
            by_cases y : i ≤ lbR I
            · rw [if_pos y, if_pos (by omega)]
            · rw [if_neg y, if_neg (by omega)]
      · intro y v
        try dsimp only
        rw [v, if_neg (by omega), s216_9, e16]
        simp (disch := first | assumption | omega) only [↓gd_t, ↓if_pos, ↓if_neg, Option.bind_some, true_or, true_and, gd_t, s216_43]
    · rw [if_neg c, s216_9]
      by_cases d : I2 115 16 ≤ 0
      · simp (disch := first | assumption | omega) only [↓gd_t, ↓if_pos, ↓if_neg, Option.bind_some, true_or, true_and, gd_t, s216_43]
      · simp (disch := first | assumption | omega) only [↓gd_t, ↓if_pos, ↓if_neg, Option.bind_some, true_or, true_and, gd_t, s216_43]
  exact ⟨_, b, I, J1, I2, cls, ref, rel_ro h w2 (fun c z => q2 c (by revert c; decide) (by revert c; decide)) (by decide)⟩
theorem op_ask : Op 123 215 [] := by
  intro L b I J h
  obtain ⟨hT, hC, hU, hD, hB, hS, hP, hH, hF, hM, hJ⟩ := id h
  have p0 := hP.1.1
  obtain ⟨J1, q1, q2, q3⟩ := c61R (L := L) (b := b) (k := 114) (by decide) (by decide) hP
  obtain ⟨I2, w1, w2, w3⟩ := c213 (L := L) (b := b) (J := J1) hP.1
  have e16 : I2 115 16 = I 115 16 := w2.2 16 (by decide)
  have hS2 : StR I2 := hP.1.cg (fun c z => w2.1 c (by revert c; decide) (by revert c; decide)) e16
  have hP1 : RP I J1 I := hP.cg (fun _ _ => rfl) (fun c z => q2 c (by revert c; decide) (by revert c; decide)) (fun _ _ => rfl) rfl rfl
  have e : ct (sb J1 114) 128 = ct (quG I) (I 115 16).toNat := by
    rw [ct_cg 128 (fun t _ _ => q3 t)]
    exact ct_128 hP.1.1 (fun t y => (qu_bd hP.1 y).2)
  have nb := ct_bd (p := quG I) (I 115 16).toNat
  generalize hn : ct (quG I) (I 115 16).toNat = n at e nb w1
  by_cases c : 2 ≤ n
  · -- the class
    have cls : evc 123 [vr 1] (hp L b I J) = some (vi (am (fun s => s ≠ lbC I ∧ sb J1 114 s) (askV (sb J1 114) (ab J1) n) (n + 1) (I 23 8).toNat).1, hp L b I J1) := by
      rw [n123, s123_0, q1]
      simp only [Option.bind_some]
      rw [s123_11, c51 (by decide), e]
      simp only [Option.bind_some]
      rw [s123_18, if_pos c, c62 (by decide) (RP_n hP), e]
      simp only [Option.bind_some]
      rw [s123_37]
    -- how the reference weighs a step
    have wt : ∀ s, askV (quG I) (fun s t => anR I s t) n s = if ct (fun t => quG I t ∧ anR I s t) 128 < n - ct (fun t => quG I t ∧ anR I s t) 128 then n - ct (fun t => quG I t ∧ anR I s t) 128 else ct (fun t => quG I t ∧ anR I s t) 128 := fun s => rfl
    have c128 : ∀ s, ct (fun t => quG I t ∧ anR I s t) 128 = ct (fun t => quG I t ∧ anR I s t) (I 115 16).toNat := fun s => ct_128 p0 (fun t y => (qu_bd hP.1 y.1).2)
    have cmp := am_cg (ok := fun s => s ≠ lbC I ∧ sb J1 114 s) (ok' := fun s => s ≠ lbR I ∧ quG I s) (v := askV (sb J1 114) (ab J1) n) (v' := askV (quG I) (fun s t => anR I s t) n) (A := n + 1) (B := 1000) (I 115 16).toNat (fun i a d => by rw [lb_eq hP, q3 i]) (fun i a d _ => by
      have bd := ct_bd (p := fun t => quG I t ∧ anR I i t) (I 115 16).toNat
      have e1 : ct (fun t => sb J1 114 t ∧ ab J1 i t) 128 = ct (fun t => quG I t ∧ anR I i t) 128 := ct_cg 128 (fun t _ _ => by rw [q3 t, ab_an hP1 ⟨a, by omega⟩ t])
      have mono : ct (fun t => quG I t ∧ anR I i t) (I 115 16).toNat ≤ n := by
        rw [← hn]
        have : ∀ m : Nat, ct (fun t => quG I t ∧ anR I i t) m ≤ ct (quG I) m := fun m => by
          induction m with
          | zero => exact Int.le_refl _
          | succ m ih =>
            show ct _ m + bI (quG I (m : Int) ∧ anR I i m) ≤ ct _ m + bI (quG I (m : Int))
            have : bI (quG I (m : Int) ∧ anR I i m) ≤ bI (quG I (m : Int)) := by
              by_cases z : quG I (m : Int)
              · rw [bI_t z]; exact (bI_bd _).2
              · rw [bI_f (fun y => z y.1), bI_f z]; exact Int.le_refl _
            omega
        exact this _
      refine Or.inl ⟨?_, ?_, ?_⟩
      · unfold askV; rw [e1]
      · unfold askV; rw [e1, c128]; split <;> omega
      · unfold askV; rw [e1, c128]; split <;> omega)
    have ref : ∃ I3, evc 215 [vr 115] (hp L b I J1) = some (vi (am (fun s => s ≠ lbR I ∧ quG I s) (askV (quG I) (fun s t => anR I s t) n) 1000 (I 115 16).toNat).1, hp L b I3 J1) ∧ Sm [130, 131, 132, 158] [] I I3 := by
      have l2 : lbR I2 = lbR I := by unfold lbR; rw [w2.1 128 (by decide) (by decide), e16]
      rw [n215, s215_0, w1]
      simp only [Option.bind_some]
      rw [s215_4, if_pos c, c212 hS2, l2]
      simp only [Option.bind_some]
      rw [s215_16]
      refine lp (lo := 0) (hi := I 115 16) (F := fun i (z : (Int × Int) × AI) => ev 215 27 [some (vr 115), some (vi n), some (vi (lbR I)), some (vi z.1.1), some (vi z.1.2), some (vi i), none, none] [] (hp L b z.2 J1)) (Q := fun r => ∃ I3, r = some (vi (am (fun s => s ≠ lbR I ∧ quG I s) (askV (quG I) (fun s t => anR I s t) n) 1000 (I 115 16).toNat).1, hp L b I3 J1) ∧ Sm [130, 131, 132, 158] [] I I3) (fun i z => z.1 = am (fun s => s ≠ lbR I ∧ quG I s) (askV (quG I) (fun s t => anR I s t) n) 1000 i.toNat ∧ Sm [130, 131, 132, 158] [] I z.2 ∧ z.2 158 = I2 158) ?_ ?_ 0 ((-1, 1000), I2) (Int.le_refl _) p0.1 ⟨rfl, w2.mono (by simp) (by simp), rfl⟩
      · rintro i ⟨⟨y, lst'⟩, X⟩ g1 g2 ⟨v1, v2, v3⟩
        dsimp only at v1 v2 v3
        right
        have f16 : X 115 16 = I 115 16 := v2.2 16 (by decide)
        have f158 : ∀ t, 0 ≤ t → t < I 115 16 → X 158 t = bI (quG I t) := fun t a d => by rw [v3]; exact w3 t a d
        have fwd : ∀ (r : Int × Int) (Y : AI), ev 215 154 [some (vr 115), some (vi n), some (vi (lbR I)), some (vi r.1), some (vi r.2), some (vi i), none, none] [] (hp L b Y J1) = ev 215 27 [some (vr 115), some (vi n), some (vi (lbR I)), some (vi r.1), some (vi r.2), some (vi (i + 1)), none, none] [] (hp L b Y J1) := fun r Y => by
          rw [s215_154]
          simp (disch := first | assumption | omega) only [↓gd_t, ↓if_pos, ↓if_neg, Option.bind_some, true_or, true_and, gd_t]
        by_cases k : i ≠ lbR I ∧ quG I i
        · have hSX : StR X := hP.1.cg (fun c z => v2.1 c (by revert c; decide) (by revert c; decide)) f16
          obtain ⟨Y, Z, y1, y2, y3, y4⟩ := c131a (L := L) (b := b) (J := J1) hSX (s := i) (by omega) (k := 131) (by decide) (by decide)
          rw [anR_cg (fun c z => v2.1 c (by revert c; decide) (by revert c; decide))] at y4
          have z16 : Z 115 16 = I 115 16 := by rw [y3.2 16 (by decide), f16]
          have z158 : ∀ t, 0 ≤ t → t < I 115 16 → Z 158 t = bI (quG I t) := fun t a d => by rw [y3.1 158 (by decide) (by decide)]; exact f158 t a d
          have smZ : Sm [130, 131, 132, 158] [] I Z := v2.tr (y3.mono (by simp) (by simp))
          have st : ev 215 27 [some (vr 115), some (vi n), some (vi (lbR I)), some (vi y), some (vi lst'), some (vi i), none, none] [] (hp L b X J1) = ev 215 75 [some (vr 115), some (vi n), some (vi (lbR I)), some (vi y), some (vi lst'), some (vi i), some (vi 0), some (vi 0)] [] (hp L b Z J1) := by
            rw [s215_27, f16, f158 i g1 g2, bI_t k.2]
            have k1 := k.1
            simp (disch := first | assumption | omega) only [↓gd_t, ↓if_pos, ↓if_neg, Option.bind_some, true_or, true_and, gd_t, y1, s215_59, y2, s215_69]
          have bd := ct_bd (p := fun t => quG I t ∧ anR I i t) (I 115 16).toNat
          have cnt : ev 215 75 [some (vr 115), some (vi n), some (vi (lbR I)), some (vi y), some (vi lst'), some (vi i), some (vi 0), some (vi 0)] [] (hp L b Z J1) = ev 215 138 [some (vr 115), some (vi n), some (vi (lbR I)), some (vi y), some (vi lst'), some (vi i), none, none] [vi (askV (quG I) (fun s t => anR I s t) n i)] (hp L b Z J1) := by
            refine lp (lo := 0) (hi := I 115 16) (F := fun t (x : Int) => ev 215 75 [some (vr 115), some (vi n), some (vi (lbR I)), some (vi y), some (vi lst'), some (vi i), some (vi x), some (vi t)] [] (hp L b Z J1)) (Q := fun r => r = ev 215 138 [some (vr 115), some (vi n), some (vi (lbR I)), some (vi y), some (vi lst'), some (vi i), none, none] [vi (askV (quG I) (fun s t => anR I s t) n i)] (hp L b Z J1)) (fun t x => x = ct (fun t => quG I t ∧ anR I i t) t.toNat) ?_ ?_ 0 0 (Int.le_refl _) p0.1 rfl
            · intro t x h1 h2 v
              right
              have hb := ct_bd (p := fun t => quG I t ∧ anR I i t) t.toNat
              refine ⟨x + bI (quG I t ∧ anR I i t), ?_, by rw [v, ct_s h1]⟩
              try dsimp only
              rw [s215_75, z16, y4 t h1 (by omega), z158 t h1 h2]
              by_cases d1 : anR I i t
              · by_cases d2 : quG I t
                · rw [bI_t d1, bI_t d2, bI_t (show quG I t ∧ anR I i t from ⟨d2, d1⟩)]
                  simp (disch := first | assumption | omega) only [↓gd_t, ↓if_pos, ↓if_neg, Option.bind_some, true_or, true_and, gd_t, s215_111]
                · rw [bI_t d1, bI_f d2, bI_f (show ¬ (quG I t ∧ anR I i t) from fun z => d2 z.1)]
                  simp (disch := first | assumption | omega) only [↓gd_t, ↓if_pos, ↓if_neg, Option.bind_some, true_or, true_and, gd_t, s215_110, s215_111]
              · rw [bI_f d1, bI_f (show ¬ (quG I t ∧ anR I i t) from fun z => d1 z.2)]
                simp (disch := first | assumption | omega) only [↓gd_t, ↓if_pos, ↓if_neg, Option.bind_some, true_or, true_and, gd_t, s215_110, s215_111]
            · intro x v
              try dsimp only
              rw [s215_75, z16, v, wt, c128]
              by_cases d : ct (fun t => quG I t ∧ anR I i t) (I 115 16).toNat < n - ct (fun t => quG I t ∧ anR I i t) (I 115 16).toNat
              · simp (disch := first | assumption | omega) only [↓gd_t, ↓if_pos, ↓if_neg, Option.bind_some, true_or, true_and, gd_t]
              · by_cases d2 : ct (fun t => quG I t ∧ anR I i t) (I 115 16).toNat ≤ n - ct (fun t => quG I t ∧ anR I i t) (I 115 16).toNat
                · simp (disch := first | assumption | omega) only [↓gd_t, ↓if_pos, ↓if_neg, Option.bind_some, true_or, true_and, gd_t]
                  rw [show n - ct (fun t => quG I t ∧ anR I i t) (I 115 16).toNat = ct (fun t => quG I t ∧ anR I i t) (I 115 16).toNat by omega]
                · simp (disch := first | assumption | omega) only [↓gd_t, ↓if_pos, ↓if_neg, Option.bind_some, true_or, true_and, gd_t]
          by_cases m : askV (quG I) (fun s t => anR I s t) n i < lst'
          · refine ⟨((i, askV (quG I) (fun s t => anR I s t) n i), Z), ?_, ?_, smZ, by dsimp only; rw [y3.1 158 (by decide) (by decide)]; exact v3⟩
            · try dsimp only
              rw [st, cnt, s215_138, if_neg (by omega)]
              exact fwd (i, askV (quG I) (fun s t => anR I s t) n i) Z
            · exact (am_t (ok := fun s => s ≠ lbR I ∧ quG I s) g1 k (by rw [← v1]; exact m)).symm
          · refine ⟨((y, lst'), Z), ?_, ?_, smZ, by dsimp only; rw [y3.1 158 (by decide) (by decide)]; exact v3⟩
            · try dsimp only
              rw [st, cnt, s215_138, if_pos (by omega)]
              exact fwd (y, lst') Z
            · show (y, lst') = _
              rw [am_f g1 (fun z => m (by have := z.2; rw [← v1] at this; exact this))]
              exact v1
        · refine ⟨((y, lst'), X), ?_, ?_, v2, v3⟩
          · try dsimp only
            rw [s215_27, f16, f158 i g1 g2]
            by_cases d : quG I i
            · have d2 : i = lbR I := Classical.byContradiction (fun z => k ⟨z, d⟩)
              rw [bI_t d]
              simp (disch := first | assumption | omega) only [↓gd_t, ↓if_pos, ↓if_neg, Option.bind_some, true_or, true_and, gd_t]
              exact fwd (y, lst') X
            · rw [bI_f d]
              simp (disch := first | assumption | omega) only [↓gd_t, ↓if_pos, ↓if_neg, Option.bind_some, true_or, true_and, gd_t]
              exact fwd (y, lst') X
          · show (y, lst') = _
            rw [am_f g1 (fun z => k z.1)]
            exact v1
      · rintro ⟨⟨y, lst'⟩, X⟩ ⟨v1, v2, v3⟩
        dsimp only at v1 v2 v3
        refine ⟨X, ?_, v2⟩
        try dsimp only
        rw [s215_27, v2.2 16 (by decide), ← v1]
        simp (disch := first | assumption | omega) only [↓gd_t, ↓if_pos, ↓if_neg, Option.bind_some, true_or, true_and, gd_t]
    obtain ⟨I3, r1, r2⟩ := ref
    rw [hP.2.1, cmp.1] at cls
    exact ⟨_, b, I, J1, I3, cls, r1, rel_ro h r2 (fun c z => q2 c (by revert c; decide) (by revert c; decide)) (by decide)⟩
  · refine ⟨-1, b, I, J1, I2, ?_, ?_, rel_ro h w2 (fun c z => q2 c (by revert c; decide) (by revert c; decide)) (by decide)⟩
    · rw [n123, s123_0, q1]
      simp only [Option.bind_some]
      rw [s123_11, c51 (by decide), e]
      simp only [Option.bind_some]
      rw [s123_18, if_neg c, s123_37]
    · rw [n215, s215_0, w1]
      simp only [Option.bind_some]
      rw [s215_4, if_neg c]
