/-! calls on both sides: becomes, mend, joining -/
theorem op_becomes (x : Int) : Op 116 201 [vi x] := by
  intro L b I J h
  have hJ := h.2.2.2.2.2.2.2.2.2.2
  by_cases c : I 115 52 = 0
  · refine ⟨-2, b, I, J, I, ?_, ?_, h, rfl⟩
    · rw [n116, s116_0, hJ.1, if_pos c, s116_29]
    · rw [n201, s201_0, if_pos c, s201_23]
  · have hj : _ := hJ.2.resolve_left c
    by_cases d : 0 ≤ x ∧ x < 16
    · refine ⟨I 155 x, b, I, J, I, ?_, ?_, h, rfl⟩
      · rw [n116, s116_0, hJ.1, if_neg c, c131, bI_t d]
        simp only [Option.bind_some]
        rw [s116_14, if_neg (by decide), gd_t d, (hj.2.2.2 x d.1 d.2).1]
      · rw [n201, s201_0, if_neg c, c149, bI_t d]
        simp only [Option.bind_some]
        rw [s201_11, if_neg (by decide), gd_t d]
    · refine ⟨-2, b, I, J, I, ?_, ?_, h, rfl⟩
      · rw [n116, s116_0, hJ.1, if_neg c, c131, bI_f d]
        simp only [Option.bind_some]
        rw [s116_14, if_pos rfl, s116_29]
      · rw [n201, s201_0, if_neg c, c149, bI_f d]
        simp only [Option.bind_some]
        rw [s201_11, if_pos rfl, s201_23]
theorem op_mend (x t : Int) : Op 117 202 [vi x, vi t] := by
  intro L b I J h
  obtain ⟨hT, hC, hU, hD, hB, hS, hP, hH, hF, hM, hJ⟩ := id h
  have t0 := hT.1.1
  by_cases c : I 115 52 = 0
  · refine ⟨-2, b, I, J, I, ?_, ?_, h, rfl⟩
    · rw [n117, s117_0, hJ.1, if_pos c, s117_33]
    · rw [n202, s202_0, if_pos c, s202_27]
  · have hj : _ := hJ.2.resolve_left c
    have st : evc 117 [vr 1, vi x, vi t] (hp L b I J) = ev 117 14 [some (vr 1), some (vi x), some (vi t), none] [vi (bI (0 ≤ x ∧ x < 16))] (hp L b I J) := by
      rw [n117, s117_0, hJ.1, if_neg c, c131]
      simp only [Option.bind_some]
    by_cases d : (0 ≤ x ∧ x < 16) ∧ (t = -1 ∨ thR I t)
    · obtain ⟨d, dt⟩ := d
      have tb : -1 ≤ t ∧ t < I 115 5 := by
        rcases dt with e | e
        · have := t0.1; omega
        · have := e.1; omega
      have e55 := (hj.2.2.2 x d.1 d.2).1
      have hA : Sm [55, 155] [] I (upI (upI I 55 x t) 155 x t) := (Sm.rf.up (by simp) (by decide)).up (by simp) (by decide)
      refine ⟨I 155 x, b, upI I 55 x t, J, upI (upI I 55 x t) 155 x t, ?_, ?_, ?_⟩
      · rw [st, bI_t d, s117_14, if_neg (by decide)]
        by_cases e : t = -1
        · rw [if_pos e, s117_36, gd_t d, gd_t d, e55]
        · rw [if_neg e, c65R hT, bI_t (dt.resolve_left e)]
          simp only [Option.bind_some]
          rw [s117_30, if_pos (by decide), s117_36, gd_t d, gd_t d, e55]
      · have x115 : (upI I 55 x t) 115 = I 115 := upI_c (by decide) _ _ _
        have x155 : (upI I 55 x t) 155 = I 155 := upI_c (by decide) _ _ _
        have th' : thR (upI I 55 x t) t ↔ thR I t := by
          unfold thR
          rw [x115, upI_c (show 119 ≠ 55 by decide)]
        rw [n202, s202_0, x115, if_neg c, c149, bI_t d]
        simp only [Option.bind_some]
        rw [s202_11, if_neg (by decide)]
        by_cases e : t = -1
        · rw [if_pos e, s202_30, gd_t d, gd_t d, x155]
        · rw [if_neg e, c135 (by rw [x115]; omega), bI_t (th'.mpr (dt.resolve_left e))]
          simp only [Option.bind_some]
          rw [s202_24, if_pos (by decide), s202_30, gd_t d, gd_t d, x155]
      · have hj' : RJ (upI (upI I 55 x t) 155 x t) (upI (upI I 55 x t) 155 x t) := by
          have y115 : (upI (upI I 55 x t) 155 x t) 115 = I 115 := hA.1 115 (by decide) |> fun _ => by rw [upI_c (by decide), upI_c (by decide)]
          have y51 : (upI (upI I 55 x t) 155 x t) 51 = I 51 := by rw [upI_c (by decide), upI_c (by decide)]
          unfold RJ
          rw [y115, y51]
          refine ⟨hJ.1, Or.inr ⟨hj.1, hj.2.1, hj.2.2.1, fun j j0 j1 => ?_⟩⟩
          rw [upI_c (show 55 ≠ 155 by decide), upI_w, upI_w, upI_c (show 155 ≠ 55 by decide)]
          by_cases e : j = x
          · rw [if_pos e, if_pos e]; exact ⟨rfl, Or.inr tb⟩
          · rw [if_neg e, if_neg e]; exact hj.2.2.2 j j0 j1
        exact ⟨⟨RT.cg (h.1) (fun c z => hA.1 c (by revert c; decide) (by revert c; decide)) (fun c z => hA.1 c (by revert c; decide) (by revert c; decide)) (hA.2 5 (by decide)), RC.cg (h.2.1) (hA.1 161 (by decide) (by decide)) (fun c z => hA.1 c (by revert c; decide) (by revert c; decide)) (hA.2 5 (by decide)), RU.cg (h.2.2.1) (hA.1 11 (by decide) (by decide)) (fun c z => hA.1 c (by revert c; decide) (by revert c; decide)) (hA.2 5 (by decide)), RD.cg (h.2.2.2.1) (fun c z => hA.1 c (by revert c; decide) (by revert c; decide)) (hA.1 121 (by decide) (by decide)) (hA.2 7 (by decide)), RB.cg (h.2.2.2.2.1) (hA.1 5 (by decide) (by decide)) (hA.1 124 (by decide) (by decide)) (hA.2 5 (by decide)), RS.cg (h.2.2.2.2.2.1) (fun c z => hA.1 c (by revert c; decide) (by revert c; decide)) (fun c z => hA.1 c (by revert c; decide) (by revert c; decide)) (hA.2 5 (by decide)) (hA.2 10 (by decide)), RP.cg (h.2.2.2.2.2.2.1) (fun c z => hA.1 c (by revert c; decide) (by revert c; decide)) (fun _ _ => rfl) (fun c z => hA.1 c (by revert c; decide) (by revert c; decide)) (hA.2 10 (by decide)) (hA.2 16 (by decide)), RH.cg (h.2.2.2.2.2.2.2.1) (hA.1 30 (by decide) (by decide)) (fun c z => hA.1 c (by revert c; decide) (by revert c; decide)) (hA.2 16 (by decide)), RF.cg (h.2.2.2.2.2.2.2.2.1) (fun c z => hA.1 c (by revert c; decide) (by revert c; decide)) (fun c z => hA.1 c (by revert c; decide) (by revert c; decide)) (hA.2 30 (by decide)), RM.cg (h.2.2.2.2.2.2.2.2.2.1) (fun c z => hA.1 c (by revert c; decide) (by revert c; decide)) (fun c z => hA.1 c (by revert c; decide) (by revert c; decide)) (fun j z => hA.2 j (by revert j; decide)), hj'⟩, hA.1 0 (by decide) (by decide)⟩
    · refine ⟨-2, b, I, J, I, ?_, ?_, h, rfl⟩
      · rw [st]
        by_cases e : 0 ≤ x ∧ x < 16
        · rw [bI_t e, s117_14, if_neg (by decide), if_neg (fun z => d ⟨e, Or.inl z⟩), c65R hT, bI_f (fun z => d ⟨e, Or.inr z⟩)]
          simp only [Option.bind_some]
          rw [s117_30, if_neg (by decide), s117_33]
        · rw [bI_f e, s117_14, if_pos rfl, s117_33]
      · rw [n202, s202_0, if_neg c, c149]
        simp only [Option.bind_some]
        by_cases e : 0 ≤ x ∧ x < 16
        · rw [bI_t e, s202_11, if_neg (by decide), if_neg (fun z => d ⟨e, Or.inl z⟩), c135 t0.2, bI_f (fun z => d ⟨e, Or.inr z⟩)]
          simp only [Option.bind_some]
          rw [s202_24, if_neg (by decide), s202_27]
        · rw [bI_f e, s202_11, if_pos rfl, s202_27]
section
variable {L : Nat} {b : Bool} {I : AI} {J : AJ}
theorem c27 : evc 27 [vr 51] (hp L b I J) = some (vi (ct (fun j => I 55 j = -3) 16), hp L b I J) := by
  rw [n27, s27_0]
  refine lp (lo := 0) (hi := 16) (F := fun i (v : Int) => ev 27 4 [some (vr 51), some (vi v), some (vi i)] [] (hp L b I J)) (Q := fun r => r = some (vi (ct (fun j => I 55 j = -3) 16), hp L b I J)) (fun i v => v = ct (fun j => I 55 j = -3) i.toNat) ?_ ?_ 0 0 (Int.le_refl _) (by decide) rfl
  · intro i v g1 g2 hv
    right
    refine ⟨_, ?_, rfl⟩
    have cb := ct_bd (p := fun j => I 55 j = -3) i.toNat
    try dsimp only
    rw [s27_4, if_neg (by omega), gd_t (by omega), ct_s g1, hv]
    by_cases c : I 55 i = -3
    · rw [if_neg (fun z => z c), gd_t (by omega), s27_24, gd_t (by omega), bI_t c]
    · rw [if_pos c, s27_24, gd_t (by omega), bI_f c, Int.add_zero]
  · intro v hv
    try dsimp only
    rw [s27_4, if_pos (Int.le_refl _), hv]
    rfl
theorem c199 : evc 199 [vr 115] (hp L b I J) = some (vi (ct (fun j => I 155 j = -3) 16), hp L b I J) := by
  rw [n199, s199_0]
  refine lp (lo := 0) (hi := 16) (F := fun i (v : Int) => ev 199 4 [some (vr 115), some (vi v), some (vi i)] [] (hp L b I J)) (Q := fun r => r = some (vi (ct (fun j => I 155 j = -3) 16), hp L b I J)) (fun i v => v = ct (fun j => I 155 j = -3) i.toNat) ?_ ?_ 0 0 (Int.le_refl _) (by decide) rfl
  · intro i v g1 g2 hv
    right
    refine ⟨_, ?_, rfl⟩
    have cb := ct_bd (p := fun j => I 155 j = -3) i.toNat
    try dsimp only
    rw [s199_4, if_neg (by omega), gd_t (by omega), ct_s g1, hv]
    by_cases c : I 155 i = -3
    · rw [if_neg (fun z => z c), s199_27, gd_t (by omega), gd_t (by omega), bI_t c]
    · rw [if_pos c, s199_27, gd_t (by omega), gd_t (by omega), bI_f c]
  · intro v hv
    try dsimp only
    rw [s199_4, if_pos (Int.le_refl _), hv]
    rfl
theorem c28 : ∃ v, evc 28 [vr 51] (hp L b I J) = some (vi v, hp L b I J) ∧ ((v = -1 ∧ ∀ j, 0 ≤ j → j < 16 → I 55 j ≠ -3) ∨ ((0 ≤ v ∧ v < 16) ∧ I 55 v = -3 ∧ ∀ j, 0 ≤ j → j < v → I 55 j ≠ -3)) := by
  rw [n28, s28_0]
  refine lp (lo := 0) (hi := 16) (F := fun i (_ : Unit) => ev 28 2 [some (vr 51), some (vi i)] [] (hp L b I J)) (Q := fun r => ∃ v, r = some (vi v, hp L b I J) ∧ ((v = -1 ∧ ∀ j, 0 ≤ j → j < 16 → I 55 j ≠ -3) ∨ ((0 ≤ v ∧ v < 16) ∧ I 55 v = -3 ∧ ∀ j, 0 ≤ j → j < v → I 55 j ≠ -3))) (fun i _ => ∀ j, 0 ≤ j → j < i → I 55 j ≠ -3) ?_ ?_ 0 () (Int.le_refl _) (by decide) (fun j a c => by omega)
  · intro i _ g1 g2 hv
    by_cases c : I 55 i = -3
    · left
      refine ⟨i, ?_, Or.inr ⟨⟨g1, g2⟩, c, hv⟩⟩
      try dsimp only
      rw [s28_2, if_neg (by omega), gd_t (by omega), if_neg (fun z => z c)]
    · right
      refine ⟨(), ?_, fun j a d => by by_cases e : j = i; rw [e]; exact c; exact hv j a (by omega)⟩
      try dsimp only
      rw [s28_2, if_neg (by omega), gd_t (by omega), if_pos c, gd_t (by omega)]
  · intro _ hv
    refine ⟨-1, ?_, Or.inl ⟨rfl, hv⟩⟩
    try dsimp only
    rw [s28_2, if_pos (Int.le_refl _)]
theorem l200 : ∃ v, ev 200 45 [some (vr 115), none, some (vi (-1)), some (vi 15)] [] (hp L b I J) = some (vi v, hp L b I J) ∧ ((v = -1 ∧ ∀ j, 0 ≤ j → j < 16 → I 155 j ≠ -3) ∨ ((0 ≤ v ∧ v < 16) ∧ I 155 v = -3 ∧ ∀ j, 0 ≤ j → j < v → I 155 j ≠ -3)) := by
  refine lpd (lo := -1) (hi := 15) (F := fun i (v : Int) => ev 200 45 [some (vr 115), none, some (vi v), some (vi i)] [] (hp L b I J)) (Q := fun r => ∃ v, r = some (vi v, hp L b I J) ∧ ((v = -1 ∧ ∀ j, 0 ≤ j → j < 16 → I 155 j ≠ -3) ∨ ((0 ≤ v ∧ v < 16) ∧ I 155 v = -3 ∧ ∀ j, 0 ≤ j → j < v → I 155 j ≠ -3))) (fun i v => (v = -1 ∧ ∀ j, i < j → j < 16 → I 155 j ≠ -3) ∨ ((0 ≤ v ∧ v < 16) ∧ I 155 v = -3 ∧ ∀ j, i < j → j < v → I 155 j ≠ -3)) ?_ ?_ 15 (-1) (by decide) (by decide) (Or.inl ⟨rfl, fun j a c => by omega⟩)
  · intro i v g1 g2 hv
    right
    by_cases c : I 155 i = -3
    · refine ⟨i, ?_, Or.inr ⟨by omega, c, fun j a d => by omega⟩⟩
      try dsimp only
      rw [s200_45, if_neg (by omega), gd_t (by omega), if_neg (fun z => z c), s200_65, gd_t (by omega)]
    · refine ⟨v, ?_, ?_⟩
      · try dsimp only
        rw [s200_45, if_neg (by omega), gd_t (by omega), if_pos c, s200_65, gd_t (by omega)]
      · rcases hv with ⟨v1, v2⟩ | ⟨v1, v2, v3⟩
        · exact Or.inl ⟨v1, fun j a d => by by_cases e : j = i; rw [e]; exact c; exact v2 j (by omega) d⟩
        · exact Or.inr ⟨v1, v2, fun j a d => by by_cases e : j = i; rw [e]; exact c; exact v3 j (by omega) d⟩
  · intro v hv
    refine ⟨v, ?_, ?_⟩
    · try dsimp only
      rw [s200_45, if_pos (by decide)]
    · rcases hv with ⟨v1, v2⟩ | ⟨v1, v2, v3⟩
      · exact Or.inl ⟨v1, fun j a d => v2 j (by omega) d⟩
      · exact Or.inr ⟨v1, v2, fun j a d => v3 j (by omega) d⟩
end
theorem op_joining (x : Int) : Op 115 200 [vi x] := by
  intro L b I J h
  have hJ := h.2.2.2.2.2.2.2.2.2.2
  by_cases c : I 115 52 = 0
  · refine ⟨-2, b, I, J, I, ?_, ?_, h, rfl⟩
    · rw [n115, s115_0, hJ.1, if_neg (fun z => z c)]
    · rw [n200, s200_0, if_pos c, s200_16]
  · have hj : _ := hJ.2.resolve_left c
    by_cases x0 : x = 0
    · refine ⟨I 115 54, b, I, J, I, ?_, ?_, h, rfl⟩
      · rw [n115, s115_0, hJ.1, if_pos c, if_pos x0, hj.2.1.1]
      · rw [n200, s200_0, if_neg c, if_neg (by omega), if_pos (by omega), if_neg (by omega), if_neg (fun z => z x0), s200_39]
    · by_cases x1 : x = 1
      · refine ⟨ct (fun j => I 155 j = -3) 16, b, I, J, I, ?_, ?_, h, rfl⟩
        · rw [n115, s115_0, hJ.1, if_pos c, if_neg x0, if_pos x1, c27]
          simp only [Option.bind_some]
          rw [s115_55, ct_cg 16 (fun j j0 j1 => by rw [(hj.2.2.2 j j0 (by omega)).1])]
        · rw [n200, s200_0, if_neg c, if_neg (by omega), if_pos (by omega), if_neg (by omega), if_pos x0, c199]
          simp only [Option.bind_some]
          rw [s200_39]
      · by_cases x2 : x = 2
        · obtain ⟨v, a1, a2⟩ := c28 (L := L) (b := b) (I := I) (J := J)
          obtain ⟨w, b1, b2⟩ := l200 (L := L) (b := b) (I := I) (J := J)
          have e : w = v := by
            have t : ∀ j, 0 ≤ j → j < 16 → (I 55 j = -3 ↔ I 155 j = -3) := fun j j0 j1 => by rw [(hj.2.2.2 j j0 j1).1]
            rcases a2 with ⟨p1, p2⟩ | ⟨p1, p2, p3⟩
            · rcases b2 with ⟨q1, q2⟩ | ⟨q1, q2, q3⟩
              · rw [p1, q1]
              · exact absurd ((t w q1.1 q1.2).mpr q2) (p2 w q1.1 q1.2)
            · rcases b2 with ⟨q1, q2⟩ | ⟨q1, q2, q3⟩
              · exact absurd ((t v p1.1 p1.2).mp p2) (q2 v p1.1 p1.2)
              · by_cases l : w < v
                · exact absurd ((t w q1.1 q1.2).mpr q2) (p3 w q1.1 l)
                · by_cases l' : v < w
                  · exact absurd ((t v p1.1 p1.2).mp p2) (q3 v p1.1 l')
                  · omega
          refine ⟨v, b, I, J, I, ?_, ?_, h, rfl⟩
          · rw [n115, s115_0, hJ.1, if_pos c, if_neg x0, if_neg x1, if_pos x2, a1]
            simp only [Option.bind_some]
            rw [s115_63]
          · rw [n200, s200_0, if_neg c, if_neg (by omega), if_pos (by omega), if_pos (by omega), b1, e]
        · refine ⟨-2, b, I, J, I, ?_, ?_, h, rfl⟩
          · rw [n115, s115_0, hJ.1, if_pos c, if_neg x0, if_neg x1, if_neg x2]
          · rw [n200, s200_0, if_neg c]
            by_cases d : x < 0
            · rw [if_pos d, s200_16]
            · rw [if_neg d, if_neg (by omega), s200_16]
