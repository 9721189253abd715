/-! calls on both sides: texts -/
theorem Sm.of2 {cs ds es : List Nat} {fs : List Int} {I I1 I2 : AI} (h1 : Same cs I I1) (h2 : Sm ds fs I1 I2) (hn : 115 ∉ cs) (hc : ∀ c ∈ cs, c ∈ es) (hd : ∀ c ∈ ds, c ∈ es) : Sm es fs I I2 := ((h1.sm hn).mono hc (fun j z => by cases z)).tr (h2.mono hd (fun j z => z))
/-- nothing that counts has changed -/
theorem rel_ro {I I' : AI} {J J' : AJ} {cs : List Nat} {fs : List Int} (h : Rel I J I) (hA : Sm cs fs I I') (hj : ∀ c ∈ [28, 29], J' c = J c) (hd : (∀ c ∈ 0 :: (clC ++ clR), c ∉ cs ∧ c ≠ 115) ∧ ∀ j ∈ clF, j ∉ fs) : Rel I' J' I' ∧ I' 0 = I 0 := by
  refine ⟨h.cg (fun c z => hA.1 c (hd.1 c (by simp [z])).1 (hd.1 c (by simp [z])).2) hj (fun c z => hA.1 c (hd.1 c (by simp [z])).1 (hd.1 c (by simp [z])).2) (fun j z => hA.2 j (hd.2 j z)), hA.1 0 (hd.1 0 (by simp)).1 (by decide)⟩
theorem op_draft (x : Int) : Op 91 140 [vi x] := by
  intro L b I J h
  have hD := h.2.2.2.1
  have d1 := hD.2.1
  refine ⟨if 0 ≤ x ∧ x < I 115 7 then I 121 x else 0, b, I, J, I, ?_, ?_, h, rfl⟩
  · rw [n91, s91_0, c39 (by decide) (by rw [hD.1]; exact d1.2), hD.1]
    simp only [Option.bind_some]
    rw [s91_8]
    by_cases c : 0 ≤ x ∧ x < I 115 7
    · rw [if_pos c, if_pos c, show I (3 + 1) x = I 121 x from hD.2.2 x c.1 c.2]
    · rw [if_neg c, if_neg c]
  · rw [n140, s140_0]
    by_cases c1 : x < 0
    · simp (disch := first | assumption | omega) only [↓gd_t, ↓if_pos, ↓if_neg, Option.bind_some, true_or, true_and, gd_t, s140_21]
    · by_cases c2 : I 115 7 ≤ x
      · simp (disch := first | assumption | omega) only [↓gd_t, ↓if_pos, ↓if_neg, Option.bind_some, true_or, true_and, gd_t, s140_21]
      · simp (disch := first | assumption | omega) only [↓gd_t, ↓if_pos, ↓if_neg, Option.bind_some, true_or, true_and, gd_t]
theorem op_add (x : Int) : Op 89 138 [vi x] := by
  intro L b I J h
  have hD := h.2.2.2.1
  have d1 := hD.2.1
  have e1 := hD.1
  by_cases c : I 115 7 < 24
  · refine ⟨I 115 7 + 1, b, upI (upI I 4 (I 115 7) x) 3 1 (I 115 7 + 1), J, upI (upI (upI (upI I 4 (I 115 7) x) 3 1 (I 115 7 + 1)) 121 (I 115 7) x) 115 7 (I 115 7 + 1), ?_, ?_, ?_⟩
    · rw [n89, s89_0, c38t (by decide) (by omega) (by omega), e1]
      simp only [Option.bind_some]
      rw [s89_8, if_neg (by decide), upI_s]
    · rw [n138, s138_0]
      simp (disch := first | assumption | omega) only [↓gd_t, ↓if_pos, ↓if_neg, Option.bind_some, true_or, true_and, gd_t, upI_c (show (115 : Nat) ≠ 3 by decide), upI_c (show (115 : Nat) ≠ 4 by decide), upI_c (show (115 : Nat) ≠ 121 by decide), upI_s]
    · have hA : Sm [4, 3, 121] [7] I (upI (upI (upI (upI I 4 (I 115 7) x) 3 1 (I 115 7 + 1)) 121 (I 115 7) x) 115 7 (I 115 7 + 1)) := (((Sm.rf.up (by simp) (by decide)).up (by simp) (by decide)).up (by simp) (by decide)).fld (by simp)
      have hd : RD (upI (upI (upI (upI I 4 (I 115 7) x) 3 1 (I 115 7 + 1)) 121 (I 115 7) x) 115 7 (I 115 7 + 1)) (upI (upI (upI (upI I 4 (I 115 7) x) 3 1 (I 115 7 + 1)) 121 (I 115 7) x) 115 7 (I 115 7 + 1)) := by
        refine ⟨by rw [upI_s, upI_c (by decide), upI_c (by decide), upI_s], by rw [upI_s]; omega, fun i a d => ?_⟩
        rw [upI_s] at d
        rw [upI_c (show 4 ≠ 115 by decide), upI_c (show 4 ≠ 121 by decide), upI_c (show 4 ≠ 3 by decide), upI_c (show 121 ≠ 115 by decide)]
        by_cases e : i = I 115 7
        · rw [e, upI_s, upI_s]
        · rw [upI_i e, upI_i e, upI_c (by decide), upI_c (by decide)]
          exact hD.2.2 i a (by omega)
      exact ⟨⟨RT.cg (h.1) (fun c z => hA.1 c (by revert c; decide) (by revert c; decide)) (fun c z => hA.1 c (by revert c; decide) (by revert c; decide)) (hA.2 5 (by decide)), RC.cg (h.2.1) (hA.1 161 (by decide) (by decide)) (fun c z => hA.1 c (by revert c; decide) (by revert c; decide)) (hA.2 5 (by decide)), RU.cg (h.2.2.1) (hA.1 11 (by decide) (by decide)) (fun c z => hA.1 c (by revert c; decide) (by revert c; decide)) (hA.2 5 (by decide)), hd, RB.cg (h.2.2.2.2.1) (hA.1 5 (by decide) (by decide)) (hA.1 124 (by decide) (by decide)) (hA.2 5 (by decide)), RS.cg (h.2.2.2.2.2.1) (fun c z => hA.1 c (by revert c; decide) (by revert c; decide)) (fun c z => hA.1 c (by revert c; decide) (by revert c; decide)) (hA.2 5 (by decide)) (hA.2 10 (by decide)), RP.cg (h.2.2.2.2.2.2.1) (fun c z => hA.1 c (by revert c; decide) (by revert c; decide)) (fun _ _ => rfl) (fun c z => hA.1 c (by revert c; decide) (by revert c; decide)) (hA.2 10 (by decide)) (hA.2 16 (by decide)), RH.cg (h.2.2.2.2.2.2.2.1) (hA.1 30 (by decide) (by decide)) (fun c z => hA.1 c (by revert c; decide) (by revert c; decide)) (hA.2 16 (by decide)), RF.cg (h.2.2.2.2.2.2.2.2.1) (fun c z => hA.1 c (by revert c; decide) (by revert c; decide)) (fun c z => hA.1 c (by revert c; decide) (by revert c; decide)) (hA.2 30 (by decide)), RM.cg (h.2.2.2.2.2.2.2.2.2.1) (fun c z => hA.1 c (by revert c; decide) (by revert c; decide)) (fun c z => hA.1 c (by revert c; decide) (by revert c; decide)) (fun j z => hA.2 j (by revert j; decide)), RJ.cg (h.2.2.2.2.2.2.2.2.2.2) (fun c z => hA.1 c (by revert c; decide) (by revert c; decide)) (hA.1 155 (by decide) (by decide)) (fun j z => hA.2 j (by revert j; decide))⟩, hA.1 0 (by decide) (by decide)⟩
  · refine ⟨-2, b, I, J, I, ?_, ?_, h, rfl⟩
    · rw [n89, s89_0, c38f (by decide) (by omega)]
      simp (disch := first | assumption | omega) only [↓gd_t, ↓if_pos, ↓if_neg, Option.bind_some, true_or, true_and, gd_t, s89_8]
    · rw [n138, s138_0]
      simp (disch := first | assumption | omega) only [↓gd_t, ↓if_pos, ↓if_neg, Option.bind_some, true_or, true_and, gd_t]
theorem op_wipe : Op 90 139 [] := by
  intro L b I J h
  have hD := h.2.2.2.1
  have d1 := hD.2.1
  refine ⟨I 115 7, b, upI I 3 1 0, J, upI (upI I 3 1 0) 115 7 0, ?_, ?_, ?_⟩
  · rw [n90, s90_0, c37 (by decide)]
    simp only [Option.bind_some]
    rw [s90_15, hD.1]
  · rw [n139, s139_0, upI_c (by decide)]
  · have hA : Sm [3] [7] I (upI (upI I 3 1 0) 115 7 0) := (Sm.rf.up (by simp) (by decide)).fld (by simp)
    have hd : RD (upI (upI I 3 1 0) 115 7 0) (upI (upI I 3 1 0) 115 7 0) := by
      refine ⟨by rw [upI_s, upI_c (by decide), upI_s], by rw [upI_s]; decide, fun i a d => ?_⟩
      rw [upI_s] at d; omega
    exact ⟨⟨RT.cg (h.1) (fun c z => hA.1 c (by revert c; decide) (by revert c; decide)) (fun c z => hA.1 c (by revert c; decide) (by revert c; decide)) (hA.2 5 (by decide)), RC.cg (h.2.1) (hA.1 161 (by decide) (by decide)) (fun c z => hA.1 c (by revert c; decide) (by revert c; decide)) (hA.2 5 (by decide)), RU.cg (h.2.2.1) (hA.1 11 (by decide) (by decide)) (fun c z => hA.1 c (by revert c; decide) (by revert c; decide)) (hA.2 5 (by decide)), hd, RB.cg (h.2.2.2.2.1) (hA.1 5 (by decide) (by decide)) (hA.1 124 (by decide) (by decide)) (hA.2 5 (by decide)), RS.cg (h.2.2.2.2.2.1) (fun c z => hA.1 c (by revert c; decide) (by revert c; decide)) (fun c z => hA.1 c (by revert c; decide) (by revert c; decide)) (hA.2 5 (by decide)) (hA.2 10 (by decide)), RP.cg (h.2.2.2.2.2.2.1) (fun c z => hA.1 c (by revert c; decide) (by revert c; decide)) (fun _ _ => rfl) (fun c z => hA.1 c (by revert c; decide) (by revert c; decide)) (hA.2 10 (by decide)) (hA.2 16 (by decide)), RH.cg (h.2.2.2.2.2.2.2.1) (hA.1 30 (by decide) (by decide)) (fun c z => hA.1 c (by revert c; decide) (by revert c; decide)) (hA.2 16 (by decide)), RF.cg (h.2.2.2.2.2.2.2.2.1) (fun c z => hA.1 c (by revert c; decide) (by revert c; decide)) (fun c z => hA.1 c (by revert c; decide) (by revert c; decide)) (hA.2 30 (by decide)), RM.cg (h.2.2.2.2.2.2.2.2.2.1) (fun c z => hA.1 c (by revert c; decide) (by revert c; decide)) (fun c z => hA.1 c (by revert c; decide) (by revert c; decide)) (fun j z => hA.2 j (by revert j; decide)), RJ.cg (h.2.2.2.2.2.2.2.2.2.2) (fun c z => hA.1 c (by revert c; decide) (by revert c; decide)) (hA.1 155 (by decide) (by decide)) (fun j z => hA.2 j (by revert j; decide))⟩, hA.1 0 (by decide) (by decide)⟩
theorem op_size (t : Int) : Op 93 144 [vi t] := by
  intro L b I J h
  have hT := h.1
  have t0 := hT.1.1
  by_cases c : rdR I t
  · have c1 := c.1.1
    refine ⟨I 117 t, b, I, J, I, ?_, ?_, h, rfl⟩
    · rw [n93, s93_0, c66R hT, bI_t c]
      simp (disch := first | assumption | omega) only [↓gd_t, ↓if_pos, ↓if_neg, Option.bind_some, true_or, true_and, gd_t, s93_8, (hT.2.2 t c1.1 c1.2).1]
    · rw [n144, s144_0, c137 hT.1, bI_t c]
      simp (disch := first | assumption | omega) only [↓gd_t, ↓if_pos, ↓if_neg, Option.bind_some, true_or, true_and, gd_t, s144_5]
  · refine ⟨-2, b, I, J, I, ?_, ?_, h, rfl⟩
    · rw [n93, s93_0, c66R hT, bI_f c]
      simp (disch := first | assumption | omega) only [↓gd_t, ↓if_pos, ↓if_neg, Option.bind_some, true_or, true_and, gd_t, s93_8]
    · rw [n144, s144_0, c137 hT.1, bI_f c]
      simp (disch := first | assumption | omega) only [↓gd_t, ↓if_pos, ↓if_neg, Option.bind_some, true_or, true_and, gd_t, s144_5]
theorem op_line (t i : Int) : Op 94 145 [vi t, vi i] := by
  intro L b I J h
  have hT := h.1
  have t0 := hT.1.1
  by_cases c : rdR I t
  · have c1 := c.1.1
    have r := hT.2.2 t c1.1 c1.2
    have b1 := hT.1.2.2.1 t c1.1 c1.2
    refine ⟨if 0 ≤ i ∧ i < I 117 t then I 116 (24 * t + i) else 0, b, I, J, I, ?_, ?_, h, rfl⟩
    · rw [n94, s94_0, c66R hT, bI_t c]
      simp only [Option.bind_some]
      rw [s94_8, if_neg (by decide), c70 (RT_txc hT)]
      simp only [Option.bind_some]
      rw [s94_20, hT.2.1, r.1]
      by_cases d : 0 ≤ i ∧ i < I 117 t
      · rw [if_pos ⟨c1, d⟩, if_pos d, r.2.1 i d.1 d.2]
      · rw [if_neg (fun z => d z.2), if_neg d]
    · rw [n145, s145_0, c137 hT.1, bI_t c]
      simp only [Option.bind_some]
      rw [s145_5]
      by_cases d1 : i < 0
      · simp (disch := first | assumption | omega) only [↓gd_t, ↓if_pos, ↓if_neg, Option.bind_some, true_or, true_and, gd_t, s145_36]
      · by_cases d2 : I 117 t ≤ i
        · simp (disch := first | assumption | omega) only [↓gd_t, ↓if_pos, ↓if_neg, Option.bind_some, true_or, true_and, gd_t, s145_36]
        · simp (disch := first | assumption | omega) only [↓gd_t, ↓if_pos, ↓if_neg, Option.bind_some, true_or, true_and, gd_t]
  · refine ⟨0, b, I, J, I, ?_, ?_, h, rfl⟩
    · rw [n94, s94_0, c66R hT, bI_f c]
      simp (disch := first | assumption | omega) only [↓gd_t, ↓if_pos, ↓if_neg, Option.bind_some, true_or, true_and, gd_t, s94_8]
    · rw [n145, s145_0, c137 hT.1, bI_f c]
      simp (disch := first | assumption | omega) only [↓gd_t, ↓if_pos, ↓if_neg, Option.bind_some, true_or, true_and, gd_t, s145_5, s145_36]
theorem op_state (t : Int) : Op 96 147 [vi t] := by
  intro L b I J h
  have hT := h.1
  have t0 := hT.1.1
  refine ⟨_, b, I, J, I, ?_, c147 hT.1 t, h, rfl⟩
  rw [n96, s96_0, c64R hT]
  by_cases c : 0 ≤ t ∧ t < I 115 5
  · simp (disch := first | assumption | omega) only [↓gd_t, ↓if_pos, ↓if_neg, Option.bind_some, true_or, true_and, gd_t, bI_t c, s96_8, (hT.2.2 t c.1 c.2).2.2.1]
  · simp (disch := first | assumption | omega) only [↓gd_t, ↓if_pos, ↓if_neg, Option.bind_some, true_or, true_and, gd_t, bI_f c, s96_8]
theorem op_missing (t : Int) : Op 97 148 [vi t] := by
  intro L b I J h
  have hT := h.1
  have t0 := hT.1.1
  by_cases c : thR I t
  · have c1 := c.1
    refine ⟨flR I t, b, I, J, I, ?_, ?_, h, rfl⟩
    · rw [n97, s97_0, c65R hT, bI_t c]
      simp only [Option.bind_some]
      rw [s97_8, if_neg (by decide), c68R hT c]
      simp only [Option.bind_some]
      rw [s97_19]
    · rw [n148, s148_0, c135 t0.2, bI_t c]
      simp only [Option.bind_some]
      rw [s148_5, if_neg (by decide), c136 hT.1 t (by omega) c1.2]
      simp only [Option.bind_some]
      rw [s148_13]
  · refine ⟨-2, b, I, J, I, ?_, ?_, h, rfl⟩
    · rw [n97, s97_0, c65R hT, bI_f c]
      simp (disch := first | assumption | omega) only [↓gd_t, ↓if_pos, ↓if_neg, Option.bind_some, true_or, true_and, gd_t, s97_8]
    · rw [n148, s148_0, c135 t0.2, bI_f c]
      simp (disch := first | assumption | omega) only [↓gd_t, ↓if_pos, ↓if_neg, Option.bind_some, true_or, true_and, gd_t, s148_5]
theorem op_stem (t : Int) : Op 126 221 [vi t] := by
  intro L b I J h
  have hT := h.1
  have t0 := hT.1.1
  by_cases c : thR I t
  · have c1 := c.1
    have c2 := c.2
    refine ⟨I 120 t, b, I, J, I, ?_, ?_, h, rfl⟩
    · have r := (hT.2.2 t c1.1 c1.2).2.2.2.1
      rw [if_neg (by omega)] at r
      rw [n126, s126_0, c65R hT, bI_t c]
      simp (disch := first | assumption | omega) only [↓gd_t, ↓if_pos, ↓if_neg, Option.bind_some, true_or, true_and, gd_t, s126_8, r]
    · rw [n221, s221_0, c135 t0.2, bI_t c]
      simp (disch := first | assumption | omega) only [↓gd_t, ↓if_pos, ↓if_neg, Option.bind_some, true_or, true_and, gd_t, s221_5]
  · refine ⟨-2, b, I, J, I, ?_, ?_, h, rfl⟩
    · rw [n126, s126_0, c65R hT, bI_f c]
      simp (disch := first | assumption | omega) only [↓gd_t, ↓if_pos, ↓if_neg, Option.bind_some, true_or, true_and, gd_t, s126_8]
    · rw [n221, s221_0, c135 t0.2, bI_f c]
      simp (disch := first | assumption | omega) only [↓gd_t, ↓if_pos, ↓if_neg, Option.bind_some, true_or, true_and, gd_t, s221_5]
theorem op_units : Op 127 222 [] := by
  intro L b I J h
  obtain ⟨I2, q1, q2⟩ := c222 (L := L) (b := b) (J := J) h.1.1
  refine ⟨_, b, I, J, I2, ?_, q1, rel_ro h q2 (fun _ _ => rfl) (by decide)⟩
  rw [n127, s127_0, c80R h.1 h.2.2.1]
  simp only [Option.bind_some]
  rw [s127_7]
theorem op_copy (t : Int) : Op 95 146 [vi t] := by
  intro L b I J h
  have hT := h.1
  have t0 := hT.1.1
  by_cases c : rdR I t
  · have c1 := c.1.1
    have b1 := hT.1.2.2.1 t c1.1 c1.2
    obtain ⟨I1, q1, q2, q3⟩ := c71R (L := L) (b := b) (J := J) hT.rl (k := 3) (by decide) (t := t) ⟨by omega, c1.2⟩
    rw [ts_t c1.1] at q3
    have hT1 : TxR I1 := hT.1.cg (fun c z => q2 c (by revert c; decide)) (by rw [q2 115 (by decide)])
    have rd1 : rdR I1 t := (rdR_cg (fun c z => q2 c (by revert c; decide)) (by rw [q2 115 (by decide)]) t).mpr c
    have e117 : I1 117 = I 117 := q2 117 (by decide)
    have e116 : I1 116 = I 116 := q2 116 (by decide)
    have A : (fun r => ∃ I2, r = some (vi (I 117 t), hp L b I2 J) ∧ Sm [121] [7] I1 I2 ∧ I2 115 7 = I 117 t ∧ ∀ i, 0 ≤ i → i < I 117 t → I2 121 i = I 116 (24 * t + i)) (ev 146 23 [some (vr 115), some (vi t), some (vi 0)] [] (hp L b (upI I1 115 7 (I 117 t)) J)) := by
      refine lp (lo := 0) (hi := I 117 t) (F := fun i (X : AI) => ev 146 23 [some (vr 115), some (vi t), some (vi i)] [] (hp L b X J)) (Q := fun r => ∃ I2, r = some (vi (I 117 t), hp L b I2 J) ∧ Sm [121] [7] I1 I2 ∧ I2 115 7 = I 117 t ∧ ∀ i, 0 ≤ i → i < I 117 t → I2 121 i = I 116 (24 * t + i)) (fun i X => Sm [121] [7] I1 X ∧ X 115 7 = I 117 t ∧ ∀ x, 0 ≤ x → x < i → X 121 x = I 116 (24 * t + x)) ?_ ?_ 0 _ (Int.le_refl _) b1.1 ⟨Sm.rf.fld (by simp), upI_s _ _ _ _, fun x a d => by omega⟩
      · intro i X g1 g2 ⟨v1, v2, v3⟩
        right
        refine ⟨upI X 121 i (I 116 (24 * t + i)), ?_, v1.up (by simp) (by decide), by rw [upI_c (by decide)]; exact v2, fun x a d => ?_⟩
        · try dsimp only
          rw [s146_23, v2, v1.1 116 (by decide) (by decide), e116]
          simp (disch := first | assumption | omega) only [↓gd_t, ↓if_pos, ↓if_neg, Option.bind_some, true_or, true_and, gd_t]
        · by_cases e : x = i
          · rw [e, upI_s]
          · rw [upI_i e]; exact v3 x a (by omega)
      · intro X ⟨v1, v2, v3⟩
        refine ⟨X, ?_, v1, v2, v3⟩
        try dsimp only
        rw [s146_23, v2]
        simp (disch := first | assumption | omega) only [↓gd_t, ↓if_pos, ↓if_neg, Option.bind_some, true_or, true_and, gd_t]
    obtain ⟨I2, w1, w2, w3, w4⟩ := A
    refine ⟨I 117 t, b, I1, J, I2, ?_, ?_, ?_⟩
    · rw [n95, s95_0, c66R hT, bI_t c]
      simp only [Option.bind_some]
      rw [s95_8, if_pos (by decide), q1]
      simp only [Option.bind_some]
      rw [s95_26, q3.1]
    · rw [n146, s146_0, c137 hT1, bI_t rd1]
      simp only [Option.bind_some]
      rw [s146_5, e117]
      simp (disch := first | assumption | omega) only [↓gd_t, ↓if_pos, ↓if_neg, Option.bind_some, true_or, true_and, gd_t, w1]
    · have hA : Sm [3, 4, 121] [7] I I2 := Sm.of2 q2 w2 (by decide) (by simp) (by simp)
      have hd : RD I2 I2 := by
        refine ⟨?_, by rw [w3]; exact b1, fun i a d => ?_⟩
        · rw [w2.1 3 (by decide) (by decide), q3.1, w3]
        · rw [w3] at d
          rw [w2.1 4 (by decide) (by decide), w4 i a d]
          exact q3.2 i a d
      exact ⟨⟨RT.cg (h.1) (fun c z => hA.1 c (by revert c; decide) (by revert c; decide)) (fun c z => hA.1 c (by revert c; decide) (by revert c; decide)) (hA.2 5 (by decide)), RC.cg (h.2.1) (hA.1 161 (by decide) (by decide)) (fun c z => hA.1 c (by revert c; decide) (by revert c; decide)) (hA.2 5 (by decide)), RU.cg (h.2.2.1) (hA.1 11 (by decide) (by decide)) (fun c z => hA.1 c (by revert c; decide) (by revert c; decide)) (hA.2 5 (by decide)), hd, RB.cg (h.2.2.2.2.1) (hA.1 5 (by decide) (by decide)) (hA.1 124 (by decide) (by decide)) (hA.2 5 (by decide)), RS.cg (h.2.2.2.2.2.1) (fun c z => hA.1 c (by revert c; decide) (by revert c; decide)) (fun c z => hA.1 c (by revert c; decide) (by revert c; decide)) (hA.2 5 (by decide)) (hA.2 10 (by decide)), RP.cg (h.2.2.2.2.2.2.1) (fun c z => hA.1 c (by revert c; decide) (by revert c; decide)) (fun _ _ => rfl) (fun c z => hA.1 c (by revert c; decide) (by revert c; decide)) (hA.2 10 (by decide)) (hA.2 16 (by decide)), RH.cg (h.2.2.2.2.2.2.2.1) (hA.1 30 (by decide) (by decide)) (fun c z => hA.1 c (by revert c; decide) (by revert c; decide)) (hA.2 16 (by decide)), RF.cg (h.2.2.2.2.2.2.2.2.1) (fun c z => hA.1 c (by revert c; decide) (by revert c; decide)) (fun c z => hA.1 c (by revert c; decide) (by revert c; decide)) (hA.2 30 (by decide)), RM.cg (h.2.2.2.2.2.2.2.2.2.1) (fun c z => hA.1 c (by revert c; decide) (by revert c; decide)) (fun c z => hA.1 c (by revert c; decide) (by revert c; decide)) (fun j z => hA.2 j (by revert j; decide)), RJ.cg (h.2.2.2.2.2.2.2.2.2.2) (fun c z => hA.1 c (by revert c; decide) (by revert c; decide)) (hA.1 155 (by decide) (by decide)) (fun j z => hA.2 j (by revert j; decide))⟩, hA.1 0 (by decide) (by decide)⟩
  · refine ⟨-2, b, I, J, I, ?_, ?_, h, rfl⟩
    · rw [n95, s95_0, c66R hT, bI_f c]
      simp (disch := first | assumption | omega) only [↓gd_t, ↓if_pos, ↓if_neg, Option.bind_some, true_or, true_and, gd_t, s95_8]
    · rw [n146, s146_0, c137 hT.1, bI_f c]
      simp (disch := first | assumption | omega) only [↓gd_t, ↓if_pos, ↓if_neg, Option.bind_some, true_or, true_and, gd_t, s146_5]
theorem op_lose (t : Int) : Op 129 226 [vi t] := by
  intro L b I J h
  have hT := h.1
  have t0 := hT.1.1
  by_cases c : thR I t
  · have c1 := c.1
    have c2 := c.2
    have r := hT.2.2 t c1.1 c1.2
    have f := (hT.1.2.2.2 t c1.1 c1.2).1
    by_cases d : I 118 t = 1
    · have r3 := r.2.2.1
      rw [if_neg (by omega), if_pos d] at r3
      have e : upI (upI I 118 t 1) 120 t (-1) = I := by
        funext x y
        rw [upI_e, upI_e]
        by_cases z1 : x = 120 ∧ y = t
        · rw [if_pos z1, z1.1, z1.2, r.2.2.2.2.2 d]
        · rw [if_neg z1]
          by_cases z2 : x = 118 ∧ y = t
          · rw [if_pos z2, z2.1, z2.2, d]
          · rw [if_neg z2]
      refine ⟨0, b, I, J, I, ?_, ?_, h, rfl⟩
      · rw [n129, s129_0, c65R hT, bI_t c]
        simp (disch := first | assumption | omega) only [↓gd_t, ↓if_pos, ↓if_neg, Option.bind_some, true_or, true_and, gd_t, s129_8]
      · rw [n226, s226_0, c135 t0.2, bI_t c]
        simp (disch := first | assumption | omega) only [↓gd_t, ↓if_pos, ↓if_neg, Option.bind_some, true_or, true_and, gd_t, s226_5, s226_25]
        rw [e]
    · have r3 : ¬ I 9 t = 2 := by
        rw [r.2.2.1, if_neg (by omega), if_neg d]; split <;> decide
      refine ⟨1, b, upI (upI I 9 t 2) 10 t (-1), J, upI (upI (upI (upI I 9 t 2) 10 t (-1)) 118 t 1) 120 t (-1), ?_, ?_, ?_⟩
      · rw [n129, s129_0, c65R hT, bI_t c]
        simp (disch := first | assumption | omega) only [↓gd_t, ↓if_pos, ↓if_neg, Option.bind_some, true_or, true_and, gd_t, s129_8]
      · have th : thR (upI (upI I 9 t 2) 10 t (-1)) t := by
          unfold thR
          rw [upI_c (show 115 ≠ 10 by decide), upI_c (show 115 ≠ 9 by decide), upI_c (show 119 ≠ 10 by decide), upI_c (show 119 ≠ 9 by decide)]; exact c
        have e18 : (upI (upI I 9 t 2) 10 t (-1)) 118 t = 0 := by rw [upI_c (by decide), upI_c (by decide)]; omega
        rw [n226, s226_0, c135 (by rw [upI_c (by decide), upI_c (by decide)]; exact t0.2), bI_t th]
        simp only [Option.bind_some]
        rw [s226_5, e18]
        simp (disch := first | assumption | omega) only [↓gd_t, ↓if_pos, ↓if_neg, Option.bind_some, true_or, true_and, gd_t, s226_25]
      · have hA : Sm [9, 10, 118, 120] [] I (upI (upI (upI (upI I 9 t 2) 10 t (-1)) 118 t 1) 120 t (-1)) := (((Sm.rf.up (by simp) (by decide)).up (by simp) (by decide)).up (by simp) (by decide)).up (by simp) (by decide)
        generalize hX : upI (upI (upI (upI I 9 t 2) 10 t (-1)) 118 t 1) 120 t (-1) = X at hA ⊢
        have g9 : ∀ u, X 9 u = if u = t then 2 else I 9 u := fun u => by
          rw [← hX, upI_c (by decide), upI_c (by decide), upI_c (by decide)]
          by_cases e : u = t
          · rw [e, upI_s, if_pos rfl]
          · rw [upI_i e, if_neg e]
        have g10 : ∀ u, X 10 u = if u = t then -1 else I 10 u := fun u => by
          rw [← hX, upI_c (by decide), upI_c (by decide)]
          by_cases e : u = t
          · rw [e, upI_s, if_pos rfl]
          · rw [upI_i e, if_neg e, upI_c (by decide)]
        have g118 : ∀ u, X 118 u = if u = t then 1 else I 118 u := fun u => by
          rw [← hX, upI_c (by decide)]
          by_cases e : u = t
          · rw [e, upI_s, if_pos rfl]
          · rw [upI_i e, if_neg e, upI_c (by decide), upI_c (by decide)]
        have g120 : ∀ u, X 120 u = if u = t then -1 else I 120 u := fun u => by
          rw [← hX]
          by_cases e : u = t
          · rw [e, upI_s, if_pos rfl]
          · rw [upI_i e, if_neg e, upI_c (by decide), upI_c (by decide), upI_c (by decide)]
        have e5 : X 115 5 = I 115 5 := hA.2 5 (by decide)
        have o : ∀ c, c ∉ [9, 10, 118, 120] → c ≠ 115 → X c = I c := hA.1
        have hTx : RT X X := by
          refine ⟨⟨by rw [e5]; exact t0, fun u a b => ?_, fun u a b => ?_, fun u a b => ?_⟩, by rw [e5, o 6 (by decide) (by decide)]; exact hT.2.1, fun u a b => ?_⟩
          · rw [e5] at b
            rw [g120]
            by_cases e : u = t
            · rw [if_pos e]; omega
            · rw [if_neg e]; exact hT.1.2.1 u a b
          · rw [e5] at b; rw [o 117 (by decide) (by decide)]; exact hT.1.2.2.1 u a b
          · rw [e5] at b
            rw [g118, o 119 (by decide) (by decide)]
            refine ⟨?_, (hT.1.2.2.2 u a b).2⟩
            by_cases e : u = t
            · rw [if_pos e]; exact Or.inr rfl
            · rw [if_neg e]; exact (hT.1.2.2.2 u a b).1
          · rw [e5] at b
            have r := hT.2.2 u a b
            unfold RT1 at r ⊢
            rw [o 8 (by decide) (by decide), o 117 (by decide) (by decide), o 7 (by decide) (by decide), o 116 (by decide) (by decide), o 119 (by decide) (by decide), g9, g10, g118, g120]
            refine ⟨r.1, r.2.1, ?_⟩
            by_cases e : u = t
            · rw [if_pos e, if_pos e, if_pos e, if_pos e, e, c2]
              exact ⟨by decide, by decide, fun _ y => absurd y (by decide), fun _ => rfl⟩
            · rw [if_neg e, if_neg e, if_neg e, if_neg e]; exact r.2.2
        have hUx : RU X X := fun u a b g s => by
          rw [e5] at b
          rw [o 119 (by decide) (by decide)] at g
          rw [g120] at s ⊢
          by_cases e : u = t
          · rw [if_pos e] at s; omega
          · rw [if_neg e] at s ⊢
            rw [o 11 (by decide) (by decide), o 117 (by decide) (by decide), lcs_cg (o 116 (by decide) (by decide)) (o 117 (by decide) (by decide))]
            exact h.2.2.1 u a b g s
        exact ⟨⟨hTx, RC.cg (h.2.1) (hA.1 161 (by decide) (by decide)) (fun c z => hA.1 c (by revert c; decide) (by revert c; decide)) (hA.2 5 (by decide)), hUx, RD.cg (h.2.2.2.1) (fun c z => hA.1 c (by revert c; decide) (by revert c; decide)) (hA.1 121 (by decide) (by decide)) (hA.2 7 (by decide)), RB.cg (h.2.2.2.2.1) (hA.1 5 (by decide) (by decide)) (hA.1 124 (by decide) (by decide)) (hA.2 5 (by decide)), RS.cg (h.2.2.2.2.2.1) (fun c z => hA.1 c (by revert c; decide) (by revert c; decide)) (fun c z => hA.1 c (by revert c; decide) (by revert c; decide)) (hA.2 5 (by decide)) (hA.2 10 (by decide)), RP.cg (h.2.2.2.2.2.2.1) (fun c z => hA.1 c (by revert c; decide) (by revert c; decide)) (fun _ _ => rfl) (fun c z => hA.1 c (by revert c; decide) (by revert c; decide)) (hA.2 10 (by decide)) (hA.2 16 (by decide)), RH.cg (h.2.2.2.2.2.2.2.1) (hA.1 30 (by decide) (by decide)) (fun c z => hA.1 c (by revert c; decide) (by revert c; decide)) (hA.2 16 (by decide)), RF.cg (h.2.2.2.2.2.2.2.2.1) (fun c z => hA.1 c (by revert c; decide) (by revert c; decide)) (fun c z => hA.1 c (by revert c; decide) (by revert c; decide)) (hA.2 30 (by decide)), RM.cg (h.2.2.2.2.2.2.2.2.2.1) (fun c z => hA.1 c (by revert c; decide) (by revert c; decide)) (fun c z => hA.1 c (by revert c; decide) (by revert c; decide)) (fun j z => hA.2 j (by revert j; decide)), RJ.cg (h.2.2.2.2.2.2.2.2.2.2) (fun c z => hA.1 c (by revert c; decide) (by revert c; decide)) (hA.1 155 (by decide) (by decide)) (fun j z => hA.2 j (by revert j; decide))⟩, hA.1 0 (by decide) (by decide)⟩
  · refine ⟨-2, b, I, J, I, ?_, ?_, h, rfl⟩
    · rw [n129, s129_0, c65R hT, bI_f c]
      simp (disch := first | assumption | omega) only [↓gd_t, ↓if_pos, ↓if_neg, Option.bind_some, true_or, true_and, gd_t, s129_8]
    · rw [n226, s226_0, c135 t0.2, bI_f c]
      simp (disch := first | assumption | omega) only [↓gd_t, ↓if_pos, ↓if_neg, Option.bind_some, true_or, true_and, gd_t, s226_5]
