/-! calls on both sides: step, base, head, diff, kept -/
theorem op_kept (k x : Int) : Op 109 177 [vi k, vi x] := by
  intro L b I J h
  have hF := h.2.2.2.2.2.2.2.2.1
  have f0 := hF.2.1
  by_cases c : 0 ≤ k ∧ k < I 115 30
  · have r := hF.2.2 k c.1 c.2
    have e := hF.1
    by_cases x0 : x = 0
    · refine ⟨I 138 k, b, I, J, I, ?_, ?_, h, rfl⟩
      · rw [n109, s109_0]; simp (disch := first | assumption | omega) only [↓gd_t, ↓if_pos, ↓if_neg, Option.bind_some, true_or, true_and, gd_t, r.1]
      · rw [n177, s177_0]; simp (disch := first | assumption | omega) only [↓gd_t, ↓if_pos, ↓if_neg, Option.bind_some, true_or, true_and, gd_t]
    · by_cases x1 : x = 1
      · refine ⟨I 139 k, b, I, J, I, ?_, ?_, h, rfl⟩
        · rw [n109, s109_0]; simp (disch := first | assumption | omega) only [↓gd_t, ↓if_pos, ↓if_neg, Option.bind_some, true_or, true_and, gd_t, r.2]
        · rw [n177, s177_0]; simp (disch := first | assumption | omega) only [↓gd_t, ↓if_pos, ↓if_neg, Option.bind_some, true_or, true_and, gd_t]
      · refine ⟨-1, b, I, J, I, ?_, ?_, h, rfl⟩
        · rw [n109, s109_0]; simp (disch := first | assumption | omega) only [↓gd_t, ↓if_pos, ↓if_neg, Option.bind_some, true_or, true_and, gd_t]
        · rw [n177, s177_0]
          by_cases d : x < 0
          · simp (disch := first | assumption | omega) only [↓gd_t, ↓if_pos, ↓if_neg, Option.bind_some, true_or, true_and, gd_t, s177_21]
          · simp (disch := first | assumption | omega) only [↓gd_t, ↓if_pos, ↓if_neg, Option.bind_some, true_or, true_and, gd_t, s177_21]
  · have e := hF.1
    refine ⟨-1, b, I, J, I, ?_, ?_, h, rfl⟩
    · rw [n109, s109_0]
      by_cases d : k < 0
      · simp (disch := first | assumption | omega) only [↓gd_t, ↓if_pos, ↓if_neg, Option.bind_some, true_or, true_and, gd_t, s109_15]
      · simp (disch := first | assumption | omega) only [↓gd_t, ↓if_pos, ↓if_neg, Option.bind_some, true_or, true_and, gd_t, s109_15]
    · rw [n177, s177_0]
      by_cases d : k < 0
      · simp (disch := first | assumption | omega) only [↓gd_t, ↓if_pos, ↓if_neg, Option.bind_some, true_or, true_and, gd_t, s177_21]
      · simp (disch := first | assumption | omega) only [↓gd_t, ↓if_pos, ↓if_neg, Option.bind_some, true_or, true_and, gd_t, s177_21]
theorem op_diff (t u : Int) : Op 108 176 [vi t, vi u] := by
  intro L b I J h
  obtain ⟨hT, hC, hU, hD, hB, hS, hP, hH, hF, hM, hJ⟩ := id h
  have t0 := hT.1.1
  by_cases c : rdR I t ∧ rdR I u
  · have ht := c.1.1.1
    have hu := c.2.1.1
    have b1 := hT.1.2.2.1 t ht.1 ht.2
    have b2 := hT.1.2.2.1 u hu.1 hu.2
    have lb := lcs_bd hT.rl ht hu
    obtain ⟨I1, q1, q2, q3, q4⟩ := c76R (L := L) (b := b) (J := J) (d := 32) hT.rl (by decide) ht hu
    have r1 : ∀ c, c ∉ [2, 13, 14, 15, 16, 32, 33, 34] → I1 c = I c := q2
    have e115 : I1 115 = I 115 := r1 115 (by decide)
    have hT1 : TxR I1 := hT.1.cg (fun c z => r1 c (by revert c; decide)) (by rw [e115])
    have rd1 : ∀ x, rdR I1 x ↔ rdR I x := rdR_cg (fun c z => r1 c (by revert c; decide)) (by rw [e115])
    obtain ⟨I2, w1, w2, w3, w4⟩ := c175R (L := L) (b := b) (J := J) hT1 (t := t) (u := u) (by rw [e115]; exact ht.2) (by rw [e115]; exact hu.2)
    have etl : ∀ x, tl I1 x = tl I x := fun x => by unfold tl; rw [r1 116 (by decide)]
    have e117 : I1 117 = I 117 := r1 117 (by decide)
    rw [ts_t ht.1, ts_t hu.1, etl, etl, e117] at w3 w4
    have w4 : I2 115 27 = lcs I t u := w4
    have un := PO_un (by rw [w4] at w3; exact w3) (by rw [q4] at q3; exact q3)
    have A : (fun r => ∃ I3, r = some (vi (I 117 t + I 117 u - 2 * lcs I t u), hp L b I3 J) ∧ Sm [138, 139] [] (upI I2 115 30 (lcs I t u)) I3 ∧ ∀ k, 0 ≤ k → k < lcs I t u → I3 138 k = I2 136 k ∧ I3 139 k = I2 137 k) (ev 176 35 [some (vr 115), some (vi t), some (vi u), some (vi 0)] [] (hp L b (upI I2 115 30 (lcs I t u)) J)) := by
      refine lp (lo := 0) (hi := lcs I t u) (F := fun i (X : AI) => ev 176 35 [some (vr 115), some (vi t), some (vi u), some (vi i)] [] (hp L b X J)) (Q := fun r => ∃ I3, r = some (vi (I 117 t + I 117 u - 2 * lcs I t u), hp L b I3 J) ∧ Sm [138, 139] [] (upI I2 115 30 (lcs I t u)) I3 ∧ ∀ k, 0 ≤ k → k < lcs I t u → I3 138 k = I2 136 k ∧ I3 139 k = I2 137 k) (fun i X => Sm [138, 139] [] (upI I2 115 30 (lcs I t u)) X ∧ ∀ k, 0 ≤ k → k < i → X 138 k = I2 136 k ∧ X 139 k = I2 137 k) ?_ ?_ 0 _ (Int.le_refl _) lb.1 ⟨Sm.rf, fun k a d => by omega⟩
      · intro i X g1 g2 ⟨v1, v2⟩
        right
        have f27 : X 115 27 = lcs I t u := by rw [v1.2 27 (by simp), upI_i (by decide)]; exact w4
        have f136 : X 136 = I2 136 := by rw [v1.1 136 (by decide) (by decide), upI_c (by decide)]
        have f137 : X 137 = I2 137 := by rw [v1.1 137 (by decide) (by decide), upI_c (by decide)]
        refine ⟨upI (upI X 138 i (I2 136 i)) 139 i (I2 137 i), ?_, (v1.up (by simp) (by decide)).up (by simp) (by decide), fun k a d => ?_⟩
        · try dsimp only
          rw [s176_35, f27, upI_c (show 137 ≠ 138 by decide), f136, f137]
          simp (disch := first | assumption | omega) only [↓gd_t, ↓if_pos, ↓if_neg, Option.bind_some, true_or, true_and, gd_t]
        · rw [upI_c (show 138 ≠ 139 by decide)]
          by_cases e : k = i
          · rw [e, upI_s, upI_s]; exact ⟨rfl, rfl⟩
          · rw [upI_i e, upI_i e, upI_c (show 139 ≠ 138 by decide)]; exact v2 k a (by omega)
      · intro X ⟨v1, v2⟩
        have f27 : X 115 27 = lcs I t u := by rw [v1.2 27 (by simp), upI_i (by decide)]; exact w4
        have f117 : X 117 = I 117 := by rw [v1.1 117 (by decide) (by decide), upI_c (by decide), w2.1 117 (by decide) (by decide), e117]
        refine ⟨X, ?_, v1, v2⟩
        try dsimp only
        rw [s176_35, f27, f117]
        simp (disch := first | assumption | omega) only [↓gd_t, ↓if_pos, ↓if_neg, Option.bind_some, true_or, true_and, gd_t]
    obtain ⟨I3, x1, x2, x3⟩ := A
    have sm2 : Sm [135, 136, 137, 138, 139] [27, 30] I1 I3 := ((w2.mono (by simp) (by simp)).fld (i := 30) (v := lcs I t u) (by simp)).tr (x2.mono (by simp) (by simp))
    have hA : Sm [2, 13, 14, 15, 16, 32, 33, 34, 135, 136, 137, 138, 139] [27, 30] I I3 := Sm.of2 q2 sm2 (by decide) (by simp) (by simp)
    refine ⟨I 117 t + I 117 u - 2 * lcs I t u, b, I1, J, I3, ?_, ?_, ?_⟩
    · rw [n108, s108_0, c66R hT, bI_t c.1]
      simp only [Option.bind_some]
      rw [s108_8, if_neg (by decide), c66R hT, bI_t c.2]
      simp only [Option.bind_some]
      rw [s108_19, if_pos (by decide), q1]
      simp only [Option.bind_some]
      rw [s108_38, r1 8 (by decide), (hT.2.2 t ht.1 ht.2).1, (hT.2.2 u hu.1 hu.2).1, q4]
      simp (disch := first | assumption | omega) only [↓gd_t, ↓if_pos, ↓if_neg, Option.bind_some, true_or, true_and, gd_t]
    · rw [n176, s176_0, c137 hT1, bI_t ((rd1 t).mpr c.1)]
      simp only [Option.bind_some]
      rw [s176_5, if_neg (by decide), c137 hT1, bI_t ((rd1 u).mpr c.2)]
      simp only [Option.bind_some]
      rw [s176_13, if_pos (by decide), w1]
      simp only [Option.bind_some]
      rw [s176_25, w4, x1]
    · have e30 : I3 115 30 = lcs I t u := by rw [x2.2 30 (by simp), upI_s]
      have hf : RF I3 I3 := by
        refine ⟨?_, by rw [e30]; omega, fun k a d => ?_⟩
        · rw [e30, sm2.1 32 (by decide) (by decide), q4]
        · rw [e30] at d
          have z := un _ k (Nat.lt_succ_self _) a d
          have y := x3 k a d
          rw [sm2.1 33 (by decide) (by decide), sm2.1 34 (by decide) (by decide), y.1, y.2]
          exact ⟨z.1.symm, z.2.symm⟩
      exact ⟨⟨RT.cg (h.1) (fun c z => hA.1 c (by revert c; decide) (by revert c; decide)) (fun c z => hA.1 c (by revert c; decide) (by revert c; decide)) (hA.2 5 (by decide)), RC.cg (h.2.1) (hA.1 161 (by decide) (by decide)) (fun c z => hA.1 c (by revert c; decide) (by revert c; decide)) (hA.2 5 (by decide)), RU.cg (h.2.2.1) (hA.1 11 (by decide) (by decide)) (fun c z => hA.1 c (by revert c; decide) (by revert c; decide)) (hA.2 5 (by decide)), RD.cg (h.2.2.2.1) (fun c z => hA.1 c (by revert c; decide) (by revert c; decide)) (hA.1 121 (by decide) (by decide)) (hA.2 7 (by decide)), RB.cg (h.2.2.2.2.1) (hA.1 5 (by decide) (by decide)) (hA.1 124 (by decide) (by decide)) (hA.2 5 (by decide)), RS.cg (h.2.2.2.2.2.1) (fun c z => hA.1 c (by revert c; decide) (by revert c; decide)) (fun c z => hA.1 c (by revert c; decide) (by revert c; decide)) (hA.2 5 (by decide)) (hA.2 10 (by decide)), RP.cg (h.2.2.2.2.2.2.1) (fun c z => hA.1 c (by revert c; decide) (by revert c; decide)) (fun _ _ => rfl) (fun c z => hA.1 c (by revert c; decide) (by revert c; decide)) (hA.2 10 (by decide)) (hA.2 16 (by decide)), RH.cg (h.2.2.2.2.2.2.2.1) (hA.1 30 (by decide) (by decide)) (fun c z => hA.1 c (by revert c; decide) (by revert c; decide)) (hA.2 16 (by decide)), hf, RM.cg (h.2.2.2.2.2.2.2.2.2.1) (fun c z => hA.1 c (by revert c; decide) (by revert c; decide)) (fun c z => hA.1 c (by revert c; decide) (by revert c; decide)) (fun j z => hA.2 j (by revert j; decide)), RJ.cg (h.2.2.2.2.2.2.2.2.2.2) (fun c z => hA.1 c (by revert c; decide) (by revert c; decide)) (hA.1 155 (by decide) (by decide)) (fun j z => hA.2 j (by revert j; decide))⟩, hA.1 0 (by decide) (by decide)⟩
  · refine ⟨-2, b, I, J, I, ?_, ?_, h, rfl⟩
    · rw [n108, s108_0, c66R hT]
      by_cases d : rdR I t
      · rw [bI_t d]
        simp only [Option.bind_some]
        rw [s108_8, if_neg (by decide), c66R hT, bI_f (fun z => c ⟨d, z⟩)]
        simp (disch := first | assumption | omega) only [↓gd_t, ↓if_pos, ↓if_neg, Option.bind_some, true_or, true_and, gd_t, s108_19, s108_22]
      · rw [bI_f d]
        simp (disch := first | assumption | omega) only [↓gd_t, ↓if_pos, ↓if_neg, Option.bind_some, true_or, true_and, gd_t, s108_8, s108_22]
    · rw [n176, s176_0, c137 hT.1]
      by_cases d : rdR I t
      · rw [bI_t d]
        simp only [Option.bind_some]
        rw [s176_5, if_neg (by decide), c137 hT.1, bI_f (fun z => c ⟨d, z⟩)]
        simp (disch := first | assumption | omega) only [↓gd_t, ↓if_pos, ↓if_neg, Option.bind_some, true_or, true_and, gd_t, s176_13, s176_16]
      · rw [bI_f d]
        simp (disch := first | assumption | omega) only [↓gd_t, ↓if_pos, ↓if_neg, Option.bind_some, true_or, true_and, gd_t, s176_5, s176_16]
theorem op_base (s t k : Int) : Op 106 170 [vi s, vi t, vi k] := by
  intro L b I J h
  obtain ⟨hT, hC, hU, hD, hB, hS, hP, hH, hF, hM, hJ⟩ := id h
  have p0 := hP.1.1
  by_cases c : ((0 ≤ s ∧ s < I 115 16) ∧ 0 ≤ t ∧ t < I 115 16) ∧ 0 ≤ k
  · obtain ⟨⟨hs, ht⟩, hk⟩ := c
    obtain ⟨J1, q1, q2, q3⟩ := c59R (L := L) (b := b) (k := 114) (by decide) (by decide) hP hs ht
    obtain ⟨I2, w1, w2, w3, w4⟩ := c169 (L := L) (b := b) (J := J1) hP.1 hs ht
    have nb := ct_bd (p := baG I s t) (I 115 16).toNat
    -- the k-th one
    have cls : ∃ v, evc 106 [vr 1, vi s, vi t, vi k] (hp L b I J) = some (vi v, hp L b I J1) ∧ ((v = -1 ∧ ∀ x, 0 ≤ x → x < 80 → ¬ (baG I s t x ∧ ct (baG I s t) x.toNat = k)) ∨ ((0 ≤ v ∧ v < 80) ∧ baG I s t v ∧ ct (baG I s t) v.toNat = k)) := by
      rw [n106, s106_0, c54R hP, bI_t hs]
      simp only [Option.bind_some]
      rw [s106_8, if_neg (by decide), c54R hP, bI_t ht]
      simp only [Option.bind_some]
      rw [s106_19, if_neg (by decide), if_pos hk, q1]
      simp only [Option.bind_some]
      rw [s106_42]
      refine lp (lo := 0) (hi := 80) (F := fun i (y : Int) => ev 106 48 [some (vr 1), none, none, some (vi k), some (vi y), some (vi i)] [] (hp L b I J1)) (Q := fun r => ∃ v, r = some (vi v, hp L b I J1) ∧ ((v = -1 ∧ ∀ x, 0 ≤ x → x < 80 → ¬ (baG I s t x ∧ ct (baG I s t) x.toNat = k)) ∨ ((0 ≤ v ∧ v < 80) ∧ baG I s t v ∧ ct (baG I s t) v.toNat = k))) (fun i y => y = ct (baG I s t) i.toNat ∧ ∀ x, 0 ≤ x → x < i → ¬ (baG I s t x ∧ ct (baG I s t) x.toNat = k)) ?_ ?_ 0 0 (Int.le_refl _) (by decide) ⟨rfl, fun x a d => by omega⟩
      · intro i y g1 g2 ⟨v1, v2⟩
        have hb := ct_bd (p := baG I s t) i.toNat
        have st : ev 106 48 [some (vr 1), none, none, some (vi k), some (vi y), some (vi i)] [] (hp L b I J1) = ev 106 64 [some (vr 1), none, none, some (vi k), some (vi y), some (vi i)] [vi (bI (baG I s t i))] (hp L b I J1) := by
          rw [s106_48, if_neg (by omega), c50 (by decide), bI_cg (show i < 80 ∧ sb J1 114 i ↔ baG I s t i from ⟨fun z => (q3 i).mp z.2, fun z => ⟨g2, (q3 i).mpr z⟩⟩)]
          simp only [Option.bind_some]
        by_cases d : baG I s t i
        · by_cases e : y = k
          · left
            refine ⟨i, ?_, Or.inr ⟨⟨g1, g2⟩, d, by rw [← v1]; exact e⟩⟩
            try dsimp only
            rw [st, bI_t d, s106_64]
            simp (disch := first | assumption | omega) only [↓gd_t, ↓if_pos, ↓if_neg, Option.bind_some, true_or, true_and, gd_t]
          · right
            refine ⟨y + 1, ?_, by rw [v1, ct_s g1, bI_t d], fun x a f => ?_⟩
            · try dsimp only
              rw [st, bI_t d, s106_64]
              simp (disch := first | assumption | omega) only [↓gd_t, ↓if_pos, ↓if_neg, Option.bind_some, true_or, true_and, gd_t, s106_79]
            · by_cases w : x = i
              · rw [w]; exact fun z => e (by rw [v1]; exact z.2)
              · exact v2 x a (by omega)
        · right
          refine ⟨y, ?_, by rw [v1, ct_s g1, bI_f d, Int.add_zero], fun x a f => ?_⟩
          · try dsimp only
            rw [st, bI_f d, s106_64]
            simp (disch := first | assumption | omega) only [↓gd_t, ↓if_pos, ↓if_neg, Option.bind_some, true_or, true_and, gd_t, s106_79]
          · by_cases w : x = i
            · rw [w]; exact fun z => d z.1
            · exact v2 x a (by omega)
      · intro y ⟨v1, v2⟩
        refine ⟨-1, ?_, Or.inl ⟨rfl, v2⟩⟩
        try dsimp only
        rw [s106_48]
        simp (disch := first | assumption | omega) only [↓gd_t, ↓if_pos, ↓if_neg, Option.bind_some, true_or, true_and, gd_t]
    obtain ⟨v, cl1, cl2⟩ := cls
    have ref : evc 170 [vr 115, vi s, vi t, vi k] (hp L b I J1) = some (vi v, hp L b I2 J1) := by
      rw [n170, s170_0, c160, bI_t hs]
      simp only [Option.bind_some]
      rw [s170_5, if_neg (by decide), c160, bI_t ht]
      simp only [Option.bind_some]
      rw [s170_13, if_neg (by decide), if_pos hk, w1]
      simp only [Option.bind_some]
      rw [s170_29, w3]
      by_cases d : ct (baG I s t) (I 115 16).toNat ≤ k
      · rw [if_pos d]
        rcases cl2 with z | ⟨z1, z2, z3⟩
        · rw [z.1]
        · have vb := ba_bd hP.1 hs z2
          have := ct_s (p := baG I s t) z1.1
          rw [bI_t z2] at this
          have m := ct_mono (p := baG I s t) (n := (v + 1).toNat) (m := (I 115 16).toNat) (by omega)
          omega
      · obtain ⟨x, x1, x2, x3⟩ := ct_ex (p := baG I s t) (I 115 16).toNat k hk (by omega)
        rcases cl2 with z | ⟨z1, z2, z3⟩
        · exact absurd ⟨x2, x3⟩ (z.2 x x1.1 (by omega))
        · have e : v = x := ct_inj z1.1 x1.1 z2 x2 (by rw [z3, x3])
          have vb := ba_bd hP.1 hs z2
          have y := w4 v z1.1 vb.2 z2
          rw [z3] at y
          rw [if_neg d, gd_t (by omega), y]
    exact ⟨v, b, I, J1, I2, cl1, ref, rel_ro h w2 (fun c z => q2 c (by revert c; decide) (by revert c; decide)) (by decide)⟩
  · refine ⟨-2, b, I, J, I, ?_, ?_, h, rfl⟩
    · rw [n106, s106_0, c54R hP]
      by_cases d : 0 ≤ s ∧ s < I 115 16
      · rw [bI_t d]
        simp only [Option.bind_some]
        rw [s106_8, if_neg (by decide), c54R hP]
        by_cases e : 0 ≤ t ∧ t < I 115 16
        · rw [bI_t e]
          have : ¬ 0 ≤ k := fun z => c ⟨⟨d, e⟩, z⟩
          simp (disch := first | assumption | omega) only [↓gd_t, ↓if_pos, ↓if_neg, Option.bind_some, true_or, true_and, gd_t, s106_19, s106_26]
        · rw [bI_f e]
          simp (disch := first | assumption | omega) only [↓gd_t, ↓if_pos, ↓if_neg, Option.bind_some, true_or, true_and, gd_t, s106_19, s106_26]
      · rw [bI_f d]
        simp (disch := first | assumption | omega) only [↓gd_t, ↓if_pos, ↓if_neg, Option.bind_some, true_or, true_and, gd_t, s106_8, s106_26]
    · rw [n170, s170_0, c160]
      by_cases d : 0 ≤ s ∧ s < I 115 16
      · rw [bI_t d]
        simp only [Option.bind_some]
        rw [s170_5, if_neg (by decide), c160]
        by_cases e : 0 ≤ t ∧ t < I 115 16
        · rw [bI_t e]
          have : ¬ 0 ≤ k := fun z => c ⟨⟨d, e⟩, z⟩
          simp (disch := first | assumption | omega) only [↓gd_t, ↓if_pos, ↓if_neg, Option.bind_some, true_or, true_and, gd_t, s170_13, s170_20]
        · rw [bI_f e]
          simp (disch := first | assumption | omega) only [↓gd_t, ↓if_pos, ↓if_neg, Option.bind_some, true_or, true_and, gd_t, s170_13, s170_20]
      · rw [bI_f d]
        simp (disch := first | assumption | omega) only [↓gd_t, ↓if_pos, ↓if_neg, Option.bind_some, true_or, true_and, gd_t, s170_5, s170_20]
/-- a step's ancestors have a shelf that is gone -/
def mgG (G : AI) (s n : Int) : Prop := ∃ c, (0 ≤ c ∧ c < n) ∧ anR G s c ∧ G 123 (G 125 c) ≠ 0
theorem c31R {L : Nat} {b : Bool} {I : AI} {J : AJ} {G : AI} (hS : RS I G) (hP : RP I J G) {s : Int} (hs : 0 ≤ s ∧ s < G 115 16) : ∃ J', evc 31 [vr 110, vi s] (hp L b I J) = some (vi (bI (mgG G s (G 115 16))), hp L b I J') ∧ ∀ c, c ≠ 111 → J' c = J c := by
  have p0 := hP.1.1
  obtain ⟨J1, q1, q2, q3⟩ := c49 (L := L) (b := b) (I := I) (J := J) (k := 111) (by decide)
  obtain ⟨J2, w1, w2, w3⟩ := c57 (L := L) (b := b) (I := I) (J := J1) (k := 111) (by decide) (RP_n hP).2 s
  have z : ∀ t, sb J2 111 t ↔ anR G s t := fun t => by
    rw [w3 t, ab_cg (q2 28 (by decide)) (q2 29 (by decide)), hP.2.1]
    exact ⟨fun y => by rcases y with y | y; exact absurd y (q3 t); exact (ab_an hP hs t).mp y.2, fun y => Or.inr ⟨hs, (ab_an hP hs t).mpr y⟩⟩
  refine ⟨J2, ?_, fun c hc => by rw [w2 c hc, q2 c hc]⟩
  rw [n31]
  simp (disch := first | assumption | omega) only [↓gd_t, ↓if_pos, ↓if_neg, Option.bind_some, true_or, true_and, gd_t, s31_0, q1, s31_7, w1, s31_19]
  refine lp (lo := 0) (hi := G 115 16) (F := fun i (_ : Unit) => ev 31 21 [some (vr 110), none, some (vi i)] [] (hp L b I J2)) (Q := fun r => r = some (vi (bI (mgG G s (G 115 16))), hp L b I J2)) (fun i _ => ¬ mgG G s i) ?_ ?_ 0 () (Int.le_refl _) p0.1 (by rintro ⟨c, y, -⟩; omega)
  · intro i _ g1 g2 v
    have r := hP.2.2.1 i g1 g2
    have st : ev 31 21 [some (vr 110), none, some (vi i)] [] (hp L b I J2) = ev 31 40 [some (vr 110), none, some (vi i)] [vi (bI (anR G s i))] (hp L b I J2) := by
      rw [s31_21, hP.2.1, if_neg (by omega), c50 (by decide), bI_cg (show i < 80 ∧ sb J2 111 i ↔ anR G s i from ⟨fun y => (z i).mp y.2, fun y => ⟨by omega, (z i).mpr y⟩⟩)]
      simp only [Option.bind_some]
    have next : ¬ (anR G s i ∧ G 123 (G 125 i) ≠ 0) → ¬ mgG G s (i + 1) := fun h => by
      rintro ⟨c, y1, y2, y3⟩
      by_cases e : c = i
      · rw [e] at y2 y3; exact h ⟨y2, y3⟩
      · exact v ⟨c, ⟨y1.1, by omega⟩, y2, y3⟩
    by_cases d : anR G s i
    · have st2 : ev 31 21 [some (vr 110), none, some (vi i)] [] (hp L b I J2) = ev 31 59 [some (vr 110), none, some (vi i)] [vi (bI (shR G (G 125 i)))] (hp L b I J2) := by
        rw [st, bI_t d, s31_40, r.1]
        simp (disch := first | assumption | omega) only [↓gd_t, ↓if_pos, ↓if_neg, Option.bind_some, true_or, true_and, gd_t, c42R hS]
      by_cases e : G 123 (G 125 i) = 0
      · right
        refine ⟨(), ?_, next (fun y => y.2 e)⟩
        try dsimp only
        rw [st2, bI_t (show shR G (G 125 i) from ⟨r.2.1, e⟩), s31_59]
        simp (disch := first | assumption | omega) only [↓gd_t, ↓if_pos, ↓if_neg, Option.bind_some, true_or, true_and, gd_t, s31_64]
      · left
        try dsimp only
        rw [st2, bI_f (show ¬ shR G (G 125 i) from fun y => e y.2), s31_59, bI_t (show mgG G s (G 115 16) from ⟨i, ⟨g1, g2⟩, d, e⟩)]
        simp (disch := first | assumption | omega) only [↓gd_t, ↓if_pos, ↓if_neg, Option.bind_some, true_or, true_and, gd_t]
    · right
      refine ⟨(), ?_, next (fun y => d y.1)⟩
      try dsimp only
      rw [st, bI_f d, s31_40]
      simp (disch := first | assumption | omega) only [↓gd_t, ↓if_pos, ↓if_neg, Option.bind_some, true_or, true_and, gd_t, s31_64]
  · intro _ v
    try dsimp only
    rw [s31_21, hP.2.1, bI_f v]
    simp (disch := first | assumption | omega) only [↓gd_t, ↓if_pos, ↓if_neg, Option.bind_some, true_or, true_and, gd_t]
theorem op_head (x s : Int) : Op 107 171 [vi x, vi s] := by
  intro L b I J h
  obtain ⟨hT, hC, hU, hD, hB, hS, hP, hH, hF, hM, hJ⟩ := id h
  have p0 := hP.1.1
  by_cases c : (0 ≤ x ∧ x < 8) ∧ (s = -1 ∨ (0 ≤ s ∧ s < I 115 16))
  · obtain ⟨hx, hs⟩ := c
    have cst : evc 107 [vr 1, vi x, vi s] (hp L b I J) = ev 107 18 [some (vr 1), some (vi x), some (vi s), none] [vi 1] (hp L b I J) := by
      rw [n107, s107_0, if_neg (by omega), if_neg (by omega), c55, hP.2.1, bI_t hs]
      simp only [Option.bind_some]
    have rst : ∀ (X : AI) (J' : AJ), X 115 16 = I 115 16 → evc 171 [vr 115, vi x, vi s] (hp L b X J') = ev 171 26 [some (vr 115), some (vi x), some (vi s), none] [] (hp L b X J') := fun X J' e => by
      rw [n171, s171_0, if_neg (by omega), if_neg (by omega)]
      rcases hs with z | z
      · simp (disch := first | assumption | omega) only [↓gd_t, ↓if_pos, ↓if_neg, Option.bind_some, true_or, true_and, gd_t]
      · rw [if_neg (by omega), c160, e, bI_t z]
        simp (disch := first | assumption | omega) only [↓gd_t, ↓if_pos, ↓if_neg, Option.bind_some, true_or, true_and, gd_t, s171_20]
    have put : ∀ (X Y : AI) (J' : AJ), Same [] I X → (∀ c ∈ [28, 29], J' c = J c) → Sm [130, 131] [] I Y → (0 ≤ s → ∀ c, anR I s c → I 123 (I 125 c) = 0) → Rel (upI (upI Y 30 x s) 129 x s) J' (upI (upI Y 30 x s) 129 x s) ∧ (upI (upI Y 30 x s) 129 x s) 0 = I 0 := fun X Y J' _ hj sY hn => by
      have hA : Sm [30, 129, 130, 131] [] I (upI (upI Y 30 x s) 129 x s) := ((sY.mono (by simp) (by simp)).up (by simp) (by decide)).up (by simp) (by decide)
      have u30 : ∀ y, (upI (upI Y 30 x s) 129 x s) 30 y = if y = x then s else I 30 y := fun y => by
        rw [upI_c (by decide)]
        by_cases e : y = x
        · rw [e, upI_s, if_pos rfl]
        · rw [upI_i e, if_neg e, sY.1 30 (by decide) (by decide)]
      have u129 : ∀ y, (upI (upI Y 30 x s) 129 x s) 129 y = if y = x then s else I 129 y := fun y => by
        by_cases e : y = x
        · rw [e, upI_s, if_pos rfl]
        · rw [upI_i e, upI_c (by decide), if_neg e, sY.1 129 (by decide) (by decide)]
      generalize upI (upI Y 30 x s) 129 x s = Z at *
      have o := hA.1
      have hh : RH Z Z := fun y a d => by
        have r := hH y a d
        rw [u30, u129, hA.2 16 (by simp), o 123 (by decide) (by decide), o 125 (by decide) (by decide), anR_cg (fun c z => o c (by revert c; decide) (by revert c; decide))]
        by_cases e : y = x
        · rw [if_pos e, if_pos e]; exact ⟨rfl, by omega, hn⟩
        · rw [if_neg e, if_neg e]; exact r
      exact ⟨⟨RT.cg (h.1) (fun c z => hA.1 c (by revert c; decide) (by revert c; decide)) (fun c z => hA.1 c (by revert c; decide) (by revert c; decide)) (hA.2 5 (by decide)), RC.cg (h.2.1) (hA.1 161 (by decide) (by decide)) (fun c z => hA.1 c (by revert c; decide) (by revert c; decide)) (hA.2 5 (by decide)), RU.cg (h.2.2.1) (hA.1 11 (by decide) (by decide)) (fun c z => hA.1 c (by revert c; decide) (by revert c; decide)) (hA.2 5 (by decide)), RD.cg (h.2.2.2.1) (fun c z => hA.1 c (by revert c; decide) (by revert c; decide)) (hA.1 121 (by decide) (by decide)) (hA.2 7 (by decide)), RB.cg (h.2.2.2.2.1) (hA.1 5 (by decide) (by decide)) (hA.1 124 (by decide) (by decide)) (hA.2 5 (by decide)), RS.cg (h.2.2.2.2.2.1) (fun c z => hA.1 c (by revert c; decide) (by revert c; decide)) (fun c z => hA.1 c (by revert c; decide) (by revert c; decide)) (hA.2 5 (by decide)) (hA.2 10 (by decide)), RP.cg (h.2.2.2.2.2.2.1) (fun c z => hA.1 c (by revert c; decide) (by revert c; decide)) hj (fun c z => hA.1 c (by revert c; decide) (by revert c; decide)) (hA.2 10 (by decide)) (hA.2 16 (by decide)), hh, RF.cg (h.2.2.2.2.2.2.2.2.1) (fun c z => hA.1 c (by revert c; decide) (by revert c; decide)) (fun c z => hA.1 c (by revert c; decide) (by revert c; decide)) (hA.2 30 (by decide)), RM.cg (h.2.2.2.2.2.2.2.2.2.1) (fun c z => hA.1 c (by revert c; decide) (by revert c; decide)) (fun c z => hA.1 c (by revert c; decide) (by revert c; decide)) (fun j z => hA.2 j (by revert j; decide)), RJ.cg (h.2.2.2.2.2.2.2.2.2.2) (fun c z => hA.1 c (by revert c; decide) (by revert c; decide)) (hA.1 155 (by decide) (by decide)) (fun j z => hA.2 j (by revert j; decide))⟩, hA.1 0 (by decide) (by decide)⟩
    by_cases e : s = -1
    · refine ⟨I 129 x, b, upI I 30 x s, J, upI (upI I 30 x s) 129 x s, ?_, ?_, put I I J Same.rf (fun _ _ => rfl) Sm.rf (fun z => by omega)⟩
      · rw [cst, s107_18]
        simp (disch := first | assumption | omega) only [↓gd_t, ↓if_pos, ↓if_neg, Option.bind_some, true_or, true_and, gd_t, s107_43, (hH x hx.1 hx.2).1]
      · rw [rst _ _ (by rw [upI_c (by decide)]), s171_26, if_pos (by omega), s171_88]
        simp (disch := first | assumption | omega) only [↓gd_t, ↓if_pos, ↓if_neg, Option.bind_some, true_or, true_and, gd_t, upI_c (show (129 : Nat) ≠ 30 by decide)]
    · have hs' : 0 ≤ s ∧ s < I 115 16 := by omega
      obtain ⟨J1, q1, q2⟩ := c31R (L := L) (b := b) hS hP hs'
      have hj : ∀ c ∈ [28, 29], J1 c = J c := fun c z => q2 c (by revert c; decide)
      -- the reference's own look
      have look : ∀ X : AI, Same [30] I X → ∃ Y, Sm [130, 131] [] X Y ∧ ev 171 26 [some (vr 115), some (vi x), some (vi s), none] [] (hp L b X J1) = if bI (mgG I s (I 115 16)) = 1 then some (vi (-2), hp L b Y J1) else ev 171 88 [some (vr 115), some (vi x), some (vi s), none] [] (hp L b Y J1) := fun X sX => by
        have x16 : X 115 16 = I 115 16 := by rw [sX 115 (by decide)]
        have hSX : StR X := hP.1.cg (fun c z => sX c (by revert c; decide)) x16
        obtain ⟨Y1, Y, y1, y2, y3, y4⟩ := c131a (L := L) (b := b) (J := J1) hSX (s := s) (by rw [x16]; exact hs') (k := 131) (by decide) (by decide)
        rw [anR_cg (fun c z => sX c (by revert c; decide))] at y4
        have Y16 : Y 115 16 = I 115 16 := by rw [y3.2 16 (by decide), x16]
        have Y125 : Y 125 = I 125 := by rw [y3.1 125 (by decide) (by decide), sX 125 (by decide)]
        have Y123 : Y 123 = I 123 := by rw [y3.1 123 (by decide) (by decide), sX 123 (by decide)]
        refine ⟨Y, y3, ?_⟩
        rw [s171_26, if_neg (by omega), y1]
        simp only [Option.bind_some]
        rw [s171_37, y2]
        simp only [Option.bind_some]
        rw [s171_46]
        refine lp (lo := 0) (hi := I 115 16) (F := fun i (_ : Unit) => ev 171 48 [some (vr 115), some (vi x), some (vi s), some (vi i)] [] (hp L b Y J1)) (Q := fun r => r = if bI (mgG I s (I 115 16)) = 1 then some (vi (-2), hp L b Y J1) else ev 171 88 [some (vr 115), some (vi x), some (vi s), none] [] (hp L b Y J1)) (fun i _ => ¬ mgG I s i) ?_ ?_ 0 () (Int.le_refl _) p0.1 (by rintro ⟨c, y, -⟩; omega)
        · intro i _ g1 g2 v
          have r := hP.2.2.1 i g1 g2
          have s0 := hS.1.1
          have next : ¬ (anR I s i ∧ I 123 (I 125 i) ≠ 0) → ¬ mgG I s (i + 1) := fun h => by
            rintro ⟨c, z1, z2, z3⟩
            by_cases e : c = i
            · rw [e] at z2 z3; exact h ⟨z2, z3⟩
            · exact v ⟨c, ⟨z1.1, by omega⟩, z2, z3⟩
          by_cases d : anR I s i
          · by_cases f : I 123 (I 125 i) = 0
            · right
              refine ⟨(), ?_, next (fun y => y.2 f)⟩
              try dsimp only
              rw [s171_48, Y16, y4 i g1 (by omega), bI_t d, Y125, Y123]
              simp (disch := first | assumption | omega) only [↓gd_t, ↓if_pos, ↓if_neg, Option.bind_some, true_or, true_and, gd_t, s171_82]
            · left
              try dsimp only
              rw [s171_48, Y16, y4 i g1 (by omega), bI_t d, Y125, Y123, if_pos (bI_t (show mgG I s (I 115 16) from ⟨i, ⟨g1, g2⟩, d, f⟩))]
              simp (disch := first | assumption | omega) only [↓gd_t, ↓if_pos, ↓if_neg, Option.bind_some, true_or, true_and, gd_t]
          · right
            refine ⟨(), ?_, next (fun y => d y.1)⟩
            try dsimp only
            rw [s171_48, Y16, y4 i g1 (by omega), bI_f d]
            simp (disch := first | assumption | omega) only [↓gd_t, ↓if_pos, ↓if_neg, Option.bind_some, true_or, true_and, gd_t, s171_82]
        · intro _ v
          try dsimp only
          rw [s171_48, Y16, if_neg (fun z => v (bI_1.mp z))]
          simp (disch := first | assumption | omega) only [↓gd_t, ↓if_pos, ↓if_neg, Option.bind_some, true_or, true_and, gd_t]
      by_cases m : mgG I s (I 115 16)
      · obtain ⟨Y, y1, y2⟩ := look I Same.rf
        refine ⟨-2, b, I, J1, Y, ?_, ?_, rel_ro h y1 hj (by decide)⟩
        · rw [cst, s107_18, if_pos (by decide), if_neg e, q1, bI_t m]
          simp (disch := first | assumption | omega) only [↓gd_t, ↓if_pos, ↓if_neg, Option.bind_some, true_or, true_and, gd_t, s107_37]
        · rw [rst _ _ rfl, y2, if_pos (bI_t m)]
      · obtain ⟨Y, y1, y2⟩ := look (upI I 30 x s) (Same.rf.up (by simp))
        have y130 : Y 30 = (upI I 30 x s) 30 := y1.1 30 (by decide) (by decide)
        have sY : Sm [130, 131] [] I (fun c => if c = 30 then I 30 else Y c) := by
          refine ⟨fun c hc hd => ?_, fun j hj => ?_⟩
          · show (if c = 30 then I 30 else Y c) = I c
            by_cases w : c = 30
            · rw [if_pos w, w]
            · rw [if_neg w, y1.1 c hc hd, upI_c w]
          · show (if (115 : Nat) = 30 then I 30 else Y 115) j = _
            rw [if_neg (by decide), y1.2 j hj, upI_c (by decide)]
        have eY : upI Y 129 x s = upI (upI (fun c => if c = 30 then I 30 else Y c) 30 x s) 129 x s := by
          funext c j
          rw [upI_e, upI_e, upI_e]
          by_cases z1 : c = 129 ∧ j = x
          · rw [if_pos z1, if_pos z1]
          · rw [if_neg z1, if_neg z1]
            by_cases w : c = 30
            · subst w
              show Y 30 j = if (30 : Nat) = 30 ∧ j = x then s else (if (30 : Nat) = 30 then I 30 else Y 30) j
              rw [y130, upI_e, if_pos (rfl : (30 : Nat) = 30)]
            · rw [if_neg (fun z => w z.1)]
              show Y c j = (if c = 30 then I 30 else Y c) j
              rw [if_neg w]
        refine ⟨I 129 x, b, upI I 30 x s, J1, upI Y 129 x s, ?_, ?_, ?_⟩
        · rw [cst, s107_18, if_pos (by decide), if_neg e, q1, bI_f m]
          simp only [Option.bind_some]
          rw [s107_37, if_pos rfl, s107_43, (hH x hx.1 hx.2).1]
          simp (disch := first | assumption | omega) only [↓gd_t, ↓if_pos, ↓if_neg, Option.bind_some, true_or, true_and, gd_t]
        · rw [rst _ _ (by rw [upI_c (by decide)]), y2, if_neg (fun z => m (bI_1.mp z)), s171_88, y1.1 129 (by decide) (by decide), upI_c (by decide)]
          simp (disch := first | assumption | omega) only [↓gd_t, ↓if_pos, ↓if_neg, Option.bind_some, true_or, true_and, gd_t]
        · rw [eY]
          exact put I _ J1 Same.rf hj sY (fun z c y => Classical.byContradiction (fun w => m ⟨c, by have := an_bd hP.1 hs' y; omega, y, w⟩))
  · refine ⟨-2, b, I, J, I, ?_, ?_, h, rfl⟩
    · rw [n107, s107_0]
      by_cases d : x < 0
      · simp (disch := first | assumption | omega) only [↓gd_t, ↓if_pos, ↓if_neg, Option.bind_some, true_or, true_and, gd_t, s107_21]
      · by_cases e : 8 ≤ x
        · simp (disch := first | assumption | omega) only [↓gd_t, ↓if_pos, ↓if_neg, Option.bind_some, true_or, true_and, gd_t, s107_21]
        · rw [if_neg d, if_neg e, c55, hP.2.1, bI_f (fun z => c ⟨by omega, z⟩)]
          simp (disch := first | assumption | omega) only [↓gd_t, ↓if_pos, ↓if_neg, Option.bind_some, true_or, true_and, gd_t, s107_18, s107_21]
    · rw [n171, s171_0]
      by_cases d : x < 0
      · simp (disch := first | assumption | omega) only [↓gd_t, ↓if_pos, ↓if_neg, Option.bind_some, true_or, true_and, gd_t, s171_23]
      · by_cases e : 8 ≤ x
        · simp (disch := first | assumption | omega) only [↓gd_t, ↓if_pos, ↓if_neg, Option.bind_some, true_or, true_and, gd_t, s171_23]
        · rw [if_neg d, if_neg e, if_neg (fun z => c ⟨by omega, Or.inl z⟩), c160, bI_f (fun z => c ⟨by omega, Or.inr z⟩)]
          simp (disch := first | assumption | omega) only [↓gd_t, ↓if_pos, ↓if_neg, Option.bind_some, true_or, true_and, gd_t, s171_20, s171_23]
theorem op_step (x p q : Int) : Op 103 162 [vi x, vi p, vi q] := by
  intro L b I J h
  obtain ⟨hT, hC, hU, hD, hB, hS, hP, hH, hF, hM, hJ⟩ := id h
  have p0 := hP.1.1
  have s0 := hS.1.1
  by_cases c : ((shR I x ∧ (p = -1 ∨ (0 ≤ p ∧ p < I 115 16))) ∧ (q = -1 ∨ (0 ≤ q ∧ q < I 115 16))) ∧ ¬ (q ≠ -1 ∧ (p = -1 ∨ p = q))
  · obtain ⟨⟨⟨c1, c2⟩, c3⟩, c4⟩ := c
    have cst : evc 103 [vr 1, vi x, vi p, vi q] (hp L b I J) = ev 103 54 [some (vr 1), some (vi x), some (vi p), some (vi q)] [] (hp L b I J) := by
      rw [n103, s103_0, c42R hS, bI_t c1]
      simp only [Option.bind_some]
      rw [s103_8, if_neg (by decide), c55, hP.2.1, bI_t c2]
      simp only [Option.bind_some]
      rw [s103_19, if_neg (by decide), c55, hP.2.1, bI_t c3]
      simp only [Option.bind_some]
      rw [s103_30, if_pos (by decide)]
      by_cases z : q = -1
      · simp (disch := first | assumption | omega) only [↓gd_t, ↓if_pos, ↓if_neg, Option.bind_some, true_or, true_and, gd_t]
      · simp (disch := first | assumption | omega) only [↓gd_t, ↓if_pos, ↓if_neg, Option.bind_some, true_or, true_and, gd_t]
    have rst : ∀ (X : AI) (J' : AJ), X 115 = I 115 → X 123 = I 123 → evc 162 [vr 115, vi x, vi p, vi q] (hp L b X J') = ev 162 49 [some (vr 115), some (vi x), some (vi p), some (vi q)] [] (hp L b X J') := fun X J' e1 e2 => by
      have sh : shR X x := by unfold shR; rw [e1, e2]; exact c1
      have e3 : ev 162 34 [some (vr 115), some (vi x), some (vi p), some (vi q)] [] (hp L b X J') = ev 162 49 [some (vr 115), some (vi x), some (vi p), some (vi q)] [] (hp L b X J') := by
        rw [s162_34]
        by_cases z : q = -1
        · simp (disch := first | assumption | omega) only [↓gd_t, ↓if_pos, ↓if_neg, Option.bind_some, true_or, true_and, gd_t]
        · simp (disch := first | assumption | omega) only [↓gd_t, ↓if_pos, ↓if_neg, Option.bind_some, true_or, true_and, gd_t]
      have e4 : ev 162 21 [some (vr 115), some (vi x), some (vi p), some (vi q)] [] (hp L b X J') = ev 162 49 [some (vr 115), some (vi x), some (vi p), some (vi q)] [] (hp L b X J') := by
        rw [s162_21]
        rcases c3 with z | z
        · rw [if_pos z, e3]
        · rw [if_neg (by omega), c160, e1, bI_t z]
          simp (disch := first | assumption | omega) only [↓gd_t, ↓if_pos, ↓if_neg, Option.bind_some, true_or, true_and, gd_t, s162_31]
          exact e3
      rw [n162, s162_0, c150 (by rw [e1]; exact s0.2), bI_t sh]
      simp only [Option.bind_some]
      rw [s162_5, if_neg (by decide)]
      rcases c2 with z | z
      · rw [if_pos z, e4]
      · rw [if_neg (by omega), c160, e1, bI_t z]
        simp (disch := first | assumption | omega) only [↓gd_t, ↓if_pos, ↓if_neg, Option.bind_some, true_or, true_and, gd_t, s162_18]
        exact e4
    by_cases d : I 115 16 < 80
    · obtain ⟨J1, q1, q2, q3, q4⟩ := c56 (L := L) (b := b) (I := I) (J := J) (by rw [hP.2.1]; omega) x p q
      have e23 := hP.2.1
      rw [e23] at q1 q3 q4
      have smc : Same [23, 24, 25, 26] I (upI (upI (upI (upI I 23 8 (I 115 16 + 1)) 24 (I 115 16) x) 25 (I 115 16) p) 26 (I 115 16) q) := (((Same.rf.up (by simp)).up (by simp)).up (by simp)).up (by simp)
      have hX : ∀ c, c ∉ [23, 24, 25, 26] → (upI (upI (upI (upI I 23 8 (I 115 16 + 1)) 24 (I 115 16) x) 25 (I 115 16) p) 26 (I 115 16) q) c = I c := smc
      have hXe : upI (upI (upI (upI I 23 8 (I 23 8 + 1)) 24 (I 23 8) x) 25 (I 23 8) p) 26 (I 23 8) q = upI (upI (upI (upI I 23 8 (I 115 16 + 1)) 24 (I 115 16) x) 25 (I 115 16) p) 26 (I 115 16) q := by rw [e23]
      generalize upI (upI (upI (upI I 23 8 (I 115 16 + 1)) 24 (I 115 16) x) 25 (I 115 16) p) 26 (I 115 16) q = X at *
      have x115 : X 115 = I 115 := hX 115 (by decide)
      have r1 := c161 (L := L) (b := b) (I := X) (J := J1) (by rw [x115]; omega) x p q
      rw [x115] at r1
      have smr : Sm [125, 126, 127, 128] [16] X (upI (upI (upI (upI (upI X 125 (I 115 16) x) 126 (I 115 16) p) 127 (I 115 16) q) 128 (I 115 16) 0) 115 16 (I 115 16 + 1)) := ((((Sm.rf.up (by simp) (by decide)).up (by simp) (by decide)).up (by simp) (by decide)).up (by simp) (by decide)).fld (by simp)
      have y16 : (upI (upI (upI (upI (upI X 125 (I 115 16) x) 126 (I 115 16) p) 127 (I 115 16) q) 128 (I 115 16) 0) 115 16 (I 115 16 + 1)) 115 16 = I 115 16 + 1 := upI_s _ _ _ _
      have up : ∀ (X : AI) (c : Nat) (i v x : Int), upI X c i v c x = if x = i then v else X c x := fun X c i v x => by
        by_cases z : x = i
        · rw [z, upI_s, if_pos rfl]
        · rw [upI_i z, if_neg z]
      have y4 : ∀ s, (upI (upI (upI (upI (upI X 125 (I 115 16) x) 126 (I 115 16) p) 127 (I 115 16) q) 128 (I 115 16) 0) 115 16 (I 115 16 + 1)) 125 s = (if s = I 115 16 then x else I 125 s) ∧ (upI (upI (upI (upI (upI X 125 (I 115 16) x) 126 (I 115 16) p) 127 (I 115 16) q) 128 (I 115 16) 0) 115 16 (I 115 16 + 1)) 126 s = (if s = I 115 16 then p else I 126 s) ∧ (upI (upI (upI (upI (upI X 125 (I 115 16) x) 126 (I 115 16) p) 127 (I 115 16) q) 128 (I 115 16) 0) 115 16 (I 115 16 + 1)) 127 s = (if s = I 115 16 then q else I 127 s) ∧ (upI (upI (upI (upI (upI X 125 (I 115 16) x) 126 (I 115 16) p) 127 (I 115 16) q) 128 (I 115 16) 0) 115 16 (I 115 16 + 1)) 128 s = (if s = I 115 16 then 0 else I 128 s) := fun s => by
        refine ⟨?_, ?_, ?_, ?_⟩
        · rw [upI_c (by decide), upI_c (by decide), upI_c (by decide), upI_c (by decide), up, hX 125 (by decide)]
        · rw [upI_c (by decide), upI_c (by decide), upI_c (by decide), up, upI_c (by decide), hX 126 (by decide)]
        · rw [upI_c (by decide), upI_c (by decide), up, upI_c (by decide), upI_c (by decide), hX 127 (by decide)]
        · rw [upI_c (by decide), up, upI_c (by decide), upI_c (by decide), upI_c (by decide), hX 128 (by decide)]
      generalize upI (upI (upI (upI (upI X 125 (I 115 16) x) 126 (I 115 16) p) 127 (I 115 16) q) 128 (I 115 16) 0) 115 16 (I 115 16 + 1) = Y at *
      have hA : Sm [23, 24, 25, 26, 125, 126, 127, 128] [16] I Y := Sm.of2 smc smr (by decide) (by simp) (by simp)
      have e10 : Y 115 10 = I 115 10 := hA.2 10 (by decide)
      have n1 := st_new hP hH (I' := X) (J' := J1) (G' := Y) (x := x) (p := p) (q := q) d c1.1 (by omega) (by omega) hXe.symm (by rw [e23]; exact q3) (by rw [e23]; exact q4) y4 y16 e10 (hA.1 123 (by decide) (by decide)) (hA.1 129 (by decide) (by decide))
      have oc : ∀ c ∈ [23, 24, 25, 26, 27, 30], Y c = X c := fun c z => smr.1 c (by revert c; decide) (by revert c; decide)
      have hj : RJ Y Y := by
        have z := hJ
        unfold RJ at *
        rw [hA.1 51 (by decide) (by decide), hA.1 55 (by decide) (by decide), hA.1 155 (by decide) (by decide), hA.2 52 (by decide), hA.2 54 (by decide), hA.2 55 (by decide), hA.2 56 (by decide), hA.2 5 (by decide), y16]
        refine ⟨z.1, ?_⟩
        rcases z.2 with w | ⟨w1, w2, w3, w4⟩
        · exact Or.inl w
        · exact Or.inr ⟨w1, w2, by omega, w4⟩
      refine ⟨I 115 16, b, X, J1, Y, ?_, ?_, ⟨⟨RT.cg (h.1) (fun c z => hA.1 c (by revert c; decide) (by revert c; decide)) (fun c z => hA.1 c (by revert c; decide) (by revert c; decide)) (hA.2 5 (by decide)), RC.cg (h.2.1) (hA.1 161 (by decide) (by decide)) (fun c z => hA.1 c (by revert c; decide) (by revert c; decide)) (hA.2 5 (by decide)), RU.cg (h.2.2.1) (hA.1 11 (by decide) (by decide)) (fun c z => hA.1 c (by revert c; decide) (by revert c; decide)) (hA.2 5 (by decide)), RD.cg (h.2.2.2.1) (fun c z => hA.1 c (by revert c; decide) (by revert c; decide)) (hA.1 121 (by decide) (by decide)) (hA.2 7 (by decide)), RB.cg (h.2.2.2.2.1) (hA.1 5 (by decide) (by decide)) (hA.1 124 (by decide) (by decide)) (hA.2 5 (by decide)), RS.cg (h.2.2.2.2.2.1) (fun c z => hA.1 c (by revert c; decide) (by revert c; decide)) (fun c z => hA.1 c (by revert c; decide) (by revert c; decide)) (hA.2 5 (by decide)) (hA.2 10 (by decide)), n1.1.cg (fun c z => oc c (by revert c; decide)) (fun _ _ => rfl) (fun _ _ => rfl) rfl rfl, n1.2.cg (oc 30 (by decide)) (fun _ _ => rfl) rfl, RF.cg (h.2.2.2.2.2.2.2.2.1) (fun c z => hA.1 c (by revert c; decide) (by revert c; decide)) (fun c z => hA.1 c (by revert c; decide) (by revert c; decide)) (hA.2 30 (by decide)), RM.cg (h.2.2.2.2.2.2.2.2.2.1) (fun c z => hA.1 c (by revert c; decide) (by revert c; decide)) (fun c z => hA.1 c (by revert c; decide) (by revert c; decide)) (fun j z => hA.2 j (by revert j; decide)), hj⟩, hA.1 0 (by decide) (by decide)⟩⟩
      · rw [cst, s103_54, q1]
        simp only [Option.bind_some]
        rw [s103_64]
      · rw [rst X J1 x115 (hX 123 (by decide)), s162_49, x115, if_pos (by omega), r1]
        simp only [Option.bind_some]
        rw [s162_68]
    · refine ⟨-2, b, I, J, I, ?_, ?_, h, rfl⟩
      · rw [cst, s103_54, c56f (by rw [hP.2.1]; exact d)]
        simp only [Option.bind_some]
        rw [s103_64]
      · rw [rst I J rfl rfl, s162_49]
        simp (disch := first | assumption | omega) only [↓gd_t, ↓if_pos, ↓if_neg, Option.bind_some, true_or, true_and, gd_t, s162_58]
  · refine ⟨-2, b, I, J, I, ?_, ?_, h, rfl⟩
    · rw [n103, s103_0, c42R hS]
      by_cases c1 : shR I x
      · rw [bI_t c1]
        simp only [Option.bind_some]
        rw [s103_8, if_neg (by decide), c55, hP.2.1]
        by_cases c2 : p = -1 ∨ (0 ≤ p ∧ p < I 115 16)
        · rw [bI_t c2]
          simp only [Option.bind_some]
          rw [s103_19, if_neg (by decide), c55, hP.2.1]
          by_cases c3 : q = -1 ∨ (0 ≤ q ∧ q < I 115 16)
          · rw [bI_t c3]
            have c4 : q ≠ -1 ∧ (p = -1 ∨ p = q) := Classical.byContradiction (fun z => c ⟨⟨⟨c1, c2⟩, c3⟩, z⟩)
            simp only [Option.bind_some]
            rw [s103_30, if_pos (by decide), if_neg c4.1]
            by_cases z : p = -1
            · simp (disch := first | assumption | omega) only [↓gd_t, ↓if_pos, ↓if_neg, Option.bind_some, true_or, true_and, gd_t, s103_51]
            · simp (disch := first | assumption | omega) only [↓gd_t, ↓if_pos, ↓if_neg, Option.bind_some, true_or, true_and, gd_t, s103_51]
          · rw [bI_f c3]
            simp (disch := first | assumption | omega) only [↓gd_t, ↓if_pos, ↓if_neg, Option.bind_some, true_or, true_and, gd_t, s103_30, s103_33]
        · rw [bI_f c2]
          simp (disch := first | assumption | omega) only [↓gd_t, ↓if_pos, ↓if_neg, Option.bind_some, true_or, true_and, gd_t, s103_19, s103_33]
      · rw [bI_f c1]
        simp (disch := first | assumption | omega) only [↓gd_t, ↓if_pos, ↓if_neg, Option.bind_some, true_or, true_and, gd_t, s103_8, s103_33]
    · rw [n162, s162_0, c150 s0.2]
      by_cases c1 : shR I x
      · rw [bI_t c1]
        simp only [Option.bind_some]
        rw [s162_5, if_neg (by decide)]
        by_cases c2 : p = -1 ∨ (0 ≤ p ∧ p < I 115 16)
        · have e4 : ev 162 21 [some (vr 115), some (vi x), some (vi p), some (vi q)] [] (hp L b I J) = some (vi (-2), hp L b I J) := by
            rw [s162_21]
            by_cases c3 : q = -1 ∨ (0 ≤ q ∧ q < I 115 16)
            · have c4 : q ≠ -1 ∧ (p = -1 ∨ p = q) := Classical.byContradiction (fun z => c ⟨⟨⟨c1, c2⟩, c3⟩, z⟩)
              have e3 : ev 162 34 [some (vr 115), some (vi x), some (vi p), some (vi q)] [] (hp L b I J) = some (vi (-2), hp L b I J) := by
                rw [s162_34, if_neg c4.1]
                by_cases z : p = -1
                · simp (disch := first | assumption | omega) only [↓gd_t, ↓if_pos, ↓if_neg, Option.bind_some, true_or, true_and, gd_t, s162_58]
                · simp (disch := first | assumption | omega) only [↓gd_t, ↓if_pos, ↓if_neg, Option.bind_some, true_or, true_and, gd_t, s162_58]
              rw [if_neg c4.1, c160, bI_t (by omega)]
              simp (disch := first | assumption | omega) only [↓gd_t, ↓if_pos, ↓if_neg, Option.bind_some, true_or, true_and, gd_t, s162_31]
              exact e3
            · rw [if_neg (fun z => c3 (Or.inl z)), c160, bI_f (fun z => c3 (Or.inr z))]
              simp (disch := first | assumption | omega) only [↓gd_t, ↓if_pos, ↓if_neg, Option.bind_some, true_or, true_and, gd_t, s162_31, s162_58]
          rcases c2 with z | z
          · rw [if_pos z, e4]
          · rw [if_neg (by omega), c160, bI_t z]
            simp (disch := first | assumption | omega) only [↓gd_t, ↓if_pos, ↓if_neg, Option.bind_some, true_or, true_and, gd_t, s162_18]
            exact e4
        · rw [if_neg (fun z => c2 (Or.inl z)), c160, bI_f (fun z => c2 (Or.inr z))]
          simp (disch := first | assumption | omega) only [↓gd_t, ↓if_pos, ↓if_neg, Option.bind_some, true_or, true_and, gd_t, s162_18, s162_58]
      · rw [bI_f c1]
        simp (disch := first | assumption | omega) only [↓gd_t, ↓if_pos, ↓if_neg, Option.bind_some, true_or, true_and, gd_t, s162_5, s162_58]
