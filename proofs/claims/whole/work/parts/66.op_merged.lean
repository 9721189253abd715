/-! merged, on both sides -/
section
variable {L : Nat} {b : Bool} {I : AI} {J : AJ}
/-- the pieces of one place -/
theorem l191 {S : MS} (hV : MV S) (hR : PcR (I 146) (I 147) (I 115 42) (I 148) (I 149) (I 115 45) S) {i : Int} (h0 : 0 ≤ i) (h1 : i ≤ S.1 0) (hP : mP S i) {z : Int × (Int → Int)} {X : AI} (hX : Sm [151] [48] I X) (h : RZ X z) (hz : 0 ≤ z.1 ∧ z.1 ≤ 1500) : (fun r => ∃ Y : AI, r = ev 191 54 [some (vr 115), none, some (vi (mO S i.toNat + mQ S i))] [] (hp L b Y J) ∧ Sm [151] [48] I Y ∧ RZ Y (slx S (oc S (I 150) i) i z)) (ev 191 54 [some (vr 115), none, some (vi (mO S i.toNat))] [] (hp L b X J)) := by
  have q := hR.2.2 i h0 h1 hP
  have le := (np_le hV h0 h1 hP).1
  have ob := (mO_bd hV i.toNat (by omega)).1
  have np := np_bd hV
  have qb := mQ_bd hV h0 hP
  have cb := mC_ct S i.toNat
  have e42 : X 115 42 = mO S (S.1 0).toNat + mQ S (S.1 0) := by rw [hX.2 42 (by simp), hR.2.1]
  by_cases k : mK S i = -1
  · have qc := mQ_c k
    have qq := q.1 k
    have hC : PcC X S i := fun d d0 d1 => by
      rw [hX.1 149 (by decide) (by decide), hX.1 148 (by decide) (by decide)]
      exact qq.2 d d0 d1
    obtain ⟨Y, a1, a2, a3⟩ := c190 (L := L) (b := b) (J := J) hV h0 h1 ⟨hP, k⟩ hC h hz
    have e147 : X 147 (mO S i.toNat) = ct (mC S) i.toNat := by rw [hX.1 147 (by decide) (by decide)]; exact qq.1
    refine ⟨Y, ?_, hX.tr a2, ?_⟩
    · rw [s191_54, e42, if_neg (by omega), e147, gd_t (by omega), if_pos (by omega), gd_t (by omega), a1]
      simp only [Option.bind_some]
      rw [s191_94, gd_t (by omega), qc]
    · rw [show oc S (I 150) i = I 150 (ct (mC S) i.toNat) from if_pos k, ← hX.1 150 (by decide) (by decide)]
      exact a3
  · have qk := mQ_k k
    have qq := q.2.1 k
    have kv := mK_v S i
    have es : slx S (oc S (I 150) i) i z = spn S (mK S i) i z := by
      rw [show oc S (I 150) i = mK S i from if_neg k]
      unfold slx sl2 sl1 sl0
      rcases kv with e | e | e
      · exact absurd e k
      · rw [e, if_neg (by decide), if_pos (by decide), if_neg (by decide)]
      · rw [e, if_pos (by decide), if_neg (by decide), if_neg (by decide)]
    rw [es]
    have lb := mL_bd hV (d := mK S i) (by omega) h0 hP
    show ∃ Y : AI, ev 191 54 [some (vr 115), none, some (vi (mO S i.toNat))] [] (hp L b X J) = _ ∧ _
    rw [show mO S i.toNat = mO S i.toNat + 0 by omega]
    refine lp (lo := 0) (hi := mL S (mK S i) i) (F := fun j (Y : AI) => ev 191 54 [some (vr 115), none, some (vi (mO S i.toNat + j))] [] (hp L b Y J)) (Q := fun r => ∃ Y : AI, r = ev 191 54 [some (vr 115), none, some (vi (mO S i.toNat + 0 + mQ S i))] [] (hp L b Y J) ∧ Sm [151] [48] I Y ∧ RZ Y (spn S (mK S i) i z)) (fun j Y => Sm [151] [48] I Y ∧ RZ Y (pus z (fun x => S.2.1 (mK S i) (mF S (mK S i) i.toNat + x)) j.toNat)) ?_ ?_ 0 X (Int.le_refl _) lb.1 ⟨hX, h⟩
    · intro j Y g1 g2 ⟨v1, v2⟩
      right
      have p1 := pus_1 z (fun x => S.2.1 (mK S i) (mF S (mK S i) i.toNat + x)) j.toNat
      obtain ⟨Y', a1, a2, a3⟩ := c188 (L := L) (b := b) (J := J) v2 (by omega) (S.2.1 (mK S i) (mF S (mK S i) i.toNat + j))
      refine ⟨Y', ?_, v1.tr a2, by rw [pus_s _ _ g1]; exact a3⟩
      have f42 : Y 115 42 = mO S (S.1 0).toNat + mQ S (S.1 0) := by rw [v1.2 42 (by simp), hR.2.1]
      have f1 := qq j g1 g2
      try dsimp only
      rw [s191_54, f42, if_neg (by omega), v1.1 147 (by decide) (by decide), v1.1 146 (by decide) (by decide), f1.1, f1.2, gd_t (by omega), if_neg (by decide), gd_t (by omega), a1]
      simp only [Option.bind_some]
      rw [s191_81, s191_94, gd_t (by omega), Int.add_assoc]
    · intro Y ⟨v1, v2⟩
      exact ⟨Y, by rw [qk, Int.add_zero], v1, v2⟩
theorem c191 {S : MS} (hV : MV S) (h39 : I 115 39 = 1) (hR : PcR (I 146) (I 147) (I 115 42) (I 148) (I 149) (I 115 45) S) (hs : ∀ c, 0 ≤ c → c < ct (mC S) (mN S) → -1 ≤ I 150 c ∧ I 150 c ≤ 4) : (fun r => (((∀ c, 0 ≤ c → c < ct (mC S) (mN S) → I 150 c ≠ -1) ∧ (We S (I 150)).1 ≤ 24) ∧ ∃ I' : AI, r = some (vi (We S (I 150)).1, hp L b I' J) ∧ Sm [121, 151] [7, 48] I I' ∧ I' 115 7 = (We S (I 150)).1 ∧ ∀ y, 0 ≤ y → y < (We S (I 150)).1 → I' 121 y = (We S (I 150)).2 y) ∨ (¬ ((∀ c, 0 ≤ c → c < ct (mC S) (mN S) → I 150 c ≠ -1) ∧ (We S (I 150)).1 ≤ 24) ∧ ∃ I' : AI, r = some (vi (-2), hp L b I' J) ∧ Sm [121, 151] [48] I I' ∧ I' 121 = I 121)) (evc 191 [vr 115] (hp L b I J)) := by
  have nc := nc_bd hV
  have nb0 := hV.1 0 (by decide) (by decide)
  have wb := We_bd hV (I 150)
  have np := np_bd hV
  have e45 := hR.1
  rw [n191, s191_0, h39]
  refine lp (lo := 0) (hi := ct (mC S) (mN S)) (F := fun i (v : Int) => ev 191 7 [some (vr 115), some (vi v), some (vi i)] [] (hp L b I J)) (Q := fun r => (((∀ c, 0 ≤ c → c < ct (mC S) (mN S) → I 150 c ≠ -1) ∧ (We S (I 150)).1 ≤ 24) ∧ ∃ I' : AI, r = some (vi (We S (I 150)).1, hp L b I' J) ∧ Sm [121, 151] [7, 48] I I' ∧ I' 115 7 = (We S (I 150)).1 ∧ ∀ y, 0 ≤ y → y < (We S (I 150)).1 → I' 121 y = (We S (I 150)).2 y) ∨ (¬ ((∀ c, 0 ≤ c → c < ct (mC S) (mN S) → I 150 c ≠ -1) ∧ (We S (I 150)).1 ≤ 24) ∧ ∃ I' : AI, r = some (vi (-2), hp L b I' J) ∧ Sm [121, 151] [48] I I' ∧ I' 121 = I 121)) (fun i v => v = bI (∀ c, 0 ≤ c → c < i → I 150 c ≠ -1)) ?_ ?_ 0 1 (Int.le_refl _) nc.1 (bI_t (fun c z1 z2 => by omega)).symm
  · intro i v g1 g2 hv
    right
    by_cases c : ∀ c, 0 ≤ c → c < i → I 150 c ≠ -1
    · rw [bI_t c] at hv
      by_cases d : I 150 i = -1
      · refine ⟨0, ?_, (bI_f (fun z => z i g1 (by omega) d)).symm⟩
        try dsimp only
        rw [s191_7, e45, if_neg (by omega), if_neg (by omega), gd_t (by omega), if_pos (by omega), s191_32, s191_33, gd_t (by omega)]
      · refine ⟨1, ?_, (bI_t (fun c' z1 z2 => by by_cases y : c' = i; rw [y]; exact d; exact c c' z1 (by omega))).symm⟩
        have := hs i g1 g2
        try dsimp only
        rw [s191_7, e45, if_neg (by omega), if_neg (by omega), gd_t (by omega), if_neg (by omega), s191_33, gd_t (by omega)]
    · rw [bI_f c] at hv
      refine ⟨0, ?_, (bI_f (fun z => c (fun c' z1 z2 => z c' z1 (by omega)))).symm⟩
      try dsimp only
      rw [s191_7, e45, if_neg (by omega), if_pos hv, s191_32, s191_33, gd_t (by omega)]
  · intro v hv
    try dsimp only
    by_cases c : (∀ c, 0 ≤ c → c < ct (mC S) (mN S) → I 150 c ≠ -1)
    · rw [bI_t c] at hv
      rw [s191_7, e45, if_pos (Int.le_refl _), if_pos (by omega)]
      have hX : Sm [151] [48] I (upI I 115 48 0) := Sm.rf.fld (by simp)
      have A : (fun r => ∃ Y : AI, r = ev 191 54 [some (vr 115), none, some (vi (mO S (S.1 0).toNat + mQ S (S.1 0)))] [] (hp L b Y J) ∧ Sm [151] [48] I Y ∧ RZ Y (We S (I 150))) (ev 191 54 [some (vr 115), none, some (vi 0)] [] (hp L b (upI I 115 48 0) J)) := by
        refine lp (lo := 0) (hi := S.1 0) (F := fun i (Y : AI) => ev 191 54 [some (vr 115), none, some (vi (mO S i.toNat))] [] (hp L b Y J)) (Q := fun r => ∃ Y : AI, r = ev 191 54 [some (vr 115), none, some (vi (mO S (S.1 0).toNat + mQ S (S.1 0)))] [] (hp L b Y J) ∧ Sm [151] [48] I Y ∧ RZ Y (We S (I 150))) (fun i Y => Sm [151] [48] I Y ∧ RZ Y (Wz S (I 150) i.toNat)) ?_ ?_ 0 _ (Int.le_refl _) nb0.1 ⟨hX, by rw [upI_s]; rfl, fun y z1 z2 => ?_⟩
        · intro i Y g1 g2 ⟨v1, v2⟩
          right
          have w1 := Wz_bd hV (I 150) i.toNat (by omega)
          by_cases m : mA S i
          · have hP : mP S i := Or.inl m
            have le := Wz_le hV (I 150) g1 (show i ≤ S.1 0 by omega) hP
            have le2 := le.2 g2
            have e1 := slx_1 hV (o := oc S (I 150) i) g1 hP (Wz S (I 150) i.toNat)
            have obb := oL_bd hV (o := oc S (I 150) i) g1 hP
            obtain ⟨Y1, a1, a2, a3⟩ := l191 (L := L) (b := b) (J := J) hV hR g1 (by omega) hP v1 v2 (by omega)
            obtain ⟨Y2, b1, b2, b3⟩ := c188 (L := L) (b := b) (J := J) a3 (by omega) (S.2.1 0 i)
            have q := (hR.2.2 i g1 (by omega) hP).2.2 g2
            have npl := (np_le hV g1 (show i ≤ S.1 0 by omega) hP).2 g2
            have ob := (mO_bd hV i.toNat (by omega)).1
            have qb := mQ_bd hV g1 hP
            refine ⟨Y2, ?_, a2.tr b2, by rw [Wz_s S _ g1, if_pos (bI_t m)]; exact b3⟩
            have f42 : Y1 115 42 = mO S (S.1 0).toNat + mQ S (S.1 0) := by rw [a2.2 42 (by simp), hR.2.1]
            try dsimp only
            rw [a1, s191_54, f42, if_neg (by omega), a2.1 147 (by decide) (by decide), a2.1 146 (by decide) (by decide), q.1, q.2, gd_t (by omega), if_neg (by decide), gd_t (by omega), b1]
            simp only [Option.bind_some]
            rw [s191_81, s191_94, gd_t (by omega), mO_s S g1, if_pos (bI_t m)]
          · refine ⟨Y, ?_, v1, by rw [Wz_s S _ g1, if_neg (fun z => m (bI_1.mp z))]; exact v2⟩
            try dsimp only
            rw [mO_s S g1, if_neg (fun z => m (bI_1.mp z))]
        · intro Y ⟨v1, v2⟩
          have w1 := Wz_bd hV (I 150) (S.1 0).toNat (by omega)
          have le := (Wz_le hV (I 150) nb0.1 (Int.le_refl _) (Or.inr rfl)).1
          have e1 := slx_1 hV (o := oc S (I 150) (S.1 0)) nb0.1 (Or.inr rfl) (Wz S (I 150) (S.1 0).toNat)
          have obb := oL_bd hV (o := oc S (I 150) (S.1 0)) nb0.1 (Or.inr rfl)
          exact l191 (L := L) (b := b) (J := J) hV hR nb0.1 (Int.le_refl _) (Or.inr rfl) v1 v2 (by omega)
        · have : y < 0 := z2
          omega
      obtain ⟨Y, a1, a2, a3⟩ := A
      have e48 := a3.1
      have f42 : Y 115 42 = mO S (S.1 0).toNat + mQ S (S.1 0) := by rw [a2.2 42 (by simp), hR.2.1]
      rw [a1, s191_54, f42, if_pos (Int.le_refl _), e48]
      by_cases w : (We S (I 150)).1 ≤ 24
      · rw [if_pos w]
        left
        refine ⟨⟨c, w⟩, ?_⟩
        refine lp (lo := 0) (hi := (We S (I 150)).1) (F := fun i (Z : AI) => ev 191 122 [some (vr 115), none, some (vi i)] [] (hp L b Z J)) (Q := fun r => ∃ I' : AI, r = some (vi (We S (I 150)).1, hp L b I' J) ∧ Sm [121, 151] [7, 48] I I' ∧ I' 115 7 = (We S (I 150)).1 ∧ ∀ y, 0 ≤ y → y < (We S (I 150)).1 → I' 121 y = (We S (I 150)).2 y) (fun i Z => Sm [121] [7] Y Z ∧ Z 115 7 = (We S (I 150)).1 ∧ ∀ y, 0 ≤ y → y < i → Z 121 y = (We S (I 150)).2 y) ?_ ?_ 0 _ (Int.le_refl _) wb.1 ⟨Sm.rf.fld (by simp), by rw [upI_s], fun y z1 z2 => by omega⟩
        · intro i Z g1 g2 ⟨v1, v2, v3⟩
          right
          have g48 : Z 115 48 = (We S (I 150)).1 := (v1.2 48 (by simp)).trans e48
          have g151 : Z 151 i = (We S (I 150)).2 i := by rw [v1.1 151 (by decide) (by decide)]; exact a3.2 i g1 g2
          refine ⟨upI Z 121 i ((We S (I 150)).2 i), ?_, v1.up (by simp) (by decide), by rw [upI_c (by decide)]; exact v2, fun y z1 z2 => ?_⟩
          · try dsimp only
            rw [s191_122, g48, if_neg (by omega), g151, gd_t (by omega), gd_t (by omega), gd_t (by omega)]
          · by_cases e : y = i
            · rw [e, upI_s]
            · rw [upI_i e]; exact v3 y z1 (by omega)
        · intro Z ⟨v1, v2, v3⟩
          have g48 : Z 115 48 = (We S (I 150)).1 := (v1.2 48 (by simp)).trans e48
          refine ⟨Z, ?_, (a2.mono (by simp) (by simp)).tr (v1.mono (by simp) (by simp)), v2, v3⟩
          try dsimp only
          rw [s191_122, g48, if_pos (Int.le_refl _)]
      · rw [if_neg w]
        exact Or.inr ⟨fun z => w z.2, Y, rfl, a2.mono (by simp) (by simp), a2.1 121 (by decide) (by decide)⟩
    · rw [bI_f c] at hv
      rw [s191_7, e45, if_pos (Int.le_refl _), if_neg (by omega)]
      exact Or.inr ⟨fun z => c z.1, I, rfl, Sm.rf, rfl⟩
end
theorem op_merged : Op 113 191 [] := by
  intro L b I J h
  obtain ⟨hT, hC, hU, hD, hB, hS, hP, hH, hF, hM, hJ⟩ := id h
  rcases hM with ⟨m1, m2, m3, m4⟩ | ⟨e39, S, V, hb, hr, hs⟩
  · refine ⟨-2, b, I, J, I, ?_, ?_, h, rfl⟩
    · have e : evc 8 [vr 35] (hp L b I J) = some (vi 0, hp L b I J) := by
        rw [n8, s8_0 _ (by decide), m2, gd_t (by decide), s8_9 _ _ _ (by decide), m2, if_pos (by decide), if_pos (by decide), s8_60, gd_t (by decide)]
      rw [n113, s113_0, e]
      simp only [Option.bind_some]
      rw [s113_7, if_neg (by decide)]
    · rw [n191, s191_0, m1, s191_7, m4, if_pos (by decide), if_neg (by decide)]
  · have w0 := We_bd V (I 150)
    have q8 := c8 (L := L) (b := b) (J := J) (x := 35) (by decide) V hb hs
    by_cases c : (∀ c, 0 ≤ c → c < ct (mC S) (mN S) → I 150 c ≠ -1) ∧ (We S (I 150)).1 ≤ 24
    · obtain ⟨I1, a1, a2, a3⟩ := c10 (L := L) (b := b) (J := J) (x := 35) (k := 3) (by decide) (by decide) (by decide) V hb c.2
      have a2 : ∀ c, c ∉ [3, 4] → I1 c = I c := a2
      have x115 : I1 115 = I 115 := a2 115 (by decide)
      have x150 : I1 150 = I 150 := a2 150 (by decide)
      rcases c191 (L := L) (b := b) (I := I1) (J := J) V (by rw [x115]; exact e39) (by rw [x115, a2 146 (by decide), a2 147 (by decide), a2 148 (by decide), a2 149 (by decide)]; exact hr) (by rw [x150]; exact hs) with ⟨-, I2, d1, d2, d3, d4⟩ | ⟨d0, -⟩
      · rw [x150] at d1 d3 d4
        have hA : Sm [3, 4, 121, 151] [7, 48] I I2 := Sm.of2 a2 d2 (by decide) (by simp) (by simp)
        refine ⟨(We S (I 150)).1, b, I1, J, I2, ?_, d1, ?_⟩
        · rw [n113, s113_0, q8, bI_t c]
          simp only [Option.bind_some]
          rw [s113_7, if_pos (by decide), a1]
          simp only [Option.bind_some]
          rw [s113_24, a3.1]
        · have hd : RD I2 I2 := by
            refine ⟨?_, by rw [d3]; omega, fun i i0 i1 => ?_⟩
            · rw [d3, d2.1 3 (by decide) (by decide)]; exact a3.1
            · rw [d3] at i1
              rw [d4 i i0 i1, d2.1 4 (by decide) (by decide)]; exact a3.2 i i0 i1
          exact ⟨⟨RT.cg (h.1) (fun c z => hA.1 c (by revert c; decide) (by revert c; decide)) (fun c z => hA.1 c (by revert c; decide) (by revert c; decide)) (hA.2 5 (by decide)), RC.cg (h.2.1) (hA.1 161 (by decide) (by decide)) (fun c z => hA.1 c (by revert c; decide) (by revert c; decide)) (hA.2 5 (by decide)), RU.cg (h.2.2.1) (hA.1 11 (by decide) (by decide)) (fun c z => hA.1 c (by revert c; decide) (by revert c; decide)) (hA.2 5 (by decide)), hd, RB.cg (h.2.2.2.2.1) (hA.1 5 (by decide) (by decide)) (hA.1 124 (by decide) (by decide)) (hA.2 5 (by decide)), RS.cg (h.2.2.2.2.2.1) (fun c z => hA.1 c (by revert c; decide) (by revert c; decide)) (fun c z => hA.1 c (by revert c; decide) (by revert c; decide)) (hA.2 5 (by decide)) (hA.2 10 (by decide)), RP.cg (h.2.2.2.2.2.2.1) (fun c z => hA.1 c (by revert c; decide) (by revert c; decide)) (fun _ _ => rfl) (fun c z => hA.1 c (by revert c; decide) (by revert c; decide)) (hA.2 10 (by decide)) (hA.2 16 (by decide)), RH.cg (h.2.2.2.2.2.2.2.1) (hA.1 30 (by decide) (by decide)) (fun c z => hA.1 c (by revert c; decide) (by revert c; decide)) (hA.2 16 (by decide)), RF.cg (h.2.2.2.2.2.2.2.2.1) (fun c z => hA.1 c (by revert c; decide) (by revert c; decide)) (fun c z => hA.1 c (by revert c; decide) (by revert c; decide)) (hA.2 30 (by decide)), RM.cg (h.2.2.2.2.2.2.2.2.2.1) (fun c z => hA.1 c (by revert c; decide) (by revert c; decide)) (fun c z => hA.1 c (by revert c; decide) (by revert c; decide)) (fun j z => hA.2 j (by revert j; decide)), RJ.cg (h.2.2.2.2.2.2.2.2.2.2) (fun c z => hA.1 c (by revert c; decide) (by revert c; decide)) (hA.1 155 (by decide) (by decide)) (fun j z => hA.2 j (by revert j; decide))⟩, hA.1 0 (by decide) (by decide)⟩
      · rw [x150] at d0
        exact absurd c d0
    · rcases c191 (L := L) (b := b) (I := I) (J := J) V e39 hr hs with ⟨d0, -⟩ | ⟨-, I2, d1, d2, d3⟩
      · exact absurd d0 c
      · have hA : Sm [151] [48] I I2 := ⟨fun k z1 z2 => by by_cases y : k = 121; rw [y]; exact d3; exact d2.1 k (by simp at z1 ⊢; omega) z2, d2.2⟩
        refine ⟨-2, b, I, J, I2, ?_, d1, ⟨⟨RT.cg (h.1) (fun c z => hA.1 c (by revert c; decide) (by revert c; decide)) (fun c z => hA.1 c (by revert c; decide) (by revert c; decide)) (hA.2 5 (by decide)), RC.cg (h.2.1) (hA.1 161 (by decide) (by decide)) (fun c z => hA.1 c (by revert c; decide) (by revert c; decide)) (hA.2 5 (by decide)), RU.cg (h.2.2.1) (hA.1 11 (by decide) (by decide)) (fun c z => hA.1 c (by revert c; decide) (by revert c; decide)) (hA.2 5 (by decide)), RD.cg (h.2.2.2.1) (fun c z => hA.1 c (by revert c; decide) (by revert c; decide)) (hA.1 121 (by decide) (by decide)) (hA.2 7 (by decide)), RB.cg (h.2.2.2.2.1) (hA.1 5 (by decide) (by decide)) (hA.1 124 (by decide) (by decide)) (hA.2 5 (by decide)), RS.cg (h.2.2.2.2.2.1) (fun c z => hA.1 c (by revert c; decide) (by revert c; decide)) (fun c z => hA.1 c (by revert c; decide) (by revert c; decide)) (hA.2 5 (by decide)) (hA.2 10 (by decide)), RP.cg (h.2.2.2.2.2.2.1) (fun c z => hA.1 c (by revert c; decide) (by revert c; decide)) (fun _ _ => rfl) (fun c z => hA.1 c (by revert c; decide) (by revert c; decide)) (hA.2 10 (by decide)) (hA.2 16 (by decide)), RH.cg (h.2.2.2.2.2.2.2.1) (hA.1 30 (by decide) (by decide)) (fun c z => hA.1 c (by revert c; decide) (by revert c; decide)) (hA.2 16 (by decide)), RF.cg (h.2.2.2.2.2.2.2.2.1) (fun c z => hA.1 c (by revert c; decide) (by revert c; decide)) (fun c z => hA.1 c (by revert c; decide) (by revert c; decide)) (hA.2 30 (by decide)), RM.cg (h.2.2.2.2.2.2.2.2.2.1) (fun c z => hA.1 c (by revert c; decide) (by revert c; decide)) (fun c z => hA.1 c (by revert c; decide) (by revert c; decide)) (fun j z => hA.2 j (by revert j; decide)), RJ.cg (h.2.2.2.2.2.2.2.2.2.2) (fun c z => hA.1 c (by revert c; decide) (by revert c; decide)) (hA.1 155 (by decide) (by decide)) (fun j z => hA.2 j (by revert j; decide))⟩, hA.1 0 (by decide) (by decide)⟩⟩
        rw [n113, s113_0, q8, bI_f c]
        simp only [Option.bind_some]
        rw [s113_7, if_neg (by decide)]
