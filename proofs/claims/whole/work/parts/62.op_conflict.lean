/-! calls on both sides: conflict, settle -/
section
variable {L : Nat} {b : Bool} {I : AI} {J : AJ}
theorem mP_le {S : MS} (hV : MV S) {i : Int} (h0 : 0 ≤ i) (h1 : i ≤ S.1 0) : 0 ≤ ct (mP S) i.toNat ∧ ct (mP S) i.toNat ≤ 24 := by
  have := mP_ct S h0
  have := hV.1 0 (by decide) (by decide)
  omega
theorem c4 {x : Nat} (hb : isBl x = true) {S : MS} (hV : MV S) {st : Int → Int} (h : BlC I x S st) {i d : Int} (h0 : 0 ≤ i) (h1 : i ≤ S.1 0) (hP : mP S i) (hd : 0 ≤ d ∧ d ≤ 2) : evc 4 [vr x, vi (ct (mP S) i.toNat), vi d] (hp L b I J) = some (vi (mL S d i), hp L b I J) := by
  have pb := mP_le hV h0 h1
  have z := (h.2.2.2 i h0 h1 hP).1 d hd.1 hd.2
  have lb := mL_bd hV hd h0 hP
  have le : mT S d i - mF S d i.toNat = mL S d i := rfl
  rw [n4, s4_0 _ _ _ hb, z.1, z.2, le]
  simp (disch := first | assumption | omega) only [↓gd_t, ↓if_pos, ↓if_neg, Option.bind_some, true_or, true_and, gd_t]
theorem c6 {x : Nat} (hb : isBl x = true) {d : Int} (hd : 0 ≤ d ∧ d ≤ 2) : evc 6 [vr x, vi d] (hp L b I J) = some (vr (x + 1 + 2 * d.toNat), hp L b I J) := by
  rw [n6, s6_0 _ _ hb]
  rcases (show d = 0 ∨ d = 1 ∨ d = 2 by omega) with e | e | e <;> subst e
  · rw [if_neg (by decide)]; rfl
  · rw [if_pos (by decide), if_neg (by decide)]; rfl
  · rw [if_pos (by decide), if_pos (by decide)]; rfl
theorem BlC.row {x : Nat} (hb : isBl x = true) {S : MS} {st : Int → Int} (h : BlC I x S st) {d : Int} (hd : 0 ≤ d ∧ d ≤ 2) : isRow (x + 1 + 2 * d.toNat) = true ∧ RwC I (x + 1 + 2 * d.toNat) (S.1 d) (S.2.1 d) := by
  obtain ⟨⟨r1, r2, r3⟩, -, hx⟩ := bl_all hb
  rcases (show d = 0 ∨ d = 1 ∨ d = 2 by omega) with e | e | e <;> subst e
  · exact ⟨r1, h.1.1⟩
  · exact ⟨r2, h.1.2.1⟩
  · exact ⟨r3, h.1.2.2⟩
theorem c5 {x : Nat} (hb : isBl x = true) {S : MS} (hV : MV S) {st : Int → Int} (h : BlC I x S st) {i d l : Int} (h0 : 0 ≤ i) (h1 : i ≤ S.1 0) (hP : mP S i) (hd : 0 ≤ d ∧ d ≤ 2) (hl : 0 ≤ l ∧ l < mL S d i) : evc 5 [vr x, vi (ct (mP S) i.toNat), vi d, vi l] (hp L b I J) = some (vi (S.2.1 d (mF S d i.toNat + l)), hp L b I J) := by
  have pb := mP_le hV h0 h1
  have z := (h.2.2.2 i h0 h1 hP).1 d hd.1 hd.2
  have tb := mT_bd hV hd h0 hP
  have nb := hV.1 d hd.1 hd.2
  have le : mL S d i = mT S d i - mF S d i.toNat := rfl
  obtain ⟨r1, r2⟩ := h.row hb hd
  rw [n5, s5_0 _ _ _ _ hb, c6 hb hd]
  simp only [Option.bind_some]
  rw [s5_5 _ _ _ _ _ hb r1, z.1, gd_t (by omega), gd_t (by omega), gd_t (by omega), gd_t (by omega), gd_t (by omega), c39 r1 (by rw [r2.1]; omega), r2.1, if_pos (by omega), r2.2 _ (by omega) (by omega)]
  simp only [Option.bind_some]
  rw [s5_23]
theorem c7 {x : Nat} (hb : isBl x = true) (k : Int) : evc 7 [vr x, vi k] (hp L b I J) = some (vi (bI (0 ≤ k ∧ k < I x 9)), hp L b I J) := by
  rw [n7, s7_0 _ _ hb]
  by_cases c : k < 0
  · rw [if_pos c, s7_16, gd_t (by decide), bI_f (by omega)]
  · by_cases d : I x 9 ≤ k
    · rw [if_neg c, if_pos d, s7_16, gd_t (by decide), bI_f (by omega)]
    · rw [if_neg c, if_neg d, gd_t (by decide), bI_t (by omega)]
theorem c185 (k : Int) (h : I 115 39 = 0 → I 115 45 = 0) : evc 185 [vr 115, vi k] (hp L b I J) = some (vi (bI (0 ≤ k ∧ k < I 115 45)), hp L b I J) := by
  rw [n185, s185_0]
  by_cases a : I 115 39 = 0
  · have := h a
    rw [if_pos a, s185_23, gd_t (by decide), bI_f (by omega)]
  · rw [if_neg a]
    by_cases c : k < 0
    · rw [if_pos c, s185_23, gd_t (by decide), bI_f (by omega)]
    · by_cases d : I 115 45 ≤ k
      · rw [if_neg c, if_pos d, s185_23, gd_t (by decide), bI_f (by omega)]
      · rw [if_neg c, if_neg d, gd_t (by decide), bI_t (by omega)]
theorem RM_0 (h : RM I I) : I 35 9 = I 115 45 ∧ (I 115 39 = 0 → I 115 45 = 0) := by
  rcases h with ⟨-, -, a, c⟩ | ⟨e, S, V, hB, hR, -⟩
  · exact ⟨a.trans c.symm, fun _ => c⟩
  · exact ⟨by rw [hB.2.2.1, hR.1], fun z => by omega⟩
theorem RM_k (h : RM I I) {k : Int} (hk' : 0 ≤ k ∧ k < I 115 45) : ∃ S i, MV S ∧ BlC I 35 S (I 150) ∧ PcR (I 146) (I 147) (I 115 42) (I 148) (I 149) (I 115 45) S ∧ (∀ c, 0 ≤ c → c < ct (mC S) (mN S) → -1 ≤ I 150 c ∧ I 150 c ≤ 4) ∧ (0 ≤ i ∧ i ≤ S.1 0) ∧ mC S i ∧ ct (mC S) i.toNat = k ∧ k ≤ 24 := by
  rcases h with ⟨-, -, a, c⟩ | ⟨e, S, V, hB, hR, hL⟩
  · omega
  · obtain ⟨i, i1, i2, i3⟩ := ct_ex (p := mC S) (mN S) k hk'.1 (by rw [← hR.1]; exact hk'.2)
    have e : (mN S : Int) = S.1 0 + 1 := by have := V.1 0 (by decide) (by decide); unfold mN; omega
    have cb := nc_bd V
    exact ⟨S, i, V, hB, hR, hL, ⟨i1.1, by omega⟩, i2, i3, by rw [hR.1] at hk'; omega⟩
end
theorem op_conflict (k w x : Int) : Op 111 186 [vi k, vi w, vi x] := by
  intro L b I J h
  obtain ⟨hT, hC, hU, hD, hB, hS, hP, hH, hF, hM, hJ⟩ := id h
  have m0 := RM_0 hM
  by_cases c : 0 ≤ k ∧ k < I 115 45
  · obtain ⟨S, i, V, hb, hr, -, i0, i1, i2, k24⟩ := RM_k hM c
    have z := hb.2.2.2 i i0.1 i0.2 i1.1
    have y := (hr.2.2 i i0.1 i0.2 i1.1).1 i1.2
    have e44 : I 44 k = ct (mP S) i.toNat := by rw [← i2]; exact z.2.2 i1.2
    have st : evc 111 [vr 1, vi k, vi w, vi x] (hp L b I J) = ev 111 8 [some (vr 1), some (vi k), some (vi w), some (vi x), none] [vi 1] (hp L b I J) := by
      rw [n111, s111_0, c7 (by decide), m0.1, bI_t c]
      simp only [Option.bind_some]
    have st' : evc 186 [vr 115, vi k, vi w, vi x] (hp L b I J) = ev 186 5 [some (vr 115), some (vi k), some (vi w), some (vi x)] [vi 1] (hp L b I J) := by
      rw [n186, s186_0, c185 k m0.2, bI_t c]
      simp only [Option.bind_some]
    by_cases w0 : w < 0
    · refine ⟨-2000000000, b, I, J, I, ?_, ?_, h, rfl⟩
      · rw [st, s111_8, if_neg (by decide), if_pos w0, s111_20]
      · rw [st', s186_5, if_neg (by decide), if_pos w0, s186_17]
    · by_cases w5 : w ≤ 5
      · by_cases w2 : w < 3
        · have lw := mL_bd V (d := w) (by omega) i0.1 i1.1
          have yw := y.2 w (by omega) (by omega)
          rw [i2] at yw
          by_cases x0 : 0 ≤ x ∧ x < mL S w i
          · refine ⟨S.2.1 w (mF S w i.toNat + x), b, I, J, I, ?_, ?_, h, rfl⟩
            · rw [st, s111_8, if_neg (by decide), if_neg w0, if_pos w5, gd_t (by omega), if_pos w2, if_neg (by omega), e44, c4 (by decide) V hb i0.1 i0.2 i1.1 (by omega)]
              simp only [Option.bind_some]
              rw [s111_67, if_pos (by omega), c5 (by decide) V hb i0.1 i0.2 i1.1 (by omega) x0]
              simp only [Option.bind_some]
              rw [s111_84]
            · rw [st', s186_5, if_neg (by decide), if_neg w0, if_pos w5, if_pos (by omega), if_neg (by omega), gd_t (by omega), gd_t (by omega), gd_t (by omega), yw.1, if_pos x0.2, gd_t (by omega), gd_t (by omega), gd_t (by omega), gd_t (by omega), gd_t (by omega), yw.2 x x0.1 x0.2]
          · refine ⟨-2000000000, b, I, J, I, ?_, ?_, h, rfl⟩
            · rw [st, s111_8, if_neg (by decide), if_neg w0, if_pos w5, gd_t (by omega), if_pos w2]
              by_cases x1 : x < 0
              · rw [if_pos x1, s111_70]
              · rw [if_neg x1, e44, c4 (by decide) V hb i0.1 i0.2 i1.1 (by omega)]
                simp only [Option.bind_some]
                rw [s111_67, if_neg (by omega), s111_70]
            · rw [st', s186_5, if_neg (by decide), if_neg w0, if_pos w5, if_pos (by omega)]
              by_cases x1 : x < 0
              · rw [if_pos x1, s186_57]
              · rw [if_neg x1, gd_t (by omega), gd_t (by omega), gd_t (by omega), yw.1, if_neg (by omega), s186_57]
        · have lw := mL_bd V (d := w - 3) (by omega) i0.1 i1.1
          have yw := (y.2 (w - 3) (by omega) (by omega)).1
          rw [i2, show 4 * k + (w - 3) = 4 * k + w - 3 by omega] at yw
          refine ⟨mL S (w - 3) i, b, I, J, I, ?_, ?_, h, rfl⟩
          · rw [st, s111_8, if_neg (by decide), if_neg w0, if_pos w5, gd_t (by omega), if_neg w2, gd_t (by omega), e44, c4 (by decide) V hb i0.1 i0.2 i1.1 (by omega)]
            simp only [Option.bind_some]
            rw [s111_51]
          · rw [st', s186_5, if_neg (by decide), if_neg w0, if_pos w5, if_neg (by omega), gd_t (by omega), gd_t (by omega), gd_t (by omega), gd_t (by omega), yw]
      · refine ⟨-2000000000, b, I, J, I, ?_, ?_, h, rfl⟩
        · rw [st, s111_8, if_neg (by decide), if_neg w0, if_neg w5, s111_20]
        · rw [st', s186_5, if_neg (by decide), if_neg w0, if_neg w5, s186_17]
  · refine ⟨-2000000000, b, I, J, I, ?_, ?_, h, rfl⟩
    · rw [n111, s111_0, c7 (by decide), m0.1, bI_f c]
      simp only [Option.bind_some]
      rw [s111_8, if_pos rfl, s111_20]
    · rw [n186, s186_0, c185 k m0.2, bI_f c]
      simp only [Option.bind_some]
      rw [s186_5, if_pos rfl, s186_17]
theorem op_settle (k w : Int) : Op 112 187 [vi k, vi w] := by
  intro L b I J h
  obtain ⟨hT, hC, hU, hD, hB, hS, hP, hH, hF, hM, hJ⟩ := id h
  have m0 := RM_0 hM
  by_cases c : (0 ≤ k ∧ k < I 115 45) ∧ -1 ≤ w ∧ w ≤ 4
  · obtain ⟨c, cw⟩ := c
    obtain ⟨S, i, V, hb, hr, hL, i0, i1, i2, k24⟩ := RM_k hM c
    have z := hb.2.2.2 i i0.1 i0.2 i1.1
    have e44 : I 44 k = ct (mP S) i.toNat := by rw [← i2]; exact z.2.2 i1.2
    have e43 : I 43 (ct (mP S) i.toNat) = I 150 k := by
      have := z.2.1
      rw [if_pos i1.2, i2] at this
      exact this
    have pb := mP_le V i0.1 i0.2
    have hA : Sm [43, 150] [] I (upI (upI I 43 (ct (mP S) i.toNat) w) 150 k w) := (Sm.rf.up (by simp) (by decide)).up (by simp) (by decide)
    refine ⟨I 150 k, b, upI I 43 (ct (mP S) i.toNat) w, J, upI (upI I 43 (ct (mP S) i.toNat) w) 150 k w, ?_, ?_, ?_⟩
    · rw [n112, s112_0, c7 (by decide), m0.1, bI_t c]
      simp only [Option.bind_some]
      rw [s112_8, if_neg (by decide), if_neg (by omega), if_pos (by omega), gd_t (by omega), e44, gd_t (by omega), gd_t (by omega), e43]
    · have x1 : (upI I 43 (ct (mP S) i.toNat) w) 115 = I 115 := upI_c (by decide) _ _ _
      rw [n187, s187_0, c185 k (by rw [x1]; exact m0.2), x1, bI_t c]
      simp only [Option.bind_some]
      rw [s187_5, if_neg (by decide), if_neg (by omega), if_pos (by omega), gd_t (by omega), gd_t (by omega), upI_c (show 150 ≠ 43 by decide)]
    · have hm : RM (upI (upI I 43 (ct (mP S) i.toNat) w) 150 k w) (upI (upI I 43 (ct (mP S) i.toNat) w) 150 k w) := by
        have oo : ∀ c, c ≠ 43 → c ≠ 150 → (upI (upI I 43 (ct (mP S) i.toNat) w) 150 k w) c = I c := fun c z1 z2 => by rw [upI_c z2, upI_c z1]
        have o43 : ∀ y, (upI (upI I 43 (ct (mP S) i.toNat) w) 150 k w) 43 y = if y = ct (mP S) i.toNat then w else I 43 y := fun y => by rw [upI_c (by decide), upI_w]
        have o150 : ∀ y, (upI (upI I 43 (ct (mP S) i.toNat) w) 150 k w) 150 y = if y = k then w else I 150 y := fun y => by rw [upI_w, upI_c (by decide)]
        have e39 : I 115 39 = 1 := by
          rcases hM with ⟨-, -, a, d⟩ | ⟨e, -⟩
          · omega
          · exact e
        refine Or.inr ⟨by rw [oo 115 (by decide) (by decide)]; exact e39, S, V, ?_, ?_, fun c z1 z2 => ?_⟩
        · unfold BlC RwC at hb ⊢
          rw [oo 35 (by decide) (by decide), oo (35 + 1) (by decide) (by decide), oo (35 + 1 + 1) (by decide) (by decide), oo (35 + 3) (by decide) (by decide), oo (35 + 3 + 1) (by decide) (by decide), oo (35 + 5) (by decide) (by decide), oo (35 + 5 + 1) (by decide) (by decide), oo (35 + 7) (by decide) (by decide), oo (35 + 9) (by decide) (by decide)]
          refine ⟨hb.1, hb.2.1, hb.2.2.1, fun j j0 j1 j2 => ?_⟩
          have y := hb.2.2.2 j j0 j1 j2
          refine ⟨y.1, ?_, y.2.2⟩
          show (upI (upI I 43 (ct (mP S) i.toNat) w) 150 k w) 43 _ = _
          rw [o43]
          by_cases e : j = i
          · subst e
            rw [if_pos rfl, if_pos i1.2, o150, if_pos i2]
          · rw [if_neg (fun z => e (ct_inj j0 i0.1 j2 i1.1 z))]
            refine y.2.1.trans ?_
            by_cases f : mK S j = -1
            · rw [if_pos f, if_pos f, o150, if_neg (fun z => e (ct_inj j0 i0.1 ⟨j2, f⟩ i1 (z.trans i2.symm)))]
            · rw [if_neg f, if_neg f]
        · rw [oo 146 (by decide) (by decide), oo 147 (by decide) (by decide), oo 148 (by decide) (by decide), oo 149 (by decide) (by decide), oo 115 (by decide) (by decide)]
          exact hr
        · rw [o150]
          by_cases e : c = k
          · rw [if_pos e]; exact cw
          · rw [if_neg e]; exact hL c z1 z2
      exact ⟨⟨RT.cg (h.1) (fun c z => hA.1 c (by revert c; decide) (by revert c; decide)) (fun c z => hA.1 c (by revert c; decide) (by revert c; decide)) (hA.2 5 (by decide)), RC.cg (h.2.1) (hA.1 161 (by decide) (by decide)) (fun c z => hA.1 c (by revert c; decide) (by revert c; decide)) (hA.2 5 (by decide)), RU.cg (h.2.2.1) (hA.1 11 (by decide) (by decide)) (fun c z => hA.1 c (by revert c; decide) (by revert c; decide)) (hA.2 5 (by decide)), RD.cg (h.2.2.2.1) (fun c z => hA.1 c (by revert c; decide) (by revert c; decide)) (hA.1 121 (by decide) (by decide)) (hA.2 7 (by decide)), RB.cg (h.2.2.2.2.1) (hA.1 5 (by decide) (by decide)) (hA.1 124 (by decide) (by decide)) (hA.2 5 (by decide)), RS.cg (h.2.2.2.2.2.1) (fun c z => hA.1 c (by revert c; decide) (by revert c; decide)) (fun c z => hA.1 c (by revert c; decide) (by revert c; decide)) (hA.2 5 (by decide)) (hA.2 10 (by decide)), RP.cg (h.2.2.2.2.2.2.1) (fun c z => hA.1 c (by revert c; decide) (by revert c; decide)) (fun _ _ => rfl) (fun c z => hA.1 c (by revert c; decide) (by revert c; decide)) (hA.2 10 (by decide)) (hA.2 16 (by decide)), RH.cg (h.2.2.2.2.2.2.2.1) (hA.1 30 (by decide) (by decide)) (fun c z => hA.1 c (by revert c; decide) (by revert c; decide)) (hA.2 16 (by decide)), RF.cg (h.2.2.2.2.2.2.2.2.1) (fun c z => hA.1 c (by revert c; decide) (by revert c; decide)) (fun c z => hA.1 c (by revert c; decide) (by revert c; decide)) (hA.2 30 (by decide)), hm, RJ.cg (h.2.2.2.2.2.2.2.2.2.2) (fun c z => hA.1 c (by revert c; decide) (by revert c; decide)) (hA.1 155 (by decide) (by decide)) (fun j z => hA.2 j (by revert j; decide))⟩, hA.1 0 (by decide) (by decide)⟩
  · refine ⟨-2, b, I, J, I, ?_, ?_, h, rfl⟩
    · rw [n112, s112_0, c7 (by decide), m0.1]
      simp only [Option.bind_some]
      by_cases d : 0 ≤ k ∧ k < I 115 45
      · rw [bI_t d, s112_8, if_neg (by decide)]
        by_cases e : w < -1
        · rw [if_pos e, s112_21]
        · rw [if_neg e, if_neg (by omega), s112_21]
      · rw [bI_f d, s112_8, if_pos rfl, s112_21]
    · rw [n187, s187_0, c185 k m0.2]
      simp only [Option.bind_some]
      by_cases d : 0 ≤ k ∧ k < I 115 45
      · rw [bI_t d, s187_5, if_neg (by decide)]
        by_cases e : w < -1
        · rw [if_pos e, s187_18]
        · rw [if_neg e, if_neg (by omega), s187_18]
      · rw [bI_f d, s187_5, if_pos rfl, s187_18]
