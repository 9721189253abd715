/-! joined, on both sides -/
theorem op_joined : Op 118 203 [] := by
  intro L b I J h
  obtain ⟨hT, hC, hU, hD, hB, hS, hP, hH, hF, hM, hJ⟩ := id h
  have t0 := hT.1.1
  have p0 := hP.1.1
  have s0 := hS.1.1
  have b6 : I 6 9 ≤ 120 := by rw [hT.2.1]; exact t0.2
  have neg : evc 29 [vr 51] (hp L b I J) = some (vi (-2), hp L b I J) → evc 203 [vr 115] (hp L b I J) = some (vi (-2), hp L b I J) → ∃ (v : Int) (b' : Bool) (I1 : AI) (J1 : AJ) (I2 : AI), evc 118 [vr 1] (hp L b I J) = some (vi v, hp L b' I1 J1) ∧ evc 203 [vr 115] (hp L b' I1 J1) = some (vi v, hp L b' I2 J1) ∧ Rel I2 J1 I2 ∧ I2 0 = I 0 := fun z1 z2 => by
    refine ⟨-2, b, I, J, I, ?_, z2, h, rfl⟩
    rw [n118, s118_0, z1]
    simp only [Option.bind_some]
    rw [s118_7]
  by_cases c : I 115 52 = 0
  · refine neg ?_ ?_
    · rw [n29, s29_0, hJ.1, if_pos c, s29_33]
    · rw [n203, s203_0, if_pos c, s203_23]
  · have hj : _ := hJ.2.resolve_left c
    obtain ⟨hj1, ⟨hj2, hj3, hj4⟩, ⟨hp1, hq1⟩, hj5⟩ := hj
    by_cases cl : ∃ j, (0 ≤ j ∧ j < 16) ∧ I 155 j = -3
    · obtain ⟨j, j0, j1⟩ := cl
      refine neg ?_ ?_
      · rw [n29, s29_0, hJ.1, if_neg c, c67 b6 (by decide), bI_f]
        · simp only [Option.bind_some]
          rw [s29_18, if_pos rfl, s29_33]
        · intro z
          have e : I 55 j = -3 := by rw [(hj5 j j0.1 j0.2).1]; exact j1
          rcases z j j0.1 j0.2 with y | y
          · omega
          · have := ((RT_th hT _).mp y).1; omega
      · have cp := ct_pos (p := fun j => I 155 j = -3) (n := 16) j0.1 j0.2 j1
        rw [n203, s203_0, if_neg c, c199]
        simp only [Option.bind_some]
        rw [s203_11, if_pos (by omega), s203_23]
    · have ct0 : ct (fun j => I 155 j = -3) 16 = 0 := ct_0 16 (fun j j0 j1 z => cl ⟨j, ⟨j0, j1⟩, z⟩)
      have hf : ∀ j, 0 ≤ j → j < 16 → I 55 j = I 155 j ∧ (-1 ≤ I 155 j ∧ I 155 j < I 115 5) := fun j j0 j1 => by
        have z := hj5 j j0 j1
        refine ⟨z.1, ?_⟩
        rcases z.2 with y | y
        · exact absurd ⟨j, ⟨j0, j1⟩, y⟩ cl
        · exact y
      have hr : ∀ j, 0 ≤ j → j < 16 → I 155 j < 120 := fun j a c => by have := (hf j a c).2; omega
      have ah := ath_hg hT (f := I 55) (g := I 155) hf
      have fse : fsC I (I 55) = fsR I (I 155) := by rw [RS_fs hS, fsR_cg (fun j a c => (hf j a c).1)]
      by_cases full : I 115 16 = 80
      · refine neg ?_ ?_
        · rw [n29, s29_0, hJ.1, if_neg c, c67 b6 (by decide)]
          simp only [Option.bind_some]
          rw [s29_18]
          by_cases a : ath I (I 55) 16
          · rw [bI_t a, if_neg (by decide), hP.2.1, if_neg (by omega), s29_33]
          · rw [bI_f a, if_pos rfl, s29_33]
        · rw [n203, s203_0, if_neg c, c199]
          simp only [Option.bind_some]
          rw [s203_11, if_neg (by omega), if_neg (fun z => z full), s203_23]
      · by_cases bad : hg I (I 155) 16 ∨ (¬ hg I (I 155) 16 ∧ fsR I (I 155) = -1 ∧ I 115 10 = 100)
        · refine neg ?_ ?_
          · rw [n29, s29_0, hJ.1, if_neg c, c67 b6 (by decide)]
            simp only [Option.bind_some]
            rw [s29_18]
            rcases bad with g | ⟨g, f1, f2⟩
            · rw [bI_f (fun z => (ah.mp z) g), if_pos rfl, s29_33]
            · rw [bI_t (ah.mpr g), if_neg (by decide), hP.2.1, if_pos (by omega), c46a (RS_svc hS) (by decide) (by rw [fse]; exact f1) (by rw [hS.2.1]; exact f2)]
              simp only [Option.bind_some]
              rw [s29_47, if_neg (by decide)]
          · rw [n203, s203_0, if_neg c, c199]
            simp only [Option.bind_some]
            rw [s203_11, if_neg (by omega), if_pos full, c157a hS.1 (by decide) hr bad]
            simp only [Option.bind_some]
            rw [s203_34, if_neg (by decide)]
        · have g : ¬ hg I (I 155) 16 := fun z => bad (Or.inl z)
          obtain ⟨v, I1, G1, a1, a2, ⟨rs, rp, rh⟩, a3, a4, a5⟩ := jshelf (L := L) (b := b) (J := J) hS hP hH t0.2 hf g (fun z => bad (Or.inr ⟨g, z⟩))
          have a2 : ∀ c, c ∉ [20, 21] → I1 c = I c := a2
          have e16 : G1 115 16 = I 115 16 := a4.2 16 (by decide)
          have lt80 : I 115 16 < 80 := by omega
          -- the class
          have z23 : (upI I1 51 8 0) 23 8 = I 115 16 := by rw [upI_c (by decide), a2 23 (by decide), hP.2.1]
          have z10 : (upI I1 51 8 0) 51 10 = I 115 55 := by rw [upI_i (by decide), a2 51 (by decide), hj3]
          have z11 : (upI I1 51 8 0) 51 11 = I 115 56 := by rw [upI_i (by decide), a2 51 (by decide), hj4]
          obtain ⟨J1, q1, q2, q3, q4⟩ := c56 (L := L) (b := b) (I := upI I1 51 8 0) (J := J) (by rw [z23]; omega) v (I 115 55) (I 115 56)
          obtain ⟨X, hX⟩ : ∃ X, X = upI (upI (upI (upI (upI I1 51 8 0) 23 8 ((upI I1 51 8 0) 23 8 + 1)) 24 ((upI I1 51 8 0) 23 8) v) 25 ((upI I1 51 8 0) 23 8) (I 115 55)) 26 ((upI I1 51 8 0) 23 8) (I 115 56) := ⟨_, rfl⟩
          rw [← hX, z23] at q1
          have oX : ∀ c, c ∉ [23, 24, 25, 26, 51] → X c = I1 c := fun c hc => by
            simp at hc
            rw [hX, upI_c (by omega), upI_c (by omega), upI_c (by omega), upI_c (by omega), upI_c (by omega)]
          have oY : ∀ c, c ∉ [20, 21, 23, 24, 25, 26, 51] → X c = I c := fun c hc => by
            simp at hc
            rw [oX c (by simp; omega), a2 c (by simp; omega)]
          have cls : evc 118 [vr 1] (hp L b I J) = some (vi (I 115 16), hp L b X J1) := by
            rw [n118, s118_0, n29, s29_0, hJ.1, if_neg c, c67 b6 (by decide), bI_t (ah.mpr g)]
            simp only [Option.bind_some]
            rw [s29_18, if_neg (by decide), hP.2.1, if_pos lt80, a1]
            simp only [Option.bind_some]
            rw [s29_47, if_pos (by omega), gd_t (by decide), z10, z11, q1]
            simp only [Option.bind_some]
            rw [s29_78]
            simp only [Option.bind_some]
            rw [s118_7]
          -- the reference
          obtain ⟨Y1, w1, w2, w3, w4, w5⟩ := a5 X J1 (fun c z1 z2 => oY c (by simp; omega))
          have x115 : X 115 = I 115 := oY 115 (by decide)
          have u55 : (upI Y1 115 52 0) 115 55 = I 115 55 := by rw [upI_i (by decide), w5, a4.2 55 (by decide)]
          have u56 : (upI Y1 115 52 0) 115 56 = I 115 56 := by rw [upI_i (by decide), w5, a4.2 56 (by decide)]
          have u16 : (upI Y1 115 52 0) 115 16 = I 115 16 := by rw [upI_i (by decide), w5, e16]
          have r1 := c161 (L := L) (b := b) (I := upI Y1 115 52 0) (J := J1) (by rw [u16]; omega) v (I 115 55) (I 115 56)
          obtain ⟨R, hR⟩ : ∃ R, R = upI (upI (upI (upI (upI (upI Y1 115 52 0) 125 (I 115 16) v) 126 (I 115 16) (I 115 55)) 127 (I 115 16) (I 115 56)) 128 (I 115 16) 0) 115 16 (I 115 16 + 1) := ⟨_, rfl⟩
          rw [u16, ← hR] at r1
          have ref : evc 203 [vr 115] (hp L b X J1) = some (vi (I 115 16), hp L b R J1) := by
            rw [n203, s203_0, x115, if_neg c, c199, oY 155 (by decide)]
            simp only [Option.bind_some]
            rw [s203_11, x115, if_neg (by omega), if_pos full, w1]
            simp only [Option.bind_some]
            rw [s203_34, if_pos a3.1, gd_t (by decide), u55, u56, r1]
            simp only [Option.bind_some]
            rw [s203_60]
          have oR : ∀ c, c ∉ [115, 125, 126, 127, 128] → R c = Y1 c := fun c hc => by
            simp at hc
            rw [hR, upI_c (by omega), upI_c (by omega), upI_c (by omega), upI_c (by omega), upI_c (by omega), upI_c (by omega)]
          have R16 : R 115 16 = I 115 16 + 1 := by rw [hR, upI_s]
          have R52 : R 115 52 = 0 := by rw [hR, upI_i (by decide), upI_c (by decide), upI_c (by decide), upI_c (by decide), upI_c (by decide), upI_s]
          have Rf : ∀ j, j ≠ 16 → j ≠ 52 → R 115 j = G1 115 j := fun j z1 z2 => by rw [hR, upI_i z1, upI_c (by decide), upI_c (by decide), upI_c (by decide), upI_c (by decide), upI_i z2, w5]
          have RX : ∀ c, c ∉ [115, 122, 123, 125, 126, 127, 128] → R c = X c := fun c hc => by
            simp at hc
            rw [oR c (by simp; omega), w2.1 c (by simp; omega) (by omega)]
          have yc : ∀ c, c ∉ [122, 123] → c ≠ 115 → 115 ≤ c → Y1 c = G1 c := fun c z1 z2 z3 => by
            rw [w2.1 c z1 z2, a4.1 c z1 z2, oY c (by simp; omega)]
          have hA : Sm [20, 21, 23, 24, 25, 26, 51, 122, 123, 125, 126, 127, 128] [10, 16, 52] I R := by
            refine ⟨fun c hc hd => ?_, fun j hj => ?_⟩
            · simp at hc
              rw [RX c (by simp; omega), oY c (by simp; omega)]
            · simp at hj
              rw [Rf j (by omega) (by omega), a4.2 j (by simp; omega)]
          have rp1 : RP (upI I1 51 8 0) J G1 := rp.cg (fun c z => upI_c (by revert c; decide) _ _ _) (fun _ _ => rfl) (fun _ _ => rfl) rfl rfl
          have rh1 : RH (upI I1 51 8 0) G1 := rh.cg (upI_c (by decide) _ _ _) (fun _ _ => rfl) rfl
          have g125 : R 125 = (upI Y1 125 (I 115 16) v) 125 := by rw [hR, upI_c (by decide), upI_c (by decide), upI_c (by decide), upI_c (by decide)]; funext s; rw [upI_w, upI_w, upI_c (by decide)]
          have g126 : R 126 = (upI Y1 126 (I 115 16) (I 115 55)) 126 := by rw [hR, upI_c (by decide), upI_c (by decide), upI_c (by decide)]; funext s; rw [upI_w, upI_w, upI_c (by decide), upI_c (by decide)]
          have g127 : R 127 = (upI Y1 127 (I 115 16) (I 115 56)) 127 := by rw [hR, upI_c (by decide), upI_c (by decide)]; funext s; rw [upI_w, upI_w, upI_c (by decide), upI_c (by decide), upI_c (by decide)]
          have g128 : R 128 = (upI Y1 128 (I 115 16) 0) 128 := by rw [hR, upI_c (by decide)]; funext s; rw [upI_w, upI_w, upI_c (by decide), upI_c (by decide), upI_c (by decide), upI_c (by decide)]
          have nw := st_new (I' := X) (J' := J1) (G' := R) rp1 rh1 (x := v) (p := I 115 55) (q := I 115 56) (by rw [e16]; exact lt80) a3 (by rw [e16]; omega) (by rw [e16]; omega) hX q3 q4 (fun s => by
            rw [g125, g126, g127, g128, upI_w, upI_w, upI_w, upI_w, yc 125 (by decide) (by decide) (by decide), yc 126 (by decide) (by decide) (by decide), yc 127 (by decide) (by decide) (by decide), yc 128 (by decide) (by decide) (by decide), e16]
            exact ⟨rfl, rfl, rfl, rfl⟩) (by rw [R16, e16]) (Rf 10 (by decide) (by decide)) (by rw [oR 123 (by decide), w4]) (by rw [oR 129 (by decide), yc 129 (by decide) (by decide) (by decide)])
          have hj' : RJ R R := ⟨by rw [R52, RX 51 (by decide), hX, upI_c (by decide), upI_c (by decide), upI_c (by decide), upI_c (by decide), upI_s], Or.inl R52⟩
          have hs' : RS R R := rs.cg (fun c z => by rw [RX c (by revert c; decide), oX c (by revert c; decide)]) (fun c z => by
            have e : c = 119 ∨ c = 122 ∨ c = 123 := by revert c; decide
            rcases e with e | e | e <;> subst e
            · rw [oR 119 (by decide), yc 119 (by decide) (by decide) (by decide)]
            · rw [oR 122 (by decide), w3]
            · rw [oR 123 (by decide), w4]) (Rf 5 (by decide) (by decide)) (Rf 10 (by decide) (by decide))
          have hp' : RP R J1 R := nw.1.cg (fun c z => RX c (by revert c; decide)) (fun _ _ => rfl) (fun _ _ => rfl) rfl rfl
          have hh' : RH R R := nw.2.cg (RX 30 (by decide)) (fun _ _ => rfl) rfl
          refine ⟨I 115 16, b, X, J1, R, cls, ref, ?_, hA.1 0 (by decide) (by decide)⟩
          exact ⟨RT.cg (h.1) (fun c z => hA.1 c (by revert c; decide) (by revert c; decide)) (fun c z => hA.1 c (by revert c; decide) (by revert c; decide)) (hA.2 5 (by decide)), RC.cg (h.2.1) (hA.1 161 (by decide) (by decide)) (fun c z => hA.1 c (by revert c; decide) (by revert c; decide)) (hA.2 5 (by decide)), RU.cg (h.2.2.1) (hA.1 11 (by decide) (by decide)) (fun c z => hA.1 c (by revert c; decide) (by revert c; decide)) (hA.2 5 (by decide)), RD.cg (h.2.2.2.1) (fun c z => hA.1 c (by revert c; decide) (by revert c; decide)) (hA.1 121 (by decide) (by decide)) (hA.2 7 (by decide)), RB.cg (h.2.2.2.2.1) (hA.1 5 (by decide) (by decide)) (hA.1 124 (by decide) (by decide)) (hA.2 5 (by decide)), hs', hp', hh', RF.cg (h.2.2.2.2.2.2.2.2.1) (fun c z => hA.1 c (by revert c; decide) (by revert c; decide)) (fun c z => hA.1 c (by revert c; decide) (by revert c; decide)) (hA.2 30 (by decide)), RM.cg (h.2.2.2.2.2.2.2.2.2.1) (fun c z => hA.1 c (by revert c; decide) (by revert c; decide)) (fun c z => hA.1 c (by revert c; decide) (by revert c; decide)) (fun j z => hA.2 j (by revert j; decide)), hj'⟩
