/-! calls on both sides: text, pack, sweep, count -/
section
variable {L : Nat} {b : Bool} {I G : AI} {J : AJ} {k : Nat} {n : Int} {f : Int → Int}
theorem mkT_5 : G 115 5 ≤ mkT G n f 115 5 ∧ mkT G n f 115 5 ≤ G 115 5 + 1 := by
  unfold mkT
  split
  · split
    · rw [upI_c (by decide), upI_c (by decide)]; omega
    · omega
  · rw [newT_5]; omega
theorem mkT_old (hT : TxR G) {t : Int} (ht : 0 ≤ t ∧ t < G 115 5) : mkT G n f 117 t = G 117 t ∧ mkT G n f 119 t = G 119 t ∧ (mkT G n f 120 t = G 120 t ∨ mkT G n f 120 t = -1) ∧ ∀ i, 0 ≤ i → i < G 117 t → mkT G n f 116 (24 * t + i) = G 116 (24 * t + i) := by
  have b1 := hT.2.2.1 t ht.1 ht.2
  unfold mkT
  split
  · split
    · refine ⟨by rw [upI_c (by decide), upI_c (by decide)], by rw [upI_c (by decide), upI_c (by decide)], ?_, fun i _ _ => by rw [upI_c (by decide), upI_c (by decide)]⟩
      by_cases e : t = fdR G n f
      · rw [e, upI_s]; exact Or.inr rfl
      · rw [upI_i e, upI_c (by decide)]; exact Or.inl rfl
    · exact ⟨rfl, rfl, Or.inl rfl, fun _ _ _ => rfl⟩
  · refine ⟨by rw [newT_117, if_neg (by omega)], by rw [newT_119, if_neg (by omega)], Or.inl (by rw [newT_120, if_neg (by omega)]), fun i a c => by rw [newT_116, if_neg (by omega)]⟩
theorem mkT_new {t : Int} (h1 : G 115 5 ≤ t) (h2 : t < mkT G n f 115 5) : mkT G n f 119 t = 0 ∧ mkT G n f 120 t = -1 := by
  unfold mkT at *
  by_cases c : 0 ≤ fdR G n f
  · rw [if_pos c] at h2
    split at h2
    · rw [upI_c (by decide), upI_c (by decide)] at h2; omega
    · omega
  · rw [if_neg c] at h2 ⊢
    rw [newT_5] at h2
    have e : t = G 115 5 := by omega
    rw [newT_119, newT_120, if_pos e, if_pos e]; exact ⟨rfl, rfl⟩
theorem lcs_mk (hT : TxR G) {t u : Int} (ht : 0 ≤ t ∧ t < G 115 5) (hu : 0 ≤ u ∧ u < G 115 5) : lcs (mkT G n f) t u = lcs G t u := by
  obtain ⟨a1, -, -, a4⟩ := mkT_old (n := n) (f := f) hT ht
  obtain ⟨c1, -, -, c4⟩ := mkT_old (n := n) (f := f) hT hu
  unfold lcs
  rw [a1, c1]
  exact pc_cg (fun i x y => a4 i x y) (fun i x y => c4 i x y) (hT.2.2.1 t ht.1 ht.2).1 (hT.2.2.1 u hu.1 hu.2).1
theorem RC_mk (hT : TxR G) (h : RC I G) : RC I (mkT G n f) := fun t u a c d => by
  have m := mkT_5 (G := G) (n := n) (f := f)
  rcases h t u a c d with z | z
  · exact Or.inl z
  · exact Or.inr ⟨by omega, by rw [lcs_mk hT ⟨by omega, z.1⟩ ⟨a, by omega⟩]; exact z.2⟩
theorem RU_mk (hT : TxR G) (h : RU I G) : RU I (mkT G n f) := fun t a c g s => by
  by_cases e : t < G 115 5
  · obtain ⟨a1, a2, a3, a4⟩ := mkT_old (n := n) (f := f) hT ⟨a, e⟩
    have z := hT.2.1 t a e
    rcases a3 with a3 | a3
    · rw [a3] at s ⊢
      rw [a1, (mkT_old (n := n) (f := f) hT ⟨s, by omega⟩).1, lcs_mk hT ⟨s, by omega⟩ ⟨a, e⟩]
      exact h t a e (by rw [← a2]; exact g) s
    · omega
  · have := mkT_new (G := G) (n := n) (f := f) (t := t) (by omega) c
    omega
theorem RB_mk (h : RB I G) : RB I (mkT G n f) := fun j a c => by
  have m := mkT_5 (G := G) (n := n) (f := f)
  have r := h j a c
  rw [mkT_o (c := 124) (by decide)]
  exact ⟨r.1, r.2.1, by omega⟩
theorem RS_mk (hT : TxR G) (h : RS I G) : RS I (mkT G n f) := by
  have m := mkT_5 (G := G) (n := n) (f := f)
  have e10 : mkT G n f 115 10 = G 115 10 := mkT_f (by decide)
  have e123 : mkT G n f 123 = G 123 := mkT_o (by decide)
  have e122 : mkT G n f 122 = G 122 := mkT_o (by decide)
  refine ⟨⟨by rw [e10]; exact h.1.1, fun s a c => by rw [e10] at c; rw [e123]; exact h.1.2 s a c⟩, by rw [e10]; exact h.2.1, fun s a c => ?_, fun s a c => by rw [e10] at a; exact h.2.2.2 s a c⟩
  rw [e10] at c
  have r := h.2.2.1 s a c
  rw [e123, e122]
  refine ⟨r.1, fun j d e => ⟨(r.2 j d e).1, ⟨(r.2 j d e).2.1.1, by have := (r.2 j d e).2.1.2; omega⟩, fun z w => ?_⟩⟩
  rw [(mkT_old (n := n) (f := f) hT ⟨w, (r.2 j d e).2.1.2⟩).2.1]
  exact (r.2 j d e).2.2 z w
theorem RJ_mk (h : RJ I G) : RJ I (mkT G n f) := by
  have m := mkT_5 (G := G) (n := n) (f := f)
  have e : ∀ x, x ≠ 5 → mkT G n f 115 x = G 115 x := fun x hx => mkT_f hx
  unfold RJ at *
  rw [e 52 (by decide), e 54 (by decide), e 55 (by decide), e 56 (by decide), e 16 (by decide), mkT_o (c := 155) (by decide)]
  refine ⟨h.1, ?_⟩
  rcases h.2 with z | ⟨z1, z2, z3, z4⟩
  · exact Or.inl z
  · refine Or.inr ⟨z1, z2, z3, fun j a c => ⟨(z4 j a c).1, ?_⟩⟩
    rcases (z4 j a c).2 with y | y
    · exact Or.inl y
    · exact Or.inr ⟨y.1, by omega⟩
theorem mkN_bd (hT : TxR G) (hr : 0 ≤ fdR G n f ∨ G 115 5 < 120) : 0 ≤ mkN G n f ∧ mkN G n f < mkT G n f 115 5 := by
  have h0 := hT.1
  have m := mkT_5 (G := G) (n := n) (f := f)
  unfold mkN
  by_cases c : 0 ≤ fdR G n f
  · rw [if_pos c]
    rcases fdR_bd hT (n := n) (f := f) with z | z
    · omega
    · omega
  · rw [if_neg c]
    unfold mkT
    rw [if_neg c, newT_5]; omega
end
theorem op_text : Op 92 143 [] := by
  intro L b I J h
  have hT := h.1
  have t0 := hT.1.1
  have hD := h.2.2.2.1
  have d1 := hD.2.1
  have hw : RwC I 3 (I 115 7) (I 121) := ⟨hD.1, fun j a c => hD.2.2 j a c⟩
  have hx : ∀ X : AI, (fun i => X 121 (0 + i)) = X 121 := fun X => by funext i; rw [Int.zero_add]
  by_cases hr : 0 ≤ fdR I (I 115 7) (I 121) ∨ I 115 5 < 120
  · obtain ⟨I1, q1, q2, q3⟩ := c74R (L := L) (b := b) (J := J) hT (k := 3) (by decide) hw d1 hr
    have nb := mkN_bd hT.1 hr
    have o1 : ∀ c, c ∉ [3, 6, 7, 8, 9, 10] → (upI I1 3 1 0) c = I c := fun c hc => by
      rw [upI_c (fun z => hc (by rw [z]; decide)), q2 c (fun z => hc (by simp at z ⊢; omega))]
    have hg : ∀ c ∈ [116, 117, 118, 119, 120], (upI I1 3 1 0) c = I c := fun c z => o1 c (by revert c; decide)
    have h5 : (upI I1 3 1 0) 115 5 = I 115 5 := by rw [o1 115 (by decide)]
    have h7 : (upI I1 3 1 0) 115 7 = I 115 7 := by rw [o1 115 (by decide)]
    have e121 : (upI I1 3 1 0) 121 = I 121 := o1 121 (by decide)
    obtain ⟨x1, x2, x3⟩ := mkT_x (G := I) (G' := upI I1 3 1 0) (n := I 115 7) (f := I 121) hg h5
    have hT1 : TxR (upI I1 3 1 0) := hT.1.cg (fun c z => hg c (by revert c; decide)) h5
    have fd : fdR (upI I1 3 1 0) (I 115 7) (I 121) = fdR I (I 115 7) (I 121) := by unfold fdR hl; rw [hg 116 (by decide), hg 117 (by decide), hg 119 (by decide), h5]
    have ref : evc 142 [vr 115, vr 121, vi 0, vi (I 115 7)] (hp L b (upI I1 3 1 0) J) = some (vi (mkN I (I 115 7) (I 121)), hp L b (mkT (upI I1 3 1 0) (I 115 7) (I 121)) J) := by
      have z := c142R (L := L) (b := b) (J := J) (k := 121) (n := I 115 7) (from_ := 0) hT1 (by decide) d1 ⟨Int.le_refl _, by show 0 + I 115 7 ≤ 24; omega⟩ (by decide) (by rw [hx, e121, fd, h5]; exact hr)
      rw [hx, e121, x3] at z
      exact z
    refine ⟨mkN I (I 115 7) (I 121), b, upI I1 3 1 0, J, upI (mkT (upI I1 3 1 0) (I 115 7) (I 121)) 115 7 0, ?_, ?_, ?_⟩
    · rw [n92, s92_0, q1]
      simp only [Option.bind_some]
      rw [s92_11, if_neg (by omega), c37 (by decide)]
      simp only [Option.bind_some]
      rw [s92_25]
    · have fin : ev 143 28 [some (vr 115), none] [] (hp L b (upI I1 3 1 0) J) = some (vi (mkN I (I 115 7) (I 121)), hp L b (upI (mkT (upI I1 3 1 0) (I 115 7) (I 121)) 115 7 0) J) := by
        rw [s143_28, h7, ref]
        simp only [Option.bind_some]
        rw [s143_41]
      rw [n143, s143_0, h5, h7]
      by_cases c : I 115 5 = 120
      · rw [if_neg (fun z => z c)]
        have z := c141 (L := L) (b := b) (J := J) (k := 121) (n := I 115 7) (from_ := 0) hT1 (by decide) d1 ⟨Int.le_refl _, by show 0 + I 115 7 ≤ 24; omega⟩ (by decide)
        rw [hx, e121, fd] at z
        rw [z]
        simp only [Option.bind_some]
        rw [s143_22, if_pos (by omega), fin]
      · rw [if_pos c, fin]
    · have ox : ∀ c, c ∉ [3, 6, 7, 8, 9, 10, 115, 116, 117, 118, 119, 120] → (upI (mkT (upI I1 3 1 0) (I 115 7) (I 121)) 115 7 0) c = I c := fun c hc => by
        rw [upI_c (fun z => hc (by rw [z]; decide)), mkT_o (fun z => hc (by simp at z ⊢; omega)), o1 c (fun z => hc (by simp at z ⊢; omega))]
      have of : ∀ j, j ≠ 5 → j ≠ 7 → (upI (mkT (upI I1 3 1 0) (I 115 7) (I 121)) 115 7 0) 115 j = I 115 j := fun j h1 h2 => by
        rw [upI_i h2, mkT_f h1, o1 115 (by decide)]
      have og : ∀ c ∈ [116, 117, 118, 119, 120], (upI (mkT (upI I1 3 1 0) (I 115 7) (I 121)) 115 7 0) c = mkT I (I 115 7) (I 121) c := fun c z => by
        rw [upI_c (by revert c; decide)]; exact x1 c z
      have o5 : (upI (mkT (upI I1 3 1 0) (I 115 7) (I 121)) 115 7 0) 115 5 = mkT I (I 115 7) (I 121) 115 5 := by rw [upI_i (by decide)]; exact x2
      have oc : ∀ c ∈ [6, 7, 8, 9, 10], (upI (mkT (upI I1 3 1 0) (I 115 7) (I 121)) 115 7 0) c = I1 c := fun c z => by
        rw [upI_c (by revert c; decide), mkT_o (by revert c; decide), upI_c (by revert c; decide)]
      have o3 : (upI (mkT (upI I1 3 1 0) (I 115 7) (I 121)) 115 7 0) 3 1 = 0 := by rw [upI_c (by decide), mkT_o (by decide), upI_s]
      have o7 : (upI (mkT (upI I1 3 1 0) (I 115 7) (I 121)) 115 7 0) 115 7 = 0 := upI_s _ _ _ _
      generalize upI (mkT (upI I1 3 1 0) (I 115 7) (I 121)) 115 7 0 = X at *
      have gx : ∀ c, c ∉ [115, 116, 117, 118, 119, 120] → mkT I (I 115 7) (I 121) c = I c := fun c hc => mkT_o hc
      have gf : ∀ j, j ≠ 5 → mkT I (I 115 7) (I 121) 115 j = I 115 j := fun j hj => mkT_f hj
      have ogx : ∀ c, c ∉ [3, 6, 7, 8, 9, 10, 115, 116, 117, 118, 119, 120] → X c = mkT I (I 115 7) (I 121) c := fun c hc => by rw [ox c hc, gx c (fun z => hc (by simp at z ⊢; omega))]
      have ofx : ∀ j, j ≠ 5 → j ≠ 7 → X 115 j = mkT I (I 115 7) (I 121) 115 j := fun j h1 h2 => by rw [of j h1 h2, gf j h1]
      refine ⟨⟨q3.cg oc og o5, (RC_mk hT.1 h.2.1).cg (ox 161 (by decide)) (fun c z => og c (by revert c; decide)) o5, (RU_mk hT.1 h.2.2.1).cg (ox 11 (by decide)) (fun c z => og c (by revert c; decide)) o5, ?_, (RB_mk h.2.2.2.2.1).cg (ox 5 (by decide)) (ogx 124 (by decide)) o5, (RS_mk hT.1 h.2.2.2.2.2.1).cg (fun c z => ox c (by revert c; decide)) (fun c z => by
          by_cases e : c = 119
          · rw [e]; exact og 119 (by decide)
          · exact ogx c (by simp at z ⊢; omega)) o5 (ofx 10 (by decide) (by decide)), h.2.2.2.2.2.2.1.cg (fun c z => ox c (by revert c; decide)) (fun _ _ => rfl) (fun c z => ox c (by revert c; decide)) (of 10 (by decide) (by decide)) (of 16 (by decide) (by decide)), h.2.2.2.2.2.2.2.1.cg (ox 30 (by decide)) (fun c z => ox c (by revert c; decide)) (of 16 (by decide) (by decide)), h.2.2.2.2.2.2.2.2.1.cg (fun c z => ox c (by revert c; decide)) (fun c z => ox c (by revert c; decide)) (of 30 (by decide) (by decide)), h.2.2.2.2.2.2.2.2.2.1.cg (fun c z => ox c (by revert c; decide)) (fun c z => ox c (by revert c; decide)) (fun j z => of j (by revert j; decide) (by revert j; decide)), (RJ_mk h.2.2.2.2.2.2.2.2.2.2).cg (fun c z => ox c (by revert c; decide)) (ogx 155 (by decide)) (fun j z => by
          by_cases e : j = 5
          · rw [e]; exact o5
          · exact ofx j e (by revert j; decide))⟩, ox 0 (by decide)⟩
      refine ⟨by rw [o3, o7], by rw [o7]; decide, fun i a c => by rw [o7] at c; omega⟩
  · have c1 : fdR I (I 115 7) (I 121) = -1 := by
      rcases fdR_bd hT.1 (n := I 115 7) (f := I 121) with z | z
      · exact z.1
      · exact absurd (Or.inl z.1.1) hr
    have c2 : I 115 5 = 120 := by omega
    refine ⟨-2, b, I, J, I, ?_, ?_, h, rfl⟩
    · rw [n92, s92_0, c74f hT (by decide) hw d1 c1 c2]
      simp only [Option.bind_some]
      rw [s92_11, if_pos rfl, s92_25]
    · rw [n143, s143_0, if_neg (fun z => z c2)]
      have z := c141 (L := L) (b := b) (J := J) (k := 121) (n := I 115 7) (from_ := 0) hT.1 (by decide) d1 ⟨Int.le_refl _, by show 0 + I 115 7 ≤ 24; omega⟩ (by decide)
      rw [hx, c1] at z
      rw [z]
      simp only [Option.bind_some]
      rw [s143_22, if_neg (by decide)]
theorem op_pack : Op 125 220 [] := by
  intro L b I J h
  have hT := h.1
  have t0 := hT.1.1
  obtain ⟨b1, I1, q1, q2, q3, q4, q5⟩ := c78R (L := L) (b := b) (J := J) hT h.2.1 h.2.2.1
  have r1 : ∀ c, c ∉ [2, 13, 14, 15, 16, 161, 9, 10, 11] → I1 c = I c := q2
  have h5 : I1 115 5 = I 115 5 := by rw [r1 115 (by decide)]
  have hT1 : TxR I1 := hT.1.cg (fun c z => r1 c (by revert c; decide)) h5
  obtain ⟨I2, w1, w2, w3⟩ := c220 (L := L) (b := b1) (J := J) hT1
  have hg : ∀ c ∈ [116, 117, 118, 119, 120], I1 c = I c := fun c z => r1 c (by revert c; decide)
  rw [h5] at w1 w3
  have e120 : I2 120 = pkG I (I 115 5).toNat 120 := by rw [w3, pkG_cg hg h5]
  have og : ∀ c ∈ [116, 117, 118, 119, 120], I2 c = pkG I (I 115 5).toNat c := fun c z => by
    by_cases e : c = 120
    · rw [e]; exact e120
    · rw [pkG_o _ e, w2.1 c (by simp at z ⊢; omega) (by revert c; decide)]; exact hg c z
  have o5 : I2 115 5 = pkG I (I 115 5).toNat 115 5 := by rw [pkG_o _ (by decide), w2.2 5 (by decide), h5]
  have hv : ct (fun t => I1 9 t = 1) (I1 6 9).toNat = ct (isD (pkG I1 (I 115 5).toNat)) (I 115 5).toNat := by
    rw [show I1 6 9 = I 115 5 by rw [q3.2.1, pkG_o _ (by decide)]]
    refine ct_cg _ (fun t a c => ?_)
    have r := (q3.2.2 t a (by rw [pkG_o _ (by decide)]; omega)).2.2.1
    have f := q3.1.2.2.2 t a (by rw [pkG_o _ (by decide)]; omega)
    rw [r]
    unfold isD
    rw [pkG_cg hg h5, pkG_o I1 (show 119 ≠ 120 by decide), pkG_o I1 (show 118 ≠ 120 by decide), hg 119 (by decide), hg 118 (by decide)]
    rw [pkG_o I (show 119 ≠ 120 by decide), pkG_o I (show 118 ≠ 120 by decide)] at f ⊢
    constructor
    · intro z
      by_cases c1 : I 119 t = 1
      · rw [if_pos c1] at z; omega
      · rw [if_neg c1] at z
        by_cases c2 : I 118 t = 1
        · rw [if_pos c2] at z; omega
        · rw [if_neg c2] at z
          refine ⟨by omega, by omega, ?_⟩
          by_cases c3 : 0 ≤ pkG I (I 115 5).toNat 120 t
          · exact c3
          · rw [if_neg c3] at z; omega
    · rintro ⟨z1, z2, z3⟩
      rw [if_neg (by omega), if_neg (by omega), if_pos z3]
  have b6 : 0 ≤ I1 6 9 ∧ I1 6 9 ≤ 120 := by rw [q3.2.1, pkG_o _ (by decide)]; exact t0
  refine ⟨ct (isD (pkG I1 (I 115 5).toNat)) (I 115 5).toNat, b1, I1, J, I2, ?_, w1, ?_⟩
  · rw [n125, s125_0, q1]
    simp only [Option.bind_some]
    rw [s125_7, c81 b6, hv]
    simp only [Option.bind_some]
    rw [s125_15]
  · have hA : Sm [2, 13, 14, 15, 16, 161, 9, 10, 11, 120, 135, 136, 137] [27] I I2 := Sm.of2 q2 w2 (by decide) (by simp) (by simp)
    have oc : ∀ c ∈ [6, 7, 8, 9, 10], I2 c = I1 c := fun c z => w2.1 c (by revert c; decide) (by revert c; decide)
    exact ⟨⟨q3.cg oc og o5, q4.cg (w2.1 161 (by decide) (by decide)) (fun c z => og c (by revert c; decide)) o5, q5.cg (w2.1 11 (by decide) (by decide)) (fun c z => og c (by revert c; decide)) o5, RD.cg (h.2.2.2.1) (fun c z => hA.1 c (by revert c; decide) (by revert c; decide)) (hA.1 121 (by decide) (by decide)) (hA.2 7 (by decide)), RB.cg (h.2.2.2.2.1) (hA.1 5 (by decide) (by decide)) (hA.1 124 (by decide) (by decide)) (hA.2 5 (by decide)), RS.cg (h.2.2.2.2.2.1) (fun c z => hA.1 c (by revert c; decide) (by revert c; decide)) (fun c z => hA.1 c (by revert c; decide) (by revert c; decide)) (hA.2 5 (by decide)) (hA.2 10 (by decide)), RP.cg (h.2.2.2.2.2.2.1) (fun c z => hA.1 c (by revert c; decide) (by revert c; decide)) (fun _ _ => rfl) (fun c z => hA.1 c (by revert c; decide) (by revert c; decide)) (hA.2 10 (by decide)) (hA.2 16 (by decide)), RH.cg (h.2.2.2.2.2.2.2.1) (hA.1 30 (by decide) (by decide)) (fun c z => hA.1 c (by revert c; decide) (by revert c; decide)) (hA.2 16 (by decide)), RF.cg (h.2.2.2.2.2.2.2.2.1) (fun c z => hA.1 c (by revert c; decide) (by revert c; decide)) (fun c z => hA.1 c (by revert c; decide) (by revert c; decide)) (hA.2 30 (by decide)), RM.cg (h.2.2.2.2.2.2.2.2.2.1) (fun c z => hA.1 c (by revert c; decide) (by revert c; decide)) (fun c z => hA.1 c (by revert c; decide) (by revert c; decide)) (fun j z => hA.2 j (by revert j; decide)), RJ.cg (h.2.2.2.2.2.2.2.2.2.2) (fun c z => hA.1 c (by revert c; decide) (by revert c; decide)) (hA.1 155 (by decide) (by decide)) (fun j z => hA.2 j (by revert j; decide))⟩, hA.1 0 (by decide) (by decide)⟩
theorem op_sweep : Op 128 225 [] := by
  intro L b I J h
  obtain ⟨hT, hC, hU, hD, hB, hS, hP, hH, hF, hM, hJ⟩ := id h
  have t0 := hT.1.1
  obtain ⟨I1, J1, q1, q2, q3, q4, q5⟩ := c35R (L := L) (b := b) hT hS hP hH
  have r1 : ∀ c, c ∉ [112, 113, 22, 9, 10] → I1 c = I c := q2
  have e115 : I1 115 = I 115 := r1 115 (by decide)
  have hT1 : TxR I1 := hT.1.cg (fun c z => r1 c (by revert c; decide)) (by rw [e115])
  have hS1 : ShR I1 := by
    have z := hS.shr
    unfold ShR SvR at *
    rw [e115, r1 122 (by decide), r1 123 (by decide)]; exact z
  have hP1 : SpR I1 := by
    have z := hP.spr hH
    unfold SpR StR at *
    rw [e115, r1 125 (by decide), r1 126 (by decide), r1 127 (by decide), r1 129 (by decide)]; exact z
  obtain ⟨I2, w1, w2, w3, w4⟩ := c225 (L := L) (b := b) (J := J1) hT1 hS1 hP1
  have etx : txG I1 = txG I := txG_cg (fun c z => r1 c (by revert c; decide)) (by rw [e115])
  have esx : sxG I1 = sxG I := sxG_cg (fun c z => r1 c (by revert c; decide)) (by rw [e115])
  have esw : swG I1 119 = swG I 119 ∧ swG I1 123 = swG I 123 := by
    constructor
    · funext x; unfold swG; rw [etx, esx, r1 119 (by decide), r1 123 (by decide), e115]
    · funext x; unfold swG; rw [etx, esx, r1 119 (by decide), r1 123 (by decide), e115]
  rw [esw.1] at w3
  rw [esw.2] at w4
  rw [etx, e115, r1 119 (by decide)] at w1
  refine ⟨ct (fun t => I 119 t = 0 ∧ ¬ txG I t) (I 115 5).toNat, b, I1, J1, I2, ?_, w1, ?_⟩
  · rw [n128, s128_0, q1]
    simp only [Option.bind_some]
    rw [s128_7]
  · have hA : Sm [112, 113, 22, 9, 10, 119, 123, 130, 131, 159, 160] [] I I2 := Sm.of2 q2 w2 (by decide) (by simp) (by simp)
    obtain ⟨z1, z2, z3⟩ := sw_rel hT hS hP hH (I' := I1) (fun c z => r1 c (by revert c; decide)) q4 q5
    have og : ∀ c, c ∉ [112, 113, 22, 9, 10, 119, 123, 130, 131, 159, 160] → c ≠ 115 → I2 c = swG I c := fun c hc hd => by
      rw [swG_o I (fun z => hc (by rw [z]; decide)) (fun z => hc (by rw [z]; decide))]; exact hA.1 c hc hd
    have og2 : ∀ c ∈ [116, 117, 118, 119, 120, 122, 123, 125, 126, 127, 129], I2 c = swG I c := fun c z => by
      by_cases e1 : c = 119
      · rw [e1]; exact w3
      · by_cases e2 : c = 123
        · rw [e2]; exact w4
        · exact og c (by simp at z ⊢; omega) (by simp at z; omega)
    have of : ∀ j, I2 115 j = swG I 115 j := fun j => by rw [swG_o I (by decide) (by decide)]; exact hA.2 j (by simp)
    have oc : ∀ c ∈ [6, 7, 8, 9, 10, 20, 21, 22, 30], I2 c = I1 c := fun c z => w2.1 c (by revert c; decide) (by revert c; decide)
    have hUx : RU I2 I2 := fun t a c g s => by
      have e5 : I2 115 5 = I 115 5 := hA.2 5 (by decide)
      rw [e5] at c
      rw [w3, swG_119 I ⟨a, c⟩, bI_0] at g
      rw [hA.1 120 (by decide) (by decide)] at s ⊢
      rw [hA.1 11 (by decide) (by decide), hA.1 117 (by decide) (by decide), lcs_cg (hA.1 116 (by decide) (by decide)) (hA.1 117 (by decide) (by decide))]
      have := (hT.1.2.2.2 t a c).2
      exact hU t a c (by rcases this with y | y; exact y; exact absurd (Or.inl y) g) s
    exact ⟨⟨z1.cg (fun c z => oc c (by revert c; decide)) (fun c z => og2 c (by revert c; decide)) (of 5), RC.cg (h.2.1) (hA.1 161 (by decide) (by decide)) (fun c z => hA.1 c (by revert c; decide) (by revert c; decide)) (hA.2 5 (by decide)), hUx, RD.cg (h.2.2.2.1) (fun c z => hA.1 c (by revert c; decide) (by revert c; decide)) (hA.1 121 (by decide) (by decide)) (hA.2 7 (by decide)), RB.cg (h.2.2.2.2.1) (hA.1 5 (by decide) (by decide)) (hA.1 124 (by decide) (by decide)) (hA.2 5 (by decide)), z2.cg (fun c z => oc c (by revert c; decide)) (fun c z => og2 c (by revert c; decide)) (of 5) (of 10), RP.cg (h.2.2.2.2.2.2.1) (fun c z => hA.1 c (by revert c; decide) (by revert c; decide)) (fun c z => q3 c (by revert c; decide)) (fun c z => hA.1 c (by revert c; decide) (by revert c; decide)) (hA.2 10 (by decide)) (hA.2 16 (by decide)), z3.cg (oc 30 (by decide)) (fun c z => og2 c (by revert c; decide)) (of 16), RF.cg (h.2.2.2.2.2.2.2.2.1) (fun c z => hA.1 c (by revert c; decide) (by revert c; decide)) (fun c z => hA.1 c (by revert c; decide) (by revert c; decide)) (hA.2 30 (by decide)), RM.cg (h.2.2.2.2.2.2.2.2.2.1) (fun c z => hA.1 c (by revert c; decide) (by revert c; decide)) (fun c z => hA.1 c (by revert c; decide) (by revert c; decide)) (fun j z => hA.2 j (by revert j; decide)), RJ.cg (h.2.2.2.2.2.2.2.2.2.2) (fun c z => hA.1 c (by revert c; decide) (by revert c; decide)) (hA.1 155 (by decide) (by decide)) (fun j z => hA.2 j (by revert j; decide))⟩, hA.1 0 (by decide) (by decide)⟩
theorem op_count (x : Int) : Op 130 228 [vi x] := by
  intro L b I J h
  obtain ⟨hT, hC, hU, hD, hB, hS, hP, hH, hF, hM, hJ⟩ := id h
  have t0 := hT.1.1
  have s0 := hS.1.1
  have b6 : 0 ≤ I 6 9 ∧ I 6 9 ≤ 120 := by rw [hT.2.1]; exact t0
  by_cases x0 : x = 0
  · exact ⟨I 115 5, b, I, J, I, by rw [n130, s130_0, if_pos x0, hT.2.1], by rw [n228, s228_0, if_pos x0], h, rfl⟩
  by_cases x1 : x = 1
  · exact ⟨I 115 10, b, I, J, I, by rw [n130, s130_0, if_neg x0, if_pos x1, hS.2.1], by rw [n228, s228_0, if_neg x0, if_pos x1], h, rfl⟩
  by_cases x2 : x = 2
  · exact ⟨I 115 16, b, I, J, I, by rw [n130, s130_0, if_neg x0, if_neg x1, if_pos x2, hP.2.1], by rw [n228, s228_0, if_neg x0, if_neg x1, if_pos x2], h, rfl⟩
  by_cases x3 : x = 3
  · have e : ct (fun t => I 9 t = 3) (I 6 9).toNat = ct (fun t => I 119 t ≠ 0) (I 115 5).toNat := by
      rw [hT.2.1]
      refine ct_cg _ (fun t a c => ?_)
      rw [(hT.2.2 t a (by omega)).2.2.1]
      have := (hT.1.2.2.2 t a (by omega)).2
      by_cases d : I 119 t = 1
      · rw [if_pos d]; omega
      · rw [if_neg d]
        refine ⟨fun z => ?_, fun z => by omega⟩
        split at z
        · omega
        · split at z <;> omega
    have bd := ct_bd (p := fun t => I 119 t ≠ 0) (I 115 5).toNat
    refine ⟨I 115 5 - ct (fun t => I 119 t ≠ 0) (I 115 5).toNat, b, I, J, I, ?_, ?_, h, rfl⟩
    · rw [n130, s130_0, if_neg x0, if_neg x1, if_neg x2, if_pos x3, c81 b6, e]
      simp only [Option.bind_some]
      rw [s130_91, hT.2.1]
      simp (disch := first | assumption | omega) only [↓gd_t, ↓if_pos, ↓if_neg, Option.bind_some, true_or, true_and, gd_t]
    · rw [n228, s228_0, if_neg x0, if_neg x1, if_neg x2, if_pos x3, c227 (Or.inl ⟨rfl, t0.2⟩) t0.1]
      simp (disch := first | assumption | omega) only [↓gd_t, ↓if_pos, ↓if_neg, Option.bind_some, true_or, true_and, gd_t, s228_83]
  by_cases x4 : x = 4
  · have e : ct (fun s => I 22 s = 0) (I 20 2).toNat = I 115 10 - ct (fun s => I 123 s ≠ 0) (I 115 10).toNat := by
      rw [hS.2.1]
      have key : ∀ n : Nat, (n : Int) ≤ I 115 10 → ct (fun s => I 22 s = 0) n = n - ct (fun s => I 123 s ≠ 0) n := by
        intro n
        induction n with
        | zero => intro _; rfl
        | succ n ih =>
          intro hn
          have r := (hS.2.2.1 n (by omega) (by omega)).1
          show ct _ n + bI (I 22 (n : Int) = 0) = _ - (ct _ n + bI (I 123 (n : Int) ≠ 0))
          rw [ih (by omega), r]
          by_cases d : I 123 (n : Int) = 0
          · rw [bI_t d, bI_f (fun z => z d)]; omega
          · rw [bI_f d, bI_t d]; omega
      rw [key _ (by omega)]; omega
    have bd := ct_bd (p := fun s => I 123 s ≠ 0) (I 115 10).toNat
    refine ⟨I 115 10 - ct (fun s => I 123 s ≠ 0) (I 115 10).toNat, b, I, J, I, ?_, ?_, h, rfl⟩
    · rw [n130, s130_0, if_neg x0, if_neg x1, if_neg x2, if_neg x3, if_pos x4, c47 (RS_svc hS), e]
      simp (disch := first | assumption | omega) only [↓gd_t, ↓if_pos, ↓if_neg, Option.bind_some, true_or, true_and, gd_t, s130_100]
    · rw [n228, s228_0, if_neg x0, if_neg x1, if_neg x2, if_neg x3, if_pos x4, c227 (Or.inr ⟨rfl, s0.2⟩) s0.1]
      simp (disch := first | assumption | omega) only [↓gd_t, ↓if_pos, ↓if_neg, Option.bind_some, true_or, true_and, gd_t, s228_101]
  by_cases x5 : x = 5
  · exact ⟨I 115 7, b, I, J, I, by rw [n130, s130_0, if_neg x0, if_neg x1, if_neg x2, if_neg x3, if_neg x4, if_pos x5, hD.1], by rw [n228, s228_0, if_neg x0, if_neg x1, if_neg x2, if_neg x3, if_neg x4, if_pos x5], h, rfl⟩
  by_cases x6 : x = 6
  · have e : ct (fun j => I 5 j ≠ -1) 16 = ct (fun j => 0 ≤ I 124 j) 16 := ct_cg _ (fun j a c => by have r := hB j a (by omega); rw [r.1]; omega)
    refine ⟨ct (fun j => 0 ≤ I 124 j) 16, b, I, J, I, ?_, ?_, h, rfl⟩
    · rw [n130, s130_0, if_neg x0, if_neg x1, if_neg x2, if_neg x3, if_neg x4, if_neg x5, if_pos x6, c132, e]
      simp (disch := first | assumption | omega) only [↓gd_t, ↓if_pos, ↓if_neg, Option.bind_some, true_or, true_and, gd_t, s130_116]
    · rw [n228, s228_0, if_neg x0, if_neg x1, if_neg x2, if_neg x3, if_neg x4, if_neg x5, if_pos x6, c153]
      simp (disch := first | assumption | omega) only [↓gd_t, ↓if_pos, ↓if_neg, Option.bind_some, true_or, true_and, gd_t, s228_116]
  by_cases x7 : x = 7
  · have e : ct (fun t => I 9 t = 2) (I 6 9).toNat = ct (fun t => I 118 t = 1 ∧ I 119 t = 0) (I 115 5).toNat := by
      rw [hT.2.1]
      refine ct_cg _ (fun t a c => ?_)
      rw [(hT.2.2 t a (by omega)).2.2.1]
      have := (hT.1.2.2.2 t a (by omega)).2
      by_cases d : I 119 t = 1
      · rw [if_pos d]; omega
      · rw [if_neg d]
        by_cases d2 : I 118 t = 1
        · rw [if_pos d2]; omega
        · rw [if_neg d2]
          refine ⟨fun z => ?_, fun z => absurd z.1 d2⟩
          split at z <;> omega
    refine ⟨ct (fun t => I 118 t = 1 ∧ I 119 t = 0) (I 115 5).toNat, b, I, J, I, ?_, ?_, h, rfl⟩
    · rw [n130, s130_0, if_neg x0, if_neg x1, if_neg x2, if_neg x3, if_neg x4, if_neg x5, if_neg x6, if_pos x7, c81 b6, e]
      simp (disch := first | assumption | omega) only [↓gd_t, ↓if_pos, ↓if_neg, Option.bind_some, true_or, true_and, gd_t, s130_125]
    · rw [n228, s228_0, if_neg x0, if_neg x1, if_neg x2, if_neg x3, if_neg x4, if_neg x5, if_neg x6, if_pos x7, c229 hT.1]
      simp (disch := first | assumption | omega) only [↓gd_t, ↓if_pos, ↓if_neg, Option.bind_some, true_or, true_and, gd_t, s228_121]
  by_cases x8 : x = 8
  · obtain ⟨I1, J1, q1, q2, q3⟩ := c34R (L := L) (b := b) hT hS hP hH
    have r1 : ∀ c, c ∉ [112, 113] → I1 c = I c := q2
    have e115 : I1 115 = I 115 := r1 115 (by decide)
    have hT1 : TxR I1 := hT.1.cg (fun c z => r1 c (by revert c; decide)) (by rw [e115])
    have hS1 : ShR I1 := by
      have z := hS.shr
      unfold ShR SvR at *
      rw [e115, r1 122 (by decide), r1 123 (by decide)]; exact z
    have hP1 : SpR I1 := by
      have z := hP.spr hH
      unfold SpR StR at *
      rw [e115, r1 125 (by decide), r1 126 (by decide), r1 127 (by decide), r1 129 (by decide)]; exact z
    obtain ⟨I2, w1, w2, -, -⟩ := c223 (L := L) (b := b) (J := J1) hT1 hS1 hP1
    have etx : txG I1 = txG I := txG_cg (fun c z => r1 c (by revert c; decide)) (by rw [e115])
    rw [etx, e115] at w1
    refine ⟨ct (txG I) (I 115 5).toNat, b, I1, J1, I2, ?_, ?_, rel_ro h (Sm.of2 (es := [112, 113, 130, 131, 159, 160]) q2 w2 (by decide) (by simp) (by simp)) (fun c z => q3 c (by revert c; decide)) (by decide)⟩
    · rw [n130, s130_0, if_neg x0, if_neg x1, if_neg x2, if_neg x3, if_neg x4, if_neg x5, if_neg x6, if_neg x7, if_pos x8, q1]
      simp (disch := first | assumption | omega) only [↓gd_t, ↓if_pos, ↓if_neg, Option.bind_some, true_or, true_and, gd_t, s130_133]
    · rw [n228, s228_0, if_neg x0, if_neg x1, if_neg x2, if_neg x3, if_neg x4, if_neg x5, if_neg x6, if_neg x7, if_pos x8, w1]
      simp (disch := first | assumption | omega) only [↓gd_t, ↓if_pos, ↓if_neg, Option.bind_some, true_or, true_and, gd_t, s228_126]
  · exact ⟨-2, b, I, J, I, by rw [n130, s130_0, if_neg x0, if_neg x1, if_neg x2, if_neg x3, if_neg x4, if_neg x5, if_neg x6, if_neg x7, if_neg x8], by rw [n228, s228_0, if_neg x0, if_neg x1, if_neg x2, if_neg x3, if_neg x4, if_neg x5, if_neg x6, if_neg x7, if_neg x8], h, rfl⟩
