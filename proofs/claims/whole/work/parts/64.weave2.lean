/-! the class: weave -/
section
variable {L : Nat} {b : Bool} {I : AI} {J : AJ}
theorem l10 {x k : Nat} (hb : isBl x = true) (hk' : isRow k = true) (hx : k + 1 < x ∨ x + 15 < k) {S : MS} (hV : MV S) {st : Int → Int} (h : BlC I x S st) {i : Int} (h0 : 0 ≤ i) (h1 : i ≤ S.1 0) (hP : mP S i) {z : Int × (Int → Int)} (hz : RwC I k z.1 z.2) (hn : 0 ≤ z.1 ∧ z.1 + oL S (oc S st i) i ≤ 24) : (fun r => ∃ Y : AI, r = ev 10 66 [some (vr x), some (vr k), some (vi (ct (mP S) i.toNat)), none] [] (hp L b Y J) ∧ Same [k, k + 1] I Y ∧ RwC Y k (slx S (oc S st i) i z).1 (slx S (oc S st i) i z).2) (ev 10 6 [some (vr x), some (vr k), some (vi (ct (mP S) i.toNat)), none] [] (hp L b I J)) := by
  have nb0 := hV.1 0 (by decide) (by decide)
  have pb := mP_le hV h0 h1
  have pN := mP_N hV
  have plt : ct (mP S) i.toNat < ct (mP S) (mN S) := by
    have := ct_mono (p := mP S) (n := i.toNat) (m := (S.1 0).toNat) (by omega)
    omega
  have e8 := h.2.1
  have e : I (x + 8) (ct (mP S) i.toNat) = oc S st i := (h.2.2.2 i h0 h1 hP).2.1
  have l0 := mL_bd hV (d := 0) (by decide) h0 hP
  have l1 := mL_bd hV (d := 1) (by decide) h0 hP
  have l2 := mL_bd hV (d := 2) (by decide) h0 hP
  obtain ⟨o, ho⟩ : ∃ o, o = oc S st i := ⟨_, rfl⟩
  rw [← ho] at e hn
  have s0 := (sl_1 hV (o := o) h0 hP z).1
  have s1 := (sl_1 hV (o := o) h0 hP (sl0 S o i z)).2.1
  have ol : oL S o i = (if o = 0 then mL S 0 i else 0) + (if o = 1 ∨ o = 3 then mL S 1 i else 0) + (if o = 2 ∨ o = 3 then mL S 2 i else 0) := rfl
  have ifn : ∀ (p : Prop) [Decidable p] (v : Int), 0 ≤ v → 0 ≤ (if p then v else 0) := fun p _ v hv => by
    by_cases c : p
    · rw [if_pos c]; exact hv
    · rw [if_neg c]; exact Int.le_refl _
  have i0 := ifn (o = 0) (mL S 0 i) l0.1
  have i1 := ifn (o = 1 ∨ o = 3) (mL S 1 i) l1.1
  have i2 := ifn (o = 2 ∨ o = 3) (mL S 2 i) l2.1
  have A0 : ∃ Y : AI, ev 10 6 [some (vr x), some (vr k), some (vi (ct (mP S) i.toNat)), none] [] (hp L b I J) = ev 10 32 [some (vr x), some (vr k), some (vi (ct (mP S) i.toNat)), some (vi o)] [] (hp L b Y J) ∧ Same [k, k + 1] I Y ∧ RwC Y k (sl0 S o i z).1 (sl0 S o i z).2 := by
    by_cases c : o = 0
    · rw [if_pos c] at s0
      obtain ⟨Y, a1, a2, a3⟩ := c11 (L := L) (b := b) (J := J) hb hk' hx hV h h0 h1 hP (d := 0) (by decide) hz (by omega)
      refine ⟨Y, ?_, a2, by unfold sl0; rw [if_pos c]; exact a3⟩
      rw [s10_6 _ _ _ hb, e8, if_neg (by omega), e, gd_t (by omega), if_neg (fun y => y c), a1]
      simp only [Option.bind_some]
    · refine ⟨I, ?_, fun _ _ => rfl, by unfold sl0; rw [if_neg c]; exact hz⟩
      rw [s10_6 _ _ _ hb, e8, if_neg (by omega), e, gd_t (by omega), if_pos c]
  obtain ⟨Y0, a1, a2, a3⟩ := A0
  have hB0 : BlC Y0 x S st := h.st hV (fun c z1 z2 => a2 c (by simp; omega)) (fun _ _ _ => rfl)
  have A1 : ∃ Y : AI, ev 10 32 [some (vr x), some (vr k), some (vi (ct (mP S) i.toNat)), some (vi o)] [] (hp L b Y0 J) = ev 10 49 [some (vr x), some (vr k), some (vi (ct (mP S) i.toNat)), some (vi o)] [] (hp L b Y J) ∧ Same [k, k + 1] I Y ∧ RwC Y k (sl1 S o i (sl0 S o i z)).1 (sl1 S o i (sl0 S o i z)).2 := by
    by_cases c : o = 1 ∨ o = 3
    · rw [if_pos c] at s1 ol
      obtain ⟨Y, q1, q2, q3⟩ := c11 (L := L) (b := b) (J := J) hb hk' hx hV hB0 h0 h1 hP (d := 1) (by decide) a3 (by omega)
      refine ⟨Y, ?_, Same.tr a2 q2, by unfold sl1; rw [if_pos c]; exact q3⟩
      have j : ev 10 32 [some (vr x), some (vr k), some (vi (ct (mP S) i.toNat)), some (vi o)] [] (hp L b Y0 J) = ev 10 42 [some (vr x), some (vr k), some (vi (ct (mP S) i.toNat)), some (vi o)] [] (hp L b Y0 J) := by
        rw [s10_32]
        by_cases d : o = 1
        · rw [if_pos d]
        · rw [if_neg d, if_neg (by omega)]
      rw [j, s10_42 _ _ _ _ hb, q1]
      simp only [Option.bind_some]
    · refine ⟨Y0, ?_, a2, by unfold sl1; rw [if_neg c]; exact a3⟩
      rw [s10_32, if_neg (by omega), if_pos (by omega)]
  obtain ⟨Y1, b1, b2, b3⟩ := A1
  have hB1 : BlC Y1 x S st := h.st hV (fun c z1 z2 => b2 c (by simp; omega)) (fun _ _ _ => rfl)
  have A2 : ∃ Y : AI, ev 10 49 [some (vr x), some (vr k), some (vi (ct (mP S) i.toNat)), some (vi o)] [] (hp L b Y1 J) = ev 10 66 [some (vr x), some (vr k), some (vi (ct (mP S) i.toNat)), none] [] (hp L b Y J) ∧ Same [k, k + 1] I Y ∧ RwC Y k (slx S o i z).1 (slx S o i z).2 := by
    by_cases c : o = 2 ∨ o = 3
    · rw [if_pos c] at ol
      obtain ⟨Y, q1, q2, q3⟩ := c11 (L := L) (b := b) (J := J) hb hk' hx hV hB1 h0 h1 hP (d := 2) (by decide) b3 (by omega)
      refine ⟨Y, ?_, Same.tr b2 q2, by unfold slx sl2; rw [if_pos c]; exact q3⟩
      have j : ev 10 49 [some (vr x), some (vr k), some (vi (ct (mP S) i.toNat)), some (vi o)] [] (hp L b Y1 J) = ev 10 59 [some (vr x), some (vr k), some (vi (ct (mP S) i.toNat)), none] [] (hp L b Y1 J) := by
        rw [s10_49]
        by_cases d : o = 2
        · rw [if_pos d]
        · rw [if_neg d, if_neg (by omega)]
      rw [j, s10_59 _ _ _ hb, q1]
      simp only [Option.bind_some]
    · refine ⟨Y1, ?_, b2, by unfold slx sl2; rw [if_neg c]; exact b3⟩
      rw [s10_49, if_neg (by omega), if_pos (by omega)]
  obtain ⟨Y2, d1, d2, d3⟩ := A2
  refine ⟨Y2, ?_, d2, by rw [← ho]; exact d3⟩
  rw [a1, b1, d1]
theorem c10 {x k : Nat} (hb : isBl x = true) (hk' : isRow k = true) (hx : k + 1 < x ∨ x + 15 < k) {S : MS} (hV : MV S) {st : Int → Int} (h : BlC I x S st) (hw : (We S st).1 ≤ 24) : (fun r => ∃ I' : AI, r = some (vi 0, hp L b I' J) ∧ Same [k, k + 1] I I' ∧ RwC I' k (We S st).1 (We S st).2) (evc 10 [vr x, vr k] (hp L b I J)) := by
  have nb0 := hV.1 0 (by decide) (by decide)
  have pN := mP_N hV
  have p0 := mP_le hV nb0.1 (Int.le_refl _)
  obtain ⟨r1, -, -⟩ := (bl_all hb).1
  have st' : evc 10 [vr x, vr k] (hp L b I J) = ev 10 6 [some (vr x), some (vr k), some (vi (ct (mP S) (0 : Int).toNat)), none] [] (hp L b (upI I k 1 0) J) := by
    rw [n10, s10_0 _ _ hk', c37 hk']
    simp only [Option.bind_some]
    rw [s10_4]
    rfl
  rw [st']
  refine lp (lo := 0) (hi := S.1 0) (F := fun i (Y : AI) => ev 10 6 [some (vr x), some (vr k), some (vi (ct (mP S) i.toNat)), none] [] (hp L b Y J)) (Q := fun r => ∃ I' : AI, r = some (vi 0, hp L b I' J) ∧ Same [k, k + 1] I I' ∧ RwC I' k (We S st).1 (We S st).2) (fun i Y => Same [k, k + 1] I Y ∧ RwC Y k (Wz S st i.toNat).1 (Wz S st i.toNat).2) ?_ ?_ 0 _ (Int.le_refl _) nb0.1 ⟨fun c hc => by simp at hc; exact upI_c (by omega) _ _ _, by rw [upI_s]; rfl, fun j a c => ?_⟩
  · intro i Y g1 g2 ⟨v1, v2⟩
    right
    have hB : BlC Y x S st := h.st hV (fun c z1 z2 => v1 c (by simp; omega)) (fun _ _ _ => rfl)
    by_cases m : mA S i
    · have hP : mP S i := Or.inl m
      have le := Wz_le hV st g1 (show i ≤ S.1 0 by omega) hP
      have le2 := le.2 g2
      have wb := Wz_bd hV st i.toNat (by omega)
      have e1 := slx_1 hV (o := oc S st i) g1 hP (Wz S st i.toNat)
      have ob := oL_bd hV (o := oc S st i) g1 hP
      obtain ⟨Y1, a1, a2, a3⟩ := l10 (L := L) (b := b) (J := J) hb hk' hx hV hB g1 (by omega) hP v2 (by omega)
      obtain ⟨Y2, b1, b2, b3⟩ := c38z (L := L) (b := b) (J := J) hk' a3 (by omega) (S.2.1 0 i)
      have lt := mP_lt g1 g2 hP
      have pb := mP_le hV g1 (show i ≤ S.1 0 by omega)
      have hB1 : BlC Y1 x S st := hB.st hV (fun c z1 z2 => a2 c (by simp; omega)) (fun _ _ _ => rfl)
      have w := (hB1.2.2.2 i g1 (by omega) hP).1 0 (by decide) (by decide)
      have t0 : mT S 0 i = i := (if_neg (by omega)).trans (hV.2.1 i)
      have w2 : Y1 (x + 7) (ct (mP S) i.toNat * 6 + 1) = i := by
        have e := w.2
        rw [t0, show ct (mP S) i.toNat * 6 + 0 * 2 + 1 = ct (mP S) i.toNat * 6 + 1 by omega] at e
        exact e
      have e8 := hB1.2.1
      refine ⟨Y2, ?_, Same.tr (Same.tr v1 a2) b2, ?_⟩
      · try dsimp only
        rw [a1, s10_66 _ _ _ hb, e8, gd_t (by omega), if_neg (by omega), gd_t (by omega), gd_t (by omega), gd_t (by omega), w2, c39 r1 (by rw [hB1.1.1.1]; omega), hB1.1.1.1, if_pos (by omega), hB1.1.1.2 i g1 g2]
        simp only [Option.bind_some]
        rw [s10_95 _ _ _ _ _ hk', b1]
        simp only [Option.bind_some]
        rw [s10_98, s10_99, gd_t (by omega), ct_s g1, bI_t hP]
      · rw [Wz_s S st g1, if_pos (bI_t m)]; exact b3
    · have np : ¬ mP S i := fun z => by rcases z with y | y; exact m y; omega
      refine ⟨Y, ?_, v1, ?_⟩
      · rw [ct_s g1, bI_f np, Int.add_zero]
      · rw [Wz_s S st g1, if_neg (fun z => m (bI_1.mp z))]; exact v2
  · intro Y ⟨v1, v2⟩
    have hP : mP S (S.1 0) := Or.inr rfl
    have hB : BlC Y x S st := h.st hV (fun c z1 z2 => v1 c (by simp; omega)) (fun _ _ _ => rfl)
    have wb := Wz_bd hV st (S.1 0).toNat (by omega)
    have e1 := slx_1 hV (o := oc S st (S.1 0)) nb0.1 hP (Wz S st (S.1 0).toNat)
    have ww : (We S st).1 = (slx S (oc S st (S.1 0)) (S.1 0) (Wz S st (S.1 0).toNat)).1 := rfl
    obtain ⟨Y1, a1, a2, a3⟩ := l10 (L := L) (b := b) (J := J) hb hk' hx hV hB nb0.1 (Int.le_refl _) hP v2 (by omega)
    have hB1 : BlC Y1 x S st := hB.st hV (fun c z1 z2 => a2 c (by simp; omega)) (fun _ _ _ => rfl)
    have e8 := hB1.2.1
    refine ⟨Y1, ?_, Same.tr v1 a2, a3⟩
    try dsimp only
    rw [a1, s10_66 _ _ _ hb, e8, gd_t (by omega), if_pos (by omega), s10_99, gd_t (by omega), s10_6 _ _ _ hb, e8, if_pos (by omega)]
  · have c' : j < 0 := c
    omega
end
