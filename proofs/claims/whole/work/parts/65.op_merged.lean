/-! the reference: make, makeSpan, makeSettled, merged; the call on both sides -/
def RZ (I : AI) (z : Int × (Int → Int)) : Prop := I 115 48 = z.1 ∧ ∀ y, 0 ≤ y → y < z.1 → I 151 y = z.2 y
section
variable {L : Nat} {b : Bool} {I : AI} {J : AJ}
theorem c188 {z : Int × (Int → Int)} (h : RZ I z) (h0 : 0 ≤ z.1 ∧ z.1 < 1600) (v : Int) : ∃ I' : AI, evc 188 [vr 115, vi v] (hp L b I J) = some (vi 0, hp L b I' J) ∧ Sm [151] [48] I I' ∧ RZ I' (pu z v) := by
  have e := h.1
  refine ⟨upI (upI I 151 (I 115 48) v) 115 48 (I 115 48 + 1), ?_, (Sm.rf.up (by simp) (by decide)).fld (by simp), ?_, fun y a c => ?_⟩
  · have e1 : (upI I 151 (I 115 48) v) 115 48 = I 115 48 := by rw [upI_c (by decide)]
    rw [n188, s188_0, e1, gd_t (by omega), gd_t (by omega)]
  · rw [upI_s, e]; rfl
  · rw [upI_c (by decide), upI_w, e]
    show _ = if y = z.1 then v else z.2 y
    by_cases k : y = z.1
    · rw [if_pos k, if_pos k]
    · rw [if_neg k, if_neg k]
      have c' : y < z.1 + 1 := c
      exact h.2 y a (by omega)
theorem c189 {z : Int × (Int → Int)} (h : RZ I z) {c d n : Int} {f : Int → Int} (hc : 0 ≤ c ∧ c ≤ 24) (hd : 0 ≤ d ∧ d ≤ 2) (hn : 0 ≤ n ∧ n ≤ 24) (e : I 149 (4 * c + d) = n) (hf : ∀ x, 0 ≤ x → x < n → I 148 (24 * (4 * c + d) + x) = f x) (h0 : 0 ≤ z.1 ∧ z.1 + n ≤ 1600) : (fun r => ∃ I' : AI, r = some (vi 0, hp L b I' J) ∧ Sm [151] [48] I I' ∧ RZ I' (pus z f n.toNat)) (evc 189 [vr 115, vi c, vi d] (hp L b I J)) := by
  rw [n189, s189_0]
  refine lp (lo := 0) (hi := n) (F := fun j (Y : AI) => ev 189 2 [some (vr 115), some (vi c), some (vi d), some (vi j)] [] (hp L b Y J)) (Q := fun r => ∃ I' : AI, r = some (vi 0, hp L b I' J) ∧ Sm [151] [48] I I' ∧ RZ I' (pus z f n.toNat)) (fun j Y => Sm [151] [48] I Y ∧ RZ Y (pus z f j.toNat)) ?_ ?_ 0 I (Int.le_refl _) hn.1 ⟨Sm.rf, h⟩
  · intro j Y g1 g2 ⟨v1, v2⟩
    right
    have p1 := pus_1 z f j.toNat
    obtain ⟨Y', a1, a2, a3⟩ := c188 (L := L) (b := b) (J := J) v2 (by omega) (f j)
    refine ⟨Y', ?_, Sm.tr v1 a2, by rw [pus_s _ _ g1]; exact a3⟩
    try dsimp only
    rw [s189_2, v1.1 149 (by decide) (by decide), v1.1 148 (by decide) (by decide), e, gd_t (by omega), gd_t (by omega), gd_t (by omega), if_neg (by omega), gd_t (by omega), gd_t (by omega), gd_t (by omega), gd_t (by omega), gd_t (by omega), hf j g1 g2, a1]
    simp only [Option.bind_some]
    rw [s189_35, gd_t (by omega)]
  · intro Y ⟨v1, v2⟩
    refine ⟨Y, ?_, v1, v2⟩
    try dsimp only
    rw [s189_2, v1.1 149 (by decide) (by decide), e, gd_t (by omega), gd_t (by omega), gd_t (by omega), if_pos (Int.le_refl _)]
/-- the spans of a conflict, in the reference's cells -/
def PcC (I : AI) (S : MS) (i : Int) : Prop := ∀ d, 0 ≤ d → d ≤ 2 → I 149 (4 * ct (mC S) i.toNat + d) = mL S d i ∧ ∀ x, 0 ≤ x → x < mL S d i → I 148 (24 * (4 * ct (mC S) i.toNat + d) + x) = S.2.1 d (mF S d i.toNat + x)
theorem c190 {S : MS} (hV : MV S) {i : Int} (h0 : 0 ≤ i) (h1 : i ≤ S.1 0) (hi : mC S i) (hC : PcC I S i) {z : Int × (Int → Int)} (h : RZ I z) (hz : 0 ≤ z.1 ∧ z.1 ≤ 1500) : (fun r => ∃ I' : AI, r = some (vi 0, hp L b I' J) ∧ Sm [151] [48] I I' ∧ RZ I' (slx S (I 150 (ct (mC S) i.toNat)) i z)) (evc 190 [vr 115, vi (ct (mC S) i.toNat)] (hp L b I J)) := by
  have cb := mC_ct S i.toNat
  have pb := mP_le hV h0 h1
  obtain ⟨c, hc⟩ : ∃ c, c = ct (mC S) i.toNat := ⟨_, rfl⟩
  unfold PcC at hC
  rw [← hc] at hC cb ⊢
  have sp : ∀ (Y : AI) (w : Int × (Int → Int)) (d : Int), 0 ≤ d → d ≤ 2 → Sm [151] [48] I Y → RZ Y w → 0 ≤ w.1 → w.1 ≤ 1550 → ∃ Y' : AI, evc 189 [vr 115, vi c, vi d] (hp L b Y J) = some (vi 0, hp L b Y' J) ∧ Sm [151] [48] I Y' ∧ RZ Y' (spn S d i w) := fun Y w d d0 d1 s r w0 w1 => by
    have l := mL_bd hV (d := d) ⟨d0, d1⟩ h0 hi.1
    have q := hC d d0 d1
    obtain ⟨Y', a1, a2, a3⟩ := c189 (L := L) (b := b) (J := J) r (c := c) (d := d) (n := mL S d i) (f := fun x => S.2.1 d (mF S d i.toNat + x)) (by omega) ⟨d0, d1⟩ l (by rw [s.1 149 (by decide) (by decide)]; exact q.1) (by rw [s.1 148 (by decide) (by decide)]; exact q.2) (by omega)
    exact ⟨Y', a1, s.tr a2, a3⟩
  obtain ⟨o, ho⟩ : ∃ o, o = I 150 c := ⟨_, rfl⟩
  have s0 := (sl_1 hV (o := o) h0 hi.1 z).1
  have s1 := (sl_1 hV (o := o) h0 hi.1 (sl0 S o i z)).2.1
  have l0 := mL_bd hV (d := 0) (by decide) h0 hi.1
  have l1 := mL_bd hV (d := 1) (by decide) h0 hi.1
  have A0 : ∃ Y : AI, evc 190 [vr 115, vi c] (hp L b I J) = ev 190 15 [some (vr 115), some (vi c)] [] (hp L b Y J) ∧ Sm [151] [48] I Y ∧ RZ Y (sl0 S o i z) ∧ 0 ≤ (sl0 S o i z).1 ∧ (sl0 S o i z).1 ≤ 1524 := by
    by_cases k : o = 0
    · rw [if_pos k] at s0
      obtain ⟨Y, a1, a2, a3⟩ := sp I z 0 (by decide) (by decide) Sm.rf h hz.1 (by omega)
      refine ⟨Y, ?_, a2, by unfold sl0; rw [if_pos k]; exact a3, by omega, by omega⟩
      rw [n190, s190_0, gd_t (by omega), ← ho, if_neg (fun y => y k), a1]
      simp only [Option.bind_some]
    · rw [if_neg k] at s0
      refine ⟨I, ?_, Sm.rf, by unfold sl0; rw [if_neg k]; exact h, by omega, by omega⟩
      rw [n190, s190_0, gd_t (by omega), ← ho, if_pos k]
  obtain ⟨Y0, a1, a2, a3, a4, a5⟩ := A0
  have o0 : Y0 150 c = o := by rw [a2.1 150 (by decide) (by decide), ho]
  have A1 : ∃ Y : AI, ev 190 15 [some (vr 115), some (vi c)] [] (hp L b Y0 J) = ev 190 41 [some (vr 115), some (vi c)] [] (hp L b Y J) ∧ Sm [151] [48] I Y ∧ RZ Y (sl1 S o i (sl0 S o i z)) ∧ 0 ≤ (sl1 S o i (sl0 S o i z)).1 ∧ (sl1 S o i (sl0 S o i z)).1 ≤ 1548 := by
    by_cases k : o = 1 ∨ o = 3
    · rw [if_pos k] at s1
      obtain ⟨Y, q1, q2, q3⟩ := sp Y0 _ 1 (by decide) (by decide) a2 a3 a4 (by omega)
      refine ⟨Y, ?_, q2, by unfold sl1; rw [if_pos k]; exact q3, by omega, by omega⟩
      have j : ev 190 15 [some (vr 115), some (vi c)] [] (hp L b Y0 J) = ev 190 35 [some (vr 115), some (vi c)] [] (hp L b Y0 J) := by
        rw [s190_15, o0, gd_t (by omega)]
        by_cases d : o = 1
        · rw [if_pos d]
        · rw [if_neg d, gd_t (by omega), if_neg (by omega)]
      rw [j, s190_35, q1]
      simp only [Option.bind_some]
    · rw [if_neg k] at s1
      refine ⟨Y0, ?_, a2, by unfold sl1; rw [if_neg k]; exact a3, by omega, by omega⟩
      rw [s190_15, o0, gd_t (by omega), if_neg (by omega), gd_t (by omega), if_pos (by omega)]
  obtain ⟨Y1, b1, b2, b3, b4, b5⟩ := A1
  have o1 : Y1 150 c = o := by rw [b2.1 150 (by decide) (by decide), ho]
  have A2 : ∃ Y : AI, ev 190 41 [some (vr 115), some (vi c)] [] (hp L b Y1 J) = some (vi 0, hp L b Y J) ∧ Sm [151] [48] I Y ∧ RZ Y (slx S o i z) := by
    by_cases k : o = 2 ∨ o = 3
    · obtain ⟨Y, q1, q2, q3⟩ := sp Y1 _ 2 (by decide) (by decide) b2 b3 b4 (by omega)
      refine ⟨Y, ?_, q2, by unfold slx sl2; rw [if_pos k]; exact q3⟩
      have j : ev 190 41 [some (vr 115), some (vi c)] [] (hp L b Y1 J) = ev 190 61 [some (vr 115), some (vi c)] [] (hp L b Y1 J) := by
        rw [s190_41, o1, gd_t (by omega)]
        by_cases d : o = 2
        · rw [if_pos d]
        · rw [if_neg d, gd_t (by omega), if_neg (by omega)]
      rw [j, s190_61, q1]
      simp only [Option.bind_some]
      rw [s190_67]
    · refine ⟨Y1, ?_, b2, by unfold slx sl2; rw [if_neg k]; exact b3⟩
      rw [s190_41, o1, gd_t (by omega), if_neg (by omega), gd_t (by omega), if_pos (by omega), s190_67]
  obtain ⟨Y2, d1, d2, d3⟩ := A2
  refine ⟨Y2, ?_, d2, by rw [← ho]; exact d3⟩
  rw [a1, b1, d1]
end
