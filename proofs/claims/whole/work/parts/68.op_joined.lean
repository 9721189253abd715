/-! joined, on both sides -/
section
variable {L : Nat} {b : Bool} {I : AI} {J : AJ}
/-- a shelf, by the class and, later, by the reference -/
theorem jshelf (hS : RS I I) (hP : RP I J I) (hH : RH I I) (t0 : I 115 5 ≤ 120) (hf : ∀ j, 0 ≤ j → j < 16 → I 55 j = I 155 j ∧ (-1 ≤ I 155 j ∧ I 155 j < I 115 5)) (g : ¬ hg I (I 155) 16) (hd : ¬ (fsR I (I 155) = -1 ∧ I 115 10 = 100)) : ∃ (v : Int) (I1 G1 : AI), evc 46 [vr 20, vr 55] (hp L b I J) = some (vi v, hp L b I1 J) ∧ Same [20, 21] I I1 ∧ (RS I1 G1 ∧ RP I1 J G1 ∧ RH I1 G1) ∧ (0 ≤ v ∧ v < G1 115 10) ∧ Sm [122, 123] [10] I G1 ∧ ∀ (Y : AI) (J' : AJ), (∀ c, 115 ≤ c → c ≤ 160 → Y c = I c) → ∃ Y1 : AI, evc 157 [vr 115, vr 155] (hp L b Y J') = some (vi v, hp L b Y1 J') ∧ Sm [122, 123] [10] Y Y1 ∧ Y1 122 = G1 122 ∧ Y1 123 = G1 123 ∧ Y1 115 = G1 115 := by
  have s0 := hS.1.1
  have hr : ∀ j, 0 ≤ j → j < 16 → I 155 j < 120 := fun j a c => by have := (hf j a c).2; omega
  have fse : fsC I (I 55) = fsR I (I 155) := by rw [RS_fs hS, fsR_cg (fun j a c => (hf j a c).1)]
  have fsb := fsR_bd hS.1 (f := I 155)
  have tr : ∀ Y : AI, (∀ c, 115 ≤ c → c ≤ 160 → Y c = I c) → SvR Y ∧ fsR Y (Y 155) = fsR I (I 155) ∧ ¬ hg Y (Y 155) 16 ∧ ∀ j, 0 ≤ j → j < 16 → Y 155 j < 120 := fun Y hY => by
    refine ⟨?_, ?_, ?_, ?_⟩
    · have z := hS.1; unfold SvR at *; rw [hY 115 (by decide) (by decide), hY 123 (by decide) (by decide)]; exact z
    · unfold fsR lk; rw [hY 115 (by decide) (by decide), hY 123 (by decide) (by decide), hY 122 (by decide) (by decide), hY 155 (by decide) (by decide)]
    · unfold hg; rw [hY 155 (by decide) (by decide), hY 119 (by decide) (by decide)]; exact g
    · rw [hY 155 (by decide) (by decide)]; exact hr
  by_cases c : 0 ≤ fsR I (I 155)
  · refine ⟨fsR I (I 155), I, I, by rw [← fse]; exact c46b (RS_svc hS) (by decide) (by rw [fse]; exact c), fun _ _ => rfl, ⟨hS, hP, hH⟩, ?_, Sm.rf, fun Y J' hY => ?_⟩
    · rcases fsb with z | z
      · omega
      · exact z.1
    · obtain ⟨y1, y2, y3, y4⟩ := tr Y hY
      exact ⟨Y, by rw [← y2]; exact c157b y1 (by decide) y4 y3 (by rw [y2]; exact c), Sm.rf, hY 122 (by decide) (by decide), hY 123 (by decide) (by decide), hY 115 (by decide) (by decide)⟩
  · have c' : fsR I (I 155) = -1 := by rcases fsb with z | z; exact z.1; exact absurd z.1.1 c
    have d : I 115 10 < 100 := by
      by_cases e : I 115 10 = 100
      · exact absurd ⟨c', e⟩ hd
      · omega
    obtain ⟨I1, q1, q2, q3, q4⟩ := c46c (L := L) (b := b) (J := J) (k := 55) (RS_svc hS) (by decide) (by rw [fse]; exact c') (by rw [hS.2.1]; exact d)
    rw [hS.2.1] at q1 q3 q4
    obtain ⟨G1, x1, x2, x3, x4, x5, x6⟩ := c157c (L := L) (b := b) (J := J) (k := 155) hS.1 (by decide) hr g c' d
    refine ⟨I 115 10, I1, G1, q1, q2, sh_new hS hP hH hf g d q2 q3 q4 x2 x3 x4 x5 x6, by omega, x2, fun Y J' hY => ?_⟩
    obtain ⟨y1, y2, y3, y4⟩ := tr Y hY
    have e115 := hY 115 (by decide) (by decide)
    obtain ⟨Y1, w1, w2, w3, w4, w5, w6⟩ := c157c (L := L) (b := b) (J := J') (k := 155) y1 (by decide) y4 y3 (by rw [y2]; exact c') (by rw [e115]; exact d)
    rw [e115] at w1 w3 w4 w5 w6
    refine ⟨Y1, w1, w2, ?_, ?_, ?_⟩
    · funext x
      rw [w6, x6, hY 155 (by decide) (by decide), hY 122 (by decide) (by decide)]
    · funext s
      by_cases e : s = I 115 10
      · rw [e, w4, x4]
      · rw [w5 s e, x5 s e, hY 123 (by decide) (by decide)]
    · funext j
      by_cases e : j = 10
      · rw [e, w3, x3]
      · rw [w2.2 j (by simp; exact e), x2.2 j (by simp; exact e), e115]
end
