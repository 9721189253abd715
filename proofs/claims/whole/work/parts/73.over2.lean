/-! the class: planOver -/
section
variable {L : Nat} {b : Bool} {I : AI} {J : AJ}
def cOv : List Nat := [2, 53, 56, 57, 58, 59, 60, 61, 62, 63, 64, 65, 66, 67, 68, 69, 70, 71, 72, 73, 74, 75, 76, 77, 78, 79, 80, 81, 82, 83, 84, 85, 86, 87, 88, 89, 90, 91, 92, 93, 94, 95, 96, 97, 98, 99, 100, 101, 102, 103]
theorem on_bd {G : AI} (hS : RS I G) (hP : RP I J G) (h0 : 0 ≤ G 115 5) {y j : Int} (hy : y < G 115 16) (hj : 0 ≤ j ∧ j < 16) : -1 ≤ onS G y j ∧ onS G y j < G 115 5 := by
  unfold onS
  by_cases c : 0 ≤ y
  · rw [if_pos c]
    have z := (hP.2.2.1 y c hy).2.1
    exact ((hS.2.2.1 _ z.1 z.2).2 j hj.1 hj.2).2.1
  · rw [if_neg c]; omega
theorem c22R {G : AI} (hT : RT I G) (hS : RS I G) (hP : RP I J G) {x s t : Int} (hx : -1 ≤ x ∧ x < G 115 16) (hs : 0 ≤ s ∧ s < G 115 16) (ht : 0 ≤ t ∧ t < G 115 16) : (fun r => ∃ I' : AI, r = some (vi (if bI (gone G x s t) = 1 then -2 else clsh G x s t 16), hp L b I' J) ∧ Same cOv I I' ∧ (¬ gone G x s t → ∀ j, 0 ≤ j → j < 16 → PlC1 I' G x s t j)) (evc 22 [vr 51, vi x, vi s, vi t] (hp L b I J)) := by
  have t0 := hT.1.1
  have p0 := hP.1.1
  rw [n22, s22_0]
  refine lp (lo := 0) (hi := 16) (F := fun i (z : Int × AI) => ev 22 6 [some (vr 51), some (vi x), some (vi s), some (vi t), some (vi z.1), some (vi i), none, none, none] [] (hp L b z.2 J)) (Q := fun r => ∃ I' : AI, r = some (vi (if bI (gone G x s t) = 1 then -2 else clsh G x s t 16), hp L b I' J) ∧ Same cOv I I' ∧ (¬ gone G x s t → ∀ j, 0 ≤ j → j < 16 → PlC1 I' G x s t j)) (fun i z => z.1 = clsh G x s t i.toNat ∧ Same cOv I z.2 ∧ ∀ j, 0 ≤ j → j < i → pvj G x s t j ≠ -2 ∧ PlC1 z.2 G x s t j) ?_ ?_ 0 (0, I) (Int.le_refl _) (by decide) ⟨rfl, fun _ _ => rfl, fun j a c => by omega⟩
  · intro i z g1 g2 ⟨v1, v2, v3⟩
    have oz : ∀ c, c ∉ cOv → z.2 c = I c := v2
    have hT' : RT z.2 G := hT.cg (fun c hc => oz c (by revert c; decide)) (fun _ _ => rfl) rfl
    have hS' : RS z.2 G := hS.cg (fun c hc => oz c (by revert c; decide)) (fun _ _ => rfl) rfl rfl
    have get : ∀ y, 0 ≤ y → y < G 115 16 → evc 43 [vr 20, vi (z.2 24 y), vi i] (hp L b z.2 J) = some (vi (onS G y i), hp L b z.2 J) := fun y y0 y1 => by
      have q := hP.2.2.1 y y0 y1
      rw [oz 24 (by decide), q.1, c43R hS' q.2.1 ⟨g1, g2⟩]
      unfold onS
      rw [if_pos y0]
    have st : ev 22 6 [some (vr 51), some (vi x), some (vi s), some (vi t), some (vi z.1), some (vi i), none, none, none] [] (hp L b z.2 J) = ev 22 40 [some (vr 51), some (vi x), some (vi s), some (vi t), some (vi z.1), some (vi i), none, none, none] [vi (onS G x i)] (hp L b z.2 J) := by
      rw [s22_6, if_neg (by omega)]
      by_cases e : x = -1
      · rw [if_neg (fun y => y e), e]
        rfl
      · rw [if_pos e, gd_t (by omega), get x (by omega) hx.2]
        simp only [Option.bind_some]
    obtain ⟨Y, w1, w2, w3⟩ := c23R (L := L) (b := b) (I := z.2) (J := J) hT' (j := i) ⟨g1, g2⟩ (on_bd hS hP t0.1 hx.2 ⟨g1, g2⟩) (on_bd hS hP t0.1 hs.2 ⟨g1, g2⟩) (on_bd hS hP t0.1 ht.2 ⟨g1, g2⟩)
    have st2 : ev 22 6 [some (vr 51), some (vi x), some (vi s), some (vi t), some (vi z.1), some (vi i), none, none, none] [] (hp L b z.2 J) = ev 22 100 [some (vr 51), some (vi x), some (vi s), some (vi t), some (vi z.1), some (vi i), none, none, none] [vi (pvj G x s t i), vi i, vr 53] (hp L b Y J) := by
      rw [st, s22_40, gd_t (by omega), get s hs.1 hs.2]
      simp only [Option.bind_some]
      rw [s22_60, gd_t (by omega), get t ht.1 ht.2]
      simp only [Option.bind_some]
      rw [s22_80, w1]
      simp only [Option.bind_some]
      rfl
    have fr : Same cOv z.2 (upI Y 53 i (pvj G x s t i)) := fun c hc => by
      have c53 : c ≠ 53 := fun e => hc (by rw [e]; decide)
      rw [upI_c c53]
      refine w2 c (fun y => hc ?_)
      unfold cPl at y
      unfold cOv
      simp at y ⊢
      omega
    by_cases k : pvj G x s t i = -2
    · left
      refine ⟨upI Y 53 i (pvj G x s t i), ?_, Same.tr v2 fr, fun y => absurd ⟨i, ⟨g1, g2⟩, k⟩ y⟩
      try dsimp only
      rw [st2, s22_100, gd_t (by omega), gd_t (by omega), upI_s, if_neg (fun y => y k), if_pos (bI_t ⟨i, ⟨g1, g2⟩, k⟩)]
    · right
      have cb := ct_bd (p := fun j => pvj G x s t j = -3) i.toNat
      have cs := ct_s (p := fun j => pvj G x s t j = -3) g1
      unfold clsh at v1
      refine ⟨(clsh G x s t (i + 1).toNat, upI Y 53 i (pvj G x s t i)), ?_, rfl, Same.tr v2 fr, fun j a c => ?_⟩
      · try dsimp only
        unfold clsh
        rw [st2, s22_100, gd_t (by omega), gd_t (by omega), upI_s, if_pos k, gd_t (by omega), cs]
        by_cases e : pvj G x s t i = -3
        · rw [if_neg (fun y => y e), v1, gd_t (by omega), s22_131, gd_t (by omega), bI_t e]
        · rw [if_pos e, v1, s22_131, gd_t (by omega), bI_f e, Int.add_zero]
      · by_cases e : j = i
        · rw [e]
          refine ⟨k, upI_s _ _ _ _, fun y => ?_⟩
          have q := w3 y
          exact ⟨q.1, q.2.cg (upI_c (by omega) _ _ _) (upI_c (by omega) _ _ _)⟩
        · have old := v3 j a (by omega)
          refine ⟨old.1, ?_, fun y => ?_⟩
          · show (upI Y 53 i (pvj G x s t i)) 53 j = _
            rw [upI_i e, w2 53 (by unfold cPl; simp; omega)]; exact old.2.1
          · have q := old.2.2 y
            refine ⟨q.1, q.2.cg ?_ ?_⟩
            · show (upI Y 53 i (pvj G x s t i)) _ = _
              rw [upI_c (by omega), w2 _ (by unfold cPl; simp; omega)]
            · show (upI Y 53 i (pvj G x s t i)) _ = _
              rw [upI_c (by omega), w2 _ (by unfold cPl; simp; omega)]
  · intro z ⟨v1, v2, v3⟩
    have ng : ¬ gone G x s t := fun ⟨j, j0, j1⟩ => (v3 j j0.1 j0.2).1 j1
    refine ⟨z.2, ?_, v2, fun _ j j0 j1 => (v3 j j0 j1).2⟩
    try dsimp only
    rw [s22_6, if_pos (Int.le_refl _), if_neg (fun y => ng (bI_1.mp y)), v1]
    rfl
end
