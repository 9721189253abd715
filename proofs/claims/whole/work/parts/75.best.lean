/-! the class: bestBase -/
section
variable {L : Nat} {b : Bool} {I : AI} {J : AJ}
noncomputable def bb (G : AI) (s t : Int) (A : Int) (n : Nat) : Int × Int := am (baG G s t) (fun c => clsh G c s t 16) A n
theorem clsh_bd (G : AI) (x s t : Int) : 0 ≤ clsh G x s t 16 ∧ clsh G x s t 16 ≤ 16 := ct_bd 16
theorem c20R {G : AI} (hT : RT I G) (hS : RS I G) (hP : RP I J G) {s t : Int} (hs : 0 ≤ s ∧ s < G 115 16) (ht : 0 ≤ t ∧ t < G 115 16) (hb : ∀ c, sb J 52 c ↔ baG G s t c) : (fun r => (∃ c, baG G s t c ∧ gone G c s t) ∧ (∃ I' : AI, r = some (vi (-2), hp L b I' J) ∧ Same cOv I I') ∨ (∀ c, baG G s t c → ¬ gone G c s t) ∧ ∃ I' : AI, r = some (vi (bb G s t 17 80).1, hp L b I' J) ∧ Same cOv I I') (evc 20 [vr 51, vi s, vi t] (hp L b I J)) := by
  have p0 := hP.1.1
  rw [n20, s20_0]
  refine lp (lo := 0) (hi := 80) (F := fun i (Y : AI) => ev 20 9 [some (vr 51), some (vi s), some (vi t), some (vi (bb G s t 17 i.toNat).1), some (vi (bb G s t 17 i.toNat).2), some (vi i), none] [] (hp L b Y J)) (Q := fun r => (∃ c, baG G s t c ∧ gone G c s t) ∧ (∃ I' : AI, r = some (vi (-2), hp L b I' J) ∧ Same cOv I I') ∨ (∀ c, baG G s t c → ¬ gone G c s t) ∧ ∃ I' : AI, r = some (vi (bb G s t 17 80).1, hp L b I' J) ∧ Same cOv I I') (fun i Y => Same cOv I Y ∧ ∀ c, 0 ≤ c → c < i → baG G s t c → ¬ gone G c s t) ?_ ?_ 0 I (Int.le_refl _) (by decide) ⟨fun _ _ => rfl, fun c z1 z2 => by omega⟩
  · intro i Y g1 g2 ⟨v1, v2⟩
    have oz : ∀ c, c ∉ cOv → Y c = I c := v1
    have st : ∀ p q, ev 20 9 [some (vr 51), some (vi s), some (vi t), some (vi p), some (vi q), some (vi i), none] [] (hp L b Y J) = ev 20 25 [some (vr 51), some (vi s), some (vi t), some (vi p), some (vi q), some (vi i), none] [vi (bI (baG G s t i))] (hp L b Y J) := fun p q => by
      rw [s20_9, if_neg (by omega), c50 (by decide), bI_cg (show i < 80 ∧ sb J 52 i ↔ baG G s t i from ⟨fun z => (hb i).mp z.2, fun z => ⟨g2, (hb i).mpr z⟩⟩)]
      simp only [Option.bind_some]
    by_cases d : baG G s t i
    · have ib := ba_bq hP.1 hs d
      have hT' : RT Y G := hT.cg (fun c hc => oz c (by revert c; decide)) (fun _ _ => rfl) rfl
      have hS' : RS Y G := hS.cg (fun c hc => oz c (by revert c; decide)) (fun _ _ => rfl) rfl rfl
      have hP' : RP Y J G := hP.cg (fun c hc => oz c (by revert c; decide)) (fun _ _ => rfl) (fun _ _ => rfl) rfl rfl
      obtain ⟨Z, w1, w2, -⟩ := c22R (L := L) (b := b) (J := J) hT' hS' hP' (x := i) ⟨by omega, ib.2⟩ hs ht
      have cb := clsh_bd G i s t
      by_cases k : gone G i s t
      · left
        refine Or.inl ⟨⟨i, d, k⟩, Z, ?_, Same.tr v1 w2⟩
        try dsimp only
        rw [st, bI_t d, s20_25, if_neg (by decide), w1, if_pos (bI_t k)]
        simp only [Option.bind_some]
        rw [s20_36, if_neg (fun z => z rfl)]
      · right
        refine ⟨Z, ?_, Same.tr v1 w2, fun c z1 z2 z3 => by by_cases y : c = i; rw [y]; exact k; exact v2 c z1 (by omega) z3⟩
        try dsimp only
        rw [st, bI_t d, s20_25, if_neg (by decide), w1, if_neg (fun z => k (bI_1.mp z))]
        simp only [Option.bind_some]
        rw [s20_36, if_pos (by omega)]
        unfold bb
        by_cases e : (am (baG G s t) (fun c => clsh G c s t 16) 17 i.toNat).2 ≤ clsh G i s t 16
        · rw [if_pos e, s20_62, gd_t (by omega), am_f g1 (fun z => by have := z.2; omega)]
        · rw [if_neg e, s20_62, gd_t (by omega), am_t g1 d (by omega)]
    · right
      refine ⟨Y, ?_, v1, fun c z1 z2 z3 => by by_cases y : c = i; exact absurd (y ▸ z3) d; exact v2 c z1 (by omega) z3⟩
      try dsimp only
      unfold bb
      rw [st, bI_f d, s20_25, if_pos rfl, s20_62, gd_t (by omega), am_f g1 (fun z => d z.1)]
  · intro Y ⟨v1, v2⟩
    right
    refine ⟨fun c z => ?_, Y, ?_, v1⟩
    · have ib := ba_bq hP.1 hs z
      exact v2 c ib.1 (by omega) z
    · try dsimp only
      rw [s20_9, if_pos (Int.le_refl _)]
      rfl
end
