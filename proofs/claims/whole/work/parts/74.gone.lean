/-! a shelf is gone: shelfIsGone, isAnyGone -/
def gn (G : AI) (s t : Int) : Prop := (G 123 (G 125 s) ≠ 0 ∨ G 123 (G 125 t) ≠ 0) ∨ ∃ c, (0 ≤ c ∧ c < G 115 16) ∧ baG G s t c ∧ G 123 (G 125 c) ≠ 0
section
variable {L : Nat} {b : Bool} {I : AI} {J : AJ}
theorem ba_bq {G : AI} (hP : StR G) {s t c : Int} (hs : 0 ≤ s ∧ s < G 115 16) (h : baG G s t c) : 0 ≤ c ∧ c < G 115 16 := by
  have := An.le h.1.1 hP.ls hs.1 hs.2
  omega
theorem sh_iff {G : AI} (hP : RP I J G) {y : Int} (hy : 0 ≤ y ∧ y < G 115 16) : shR G (G 125 y) ↔ G 123 (G 125 y) = 0 := by
  have z := (hP.2.2.1 y hy.1 hy.2).2.1
  unfold shR
  exact ⟨fun q => q.2, fun q => ⟨z, q⟩⟩
theorem c21R {G : AI} (hS : RS I G) (hP : RP I J G) {s t : Int} (hs : 0 ≤ s ∧ s < G 115 16) (ht : 0 ≤ t ∧ t < G 115 16) (hb : ∀ c, sb J 52 c ↔ baG G s t c) : evc 21 [vr 51, vi s, vi t] (hp L b I J) = some (vi (bI (gn G s t)), hp L b I J) := by
  have p0 := hP.1.1
  have get : ∀ y, 0 ≤ y → y < G 115 16 → evc 42 [vr 20, vi (I 24 y)] (hp L b I J) = some (vi (bI (G 123 (G 125 y) = 0)), hp L b I J) := fun y y0 y1 => by
    rw [(hP.2.2.1 y y0 y1).1, c42R hS, bI_cg (sh_iff hP ⟨y0, y1⟩)]
  rw [n21, s21_0, gd_t (by omega), get s hs.1 hs.2]
  simp only [Option.bind_some]
  rw [s21_16]
  by_cases c1 : G 123 (G 125 s) = 0
  · rw [bI_t c1, if_neg (by decide), gd_t (by omega), get t ht.1 ht.2]
    simp only [Option.bind_some]
    rw [s21_35]
    by_cases c2 : G 123 (G 125 t) = 0
    · rw [bI_t c2, if_pos (by decide)]
      refine lp (lo := 0) (hi := 80) (F := fun i (_ : Unit) => ev 21 42 [some (vr 51), none, none, some (vi i)] [] (hp L b I J)) (Q := fun r => r = some (vi (bI (gn G s t)), hp L b I J)) (fun i _ => ∀ c, 0 ≤ c → c < i → baG G s t c → G 123 (G 125 c) = 0) ?_ ?_ 0 () (Int.le_refl _) (by decide) (fun c z1 z2 => by omega)
      · intro i _ g1 g2 v
        have st : ev 21 42 [some (vr 51), none, none, some (vi i)] [] (hp L b I J) = ev 21 56 [some (vr 51), none, none, some (vi i)] [vi (bI (baG G s t i))] (hp L b I J) := by
          rw [s21_42, if_neg (by omega), c50 (by decide), bI_cg (show i < 80 ∧ sb J 52 i ↔ baG G s t i from ⟨fun z => (hb i).mp z.2, fun z => ⟨g2, (hb i).mpr z⟩⟩)]
          simp only [Option.bind_some]
        by_cases d : baG G s t i
        · have ib := ba_bq hP.1 hs d
          by_cases e : G 123 (G 125 i) = 0
          · right
            refine ⟨(), ?_, fun c z1 z2 z3 => by by_cases y : c = i; rw [y]; exact e; exact v c z1 (by omega) z3⟩
            try dsimp only
            rw [st, bI_t d, s21_56, if_neg (by decide), gd_t (by omega), get i ib.1 ib.2, bI_t e]
            simp only [Option.bind_some]
            rw [s21_75, if_pos (by decide), s21_80, gd_t (by omega)]
          · left
            try dsimp only
            rw [st, bI_t d, s21_56, if_neg (by decide), gd_t (by omega), get i ib.1 ib.2, bI_f e]
            simp only [Option.bind_some]
            rw [s21_75, if_neg (by decide), gd_t (by decide), bI_t (show gn G s t from Or.inr ⟨i, ib, d, e⟩)]
        · right
          refine ⟨(), ?_, fun c z1 z2 z3 => by by_cases y : c = i; exact absurd (y ▸ z3) d; exact v c z1 (by omega) z3⟩
          try dsimp only
          rw [st, bI_f d, s21_56, if_pos rfl, s21_80, gd_t (by omega)]
      · intro _ v
        try dsimp only
        rw [s21_42, if_pos (Int.le_refl _), gd_t (by decide), bI_f]
        rintro (z | ⟨c, z1, z2, z3⟩)
        · rcases z with z | z
          · exact z c1
          · exact z c2
        · exact z3 (v c z1.1 (by omega) z2)
    · rw [bI_f c2, if_neg (by decide), s21_38, gd_t (by decide), bI_t (show gn G s t from Or.inl (Or.inr c2))]
  · rw [bI_f c1, if_pos rfl, s21_38, gd_t (by decide), bI_t (show gn G s t from Or.inl (Or.inl c1))]
theorem c197R {G : AI} {J' : AJ} {K : AI} (hP : RP K J' G) (hg : ∀ c ∈ [123, 125], I c = G c) {s t : Int} (hs : 0 ≤ s ∧ s < G 115 16) (ht : 0 ≤ t ∧ t < G 115 16) (h10 : G 115 10 ≤ 100) (hn : I 115 23 = ct (baG G s t) (G 115 16).toNat) (hb : ∀ c, 0 ≤ c → c < G 115 16 → baG G s t c → I 134 (ct (baG G s t) c.toNat) = c) : evc 197 [vr 115, vi s, vi t] (hp L b I J) = some (vi (bI (gn G s t)), hp L b I J) := by
  have p0 := hP.1.1
  have bd : ∀ y, 0 ≤ y → y < G 115 16 → 0 ≤ G 125 y ∧ G 125 y < 100 := fun y y0 y1 => by have := (hP.2.2.1 y y0 y1).2.1; omega
  have bs := bd s hs.1 hs.2
  have bt := bd t ht.1 ht.2
  have cb := ct_bd (p := baG G s t) (G 115 16).toNat
  have e3 := hg 123 (by decide)
  have e5 := hg 125 (by decide)
  have st : evc 197 [vr 115, vi s, vi t] (hp L b I J) = ev 197 37 [some (vr 115), none, none, some (vi (bI (G 123 (G 125 s) ≠ 0 ∨ G 123 (G 125 t) ≠ 0))), some (vi 0)] [] (hp L b I J) := by
    rw [n197, s197_0, e3, e5, gd_t (by omega), gd_t (by omega)]
    by_cases c1 : G 123 (G 125 s) = 0
    · rw [if_neg (fun z => z c1), gd_t (by omega), gd_t (by omega)]
      by_cases c2 : G 123 (G 125 t) = 0
      · rw [if_pos c2, s197_33, bI_f (fun z => by rcases z with y | y; exact y c1; exact y c2)]
      · rw [if_neg c2, s197_28, s197_33, bI_t (Or.inr c2)]
    · rw [if_pos c1, s197_28, s197_33, bI_t (Or.inl c1)]
  rw [st]
  refine lp (lo := 0) (hi := ct (baG G s t) (G 115 16).toNat) (F := fun i (v : Int) => ev 197 37 [some (vr 115), none, none, some (vi v), some (vi i)] [] (hp L b I J)) (Q := fun r => r = some (vi (bI (gn G s t)), hp L b I J)) (fun k v => v = bI ((G 123 (G 125 s) ≠ 0 ∨ G 123 (G 125 t) ≠ 0) ∨ ∃ c, (0 ≤ c ∧ c < G 115 16) ∧ (baG G s t c ∧ ct (baG G s t) c.toNat < k) ∧ G 123 (G 125 c) ≠ 0)) ?_ ?_ 0 _ (Int.le_refl _) cb.1 (bI_cg ⟨Or.inl, fun z => by
    rcases z with z | ⟨c, z1, z2, z3⟩
    · exact z
    · have := (ct_bd (p := baG G s t) c.toNat).1; omega⟩)
  · intro k v g1 g2 hv
    right
    obtain ⟨c, c1, c2, c3⟩ := ct_ex (p := baG G s t) (G 115 16).toNat k g1 g2
    have c1' : 0 ≤ c ∧ c < G 115 16 := by omega
    have e134 : I 134 k = c := by rw [← c3]; exact hb c c1'.1 c1'.2 c2
    have bc := bd c c1'.1 c1'.2
    refine ⟨_, ?_, rfl⟩
    try dsimp only
    by_cases d : (G 123 (G 125 s) ≠ 0 ∨ G 123 (G 125 t) ≠ 0) ∨ ∃ c, (0 ≤ c ∧ c < G 115 16) ∧ (baG G s t c ∧ ct (baG G s t) c.toNat < k) ∧ G 123 (G 125 c) ≠ 0
    · rw [bI_t d] at hv
      have d' : (G 123 (G 125 s) ≠ 0 ∨ G 123 (G 125 t) ≠ 0) ∨ ∃ c, (0 ≤ c ∧ c < G 115 16) ∧ (baG G s t c ∧ ct (baG G s t) c.toNat < k + 1) ∧ G 123 (G 125 c) ≠ 0 := by
        rcases d with z | ⟨y, y1, y2, y3⟩
        · exact Or.inl z
        · exact Or.inr ⟨y, y1, ⟨y2.1, by omega⟩, y3⟩
      clear d
      rw [s197_37, hn, if_neg (by omega), if_pos (by rw [hv]; decide), s197_70, s197_75, gd_t (by clear d'; omega), bI_t d']
    · rw [bI_f d] at hv
      rw [s197_37, hn, if_neg (by omega), if_neg (fun z => z hv), gd_t (by omega), e134, e5, e3, gd_t (by omega), gd_t (by omega)]
      by_cases e : G 123 (G 125 c) = 0
      · have d' : ¬ ((G 123 (G 125 s) ≠ 0 ∨ G 123 (G 125 t) ≠ 0) ∨ ∃ c, (0 ≤ c ∧ c < G 115 16) ∧ (baG G s t c ∧ ct (baG G s t) c.toNat < k + 1) ∧ G 123 (G 125 c) ≠ 0) := by
          rintro (z | ⟨y, y1, y2, y3⟩)
          · exact d (Or.inl z)
          · by_cases f : ct (baG G s t) y.toNat < k
            · exact d (Or.inr ⟨y, y1, ⟨y2.1, f⟩, y3⟩)
            · have : y = c := ct_inj y1.1 c1'.1 y2.1 c2 (by omega)
              exact y3 (by rw [this]; exact e)
        rw [if_pos e, s197_75, gd_t (by omega), bI_f d']
      · rw [if_neg e, s197_70, s197_75, gd_t (by omega), bI_t (Or.inr ⟨c, c1', ⟨c2, by omega⟩, e⟩)]
  · intro v hv
    have q : ((G 123 (G 125 s) ≠ 0 ∨ G 123 (G 125 t) ≠ 0) ∨ ∃ c, (0 ≤ c ∧ c < G 115 16) ∧ (baG G s t c ∧ ct (baG G s t) c.toNat < ct (baG G s t) (G 115 16).toNat) ∧ G 123 (G 125 c) ≠ 0) ↔ gn G s t := by
      constructor
      · rintro (z | ⟨y, y1, y2, y3⟩)
        · exact Or.inl z
        · exact Or.inr ⟨y, y1, y2.1, y3⟩
      · rintro (z | ⟨y, y1, y2, y3⟩)
        · exact Or.inl z
        · refine Or.inr ⟨y, y1, ⟨y2, ?_⟩, y3⟩
          have a1 := ct_s (p := baG G s t) y1.1
          rw [bI_t y2] at a1
          have a2 := ct_mono (p := baG G s t) (n := (y + 1).toNat) (m := (G 115 16).toNat) (by omega)
          omega
    rw [bI_cg q] at hv
    have := bI_o (gn G s t)
    try dsimp only
    rw [s197_37, hn, if_pos (Int.le_refl _), hv, gd_t (by omega)]
end
