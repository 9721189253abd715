/-! the base that is taken -/
def bad (G : AI) (s t : Int) : Prop := (∃ c, baG G s t c ∧ gone G c s t) ∨ ((∀ c, ¬ baG G s t c) ∧ gone G (-1) s t)
section
variable {ok : Int → Prop} {u : Int → Int} {A : Int}
theorem am_ct (m : Nat) : ∀ d : Nat, ct ok (m + d) = ct ok m → am ok u A (m + d) = am ok u A m
  | 0, _ => rfl
  | d + 1, h => by
    have e := ct_s (p := ok) (i := ((m + d : Nat) : Int)) (by omega)
    rw [show (((m + d : Nat) : Int) + 1).toNat = m + (d + 1) by omega, show ((m + d : Nat) : Int).toNat = m + d by omega] at e
    have mo := ct_mono (p := ok) (n := m) (m := m + d) (by omega)
    have q := bI_bd (ok ((m + d : Nat) : Int))
    have z : bI (ok ((m + d : Nat) : Int)) = 0 := by omega
    have no : ¬ ok ((m + d : Nat) : Int) := fun y => by rw [bI_t y] at z; exact absurd z (by decide)
    have a := am_f (ok := ok) (v := u) (A := A) (i := ((m + d : Nat) : Int)) (by omega) (fun y => no y.1)
    rw [show (((m + d : Nat) : Int) + 1).toNat = m + (d + 1) by omega, show ((m + d : Nat) : Int).toNat = m + d by omega] at a
    rw [a]
    exact am_ct m d (by omega)
theorem am_eq {m m' : Nat} (h : ct ok m = ct ok m') : am ok u A m = am ok u A m' := by
  by_cases c : m ≤ m'
  · have z := am_ct (u := u) (A := A) m (m' - m) (by rw [show m + (m' - m) = m' by omega]; exact h.symm)
    rw [show m + (m' - m) = m' by omega] at z
    exact z.symm
  · have z := am_ct (u := u) (A := A) m' (m - m') (by rw [show m' + (m - m') = m by omega]; exact h)
    rw [show m' + (m - m') = m by omega] at z
    exact z
theorem am_no (h : ∀ c, ¬ ok c) (n : Nat) : am ok u A n = (-1, A) := by
  rw [am_eq (m := n) (m' := 0) (by rw [ct_0 n (fun i _ _ => h i)]; rfl)]
  rfl
end
section
variable {L : Nat} {b : Bool} {I : AI} {J : AJ} {G : AI} {s t : Int}
theorem bb_no (h : ∀ c, ¬ baG G s t c) : (bb G s t 17 80).1 = -1 := by
  unfold bb
  rw [am_no h]
theorem bb_ba (hP : StR G) (hs : 0 ≤ s ∧ s < G 115 16) {c : Int} (h : baG G s t c) : baG G s t (bb G s t 17 80).1 ∧ (bb G s t 17 80).1 = (am (baG G s t) (fun c => clsh G c s t 16) 1000 (G 115 16).toNat).1 ∧ 0 ≤ (am (baG G s t) (fun c => clsh G c s t 16) 1000 (G 115 16).toNat).2 := by
  have p0 := hP.1
  have cb := ba_bq hP hs h
  have e1 := (am_cg (ok := baG G s t) (ok' := baG G s t) (v := fun c => clsh G c s t 16) (v' := fun c => clsh G c s t 16) (A := 17) (B := 1000) 80 (fun _ _ _ => Iff.rfl) (fun i _ _ _ => Or.inl ⟨rfl, by have := clsh_bd G i s t; show clsh G i s t 16 < 17; omega, by have := clsh_bd G i s t; show clsh G i s t 16 < 1000; omega⟩)).1
  have e2 : am (baG G s t) (fun c => clsh G c s t 16) 1000 80 = am (baG G s t) (fun c => clsh G c s t 16) 1000 (G 115 16).toNat := by
    refine am_eq ?_
    rw [show 80 = (G 115 16).toNat + (80 - (G 115 16).toNat) by omega]
    exact ct_more _ _ (fun i a d z => by have := ba_bq hP hs z; omega)
  have e3 : (bb G s t 17 80).1 = (am (baG G s t) (fun c => clsh G c s t 16) 1000 (G 115 16).toNat).1 := by
    unfold bb
    rw [e1, e2]
  rw [e3]
  rcases am_bd (baG G s t) (fun c => clsh G c s t 16) 1000 (G 115 16).toNat with ⟨a1, a2, a3⟩ | ⟨a1, a2, a3, a4⟩
  · exfalso
    have z : (1000 : Int) ≤ clsh G c s t 16 := a3 c cb.1 (by omega) h
    have := clsh_bd G c s t
    omega
  · refine ⟨a2, rfl, ?_⟩
    rw [a3]
    exact (clsh_bd G _ s t).1
theorem bb_ge (hP : StR G) (hs : 0 ≤ s ∧ s < G 115 16) : -1 ≤ (bb G s t 17 80).1 ∧ (bb G s t 17 80).1 < G 115 16 := by
  have p0 := hP.1
  by_cases c : ∃ c, baG G s t c
  · obtain ⟨c, h⟩ := c
    have := ba_bq hP hs (bb_ba hP hs h).1
    omega
  · rw [bb_no (fun c' z => c ⟨c', z⟩)]; omega
theorem bad_x (hP : StR G) (hs : 0 ≤ s ∧ s < G 115 16) (hn : ∀ c, baG G s t c → ¬ gone G c s t) : gone G (bb G s t 17 80).1 s t ↔ bad G s t := by
  by_cases c : ∃ c, baG G s t c
  · obtain ⟨c, h⟩ := c
    have q := (bb_ba hP hs h).1
    constructor
    · intro z; exact absurd z (hn _ q)
    · rintro (⟨x, x1, x2⟩ | ⟨x, -⟩)
      · exact absurd x2 (hn x x1)
      · exact absurd h (x c)
  · have n : ∀ c', ¬ baG G s t c' := fun c' z => c ⟨c', z⟩
    rw [bb_no n]
    constructor
    · intro z; exact Or.inr ⟨n, z⟩
    · rintro (⟨x, x1, x2⟩ | ⟨-, x⟩)
      · exact absurd x1 (n x)
      · exact x
/-- the class -/
theorem c19m (hT : RT I G) (hS : RS I G) (hP : RP I J G) (hs : 0 ≤ s ∧ s < G 115 16) (ht : 0 ≤ t ∧ t < G 115 16) (hb : ∀ c, sb J 52 c ↔ baG G s t c) : (fun r => (bad G s t ∧ ∃ I' : AI, r = some (vi (-2), hp L b I' J) ∧ Same cOv I I') ∨ (¬ bad G s t ∧ ∃ I' : AI, r = ev 19 99 [some (vr 51), some (vi s), some (vi t), some (vi (bb G s t 17 80).1), none] [vi (clsh G (bb G s t 17 80).1 s t 16)] (hp L b I' J) ∧ Same cOv I I' ∧ ∀ j, 0 ≤ j → j < 16 → PlC1 I' G (bb G s t 17 80).1 s t j)) (ev 19 68 [some (vr 51), some (vi s), some (vi t), none, none] [vi 0] (hp L b I J)) := by
  try dsimp only
  rw [s19_68, if_pos rfl]
  have xb := bb_ge (t := t) hP.1 hs
  rcases c20R (L := L) (b := b) hT hS hP hs ht hb with ⟨⟨c, c1, c2⟩, Y, w1, w2⟩ | ⟨hn, Y, w1, w2⟩
  · left
    refine ⟨Or.inl ⟨c, c1, c2⟩, Y, ?_, w2⟩
    rw [w1]
    simp only [Option.bind_some]
    rw [s19_80, if_neg (fun z => z rfl), s19_99, if_pos rfl, s19_125]
  · have oz : ∀ c, c ∉ cOv → Y c = I c := w2
    have hT' : RT Y G := hT.cg (fun c hc => oz c (by revert c; decide)) (fun _ _ => rfl) rfl
    have hS' : RS Y G := hS.cg (fun c hc => oz c (by revert c; decide)) (fun _ _ => rfl) rfl rfl
    have hP' : RP Y J G := hP.cg (fun c hc => oz c (by revert c; decide)) (fun _ _ => rfl) (fun _ _ => rfl) rfl rfl
    obtain ⟨Z, y1, y2, y3⟩ := c22R (L := L) (b := b) (J := J) hT' hS' hP' (x := (bb G s t 17 80).1) xb hs ht
    rw [w1]
    simp only [Option.bind_some]
    rw [s19_80, if_pos (by omega), y1]
    simp only [Option.bind_some]
    rw [bI_cg (bad_x hP.1 hs hn)]
    by_cases k : bad G s t
    · left
      refine ⟨k, Z, ?_, Same.tr w2 y2⟩
      rw [if_pos (bI_t k), s19_99, if_pos rfl, s19_125]
    · right
      refine ⟨k, Z, ?_, Same.tr w2 y2, y3 (fun z => k ((bad_x hP.1 hs hn).mp z))⟩
      rw [if_neg (fun z => k (bI_1.mp z))]
/-- the reference -/
def cRv : List Nat := [135, 136, 137, 140, 141, 142, 143, 144, 145, 152, 153, 154]
theorem l198b {K : AI} {J' : AJ} (hT : TxR G) (hS : RS K G) (hP : RP K J' G) (hs : 0 ≤ s ∧ s < G 115 16) (ht : 0 ≤ t ∧ t < G 115 16) (hg : ∀ c ∈ [116, 117, 118, 119, 120, 122, 125], I c = G c) (h5 : I 115 5 = G 115 5) (hn : I 115 23 = ct (baG G s t) (G 115 16).toNat) (hb : ∀ c, 0 ≤ c → c < G 115 16 → baG G s t c → I 134 (ct (baG G s t) c.toNat) = c) (A : Int) : (fun r => ((∃ c, baG G s t c ∧ gone G c s t) ∧ ∃ I' : AI, r = some (vi (-2), hp L b I' J) ∧ Sm cRv [27, 35, 38] I I') ∨ ((∀ c, baG G s t c → ¬ gone G c s t) ∧ ∃ I' : AI, r = ev 198 82 [some (vr 115), some (vi s), some (vi t), some (vi (am (baG G s t) (fun c => clsh G c s t 16) A (G 115 16).toNat).1), some (vi (am (baG G s t) (fun c => clsh G c s t 16) A (G 115 16).toNat).2), some (vi (ct (baG G s t) (G 115 16).toNat)), none] [] (hp L b I' J) ∧ Sm cRv [27, 35, 38] I I')) (ev 198 82 [some (vr 115), some (vi s), some (vi t), some (vi (-1)), some (vi A), some (vi 0), none] [] (hp L b I J)) := by
  have p0 := hP.1.1
  have t0 := hT.1
  have cb := ct_bd (p := baG G s t) (G 115 16).toNat
  have h10 := hS.1.1
  have bd : ∀ y, 0 ≤ y → y < G 115 16 → 0 ≤ G 125 y ∧ G 125 y < 100 := fun y y0 y1 => by have := (hP.2.2.1 y y0 y1).2.1; omega
  refine lp (lo := 0) (hi := ct (baG G s t) (G 115 16).toNat) (F := fun k (z : Int × Int × AI) => ev 198 82 [some (vr 115), some (vi s), some (vi t), some (vi z.1), some (vi z.2.1), some (vi k), none] [] (hp L b z.2.2 J)) (Q := fun r => ((∃ c, baG G s t c ∧ gone G c s t) ∧ ∃ I' : AI, r = some (vi (-2), hp L b I' J) ∧ Sm cRv [27, 35, 38] I I') ∨ ((∀ c, baG G s t c → ¬ gone G c s t) ∧ ∃ I' : AI, r = ev 198 82 [some (vr 115), some (vi s), some (vi t), some (vi (am (baG G s t) (fun c => clsh G c s t 16) A (G 115 16).toNat).1), some (vi (am (baG G s t) (fun c => clsh G c s t 16) A (G 115 16).toNat).2), some (vi (ct (baG G s t) (G 115 16).toNat)), none] [] (hp L b I' J) ∧ Sm cRv [27, 35, 38] I I')) (fun k z => (∀ m : Nat, ct (baG G s t) m = k → am (baG G s t) (fun c => clsh G c s t 16) A m = (z.1, z.2.1)) ∧ Sm cRv [27, 35, 38] I z.2.2 ∧ ∀ c, baG G s t c → ct (baG G s t) c.toNat < k → ¬ gone G c s t) ?_ ?_ 0 (-1, A, I) (Int.le_refl _) cb.1 ⟨fun m h => ?_, Sm.rf, fun c z1 z2 => by have := (ct_bd (p := baG G s t) c.toNat).1; omega⟩
  · intro k z g1 g2 ⟨v1, v2, v3⟩
    obtain ⟨c, c1, c2, c3⟩ := ct_ex (p := baG G s t) (G 115 16).toNat k g1 g2
    have c1' : 0 ≤ c ∧ c < G 115 16 := by omega
    have e134 : z.2.2 134 k = c := by rw [v2.1 134 (by decide) (by decide), ← c3]; exact hb c c1'.1 c1'.2 c2
    have n23 : z.2.2 115 23 = ct (baG G s t) (G 115 16).toNat := (v2.2 23 (by decide)).trans hn
    have hg' : ∀ c ∈ [116, 117, 118, 119, 120, 122, 125], z.2.2 c = G c := fun c hc => (v2.1 c (by revert c; decide) (by revert c; decide)).trans (hg c hc)
    have h5' : z.2.2 115 5 = G 115 5 := (v2.2 5 (by decide)).trans h5
    obtain ⟨Y, w1, w2, -⟩ := c194R (L := L) (b := b) (I := z.2.2) (J := J) (G := G) hg' h5' (hT.cg (fun c hc => hg' c (by revert c; decide)) h5') (x := c) (s := s) (t := t) (by omega) (fun y y0 y1 => bd y y0 (by omega)) (fun y j y1 j0 j1 => on_bd hS hP t0.1 (by omega) ⟨j0, j1⟩)
    have am1 := v1 c.toNat c3
    have cl := clsh_bd G c s t
    have st : ev 198 82 [some (vr 115), some (vi s), some (vi t), some (vi z.1), some (vi z.2.1), some (vi k), none] [] (hp L b z.2.2 J) = ev 198 104 [some (vr 115), some (vi s), some (vi t), some (vi z.1), some (vi z.2.1), some (vi k), none] [vi (if bI (gone G c s t) = 1 then -1 else clsh G c s t 16)] (hp L b Y J) := by
      rw [s198_82, n23, if_neg (by omega), gd_t (by omega), e134, w1]
      simp only [Option.bind_some]
    by_cases d : gone G c s t
    · left
      refine Or.inl ⟨⟨c, c2, d⟩, Y, ?_, v2.tr w2⟩
      try dsimp only
      rw [st, if_pos (bI_t d), s198_104, if_neg (by decide)]
    · right
      have yk : Y 134 k = c := by rw [w2.1 134 (by decide) (by decide)]; exact e134
      have kc : ∀ x, baG G s t x → ct (baG G s t) x.toNat < k + 1 → ¬ gone G x s t := fun x x1 x2 => by
        by_cases e : ct (baG G s t) x.toNat < k
        · exact v3 x x1 e
        · have xb := ba_bq hP.1 hs x1
          have : x = c := ct_inj xb.1 c1'.1 x1 c2 (by omega)
          rw [this]; exact d
      have cs : ct (baG G s t) (c + 1).toNat = k + 1 := by rw [ct_s c1'.1, bI_t c2, c3]
      by_cases e : z.2.1 ≤ clsh G c s t 16
      · refine ⟨(z.1, z.2.1, Y), ?_, fun m hm => ?_, v2.tr w2, kc⟩
        · try dsimp only
          rw [st, if_neg (fun y => d (bI_1.mp y)), s198_104, if_pos cl.1, if_pos e, s198_133, gd_t (by omega)]
        · rw [am_eq (hm.trans cs.symm), am_f c1'.1 (fun y => by have := y.2; rw [am1] at this; dsimp only at this; omega), am1]
      · refine ⟨(c, clsh G c s t 16, Y), ?_, fun m hm => ?_, v2.tr w2, kc⟩
        · try dsimp only
          rw [st, if_neg (fun y => d (bI_1.mp y)), s198_104, if_pos cl.1, if_neg e, gd_t (by omega), yk, s198_133, gd_t (by omega)]
        · rw [am_eq (hm.trans cs.symm), am_t c1'.1 c2 (by rw [am1]; dsimp only; omega)]
  · intro z ⟨v1, v2, v3⟩
    right
    refine ⟨fun c hc => ?_, z.2.2, ?_, v2⟩
    · have xb := ba_bq hP.1 hs hc
      refine v3 c hc ?_
      have a1 := ct_s (p := baG G s t) xb.1
      rw [bI_t hc] at a1
      have a2 := ct_mono (p := baG G s t) (n := (c + 1).toNat) (m := (G 115 16).toNat) (by omega)
      omega
    · try dsimp only
      rw [v1 (G 115 16).toNat rfl]
  · rw [am_eq (m := m) (m' := 0) (by rw [h]; rfl)]
    rfl
theorem c198m {K : AI} {J' : AJ} (hT : TxR G) (hS : RS K G) (hP : RP K J' G) (hs : 0 ≤ s ∧ s < G 115 16) (ht : 0 ≤ t ∧ t < G 115 16) (hg : ∀ c ∈ [116, 117, 118, 119, 120, 122, 125], I c = G c) (h5 : I 115 5 = G 115 5) (hn : I 115 23 = ct (baG G s t) (G 115 16).toNat) (hb : ∀ c, 0 ≤ c → c < G 115 16 → baG G s t c → I 134 (ct (baG G s t) c.toNat) = c) : (fun r => (bad G s t ∧ ∃ I' : AI, r = some (vi (-2), hp L b I' J) ∧ Sm cRv [27, 35, 38] I I') ∨ (¬ bad G s t ∧ ∃ I' : AI, r = ev 198 154 [some (vr 115), some (vi s), some (vi t), some (vi (bb G s t 17 80).1), none, none, none] [vi (clsh G (bb G s t 17 80).1 s t 16)] (hp L b I' J) ∧ Sm cRv [27, 35, 38] I I' ∧ ∀ j, 0 ≤ j → j < 16 → PlR1 I' G (bb G s t 17 80).1 s t j)) (ev 198 49 [some (vr 115), some (vi s), some (vi t), none, none, none, none] [vi 0] (hp L b I J)) := by
  have p0 := hP.1.1
  have t0 := hT.1
  have h10 := hS.1.1
  have bd : ∀ y, 0 ≤ y → y < G 115 16 → 0 ≤ G 125 y ∧ G 125 y < 100 := fun y y0 y1 => by have := (hP.2.2.1 y y0 y1).2.1; omega
  -- over a base x
  have over : ∀ (Y : AI) (x : Int), Sm cRv [27, 35, 38] I Y → (-1 ≤ x ∧ x < G 115 16) → ∃ I' : AI, evc 194 [vr 115, vi x, vi s, vi t] (hp L b Y J) = some (vi (if bI (gone G x s t) = 1 then -1 else clsh G x s t 16), hp L b I' J) ∧ Sm cRv [27, 35, 38] I I' ∧ (¬ gone G x s t → ∀ j, 0 ≤ j → j < 16 → PlR1 I' G x s t j) := fun Y x hY hx => by
    have hg' : ∀ c ∈ [116, 117, 118, 119, 120, 122, 125], Y c = G c := fun c hc => (hY.1 c (by revert c; decide) (by revert c; decide)).trans (hg c hc)
    have h5' : Y 115 5 = G 115 5 := (hY.2 5 (by decide)).trans h5
    obtain ⟨Z, w1, w2, w3⟩ := c194R (L := L) (b := b) (I := Y) (J := J) (G := G) hg' h5' (hT.cg (fun c hc => hg' c (by revert c; decide)) h5') (x := x) (s := s) (t := t) (by omega) (fun y y0 y1 => bd y y0 (by omega)) (fun y j y1 j0 j1 => on_bd hS hP t0.1 (by omega) ⟨j0, j1⟩)
    exact ⟨Z, w1, hY.tr w2, w3⟩
  have xb := bb_ge (t := t) hP.1 hs
  try dsimp only
  rw [s198_49, if_pos rfl, hn]
  by_cases c : ∃ c, baG G s t c
  · obtain ⟨c, hc⟩ := c
    have cb := ba_bq hP.1 hs hc
    have pos := ct_pos (n := (G 115 16).toNat) cb.1 (by omega) hc
    rw [if_pos (by omega), s198_77]
    obtain ⟨x1, x2, x3⟩ := bb_ba hP.1 hs hc
    rcases l198b (L := L) (b := b) (J := J) hT hS hP hs ht hg h5 hn hb 1000 with ⟨⟨y, y1, y2⟩, Y, w1, w2⟩ | ⟨no, Y, w1, w2⟩
    · exact Or.inl ⟨Or.inl ⟨y, y1, y2⟩, Y, w1, w2⟩
    · right
      have ng := no _ x1
      obtain ⟨Z, z1, z2, z3⟩ := over Y (bb G s t 17 80).1 w2 xb
      refine ⟨fun z => ng ((bad_x hP.1 hs no).mpr z), Z, ?_, z2, z3 ng⟩
      rw [w1, s198_82, w2.2 23 (by decide), hn, if_pos (Int.le_refl _), if_pos x3, ← x2, z1]
      simp only [Option.bind_some]
      rw [if_neg (fun z => ng (bI_1.mp z))]
  · have n : ∀ c', ¬ baG G s t c' := fun c' z => c ⟨c', z⟩
    have k0 : ct (baG G s t) (G 115 16).toNat = 0 := ct_0 _ (fun i _ _ => n i)
    have hno : ∀ c, baG G s t c → ¬ gone G c s t := fun c z => absurd z (n c)
    obtain ⟨Y, y1, y2, y3⟩ := over I (-1) Sm.rf (by omega)
    have e23 : Y 115 23 = 0 := by rw [y2.2 23 (by decide), hn, k0]
    rw [if_neg (fun z => z k0), y1]
    simp only [Option.bind_some]
    rw [s198_71, s198_77, s198_82, e23, if_pos (Int.le_refl _)]
    have xe := bb_no n
    have bx := bad_x hP.1 hs hno
    rw [xe] at bx ⊢
    by_cases d : gone G (-1) s t
    · rw [if_pos (bI_t d), if_neg (by decide)]
      exact Or.inl ⟨bx.mp d, Y, rfl, y2⟩
    · have cl := clsh_bd G (-1) s t
      obtain ⟨Z, z1, z2, z3⟩ := over Y (-1) y2 (by omega)
      rw [if_neg (fun z => d (bI_1.mp z)), if_pos cl.1, z1]
      simp only [Option.bind_some]
      rw [if_neg (fun z => d (bI_1.mp z))]
      exact Or.inr ⟨fun z => d (bx.mpr z), Z, rfl, z2, z3 d⟩
end
