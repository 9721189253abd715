/-! renamed: the reference, and the call -/
section
variable {L : Nat} {b : Bool} {I G : AI} {J : AJ}
/-- the reference's cells that renamed reads -/
def RnR (G : AI) (s : Int) : Prop := BlR G ∧ (0 ≤ s ∧ s < G 115 16) ∧ 0 ≤ G 126 s
theorem RnR.p {s : Int} (h : RnR G s) : 0 ≤ G 126 s ∧ G 126 s < G 115 16 := by have := (h.1.2.2.1.2 s h.2.1.1 h.2.1.2).1; have := h.2.1; have := h.2.2; omega
theorem c206 {s : Int} (h : RnR G s) {k : Int} (hk : 0 ≤ k ∧ k < 16) {X : AI} (hg : ∀ c ∈ [122, 125, 126], X c = G c) : evc 206 [vr 115, vi s, vi k] (hp L b X J) = some (vi (bI (oN G (G 125 (G 126 s)) (G 125 s) k)), hp L b X J) ∧ evc 207 [vr 115, vi s, vi k] (hp L b X J) = some (vi (bI (oN G (G 125 s) (G 125 (G 126 s)) k)), hp L b X J) := by
  have hp' := h.p
  have p0 := h.1.2.2.1.1
  have hs := h.2.1
  have a1 := c192R (L := L) (b := b) (J := J) h.1.2.1.1 h.1.2.2 (s := G 126 s) (x := k) ⟨by omega, hp'.2⟩ hk (X := X) (fun c z => hg c (by revert c; decide))
  have a2 := c192R (L := L) (b := b) (J := J) h.1.2.1.1 h.1.2.2 (s := s) (x := k) ⟨by omega, hs.2⟩ hk (X := X) (fun c z => hg c (by revert c; decide))
  rw [if_neg (by omega)] at a1 a2
  constructor
  · rw [n206, s206_0, hg 126 (by decide), gd_t (by omega), a1]
    simp only [Option.bind_some]
    rw [s206_11]
    by_cases c1 : (G 122 (16 * G 125 (G 126 s) + k)) < 0
    · rw [if_pos c1, s206_27, g0, bI_f (fun z => by have := z.1; omega)]
    · rw [if_neg c1, a2]
      simp only [Option.bind_some]
      rw [s206_20]
      by_cases c2 : 0 ≤ (G 122 (16 * G 125 s + k))
      · rw [if_pos c2, s206_27, g0, bI_f (fun z => by have := z.2; omega)]
      · rw [if_neg c2, g1, bI_t (show oN G (G 125 (G 126 s)) (G 125 s) k from ⟨by omega, by omega⟩)]
  · rw [n207, s207_0, hg 126 (by decide), gd_t (by omega), a1]
    simp only [Option.bind_some]
    rw [s207_11]
    by_cases c1 : 0 ≤ (G 122 (16 * G 125 (G 126 s) + k))
    · rw [if_pos c1, s207_27, g0, bI_f (fun z => by have := z.2; omega)]
    · rw [if_neg c1, a2]
      simp only [Option.bind_some]
      rw [s207_20]
      by_cases c2 : (G 122 (16 * G 125 s + k)) < 0
      · rw [if_pos c2, s207_27, g0, bI_f (fun z => by have := z.1; omega)]
      · rw [if_neg c2, g1, bI_t (show oN G (G 125 s) (G 125 (G 126 s)) k from ⟨by omega, by omega⟩)]
theorem c208 (hT : TxR I) {t u : Int} (ht : 0 ≤ t ∧ t < I 115 5) (hu : 0 ≤ u ∧ u < I 115 5) : ∃ I', evc 208 [vr 115, vi t, vi u] (hp L b I J) = some (vi (alk I t u), hp L b I' J) ∧ Sm [135, 136, 137] [27] I I' ∧ 0 ≤ alk I t u ∧ alk I t u ≤ 24 := by
  have t0 := hT.1
  have b1 := hT.2.2.1 t ht.1 ht.2
  have b2 := hT.2.2.1 u hu.1 hu.2
  have lb : 0 ≤ lcs I t u ∧ lcs I t u ≤ I 117 t ∧ lcs I t u ≤ I 117 u := pc_bd b1.1 b2.1
  obtain ⟨I1, q1, q2, q3, q4⟩ := c175R (L := L) (b := b) (J := J) hT ht.2 hu.2
  rw [ts_t ht.1, ts_t hu.1] at q4
  have q4 : I1 115 27 = lcs I t u := q4
  refine ⟨I1, ?_, q2, by unfold alk; split <;> omega⟩
  rw [n208, s208_0, q1]
  simp only [Option.bind_some]
  rw [s208_6, q2.1 117 (by decide) (by decide), gd_t (by omega), gd_t (by omega)]
  have fin : ∀ m, m = (if I 117 t < I 117 u then I 117 u else I 117 t) → 0 ≤ m → m ≤ 24 → ev 208 36 [some (vr 115), none, none, none] [vi m] (hp L b I1 J) = some (vi (alk I t u), hp L b I1 J) := fun m hm h1 h2 => by
    rw [s208_36, q4, gd_t (by omega)]
    unfold alk
    rw [← hm]
    by_cases c : 2 * lcs I t u < m
    · rw [if_pos c, if_pos c]
    · rw [if_neg c, if_neg c]
  by_cases c : I 117 t ≤ I 117 u
  · rw [if_pos c, gd_t (by omega)]
    exact fin _ (by split <;> omega) (by omega) (by omega)
  · rw [if_neg c, gd_t (by omega)]
    exact fin _ (by rw [if_neg (by omega)]) (by omega) (by omega)
theorem alk_cg {G G' : AI} (h1 : G' 116 = G 116) (h2 : G' 117 = G 117) : alk G' = alk G := by funext t u; unfold alk; rw [lcs_cg h1 h2, h2]
/-- the reference's next pair -/
theorem c210 {s : Int} (h : RnR G s) {X : AI} (sX : Sm [135, 136, 137, 156, 157] [27] G X) {U : Int → Int} (hU : ∀ k, 0 ≤ k → k < 16 → X 157 k = U k) : (fun r => ∃ Y, Sm [135, 136, 137, 156, 157] [27] G Y ∧ (((bp (fun k => oN G (G 125 (G 126 s)) (G 125 s) k ∧ U k = 0) (fun k => oN G (G 125 s) (G 125 (G 126 s)) k ∧ U k = 0) (fun k l => alk G (G 122 (16 * G 125 (G 126 s) + k)) (G 122 (16 * G 125 s + l))) 256).1 < 0 ∧ r = some (vi 0, hp L b Y J) ∧ Y 156 = X 156 ∧ Y 157 = X 157) ∨ (0 ≤ (bp (fun k => oN G (G 125 (G 126 s)) (G 125 s) k ∧ U k = 0) (fun k => oN G (G 125 s) (G 125 (G 126 s)) k ∧ U k = 0) (fun k l => alk G (G 122 (16 * G 125 (G 126 s) + k)) (G 122 (16 * G 125 s + l))) 256).1 ∧ r = some (vi 1, hp L b Y J) ∧ (∀ k, Y 156 k = if k = (bp (fun k => oN G (G 125 (G 126 s)) (G 125 s) k ∧ U k = 0) (fun k => oN G (G 125 s) (G 125 (G 126 s)) k ∧ U k = 0) (fun k l => alk G (G 122 (16 * G 125 (G 126 s) + k)) (G 122 (16 * G 125 s + l))) 256).1 % 16 then (bp (fun k => oN G (G 125 (G 126 s)) (G 125 s) k ∧ U k = 0) (fun k => oN G (G 125 s) (G 125 (G 126 s)) k ∧ U k = 0) (fun k l => alk G (G 122 (16 * G 125 (G 126 s) + k)) (G 122 (16 * G 125 s + l))) 256).1 / 16 else X 156 k) ∧ ∀ k, Y 157 k = if k = (bp (fun k => oN G (G 125 (G 126 s)) (G 125 s) k ∧ U k = 0) (fun k => oN G (G 125 s) (G 125 (G 126 s)) k ∧ U k = 0) (fun k l => alk G (G 122 (16 * G 125 (G 126 s) + k)) (G 122 (16 * G 125 s + l))) 256).1 / 16 ∨ k = (bp (fun k => oN G (G 125 (G 126 s)) (G 125 s) k ∧ U k = 0) (fun k => oN G (G 125 s) (G 125 (G 126 s)) k ∧ U k = 0) (fun k l => alk G (G 122 (16 * G 125 (G 126 s) + k)) (G 122 (16 * G 125 s + l))) 256).1 % 16 then 1 else X 157 k))) (evc 210 [vr 115, vi s] (hp L b X J)) := by
  have hp' := h.p
  have p0 := h.1.2.2.1.1
  have hs := h.2.1
  have bb := bp_bd (fun k => oN G (G 125 (G 126 s)) (G 125 s) k ∧ U k = 0) (fun k => oN G (G 125 s) (G 125 (G 126 s)) k ∧ U k = 0) (fun k l => alk G (G 122 (16 * G 125 (G 126 s) + k)) (G 122 (16 * G 125 s + l)))
  have divmod : ∀ k l : Int, 0 ≤ l → l < 16 → (16 * k + l) / 16 = k ∧ (16 * k + l) % 16 = l := fun k l a c => by omega
  rw [n210, s210_0]
  -- what the three numbers are
  refine lp (lo := 0) (hi := 16) (F := fun k (z : (Int × Int) × Int × AI) => ev 210 10 [some (vr 115), some (vi s), some (vi (-z.1.2)), some (vi (if z.1.1 < 0 then -1 else z.1.1 / 16)), some (vi (if z.1.1 < 0 then -1 else z.1.1 % 16)), some (vi k), none, none] [] (hp L b z.2.2 J)) (Q := fun r => ∃ Y, Sm [135, 136, 137, 156, 157] [27] G Y ∧ (((bp (fun k => oN G (G 125 (G 126 s)) (G 125 s) k ∧ U k = 0) (fun k => oN G (G 125 s) (G 125 (G 126 s)) k ∧ U k = 0) (fun k l => alk G (G 122 (16 * G 125 (G 126 s) + k)) (G 122 (16 * G 125 s + l))) 256).1 < 0 ∧ r = some (vi 0, hp L b Y J) ∧ Y 156 = X 156 ∧ Y 157 = X 157) ∨ (0 ≤ (bp (fun k => oN G (G 125 (G 126 s)) (G 125 s) k ∧ U k = 0) (fun k => oN G (G 125 s) (G 125 (G 126 s)) k ∧ U k = 0) (fun k l => alk G (G 122 (16 * G 125 (G 126 s) + k)) (G 122 (16 * G 125 s + l))) 256).1 ∧ r = some (vi 1, hp L b Y J) ∧ (∀ k, Y 156 k = if k = (bp (fun k => oN G (G 125 (G 126 s)) (G 125 s) k ∧ U k = 0) (fun k => oN G (G 125 s) (G 125 (G 126 s)) k ∧ U k = 0) (fun k l => alk G (G 122 (16 * G 125 (G 126 s) + k)) (G 122 (16 * G 125 s + l))) 256).1 % 16 then (bp (fun k => oN G (G 125 (G 126 s)) (G 125 s) k ∧ U k = 0) (fun k => oN G (G 125 s) (G 125 (G 126 s)) k ∧ U k = 0) (fun k l => alk G (G 122 (16 * G 125 (G 126 s) + k)) (G 122 (16 * G 125 s + l))) 256).1 / 16 else X 156 k) ∧ ∀ k, Y 157 k = if k = (bp (fun k => oN G (G 125 (G 126 s)) (G 125 s) k ∧ U k = 0) (fun k => oN G (G 125 s) (G 125 (G 126 s)) k ∧ U k = 0) (fun k l => alk G (G 122 (16 * G 125 (G 126 s) + k)) (G 122 (16 * G 125 s + l))) 256).1 / 16 ∨ k = (bp (fun k => oN G (G 125 (G 126 s)) (G 125 s) k ∧ U k = 0) (fun k => oN G (G 125 s) (G 125 (G 126 s)) k ∧ U k = 0) (fun k l => alk G (G 122 (16 * G 125 (G 126 s) + k)) (G 122 (16 * G 125 s + l))) 256).1 % 16 then 1 else X 157 k))) (fun k z => z.1 = bp (fun k => oN G (G 125 (G 126 s)) (G 125 s) k ∧ U k = 0) (fun k => oN G (G 125 s) (G 125 (G 126 s)) k ∧ U k = 0) (fun k l => alk G (G 122 (16 * G 125 (G 126 s) + k)) (G 122 (16 * G 125 s + l))) (16 * k).toNat ∧ Sm [135, 136, 137, 156, 157] [27] G z.2.2 ∧ z.2.2 156 = X 156 ∧ z.2.2 157 = X 157) ?_ ?_ 0 ((-1, 0), 0, X) (Int.le_refl _) (by decide) ⟨rfl, sX, rfl, rfl⟩
  · rintro k ⟨⟨be, mo⟩, nu, Y⟩ k1 k2 ⟨v1, v2, v3, v4⟩
    dsimp only at v1 v2 v3 v4
    right
    have key : (fun r => ∃ (z : (Int × Int) × AI), r = ev 210 20 [some (vr 115), some (vi s), some (vi (-z.1.2)), some (vi (if z.1.1 < 0 then -1 else z.1.1 / 16)), some (vi (if z.1.1 < 0 then -1 else z.1.1 % 16)), some (vi k), some (vi 16), none] [] (hp L b z.2 J) ∧ z.1 = bp (fun k => oN G (G 125 (G 126 s)) (G 125 s) k ∧ U k = 0) (fun k => oN G (G 125 s) (G 125 (G 126 s)) k ∧ U k = 0) (fun k l => alk G (G 122 (16 * G 125 (G 126 s) + k)) (G 122 (16 * G 125 s + l))) (16 * (k + 1)).toNat ∧ Sm [135, 136, 137, 156, 157] [27] G z.2 ∧ z.2 156 = X 156 ∧ z.2 157 = X 157) (ev 210 20 [some (vr 115), some (vi s), some (vi (-mo)), some (vi (if be < 0 then -1 else be / 16)), some (vi (if be < 0 then -1 else be % 16)), some (vi k), some (vi 0), none] [] (hp L b Y J)) := by
      refine lp (lo := 0) (hi := 16) (F := fun l (z : (Int × Int) × AI) => ev 210 20 [some (vr 115), some (vi s), some (vi (-z.1.2)), some (vi (if z.1.1 < 0 then -1 else z.1.1 / 16)), some (vi (if z.1.1 < 0 then -1 else z.1.1 % 16)), some (vi k), some (vi l), none] [] (hp L b z.2 J)) (Q := fun r => ∃ (z : (Int × Int) × AI), r = ev 210 20 [some (vr 115), some (vi s), some (vi (-z.1.2)), some (vi (if z.1.1 < 0 then -1 else z.1.1 / 16)), some (vi (if z.1.1 < 0 then -1 else z.1.1 % 16)), some (vi k), some (vi 16), none] [] (hp L b z.2 J) ∧ z.1 = bp (fun k => oN G (G 125 (G 126 s)) (G 125 s) k ∧ U k = 0) (fun k => oN G (G 125 s) (G 125 (G 126 s)) k ∧ U k = 0) (fun k l => alk G (G 122 (16 * G 125 (G 126 s) + k)) (G 122 (16 * G 125 s + l))) (16 * (k + 1)).toNat ∧ Sm [135, 136, 137, 156, 157] [27] G z.2 ∧ z.2 156 = X 156 ∧ z.2 157 = X 157) (fun l z => z.1 = bp (fun k => oN G (G 125 (G 126 s)) (G 125 s) k ∧ U k = 0) (fun k => oN G (G 125 s) (G 125 (G 126 s)) k ∧ U k = 0) (fun k l => alk G (G 122 (16 * G 125 (G 126 s) + k)) (G 122 (16 * G 125 s + l))) (16 * k + l).toNat ∧ Sm [135, 136, 137, 156, 157] [27] G z.2 ∧ z.2 156 = X 156 ∧ z.2 157 = X 157) ?_ ?_ 0 ((be, mo), Y) (Int.le_refl _) (by decide) ⟨by rw [Int.add_zero]; exact v1, v2, v3, v4⟩
      · rintro l ⟨⟨be, mo⟩, Z⟩ l1 l2 ⟨w1, w2, w3, w4⟩
        dsimp only at w1 w2 w3 w4
        right
        have dm := divmod k l l1 l2
        have m : ∀ c ∈ [116, 117, 118, 119, 120, 122, 123, 125, 126, 127, 129], Z c = G c := fun c z => w2.1 c (by revert c; decide) (by revert c; decide)
        have o := c206 (L := L) (b := b) (J := J) h (k := k) ⟨k1, k2⟩ (X := Z) (fun c z => m c (by revert c; decide))
        have o2 := c206 (L := L) (b := b) (J := J) h (k := l) ⟨l1, l2⟩ (X := Z) (fun c z => m c (by revert c; decide))
        have z1 : Z 157 k = U k := by rw [w4]; exact hU k k1 k2
        have z2 : Z 157 l = U l := by rw [w4]; exact hU l l1 l2
        have e5 : bp (fun k => oN G (G 125 (G 126 s)) (G 125 s) k ∧ U k = 0) (fun k => oN G (G 125 s) (G 125 (G 126 s)) k ∧ U k = 0) (fun k l => alk G (G 122 (16 * G 125 (G 126 s) + k)) (G 122 (16 * G 125 s + l))) (16 * k + l).toNat = (be, mo) := w1.symm
        have nxt : ∀ (x y z : Int) (W : AI), ev 210 108 [some (vr 115), some (vi s), some (vi x), some (vi y), some (vi z), some (vi k), some (vi l), none] [] (hp L b W J) = ev 210 20 [some (vr 115), some (vi s), some (vi x), some (vi y), some (vi z), some (vi k), some (vi (l + 1)), none] [] (hp L b W J) := fun x y z W => by
          rw [s210_108]
          simp (disch := first | assumption | omega) only [↓gd_t, ↓if_pos, ↓if_neg, Option.bind_some, true_or, true_and, gd_t]
        have stay : ¬ ((fun k => oN G (G 125 (G 126 s)) (G 125 s) k ∧ U k = 0) k ∧ (fun k => oN G (G 125 s) (G 125 (G 126 s)) k ∧ U k = 0) l) → (be, mo) = bp (fun k => oN G (G 125 (G 126 s)) (G 125 s) k ∧ U k = 0) (fun k => oN G (G 125 s) (G 125 (G 126 s)) k ∧ U k = 0) (fun k l => alk G (G 122 (16 * G 125 (G 126 s) + k)) (G 122 (16 * G 125 s + l))) (16 * k + (l + 1)).toNat := fun hn => by
          rw [show 16 * k + (l + 1) = 16 * k + l + 1 by omega, w1]
          exact (am_f (by omega) (fun z => hn (by have := z.1; rw [dm.1, dm.2] at this; exact this))).symm
        have rs : ev 210 20 [some (vr 115), some (vi s), some (vi (-mo)), some (vi (if be < 0 then -1 else be / 16)), some (vi (if be < 0 then -1 else be % 16)), some (vi k), some (vi l), none] [] (hp L b Z J) = ev 210 34 [some (vr 115), some (vi s), some (vi (-mo)), some (vi (if be < 0 then -1 else be / 16)), some (vi (if be < 0 then -1 else be % 16)), some (vi k), some (vi l), none] [vi (bI (oN G (G 125 (G 126 s)) (G 125 s) k))] (hp L b Z J) := by
          rw [s210_20, if_neg (by omega), o.1]
          simp only [Option.bind_some]
        by_cases c1 : oN G (G 125 (G 126 s)) (G 125 s) k
        · by_cases c2 : oN G (G 125 s) (G 125 (G 126 s)) l
          · have rs2 : ev 210 20 [some (vr 115), some (vi s), some (vi (-mo)), some (vi (if be < 0 then -1 else be / 16)), some (vi (if be < 0 then -1 else be % 16)), some (vi k), some (vi l), none] [] (hp L b Z J) = ev 210 44 [some (vr 115), some (vi s), some (vi (-mo)), some (vi (if be < 0 then -1 else be / 16)), some (vi (if be < 0 then -1 else be % 16)), some (vi k), some (vi l), none] [vi 1] (hp L b Z J) := by
              rw [rs, bI_t c1, s210_34, if_neg (by decide), o2.2, bI_t c2]
              simp only [Option.bind_some]
            by_cases c3 : U k = 0
            · by_cases c4 : U l = 0
              · have hB := h.1.cg w2 (by decide)
                have a1 := c192R (L := L) (b := b) (J := J) h.1.2.1.1 h.1.2.2 (s := G 126 s) (x := k) ⟨by omega, hp'.2⟩ ⟨k1, k2⟩ (X := Z) (fun c z => m c (by revert c; decide))
                have a2 := c192R (L := L) (b := b) (J := J) h.1.2.1.1 h.1.2.2 (s := s) (x := l) ⟨by omega, hs.2⟩ ⟨l1, l2⟩ (X := Z) (fun c z => m c (by revert c; decide))
                rw [if_neg (by omega)] at a1 a2
                have n1 := nm_bd h.1 hp' ⟨k1, k2⟩
                have n2 := nm_bd h.1 hs ⟨l1, l2⟩
                unfold nm at n1 n2
                obtain ⟨W, y1, y2, y3, y4⟩ := c208 (L := L) (b := b) (J := J) hB.1 (t := G 122 (16 * G 125 (G 126 s) + k)) (u := G 122 (16 * G 125 s + l)) (by rw [w2.2 5 (by decide)]; exact ⟨c1.1, n1.2⟩) (by rw [w2.2 5 (by decide)]; exact ⟨c2.1, n2.2⟩)
                rw [alk_cg (m 116 (by decide)) (m 117 (by decide))] at y1 y3 y4
                have st : ev 210 20 [some (vr 115), some (vi s), some (vi (-mo)), some (vi (if be < 0 then -1 else be / 16)), some (vi (if be < 0 then -1 else be % 16)), some (vi k), some (vi l), none] [] (hp L b Z J) = ev 210 90 [some (vr 115), some (vi s), some (vi (-mo)), some (vi (if be < 0 then -1 else be / 16)), some (vi (if be < 0 then -1 else be % 16)), some (vi k), some (vi l), none] [vi (alk G (G 122 (16 * G 125 (G 126 s) + k)) (G 122 (16 * G 125 s + l)))] (hp L b W J) := by
                  rw [rs2, s210_44, if_neg (by decide), gd_t (by omega), z1, if_neg (by omega), gd_t (by omega), z2, if_neg (by omega), gd_t (by omega), m 126 (by decide), a1]
                  simp only [Option.bind_some]
                  rw [s210_80, a2]
                  simp only [Option.bind_some]
                  rw [s210_87, y1]
                  simp only [Option.bind_some]
                have sW : Sm [135, 136, 137, 156, 157] [27] G W := w2.tr (y2.mono (by simp) (by simp))
                have W1 : W 156 = X 156 := by rw [y2.1 156 (by decide) (by decide)]; exact w3
                have W2 : W 157 = X 157 := by rw [y2.1 157 (by decide) (by decide)]; exact w4
                by_cases c5 : -(alk G (G 122 (16 * G 125 (G 126 s) + k)) (G 122 (16 * G 125 s + l))) < mo
                · refine ⟨((16 * k + l, -(alk G (G 122 (16 * G 125 (G 126 s) + k)) (G 122 (16 * G 125 s + l)))), W), ?_, ?_, sW, W1, W2⟩
                  · try dsimp only
                    rw [st, s210_90, if_neg (by omega), nxt, Int.neg_neg, if_neg (show ¬ 16 * k + l < 0 by omega), if_neg (show ¬ 16 * k + l < 0 by omega), dm.1, dm.2]
                  · show (16 * k + l, _) = bp (fun k => oN G (G 125 (G 126 s)) (G 125 s) k ∧ U k = 0) (fun k => oN G (G 125 s) (G 125 (G 126 s)) k ∧ U k = 0) (fun k l => alk G (G 122 (16 * G 125 (G 126 s) + k)) (G 122 (16 * G 125 s + l))) (16 * k + (l + 1)).toNat
                    rw [show 16 * k + (l + 1) = 16 * k + l + 1 by omega]
                    have this := am_t (ok := fun z => (fun k => oN G (G 125 (G 126 s)) (G 125 s) k ∧ U k = 0) (z / 16) ∧ (fun k => oN G (G 125 s) (G 125 (G 126 s)) k ∧ U k = 0) (z % 16)) (v := fun z => -((fun k l => alk G (G 122 (16 * G 125 (G 126 s) + k)) (G 122 (16 * G 125 s + l))) (z / 16) (z % 16))) (A := 0) (i := 16 * k + l) (by omega) (by show (fun k => oN G (G 125 (G 126 s)) (G 125 s) k ∧ U k = 0) _ ∧ (fun k => oN G (G 125 s) (G 125 (G 126 s)) k ∧ U k = 0) _; rw [dm.1, dm.2]; exact ⟨⟨c1, c3⟩, c2, c4⟩) (by show -(alk G (G 122 (16 * G 125 (G 126 s) + (16 * k + l) / 16)) (G 122 (16 * G 125 s + (16 * k + l) % 16))) < (bp (fun k => oN G (G 125 (G 126 s)) (G 125 s) k ∧ U k = 0) (fun k => oN G (G 125 s) (G 125 (G 126 s)) k ∧ U k = 0) (fun k l => alk G (G 122 (16 * G 125 (G 126 s) + k)) (G 122 (16 * G 125 s + l))) (16 * k + l).toNat).2; rw [dm.1, dm.2, e5]; exact c5)
                    have this : bp (fun k => oN G (G 125 (G 126 s)) (G 125 s) k ∧ U k = 0) (fun k => oN G (G 125 s) (G 125 (G 126 s)) k ∧ U k = 0) (fun k l => alk G (G 122 (16 * G 125 (G 126 s) + k)) (G 122 (16 * G 125 s + l))) (16 * k + l + 1).toNat = (16 * k + l, -(alk G (G 122 (16 * G 125 (G 126 s) + (16 * k + l) / 16)) (G 122 (16 * G 125 s + (16 * k + l) % 16)))) := this
                    rw [dm.1, dm.2] at this
                    exact this.symm
                · refine ⟨((be, mo), W), ?_, ?_, sW, W1, W2⟩
                  · try dsimp only
                    rw [st, s210_90, if_pos (by omega), nxt]
                  · show (be, mo) = bp (fun k => oN G (G 125 (G 126 s)) (G 125 s) k ∧ U k = 0) (fun k => oN G (G 125 s) (G 125 (G 126 s)) k ∧ U k = 0) (fun k l => alk G (G 122 (16 * G 125 (G 126 s) + k)) (G 122 (16 * G 125 s + l))) (16 * k + (l + 1)).toNat
                    rw [show 16 * k + (l + 1) = 16 * k + l + 1 by omega, w1]
                    refine (am_f (by omega) (fun z => c5 ?_)).symm
                    have z2 : -(alk G (G 122 (16 * G 125 (G 126 s) + (16 * k + l) / 16)) (G 122 (16 * G 125 s + (16 * k + l) % 16))) < (bp (fun k => oN G (G 125 (G 126 s)) (G 125 s) k ∧ U k = 0) (fun k => oN G (G 125 s) (G 125 (G 126 s)) k ∧ U k = 0) (fun k l => alk G (G 122 (16 * G 125 (G 126 s) + k)) (G 122 (16 * G 125 s + l))) (16 * k + l).toNat).2 := z.2
                    rw [dm.1, dm.2, e5] at z2; exact z2
              · refine ⟨((be, mo), Z), ?_, stay (fun z => c4 z.2.2), w2, w3, w4⟩
                try dsimp only
                rw [rs2, s210_44, if_neg (by decide), gd_t (by omega), z1, if_neg (by omega), gd_t (by omega), z2, if_pos c4, nxt]
            · refine ⟨((be, mo), Z), ?_, stay (fun z => c3 z.1.2), w2, w3, w4⟩
              try dsimp only
              rw [rs2, s210_44, if_neg (by decide), gd_t (by omega), z1, if_pos c3, nxt]
          · refine ⟨((be, mo), Z), ?_, stay (fun z => c2 z.2.1), w2, w3, w4⟩
            try dsimp only
            rw [rs, bI_t c1, s210_34, if_neg (by decide), o2.2, bI_f c2]
            simp only [Option.bind_some]
            rw [s210_44, if_pos rfl, nxt]
        · refine ⟨((be, mo), Z), ?_, stay (fun z => c1 z.1.1), w2, w3, w4⟩
          try dsimp only
          rw [rs, bI_f c1, s210_34, if_pos rfl, nxt]
      · rintro ⟨⟨be, mo⟩, Z⟩ ⟨w1, w2, w3, w4⟩
        dsimp only at w1 w2 w3 w4
        exact ⟨((be, mo), Z), rfl, by rw [show 16 * (k + 1) = 16 * k + 16 by omega]; exact w1, w2, w3, w4⟩
    obtain ⟨z, y1, y2, y3, y4, y5⟩ := key
    refine ⟨(z.1, 0, z.2), ?_, y2, y3, y4, y5⟩
    try dsimp only
    rw [s210_10, if_neg (by omega), y1, s210_20]
    simp (disch := first | assumption | omega) only [↓gd_t, ↓if_pos, ↓if_neg, Option.bind_some, true_or, true_and, gd_t]
  · rintro ⟨⟨be, mo⟩, nu, Y⟩ ⟨v1, v2, v3, v4⟩
    dsimp only at v1 v2 v3 v4
    have v1 : (be, mo) = bp (fun k => oN G (G 125 (G 126 s)) (G 125 s) k ∧ U k = 0) (fun k => oN G (G 125 s) (G 125 (G 126 s)) k ∧ U k = 0) (fun k l => alk G (G 122 (16 * G 125 (G 126 s) + k)) (G 122 (16 * G 125 s + l))) 256 := v1
    rw [← v1] at bb ⊢
    have bb : be = -1 ∧ mo = 0 ∨ ((0 ≤ be ∧ be < 256) ∧ ((fun k => oN G (G 125 (G 126 s)) (G 125 s) k ∧ U k = 0) (be / 16) ∧ (fun k => oN G (G 125 s) (G 125 (G 126 s)) k ∧ U k = 0) (be % 16)) ∧ mo < 0) := bb
    try dsimp only
    rcases bb with ⟨x1, x2⟩ | ⟨x1, x2, x3⟩
    · refine ⟨Y, v2, Or.inl ⟨by omega, ?_, v3, v4⟩⟩
      rw [s210_10]
      simp (disch := first | assumption | omega) only [↓gd_t, ↓if_pos, ↓if_neg, Option.bind_some, true_or, true_and, gd_t]
    · refine ⟨upI (upI (upI Y 157 (be / 16) 1) 157 (be % 16) 1) 156 (be % 16) (be / 16), ((v2.up (by simp) (by decide)).up (by simp) (by decide)).up (by simp) (by decide), Or.inr ⟨x1.1, ?_, fun k => ?_, fun k => ?_⟩⟩
      · rw [s210_10, if_pos (Int.le_refl _), if_pos (by omega), if_neg (by omega), if_neg (by omega), gd_t (by omega), gd_t (by omega), gd_t (by omega), g1]
      · by_cases e : k = be % 16
        · rw [e, upI_s, if_pos rfl]
        · rw [upI_i e, upI_c (by decide), upI_c (by decide), if_neg e, v3]
      · rw [upI_c (by decide)]
        by_cases e : k = be % 16
        · rw [e, upI_s, if_pos (Or.inr rfl)]
        · rw [upI_i e]
          by_cases f : k = be / 16
          · rw [f, upI_s, if_pos (Or.inl rfl)]
          · rw [upI_i f, if_neg (fun z => by rcases z with z | z; exact f z; exact e z), v4]
end
