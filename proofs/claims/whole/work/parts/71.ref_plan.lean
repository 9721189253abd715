/-! the reference: onStep, joinName -/
def onS (G : AI) (x j : Int) : Int := if 0 ≤ x then G 122 (16 * G 125 x + j) else -1
/-- the plan of name j, in the reference's cells -/
def PlR (I : AI) (G : AI) (o a c j : Int) : Prop := I 152 j = pv G o a c ∧ (pv G o a c = -4 → I 154 j = (We (mgS G o a c) (fun _ => -1)).1 ∧ ∀ x, 0 ≤ x → x < (We (mgS G o a c) (fun _ => -1)).1 → I 153 (24 * j + x) = (We (mgS G o a c) (fun _ => -1)).2 x)
section
variable {L : Nat} {b : Bool} {I : AI} {J : AJ}
theorem c192Q {x j : Int} (hx : x < 80) (h : 0 ≤ x → 0 ≤ I 125 x ∧ I 125 x < 100) (hj : 0 ≤ j ∧ j < 16) : evc 192 [vr 115, vi x, vi j] (hp L b I J) = some (vi (onS I x j), hp L b I J) := by
  rw [n192, s192_0]
  unfold onS
  by_cases c : 0 ≤ x
  · have := h c
    rw [if_pos c, if_pos c, gd_t (by omega), gd_t (by omega), gd_t (by omega), gd_t (by omega)]
  · rw [if_neg c, if_neg c]
theorem ts_tx (hT : TxR I) {t : Int} (ht : t < I 115 5) : 0 ≤ ts I t ∧ ts I t ≤ 24 := by
  unfold ts
  by_cases c : 0 ≤ t
  · rw [if_pos c]; exact hT.2.2.1 t c ht
  · rw [if_neg c]; omega
theorem c193R (hT : TxR I) {x s t j o a c : Int} (hj : 0 ≤ j ∧ j < 16) (hx : x < 80 ∧ s < 80 ∧ t < 80) (h1 : ∀ y, 0 ≤ y → (y = x ∨ y = s ∨ y = t) → 0 ≤ I 125 y ∧ I 125 y < 100) (eo : onS I x j = o) (ea : onS I s j = a) (ec : onS I t j = c) (ho : -1 ≤ o ∧ o < I 115 5) (ha : -1 ≤ a ∧ a < I 115 5) (hc : -1 ≤ c ∧ c < I 115 5) : (fun r => ∃ I' : AI, r = some (vi (bI (pv I o a c ≠ -2)), hp L b I' J) ∧ Sm [135, 136, 137, 140, 141, 142, 143, 144, 145, 152, 153, 154] [27, 35, 38] I I' ∧ (pv I o a c ≠ -2 → PlR I' I o a c j) ∧ ∀ k, 0 ≤ k → k ≠ j → I' 152 k = I 152 k ∧ I' 154 k = I 154 k ∧ ∀ x, 0 ≤ x → x < 24 → I' 153 (24 * k + x) = I 153 (24 * k + x)) (evc 193 [vr 115, vi x, vi s, vi t, vi j] (hp L b I J)) := by
  have t0 := hT.1
  have st : evc 193 [vr 115, vi x, vi s, vi t, vi j] (hp L b I J) = ev 193 25 [some (vr 115), none, none, none, some (vi j), some (vi o), some (vi a), none, none] [vi c] (hp L b I J) := by
    rw [n193, s193_0, c192Q hx.1 (fun z => h1 x z (Or.inl rfl)) hj, eo]
    simp only [Option.bind_some]
    rw [s193_7, c192Q hx.2.1 (fun z => h1 s z (Or.inr (Or.inl rfl))) hj, ea]
    simp only [Option.bind_some]
    rw [s193_16, c192Q hx.2.2 (fun z => h1 t z (Or.inr (Or.inr rfl))) hj, ec]
    simp only [Option.bind_some]
  have keep : ∀ (v : Int), ∀ k, 0 ≤ k → k ≠ j → (upI I 152 j v) 152 k = I 152 k ∧ (upI I 152 j v) 154 k = I 154 k ∧ ∀ x, 0 ≤ x → x < 24 → (upI I 152 j v) 153 (24 * k + x) = I 153 (24 * k + x) := fun v k _ k1 => ⟨upI_i k1 _ _ _, by rw [upI_c (by decide)], fun x _ _ => by rw [upI_c (by decide)]⟩
  -- no merge
  have plain : ∀ v, pv I o a c = v → v ≠ -4 → v ≠ -2 → ev 193 25 [some (vr 115), none, none, none, some (vi j), some (vi o), some (vi a), none, none] [vi c] (hp L b I J) = some (vi 1, hp L b (upI I 152 j v) J) → (fun r => ∃ I' : AI, r = some (vi (bI (pv I o a c ≠ -2)), hp L b I' J) ∧ Sm [135, 136, 137, 140, 141, 142, 143, 144, 145, 152, 153, 154] [27, 35, 38] I I' ∧ (pv I o a c ≠ -2 → PlR I' I o a c j) ∧ ∀ k, 0 ≤ k → k ≠ j → I' 152 k = I 152 k ∧ I' 154 k = I 154 k ∧ ∀ x, 0 ≤ x → x < 24 → I' 153 (24 * k + x) = I 153 (24 * k + x)) (evc 193 [vr 115, vi x, vi s, vi t, vi j] (hp L b I J)) := fun v h1 h2 h3 h4 => by
    refine ⟨upI I 152 j v, by rw [st, h4, bI_t (by rw [h1]; exact h3)], Sm.rf.up (by simp) (by decide), fun _ => ⟨by rw [upI_s, h1], fun z => absurd (h1.symm.trans z) h2⟩, keep v⟩
  by_cases k1 : a = c ∨ c = o
  · refine plain a (by unfold pv; rw [if_pos (bI_t k1)]) (by omega) (by omega) ?_
    have e1 : ev 193 25 [some (vr 115), none, none, none, some (vi j), some (vi o), some (vi a), none, none] [vi c] (hp L b I J) = ev 193 47 [some (vr 115), none, none, none, some (vi j), some (vi o), some (vi a), some (vi c), none] [vi j, vr 152] (hp L b I J) := by
      rw [s193_25]
      by_cases e : a = c
      · rw [if_pos e]
      · rw [if_neg e, if_neg (fun z => z (k1.resolve_left e))]
    rw [e1, s193_47, s193_66, gd_t hj, gd_t hj, upI_s, if_pos (by omega), s193_89, gd_t (by decide)]
  · have k1' : ¬ bI (a = c ∨ c = o) = 1 := fun z => k1 (bI_1.mp z)
    by_cases k2 : a = o
    · refine plain c (by unfold pv; rw [if_neg k1', if_pos k2]) (by omega) (by omega) ?_
      rw [s193_25, if_neg (by omega), if_pos (by omega), if_neg (fun z => z k2), s193_66, gd_t hj, gd_t hj, upI_s, if_pos (by omega), s193_89, gd_t (by decide)]
    · have st2 : ev 193 25 [some (vr 115), none, none, none, some (vi j), some (vi o), some (vi a), none, none] [vi c] (hp L b I J) = ev 193 66 [some (vr 115), none, none, none, some (vi j), some (vi o), some (vi a), some (vi c), none] [vi (-3), vi j, vr 152] (hp L b I J) := by
        rw [s193_25, if_neg (by omega), if_pos (by omega), if_pos k2]
      by_cases k3 : a = -1 ∨ c = -1
      · refine plain (-3) (by unfold pv; rw [if_neg k1', if_neg k2, if_pos (bI_t k3)]) (by decide) (by decide) ?_
        rw [st2, s193_66, gd_t hj, gd_t hj, upI_s, if_neg (fun z => z rfl)]
        by_cases e : a < 0
        · rw [if_pos e, s193_89, gd_t (by decide)]
        · rw [if_neg e, if_neg (by omega), s193_89, gd_t (by decide)]
      · have k3' : ¬ bI (a = -1 ∨ c = -1) = 1 := fun z => k3 (bI_1.mp z)
        obtain ⟨X, hX⟩ : ∃ X, X = upI I 152 j (-3) := ⟨_, rfl⟩
        have oX : ∀ c, c ≠ 152 → X c = I c := fun c z => by rw [hX]; exact upI_c z _ _ _
        have hTX : TxR X := hT.cg (fun c z => oX c (by revert c; decide)) (by rw [oX 115 (by decide)])
        have rdX : ∀ x, rdR X x ↔ rdR I x := rdR_cg (fun c z => oX c (by revert c; decide)) (by rw [oX 115 (by decide)])
        have smX : Sm [135, 136, 137, 140, 141, 142, 143, 144, 145, 152, 153, 154] [27, 35, 38] I X := by rw [hX]; exact Sm.rf.up (by simp) (by decide)
        have kX := keep (-3)
        rw [← hX] at kX
        have st3 : evc 193 [vr 115, vi x, vi s, vi t, vi j] (hp L b I J) = ev 193 97 [some (vr 115), none, none, none, some (vi j), some (vi o), some (vi a), some (vi c), none] [vi (bI (rdR I a))] (hp L b X J) := by
          rw [st, st2, s193_66, gd_t hj, gd_t hj, upI_s, if_neg (fun z => z rfl), if_neg (by omega), if_pos (by omega), ← hX, c137 hTX, bI_cg (rdX a)]
          simp only [Option.bind_some]
        by_cases k4 : rdR I a ∧ rdR I c ∧ (o = -1 ∨ rdR I o)
        · obtain ⟨r1, r2, r3⟩ := k4
          have st4 : evc 193 [vr 115, vi x, vi s, vi t, vi j] (hp L b I J) = ev 193 125 [some (vr 115), none, none, none, some (vi j), some (vi o), some (vi a), some (vi c), none] [] (hp L b X J) := by
            rw [st3, bI_t r1, s193_97, if_neg (by decide), c137 hTX, bI_t ((rdX c).mpr r2)]
            simp only [Option.bind_some]
            rw [s193_106, if_neg (by decide)]
            by_cases e : o < 0
            · rw [if_pos e]
            · rw [if_neg e, c137 hTX, bI_t ((rdX o).mpr (r3.resolve_left (by omega)))]
              simp only [Option.bind_some]
              rw [s193_120, if_pos (by decide)]
          have x115 := oX 115 (by decide)
          obtain ⟨Y, w1, w2, V, w3⟩ := c183 (L := L) (b := b) (I := X) (J := J) (o := o) (a := a) (c := c) (by omega) (by omega) (by omega) (ts_tx hTX (by rw [x115]; exact ho.2)) (ts_tx hTX (by rw [x115]; exact ha.2)) (ts_tx hTX (by rw [x115]; exact hc.2))
          rw [mgS_cg (oX 116 (by decide)) (oX 117 (by decide))] at V w3
          obtain ⟨S, hS⟩ : ∃ S, S = mgS I o a c := ⟨_, rfl⟩
          rw [← hS] at V w3
          have nc := nc_bd V
          have np := np_bd V
          have e38 := w3.1
          have e35 := w3.2.1
          have smY : Sm [135, 136, 137, 140, 141, 142, 143, 144, 145, 152, 153, 154] [27, 35, 38] I Y := smX.tr (w2.mono (by simp) (by simp))
          have kY : ∀ k, 0 ≤ k → k ≠ j → Y 152 k = I 152 k ∧ Y 154 k = I 154 k ∧ ∀ x, 0 ≤ x → x < 24 → Y 153 (24 * k + x) = I 153 (24 * k + x) := by
            rw [w2.1 152 (by decide) (by decide), w2.1 153 (by decide) (by decide), w2.1 154 (by decide) (by decide)]
            exact kX
          by_cases k5 : ct (mC S) (mN S) = 0 ∧ (We S (fun _ => -1)).1 ≤ 24
          · have pe : pv I o a c = -4 := by unfold pv; rw [if_neg k1', if_neg k2, if_neg k3', if_pos (bI_t ⟨r1, r2, r3⟩), ← hS, if_pos (bI_t k5)]
            have e38' : Y 115 38 = 0 := by rw [e38]; exact k5.1
            rw [e38'] at w3
            obtain ⟨pw1, pw2⟩ := pc_We V w3 (fun _ => -1)
            have wb := We_bd V (fun _ => -1)
            obtain ⟨n, hn⟩ : ∃ n, n = (We S (fun _ => -1)).1 := ⟨_, rfl⟩
            rw [← hn] at pw1 wb k5
            have pwn : Y 115 35 = n := pw1.symm
            have A : (fun r => ∃ Z : AI, r = some (vi 1, hp L b Z J) ∧ Sm [153] [] (upI (upI Y 152 j (-4)) 154 j n) Z ∧ (∀ x, 0 ≤ x → x < n → Z 153 (24 * j + x) = Y 142 x) ∧ ∀ k, 0 ≤ k → k ≠ j → ∀ x, 0 ≤ x → x < 24 → Z 153 (24 * k + x) = Y 153 (24 * k + x)) (ev 193 176 [some (vr 115), none, none, none, some (vi j), none, none, none, some (vi 0)] [] (hp L b (upI (upI Y 152 j (-4)) 154 j n) J)) := by
              refine lp (lo := 0) (hi := n) (F := fun i (Z : AI) => ev 193 176 [some (vr 115), none, none, none, some (vi j), none, none, none, some (vi i)] [] (hp L b Z J)) (Q := fun r => ∃ Z : AI, r = some (vi 1, hp L b Z J) ∧ Sm [153] [] (upI (upI Y 152 j (-4)) 154 j n) Z ∧ (∀ x, 0 ≤ x → x < n → Z 153 (24 * j + x) = Y 142 x) ∧ ∀ k, 0 ≤ k → k ≠ j → ∀ x, 0 ≤ x → x < 24 → Z 153 (24 * k + x) = Y 153 (24 * k + x)) (fun i Z => Sm [153] [] (upI (upI Y 152 j (-4)) 154 j n) Z ∧ (∀ x, 0 ≤ x → x < i → Z 153 (24 * j + x) = Y 142 x) ∧ ∀ k, 0 ≤ k → k ≠ j → ∀ x, 0 ≤ x → x < 24 → Z 153 (24 * k + x) = Y 153 (24 * k + x)) ?_ ?_ 0 _ (Int.le_refl _) wb.1 ⟨Sm.rf, fun x z1 z2 => by omega, fun k _ _ x _ _ => by rw [upI_c (by decide), upI_c (by decide)]⟩
              · intro i Z g1 g2 ⟨v1, v2, v3⟩
                right
                have f35 : Z 115 35 = n := by rw [v1.2 35 (by simp), upI_c (by decide), upI_c (by decide)]; exact pwn
                have f142 : Z 142 = Y 142 := by rw [v1.1 142 (by decide) (by decide), upI_c (by decide), upI_c (by decide)]
                refine ⟨upI Z 153 (24 * j + i) (Y 142 i), ?_, v1.up (by simp) (by decide), fun x z1 z2 => ?_, fun k z1 z2 x z3 z4 => ?_⟩
                · try dsimp only
                  rw [s193_176, f35, if_neg (by omega), f142, gd_t (by omega), gd_t (by omega), gd_t (by omega), gd_t (by omega), gd_t (by omega)]
                · by_cases e : x = i
                  · rw [e, upI_s]
                  · rw [upI_i (by omega)]; exact v2 x z1 (by omega)
                · rw [upI_i (by omega)]; exact v3 k z1 z2 x z3 z4
              · intro Z ⟨v1, v2, v3⟩
                have f35 : Z 115 35 = n := by rw [v1.2 35 (by simp), upI_c (by decide), upI_c (by decide)]; exact pwn
                refine ⟨Z, ?_, v1, v2, v3⟩
                try dsimp only
                rw [s193_176, f35, if_pos (Int.le_refl _), gd_t (by decide)]
            obtain ⟨Z, u1, u2, u3, u4⟩ := A
            refine ⟨Z, ?_, ?_, fun _ => ⟨?_, fun _ => ?_⟩, fun k z1 z2 => ?_⟩
            · have e1 : (upI Y 152 j (-4)) 115 35 = n := by rw [upI_c (by decide)]; exact pwn
              rw [st4, s193_125, w1]
              simp only [Option.bind_some]
              rw [s193_135, e38', if_neg (by decide), pwn, if_pos k5.2, gd_t hj, gd_t hj, e1, u1, pe, bI_t (by decide)]
            · exact ((smY.up (by simp) (by decide)).up (by simp) (by decide)).tr (u2.mono (by simp) (by simp))
            · rw [u2.1 152 (by decide) (by decide), upI_c (by decide), upI_s, pe]
            · rw [← hS, u2.1 154 (by decide) (by decide), upI_s, ← hn]
              refine ⟨rfl, fun x z1 z2 => ?_⟩
              rw [u3 x z1 z2]
              exact pw2 x z1 (by omega)
            · rw [u2.1 152 (by decide) (by decide), u2.1 154 (by decide) (by decide), upI_c (show 152 ≠ 154 by decide), upI_i z2, upI_i z2, upI_c (show 154 ≠ 152 by decide)]
              have q := kY k z1 z2
              exact ⟨q.1, q.2.1, fun x z3 z4 => (u4 k z1 z2 x z3 z4).trans (q.2.2 x z3 z4)⟩
          · have pe : pv I o a c = -3 := by unfold pv; rw [if_neg k1', if_neg k2, if_neg k3', if_pos (bI_t ⟨r1, r2, r3⟩), ← hS, if_neg (fun z => k5 (bI_1.mp z))]
            refine ⟨Y, ?_, smY, fun _ => ⟨by rw [pe, w2.1 152 (by decide) (by decide), hX, upI_s], fun z => absurd (pe.symm.trans z) (by decide)⟩, kY⟩
            rw [st4, s193_125, w1]
            simp only [Option.bind_some]
            rw [s193_135, pe, bI_t (by decide)]
            by_cases e : 0 < Y 115 38
            · rw [if_pos e, s193_151, gd_t (by decide)]
            · have e0 : Y 115 38 = 0 := by omega
              rw [e0] at w3
              have pw := (pc_We V w3 (fun _ => -1)).1
              rw [if_neg e, if_neg (fun z => k5 ⟨by omega, by omega⟩), s193_151, gd_t (by decide)]
        · have pe : pv I o a c = -2 := by unfold pv; rw [if_neg k1', if_neg k2, if_neg k3', if_neg (fun z => k4 (bI_1.mp z))]
          refine ⟨X, ?_, smX, fun z => absurd pe z, kX⟩
          rw [st3, pe, bI_f (show ¬ ((-2 : Int) ≠ -2) from fun z => z rfl)]
          by_cases r1 : rdR I a
          · rw [bI_t r1, s193_97, if_neg (by decide), c137 hTX, bI_cg (rdX c)]
            simp only [Option.bind_some]
            by_cases r2 : rdR I c
            · rw [bI_t r2, s193_106, if_neg (by decide), if_neg (fun z => k4 ⟨r1, r2, Or.inl (by omega)⟩), c137 hTX, bI_cg (rdX o), bI_f (fun z => k4 ⟨r1, r2, Or.inr z⟩)]
              simp only [Option.bind_some]
              rw [s193_120, if_neg (by decide), s193_123, gd_t (by decide)]
            · rw [bI_f r2, s193_106, if_pos rfl, s193_123, gd_t (by decide)]
          · rw [bI_f r1, s193_97, if_pos rfl, s193_123, gd_t (by decide)]
end
