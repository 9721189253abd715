/-! calls on both sides: merge, conflict, settle -/
section
variable {S : MS}
theorem np_bd (hV : MV S) : 0 ≤ mO S (S.1 0).toNat + mQ S (S.1 0) ∧ mO S (S.1 0).toNat + mQ S (S.1 0) ≤ 49 := by
  have nb0 := hV.1 0 (by decide) (by decide)
  have nb1 := hV.1 1 (by decide) (by decide)
  have nb2 := hV.1 2 (by decide) (by decide)
  have ob := mO_bd hV (S.1 0).toNat (by omega)
  have qb := mQ_bd hV nb0.1 (Or.inr rfl)
  have t1 : mL S 1 (S.1 0) = S.1 1 - mF S 1 (S.1 0).toNat := by unfold mL mT; rw [if_pos rfl]
  have t2 : mL S 2 (S.1 0) = S.1 2 - mF S 2 (S.1 0).toNat := by unfold mL mT; rw [if_pos rfl]
  omega
theorem nc_bd (hV : MV S) : 0 ≤ ct (mC S) (mN S) ∧ ct (mC S) (mN S) ≤ 25 := by
  have nb0 := hV.1 0 (by decide) (by decide)
  have := ct_bd (p := mC S) (mN S)
  have e : (mN S : Int) = S.1 0 + 1 := by unfold mN; omega
  omega
theorem nC_lt (hV : MV S) {i : Int} (h0 : 0 ≤ i) (h1 : i ≤ S.1 0) (h : mC S i) : ct (mC S) i.toNat < ct (mC S) (mN S) := mC_lt (i := S.1 0 + 1) h0 (by omega) h
theorem np_le (hV : MV S) {i : Int} (h0 : 0 ≤ i) (h1 : i ≤ S.1 0) (h : mP S i) : mO S i.toNat + mQ S i ≤ mO S (S.1 0).toNat + mQ S (S.1 0) ∧ (i < S.1 0 → mO S i.toNat + mQ S i + 1 ≤ mO S (S.1 0).toNat + mQ S (S.1 0)) := by
  have nb0 := hV.1 0 (by decide) (by decide)
  have qb := mQ_bd hV nb0.1 (Or.inr rfl)
  by_cases c : i = S.1 0
  · rw [c]; omega
  · have := mO_le hV h0 (show i < S.1 0 by omega) (Int.le_refl _) h
    omega
theorem PcR.cg (hV : MV S) {pl pq sp sz pl' pq' sp' sz' : Int → Int} {np nc : Int} (h : PcR pl pq np sp sz nc S) (hp' : ∀ y, 0 ≤ y → y < np → pl' y = pl y ∧ pq' y = pq y) (hs : ∀ y, 0 ≤ y → y < 4 * nc → sz' y = sz y) (hs2 : ∀ y, 0 ≤ y → y < 24 * (4 * nc) → sp' y = sp y) : PcR pl' pq' np sp' sz' nc S := by
  refine ⟨h.1, h.2.1, fun i h0 h1 hP => ?_⟩
  have z := h.2.2 i h0 h1 hP
  have le := np_le hV h0 h1 hP
  have ob := (mO_bd hV i.toNat (by omega)).1
  have qb := mQ_bd hV h0 hP
  have cb := mC_ct S i.toNat
  have e1 := h.1
  have e2 := h.2.1
  refine ⟨fun k => ?_, fun k x a c => ?_, fun k => ?_⟩
  · have n1' := nC_lt hV h0 h1 ⟨hP, k⟩
    have q := mQ_c k
    obtain ⟨z1, z2⟩ := z.1 k
    refine ⟨by rw [(hp' _ (by omega) (by omega)).2]; exact z1, fun d a c => ⟨by rw [hs _ (by omega) (by omega)]; exact (z2 d a c).1, fun x e f => ?_⟩⟩
    have l := mL_bd hV (d := d) ⟨a, c⟩ h0 hP
    rw [hs2 _ (by omega) (by omega)]
    exact (z2 d a c).2 x e f
  · have q := mQ_k k
    rw [(hp' _ (by omega) (by omega)).1, (hp' _ (by omega) (by omega)).2]
    exact z.2.1 k x a c
  · have := le.2 k
    rw [(hp' _ (by omega) (by omega)).1, (hp' _ (by omega) (by omega)).2]
    exact z.2.2 k
theorem BlC.st (hV : MV S) {I I' : AI} {x : Nat} {st st' : Int → Int} (h : BlC I x S st) (hc : ∀ c, x ≤ c → c ≤ x + 15 → I' c = I c) (hs : ∀ c, 0 ≤ c → c < ct (mC S) (mN S) → st' c = st c) : BlC I' x S st' := by
  unfold BlC RwC at *
  rw [hc x (by omega) (by omega), hc (x + 1) (by omega) (by omega), hc (x + 1 + 1) (by omega) (by omega), hc (x + 3) (by omega) (by omega), hc (x + 3 + 1) (by omega) (by omega), hc (x + 5) (by omega) (by omega), hc (x + 5 + 1) (by omega) (by omega), hc (x + 7) (by omega) (by omega), hc (x + 8) (by omega) (by omega), hc (x + 9) (by omega) (by omega)]
  refine ⟨h.1, h.2.1, h.2.2.1, fun i h0 h1 hP => ?_⟩
  have z := h.2.2.2 i h0 h1 hP
  refine ⟨z.1, ?_, z.2.2⟩
  rw [z.2.1]
  by_cases k : mK S i = -1
  · rw [if_pos k, if_pos k, hs _ (mC_ct S i.toNat).1 (nC_lt hV h0 h1 ⟨hP, k⟩)]
  · rw [if_neg k, if_neg k]
end
theorem mgS_cg {G G' : AI} (h1 : G' 116 = G 116) (h2 : G' 117 = G 117) : mgS G' = mgS G := by
  have e1 : tl G' = tl G := by unfold tl; rw [h1]
  have e2 : ts G' = ts G := by unfold ts; rw [h2]
  unfold mgS mo
  rw [e1, e2]
section
variable {L : Nat} {b : Bool} {I : AI} {J : AJ}
/-- the reference keeps the merge -/
theorem l184 {np nc : Int} (e35 : I 115 35 = np) (e38 : I 115 38 = nc) (hn : 0 ≤ np ∧ np ≤ 49) (hc : 0 ≤ nc ∧ nc ≤ 25) : (fun r => ∃ I' : AI, r = some (vi nc, hp L b I' J) ∧ Sm [146, 147, 148, 149, 150] [] I I' ∧ (∀ y, 0 ≤ y → y < np → I' 146 y = I 142 y ∧ I' 147 y = I 143 y) ∧ (∀ y, 0 ≤ y → y < 4 * nc → I' 149 y = I 145 y) ∧ (∀ y, 0 ≤ y → y < 24 * (4 * nc) → I' 148 y = I 144 y) ∧ ∀ c, 0 ≤ c → c < nc → I' 150 c = -1) (ev 184 58 [some (vr 115), none, none, none, some (vi 0), none] [] (hp L b I J)) := by
  refine lp (lo := 0) (hi := np) (F := fun i (Y : AI) => ev 184 58 [some (vr 115), none, none, none, some (vi i), none] [] (hp L b Y J)) (Q := fun r => ∃ I' : AI, r = some (vi nc, hp L b I' J) ∧ Sm [146, 147, 148, 149, 150] [] I I' ∧ (∀ y, 0 ≤ y → y < np → I' 146 y = I 142 y ∧ I' 147 y = I 143 y) ∧ (∀ y, 0 ≤ y → y < 4 * nc → I' 149 y = I 145 y) ∧ (∀ y, 0 ≤ y → y < 24 * (4 * nc) → I' 148 y = I 144 y) ∧ ∀ c, 0 ≤ c → c < nc → I' 150 c = -1) (fun i Y => Sm [146, 147] [] I Y ∧ ∀ y, 0 ≤ y → y < i → Y 146 y = I 142 y ∧ Y 147 y = I 143 y) ?_ ?_ 0 I (Int.le_refl _) hn.1 ⟨Sm.rf, fun y a c => by omega⟩
  · intro i Y g1 g2 ⟨v1, v2⟩
    right
    have f35 : Y 115 35 = np := (v1.2 35 (by simp)).trans e35
    have f2 : Y 142 = I 142 := v1.1 142 (by decide) (by decide)
    have f3 : Y 143 = I 143 := v1.1 143 (by decide) (by decide)
    refine ⟨upI (upI Y 146 i (I 142 i)) 147 i (I 143 i), ?_, (v1.up (by simp) (by decide)).up (by simp) (by decide), fun y a d => ?_⟩
    · try dsimp only
      rw [s184_58, f35, if_neg (by omega), f2, upI_c (show 143 ≠ 146 by decide), f3, gd_t (by omega), gd_t (by omega), gd_t (by omega), gd_t (by omega), gd_t (by omega)]
    · rw [upI_c (show 146 ≠ 147 by decide), upI_w, upI_w, upI_c (show 147 ≠ 146 by decide)]
      by_cases e : y = i
      · rw [if_pos e, if_pos e, e]; exact ⟨rfl, rfl⟩
      · rw [if_neg e, if_neg e]; exact v2 y a (by omega)
  · intro X ⟨v1, v2⟩
    have f35 : X 115 35 = np := (v1.2 35 (by simp)).trans e35
    try dsimp only
    rw [s184_58, f35, if_pos (Int.le_refl _)]
    refine lp (lo := 0) (hi := 4 * nc) (F := fun i (Y : AI) => ev 184 104 [some (vr 115), none, none, none, some (vi i), none] [] (hp L b Y J)) (Q := fun r => ∃ I' : AI, r = some (vi nc, hp L b I' J) ∧ Sm [146, 147, 148, 149, 150] [] I I' ∧ (∀ y, 0 ≤ y → y < np → I' 146 y = I 142 y ∧ I' 147 y = I 143 y) ∧ (∀ y, 0 ≤ y → y < 4 * nc → I' 149 y = I 145 y) ∧ (∀ y, 0 ≤ y → y < 24 * (4 * nc) → I' 148 y = I 144 y) ∧ ∀ c, 0 ≤ c → c < nc → I' 150 c = -1) (fun i Y => Sm [148, 149] [] X Y ∧ (∀ y, 0 ≤ y → y < i → Y 149 y = I 145 y) ∧ ∀ y, 0 ≤ y → y < 24 * i → Y 148 y = I 144 y) ?_ ?_ 0 X (Int.le_refl _) (by omega) ⟨Sm.rf, fun y a c => by omega, fun y a c => by omega⟩
    · intro i Y g1 g2 ⟨u1, u2, u3⟩
      right
      have f38 : Y 115 38 = nc := (u1.2 38 (by simp)).trans ((v1.2 38 (by simp)).trans e38)
      have f5 : Y 145 = I 145 := (u1.1 145 (by decide) (by decide)).trans (v1.1 145 (by decide) (by decide))
      have A : (fun r => ∃ Z : AI, r = ev 184 104 [some (vr 115), none, none, none, some (vi (i + 1)), none] [] (hp L b Z J) ∧ Sm [148, 149] [] X Z ∧ (∀ y, 0 ≤ y → y < i + 1 → Z 149 y = I 145 y) ∧ ∀ y, 0 ≤ y → y < 24 * (i + 1) → Z 148 y = I 144 y) (ev 184 132 [some (vr 115), none, none, none, some (vi i), some (vi 0)] [] (hp L b (upI Y 149 i (I 145 i)) J)) := by
        refine lp (lo := 0) (hi := 24) (F := fun j (Y : AI) => ev 184 132 [some (vr 115), none, none, none, some (vi i), some (vi j)] [] (hp L b Y J)) (Q := fun r => ∃ Z : AI, r = ev 184 104 [some (vr 115), none, none, none, some (vi (i + 1)), none] [] (hp L b Z J) ∧ Sm [148, 149] [] X Z ∧ (∀ y, 0 ≤ y → y < i + 1 → Z 149 y = I 145 y) ∧ ∀ y, 0 ≤ y → y < 24 * (i + 1) → Z 148 y = I 144 y) (fun j Z => Sm [148, 149] [] X Z ∧ (∀ y, 0 ≤ y → y < i + 1 → Z 149 y = I 145 y) ∧ ∀ y, 0 ≤ y → y < 24 * i + j → Z 148 y = I 144 y) ?_ ?_ 0 _ (Int.le_refl _) (by decide) ⟨u1.up (by simp) (by decide), fun y a c => ?_, fun y a c => by rw [upI_c (by decide)]; exact u3 y a (by omega)⟩
        · intro j Z k1 k2 ⟨w1, w2, w3⟩
          right
          have f4 : Z 144 = I 144 := (w1.1 144 (by decide) (by decide)).trans (v1.1 144 (by decide) (by decide))
          refine ⟨upI Z 148 (24 * i + j) (I 144 (24 * i + j)), ?_, w1.up (by simp) (by decide), fun y a c => by rw [upI_c (by decide)]; exact w2 y a c, fun y a c => ?_⟩
          · try dsimp only
            rw [s184_132, if_neg (by omega), f4, gd_t (by omega), gd_t (by omega), gd_t (by omega), gd_t (by omega), gd_t (by omega), gd_t (by omega), gd_t (by omega)]
          · by_cases e : y = 24 * i + j
            · rw [e, upI_s]
            · rw [upI_i e]; exact w3 y a (by omega)
        · intro Z ⟨w1, w2, w3⟩
          refine ⟨Z, ?_, w1, w2, fun y a c => w3 y a (by omega)⟩
          try dsimp only
          rw [s184_132, if_pos (Int.le_refl _), gd_t (by omega)]
        · by_cases e : y = i
          · rw [e, upI_s]
          · rw [upI_i e]; exact u2 y a (by omega)
      obtain ⟨Z, a1, a2⟩ := A
      refine ⟨Z, ?_, a2⟩
      try dsimp only
      rw [s184_104, f38, gd_t (by omega), if_neg (by omega), f5, gd_t (by omega), gd_t (by omega), a1]
    · intro Y ⟨u1, u2, u3⟩
      have f38 : Y 115 38 = nc := (u1.2 38 (by simp)).trans ((v1.2 38 (by simp)).trans e38)
      try dsimp only
      rw [s184_104, f38, gd_t (by omega), if_pos (Int.le_refl _)]
      refine lp (lo := 0) (hi := nc) (F := fun i (Y : AI) => ev 184 180 [some (vr 115), none, none, none, some (vi i), none] [] (hp L b Y J)) (Q := fun r => ∃ I' : AI, r = some (vi nc, hp L b I' J) ∧ Sm [146, 147, 148, 149, 150] [] I I' ∧ (∀ y, 0 ≤ y → y < np → I' 146 y = I 142 y ∧ I' 147 y = I 143 y) ∧ (∀ y, 0 ≤ y → y < 4 * nc → I' 149 y = I 145 y) ∧ (∀ y, 0 ≤ y → y < 24 * (4 * nc) → I' 148 y = I 144 y) ∧ ∀ c, 0 ≤ c → c < nc → I' 150 c = -1) (fun i Z => Sm [150] [] Y Z ∧ ∀ c, 0 ≤ c → c < i → Z 150 c = -1) ?_ ?_ 0 Y (Int.le_refl _) (by omega) ⟨Sm.rf, fun y a c => by omega⟩
      · intro i Z k1 k2 ⟨w1, w2⟩
        right
        have h38 : Z 115 38 = nc := (w1.2 38 (by simp)).trans f38
        refine ⟨upI Z 150 i (-1), ?_, w1.up (by simp) (by decide), fun y a c => ?_⟩
        · try dsimp only
          rw [s184_180, h38, if_neg (by omega), gd_t (by omega), gd_t (by omega)]
        · by_cases e : y = i
          · rw [e, upI_s]
          · rw [upI_i e]; exact w2 y a (by omega)
      · intro Z ⟨w1, w2⟩
        have h38 : Z 115 38 = nc := (w1.2 38 (by simp)).trans f38
        refine ⟨Z, ?_, Sm.tr (v1.mono (by simp) (by simp)) (Sm.tr (u1.mono (by simp) (by simp)) (w1.mono (by simp) (by simp))), fun y a c => ?_, fun y a c => ?_, fun y a c => ?_, w2⟩
        · try dsimp only
          rw [s184_180, h38, if_pos (Int.le_refl _)]
        · rw [w1.1 146 (by decide) (by decide), w1.1 147 (by decide) (by decide), u1.1 146 (by decide) (by decide), u1.1 147 (by decide) (by decide)]
          exact v2 y a c
        · rw [w1.1 149 (by decide) (by decide)]; exact u2 y a c
        · rw [w1.1 148 (by decide) (by decide)]; exact u3 y a c
end
theorem op_merge (o a c : Int) : Op 110 184 [vi o, vi a, vi c] := by
  intro L b I J h
  obtain ⟨hT, hC, hU, hD, hB, hS, hP, hH, hF, hM, hJ⟩ := id h
  have t0 := hT.1.1
  by_cases cc : rdR I o ∧ rdR I a ∧ rdR I c
  · have ho := cc.1.1.1
    have ha := cc.2.1.1.1
    have hc := cc.2.2.1.1
    obtain ⟨I1, q1, q2, V, q3⟩ := c1R (L := L) (b := b) (I := I) (J := J) (x := 35) (by decide) hT.rl (o := o) (a := a) (c := c) ⟨by omega, ho.2⟩ ⟨by omega, ha.2⟩ ⟨by omega, hc.2⟩
    have q2 : ∀ c, c ∉ [2, 35, 36, 37, 38, 39, 40, 41, 42, 43, 44, 45, 46, 47, 48, 49, 50] → I1 c = I c := q2
    have e115 : I1 115 = I 115 := q2 115 (by decide)
    have hT1 : TxR I1 := hT.1.cg (fun c z => q2 c (by revert c; decide)) (by rw [e115])
    have rd1 : ∀ x, rdR I1 x ↔ rdR I x := rdR_cg (fun c z => q2 c (by revert c; decide)) (by rw [e115])
    have ts1 : ts I1 = ts I := by unfold ts; rw [q2 117 (by decide)]
    have mg1 : mgS I1 = mgS I := mgS_cg (q2 116 (by decide)) (q2 117 (by decide))
    obtain ⟨I2, w1, w2, -, w3⟩ := c183 (L := L) (b := b) (I := I1) (J := J) (o := o) (a := a) (c := c) (by omega) (by omega) (by omega) (by rw [ts1]; exact ts_bd hT.rl ho.2) (by rw [ts1]; exact ts_bd hT.rl ha.2) (by rw [ts1]; exact ts_bd hT.rl hc.2)
    rw [mg1] at w3
    obtain ⟨S, hS'⟩ : ∃ S, S = mgS I o a c := ⟨_, rfl⟩
    rw [← hS'] at w3 q3 V
    have nb := np_bd V
    have cb := nc_bd V
    obtain ⟨np, hnp⟩ : ∃ np, np = mO S (S.1 0).toNat + mQ S (S.1 0) := ⟨_, rfl⟩
    obtain ⟨nc, hnc⟩ : ∃ nc, nc = ct (mC S) (mN S) := ⟨_, rfl⟩
    have e35 : I2 115 35 = np := by rw [w3.2.1, hnp]
    have e38 : I2 115 38 = nc := by rw [w3.1, hnc]
    rw [← hnp] at nb
    rw [← hnc] at cb
    obtain ⟨I3, x1, x2, x3, x4, x5, x6⟩ := l184 (L := L) (b := b) (I := upI (upI (upI I2 115 39 1) 115 42 np) 115 45 nc) (J := J) (np := np) (nc := nc) (by rw [upI_i (by decide), upI_i (by decide), upI_i (by decide)]; exact e35) (by rw [upI_i (by decide), upI_i (by decide), upI_i (by decide)]; exact e38) nb cb
    have oo : ∀ c, c ≠ 115 → (upI (upI (upI I2 115 39 1) 115 42 np) 115 45 nc) c = I2 c := fun c z => by rw [upI_c z, upI_c z, upI_c z]
    rw [oo 142 (by decide), oo 143 (by decide)] at x3
    rw [oo 145 (by decide)] at x4
    rw [oo 144 (by decide)] at x5
    have sm2 : Sm [135, 136, 137, 140, 141, 142, 143, 144, 145, 146, 147, 148, 149, 150] [27, 35, 38, 39, 42, 45] I1 I3 := ((((w2.mono (by simp) (by simp)).fld (by simp)).fld (by simp)).fld (by simp)).tr (x2.mono (by simp) (by simp))
    have hA : Sm [2, 35, 36, 37, 38, 39, 40, 41, 42, 43, 44, 45, 46, 47, 48, 49, 50, 135, 136, 137, 140, 141, 142, 143, 144, 145, 146, 147, 148, 149, 150] [27, 35, 38, 39, 42, 45] I I3 := Sm.of2 q2 sm2 (by decide) (by simp) (by simp)
    refine ⟨nc, b, I1, J, I3, ?_, ?_, ?_⟩
    · rw [n110, s110_0, c66R hT, bI_t cc.1]
      simp only [Option.bind_some]
      rw [s110_8, if_neg (by decide), c66R hT, bI_t cc.2.1]
      simp only [Option.bind_some]
      rw [s110_19, if_neg (by decide), c66R hT, bI_t cc.2.2]
      simp only [Option.bind_some]
      rw [s110_30, if_pos (by decide), q1]
      simp only [Option.bind_some]
      rw [s110_50, q3.2.2.1, hnc]
    · rw [n184, s184_0, c137 hT1, bI_t ((rd1 o).mpr cc.1)]
      simp only [Option.bind_some]
      rw [s184_5, if_neg (by decide), c137 hT1, bI_t ((rd1 a).mpr cc.2.1)]
      simp only [Option.bind_some]
      rw [s184_13, if_neg (by decide), c137 hT1, bI_t ((rd1 c).mpr cc.2.2)]
      simp only [Option.bind_some]
      rw [s184_21, if_pos (by decide), w1]
      simp only [Option.bind_some]
      have u1 : (upI I2 115 39 1) 115 35 = np := by rw [upI_i (by decide)]; exact e35
      have u2 : (upI (upI I2 115 39 1) 115 42 np) 115 38 = nc := by rw [upI_i (by decide), upI_i (by decide)]; exact e38
      rw [s184_34, u1, u2, gd_t (by decide), x1]
    · have e39 : I3 115 39 = 1 := by rw [x2.2 39 (by simp), upI_i (by decide), upI_i (by decide), upI_s]
      have e42 : I3 115 42 = np := by rw [x2.2 42 (by simp), upI_i (by decide), upI_s]
      have e45 : I3 115 45 = nc := by rw [x2.2 45 (by simp), upI_s]
      have hm : RM I3 I3 := by
        refine Or.inr ⟨e39, S, V, q3.st V (fun c z1 z2 => sm2.1 c (by simp; omega) (by omega)) (fun c z1 z2 => x6 c z1 (by omega)), ?_, fun c z1 z2 => by rw [x6 c z1 (by omega)]; omega⟩
        rw [e42, e45]
        rw [e35, e38] at w3
        exact w3.cg V x3 x4 x5
      exact ⟨⟨RT.cg (h.1) (fun c z => hA.1 c (by revert c; decide) (by revert c; decide)) (fun c z => hA.1 c (by revert c; decide) (by revert c; decide)) (hA.2 5 (by decide)), RC.cg (h.2.1) (hA.1 161 (by decide) (by decide)) (fun c z => hA.1 c (by revert c; decide) (by revert c; decide)) (hA.2 5 (by decide)), RU.cg (h.2.2.1) (hA.1 11 (by decide) (by decide)) (fun c z => hA.1 c (by revert c; decide) (by revert c; decide)) (hA.2 5 (by decide)), RD.cg (h.2.2.2.1) (fun c z => hA.1 c (by revert c; decide) (by revert c; decide)) (hA.1 121 (by decide) (by decide)) (hA.2 7 (by decide)), RB.cg (h.2.2.2.2.1) (hA.1 5 (by decide) (by decide)) (hA.1 124 (by decide) (by decide)) (hA.2 5 (by decide)), RS.cg (h.2.2.2.2.2.1) (fun c z => hA.1 c (by revert c; decide) (by revert c; decide)) (fun c z => hA.1 c (by revert c; decide) (by revert c; decide)) (hA.2 5 (by decide)) (hA.2 10 (by decide)), RP.cg (h.2.2.2.2.2.2.1) (fun c z => hA.1 c (by revert c; decide) (by revert c; decide)) (fun _ _ => rfl) (fun c z => hA.1 c (by revert c; decide) (by revert c; decide)) (hA.2 10 (by decide)) (hA.2 16 (by decide)), RH.cg (h.2.2.2.2.2.2.2.1) (hA.1 30 (by decide) (by decide)) (fun c z => hA.1 c (by revert c; decide) (by revert c; decide)) (hA.2 16 (by decide)), RF.cg (h.2.2.2.2.2.2.2.2.1) (fun c z => hA.1 c (by revert c; decide) (by revert c; decide)) (fun c z => hA.1 c (by revert c; decide) (by revert c; decide)) (hA.2 30 (by decide)), hm, RJ.cg (h.2.2.2.2.2.2.2.2.2.2) (fun c z => hA.1 c (by revert c; decide) (by revert c; decide)) (hA.1 155 (by decide) (by decide)) (fun j z => hA.2 j (by revert j; decide))⟩, hA.1 0 (by decide) (by decide)⟩
  · refine ⟨-2, b, I, J, I, ?_, ?_, h, rfl⟩
    · rw [n110, s110_0, c66R hT]
      by_cases d : rdR I o
      · rw [bI_t d]
        simp only [Option.bind_some]
        rw [s110_8, if_neg (by decide), c66R hT]
        by_cases e : rdR I a
        · rw [bI_t e]
          simp only [Option.bind_some]
          rw [s110_19, if_neg (by decide), c66R hT, bI_f (fun z => cc ⟨d, e, z⟩)]
          simp (disch := first | assumption | omega) only [↓gd_t, ↓if_pos, ↓if_neg, Option.bind_some, true_or, true_and, gd_t, s110_30, s110_33]
        · rw [bI_f e]
          simp (disch := first | assumption | omega) only [↓gd_t, ↓if_pos, ↓if_neg, Option.bind_some, true_or, true_and, gd_t, s110_19, s110_33]
      · rw [bI_f d]
        simp (disch := first | assumption | omega) only [↓gd_t, ↓if_pos, ↓if_neg, Option.bind_some, true_or, true_and, gd_t, s110_8, s110_33]
    · rw [n184, s184_0, c137 hT.1]
      by_cases d : rdR I o
      · rw [bI_t d]
        simp only [Option.bind_some]
        rw [s184_5, if_neg (by decide), c137 hT.1]
        by_cases e : rdR I a
        · rw [bI_t e]
          simp only [Option.bind_some]
          rw [s184_13, if_neg (by decide), c137 hT.1, bI_f (fun z => cc ⟨d, e, z⟩)]
          simp (disch := first | assumption | omega) only [↓gd_t, ↓if_pos, ↓if_neg, Option.bind_some, true_or, true_and, gd_t, s184_21, s184_24]
        · rw [bI_f e]
          simp (disch := first | assumption | omega) only [↓gd_t, ↓if_pos, ↓if_neg, Option.bind_some, true_or, true_and, gd_t, s184_13, s184_24]
      · rw [bI_f d]
        simp (disch := first | assumption | omega) only [↓gd_t, ↓if_pos, ↓if_neg, Option.bind_some, true_or, true_and, gd_t, s184_5, s184_24]
