/-! the reference: packing, units, counts -/
theorem ts_bdR {I : AI} (h : TxR I) {t : Int} (ht : t < I 115 5) : 0 ≤ ts I t ∧ ts I t ≤ 24 := by
  unfold ts
  by_cases c : 0 ≤ t
  · rw [if_pos c]; exact h.2.2.1 t c ht
  · rw [if_neg c]; decide
theorem TxR.cg {G G' : AI} (h : TxR G) (hg : ∀ c ∈ [117, 118, 119, 120], G' c = G c) (h5 : G' 115 5 = G 115 5) : TxR G' := by
  unfold TxR at *
  rw [hg 117 (by decide), hg 118 (by decide), hg 119 (by decide), hg 120 (by decide), h5]
  exact h
section
variable {L : Nat} {b : Bool} {I : AI} {J : AJ} {k : Nat}
theorem l217 (hT : TxR I) : ∀ (n : Nat) (u d : Int), (0 ≤ u ∧ u < I 115 5) → u < n → (0 ≤ d ∧ d + u ≤ 120) → ev 217 4 [some (vr 115), none, some (vi d), some (vi u)] [] (hp L b I J) = some (vi (d + dpR I n u), hp L b I J) := by
  have h0 := hT.1
  intro n
  induction n with
  | zero => intro u d h1 h2; omega
  | succ n ih =>
    intro u d h1 h2 h3
    have h5 := hT.2.1 u h1.1 h1.2
    rw [s217_4]
    unfold dpR
    by_cases c : I 120 u < 0
    · simp (disch := first | assumption | omega) only [↓gd_t, ↓if_pos, ↓if_neg, Option.bind_some, true_or, true_and, gd_t, Int.add_zero]
    · simp (disch := first | assumption | omega) only [↓gd_t, ↓if_pos, ↓if_neg, Option.bind_some, true_or, true_and, gd_t]
      rw [ih (I 120 u) (d + 1) (by omega) (by omega) (by omega), Int.add_assoc]
theorem c217 (hT : TxR I) {t : Int} (ht : 0 ≤ t ∧ t < I 115 5) : evc 217 [vr 115, vi t] (hp L b I J) = some (vi (dpR I 120 t), hp L b I J) := by
  have h0 := hT.1
  rw [n217, s217_0, l217 hT 120 t 0 ht (by omega) (by omega), Int.zero_add]
/-- the pairs of two texts -/
theorem c175R (hT : TxR I) {t u : Int} (ht : t < I 115 5) (hu : u < I 115 5) : ∃ I' : AI, evc 175 [vr 115, vi t, vi u] (hp L b I J) = some (vi 0, hp L b I' J) ∧ Sm [135, 136, 137] [27] I I' ∧ PO (tl I t) (tl I u) (ts I t) (ts I u) (I' 136) (I' 137) (I' 115 27) ∧ I' 115 27 = tb (tl I t) (tl I u) (ts I t) (ts I u) 0 0 := by
  have h0 := hT.1
  exact c175 (L := L) (b := b) (J := J) (I := I) (t := t) (u := u) (by omega) (by omega) rfl rfl rfl rfl (ts_bdR hT ht) (ts_bdR hT hu)
theorem c218 (hT : TxR I) {t u : Int} (ht : 0 ≤ t ∧ t < I 115 5) (hu : 0 ≤ u ∧ u < I 115 5) : ∃ I' : AI, evc 218 [vr 115, vi t, vi u] (hp L b I J) = some (vi (2 + I 117 t + I 117 u - 2 * lcs I t u), hp L b I' J) ∧ Sm [135, 136, 137] [27] I I' := by
  have h0 := hT.1
  have b1 := hT.2.2.1 t ht.1 ht.2
  have b2 := hT.2.2.1 u hu.1 hu.2
  have lb : 0 ≤ lcs I t u ∧ lcs I t u ≤ I 117 t ∧ lcs I t u ≤ I 117 u := pc_bd b1.1 b2.1
  obtain ⟨I', q1, q2, q3, q4⟩ := c175R (L := L) (b := b) (J := J) hT ht.2 hu.2
  rw [ts_t ht.1, ts_t hu.1] at q4
  have q4 : I' 115 27 = lcs I t u := q4
  have e : I' 117 = I 117 := q2.1 117 (by decide) (by decide)
  refine ⟨I', ?_, q2⟩
  rw [n218]
  simp (disch := first | assumption | omega) only [↓gd_t, ↓if_pos, ↓if_neg, Option.bind_some, true_or, true_and, gd_t, s218_0, q1]
  rw [s218_6, e, q4]
  simp (disch := first | assumption | omega) only [↓gd_t, ↓if_pos, ↓if_neg, Option.bind_some, true_or, true_and, gd_t]
theorem c219 (hT : TxR I) {t : Int} (ht : 0 ≤ t ∧ t < I 115 5) : (fun r => ∃ I' : AI, r = some (vi 0, hp L b I' J) ∧ Sm [120, 135, 136, 137] [27] I I' ∧ I' 120 = upI I 120 t (pkb I t t.toNat).1 120) (evc 219 [vr 115, vi t] (hp L b I J)) := by
  have h0 := hT.1
  have bt := hT.2.2.1 t ht.1 ht.2
  have e0 : evc 219 [vr 115, vi t] (hp L b I J) = ev 219 14 [some (vr 115), some (vi t), some (vi (1 + I 117 t)), some (vi (-1)), some (vi 0), none] [] (hp L b I J) := by
    rw [n219]
    simp (disch := first | assumption | omega) only [↓gd_t, ↓if_pos, ↓if_neg, Option.bind_some, true_or, true_and, gd_t, s219_0]
  rw [e0]
  refine lp (lo := 0) (hi := t) (F := fun u (s : (Int × Int) × AI) => ev 219 14 [some (vr 115), some (vi t), some (vi s.1.2), some (vi s.1.1), some (vi u), none] [] (hp L b s.2 J)) (Q := fun r => ∃ I' : AI, r = some (vi 0, hp L b I' J) ∧ Sm [120, 135, 136, 137] [27] I I' ∧ I' 120 = upI I 120 t (pkb I t t.toNat).1 120) (fun u s => s.1 = pkb I t u.toNat ∧ Sm [135, 136, 137] [27] I s.2) ?_ ?_ 0 ((-1, 1 + I 117 t), I) (Int.le_refl _) ht.1 ⟨rfl, Sm.rf⟩
  · rintro u ⟨⟨best, few⟩, I2⟩ g1 g2 ⟨v1, v2⟩
    dsimp only at v1 v2
    right
    have hc : ∀ c ∈ [116, 117, 118, 119, 120], I2 c = I c := fun c hc => v2.1 c (by revert c; decide) (by revert c; decide)
    have h5 : I2 115 5 = I 115 5 := v2.2 5 (by decide)
    have h' : TxR I2 := hT.cg (fun c z => hc c (by revert c; decide)) h5
    have ub := dpR_bd I2 120 u
    have fwd : ∀ (r : Int × Int) (I3 : AI), ev 219 60 [some (vr 115), some (vi t), some (vi r.2), some (vi r.1), some (vi u), none] [] (hp L b I3 J) = ev 219 14 [some (vr 115), some (vi t), some (vi r.2), some (vi r.1), some (vi (u + 1)), none] [] (hp L b I3 J) := fun r I3 => by
      rw [s219_60]
      simp (disch := first | assumption | omega) only [↓gd_t, ↓if_pos, ↓if_neg, Option.bind_some, true_or, true_and, gd_t]
    have er : rdR I2 u ↔ rdR I u := rdR_cg (fun c z => hc c (by revert c; decide)) h5 u
    have ed : dpR I2 120 u = dpR I 120 u := dpR_cg (hc 120 (by decide)) 120 u
    have el : lcs I2 u t = lcs I u t := by rw [lcs_cg (hc 116 (by decide)) (hc 117 (by decide))]
    by_cases c2 : rdR I u
    · by_cases c3 : dpR I 120 u ≤ 3
      · obtain ⟨I3, q1, q2⟩ := c218 (L := L) (b := b) (J := J) h' (t := u) (u := t) ⟨g1, by omega⟩ ⟨ht.1, by omega⟩
        rw [el, hc 117 (by decide)] at q1
        have st2 : ev 219 14 [some (vr 115), some (vi t), some (vi few), some (vi best), some (vi u), none] [] (hp L b I2 J) = ev 219 46 [some (vr 115), some (vi t), some (vi few), some (vi best), some (vi u), none] [vi (2 + I 117 u + I 117 t - 2 * lcs I u t)] (hp L b I3 J) := by
          rw [s219_14, if_neg (by omega), c137 h', bI_t (er.mpr c2)]
          simp only [Option.bind_some]
          rw [s219_26, if_neg (by decide), c217 h' ⟨g1, by omega⟩]
          simp only [Option.bind_some]
          rw [s219_35, if_neg (by omega), q1]
          simp only [Option.bind_some]
        by_cases c4 : 2 + I 117 u + I 117 t - 2 * lcs I u t < few
        · refine ⟨((u, 2 + I 117 u + I 117 t - 2 * lcs I u t), I3), ?_, ?_, v2.tr q2⟩
          · try dsimp only
            rw [st2, s219_46, if_neg (by omega)]
            exact fwd (u, 2 + I 117 u + I 117 t - 2 * lcs I u t) I3
          · exact (am_t (ok := fun u => rdR I u ∧ dpR I 120 u ≤ 3) (v := fun u => 2 + I 117 u + I 117 t - 2 * lcs I u t) (A := 1 + I 117 t) g1 ⟨c2, c3⟩ (by show _ < (pkb I t u.toNat).2; rw [← v1]; exact c4)).symm
        · refine ⟨((best, few), I3), ?_, ?_, v2.tr q2⟩
          · try dsimp only
            rw [st2, s219_46, if_pos (by omega)]
            exact fwd (best, few) I3
          · show (best, few) = _
            rw [v1]
            refine (am_f g1 (fun z => c4 ?_)).symm
            have z2 : 2 + I 117 u + I 117 t - 2 * lcs I u t < (pkb I t u.toNat).2 := z.2
            rw [← v1] at z2; exact z2
      · refine ⟨((best, few), I2), ?_, ?_, v2⟩
        · try dsimp only
          rw [s219_14, if_neg (by omega), c137 h', bI_t (er.mpr c2)]
          simp only [Option.bind_some]
          rw [s219_26, if_neg (by decide), c217 h' ⟨g1, by omega⟩]
          simp only [Option.bind_some]
          rw [s219_35, if_pos (by omega)]
          exact fwd (best, few) I2
        · show (best, few) = _
          rw [v1]
          exact (am_f g1 (fun z => c3 z.1.2)).symm
    · refine ⟨((best, few), I2), ?_, ?_, v2⟩
      · try dsimp only
        rw [s219_14, if_neg (by omega), c137 h', bI_f (fun z => c2 (er.mp z))]
        simp only [Option.bind_some]
        rw [s219_26, if_pos rfl]
        exact fwd (best, few) I2
      · show (best, few) = _
        rw [v1]
        exact (am_f g1 (fun z => c2 z.1.1)).symm
  · rintro ⟨⟨best, few⟩, I2⟩ ⟨v1, v2⟩
    dsimp only at v1 v2
    rw [← v1]
    refine ⟨upI I2 120 t best, ?_, (v2.mono (by simp) (by simp)).up (by simp) (by decide), ?_⟩
    · try dsimp only
      rw [s219_14]
      simp (disch := first | assumption | omega) only [↓gd_t, ↓if_pos, ↓if_neg, Option.bind_some, true_or, true_and, gd_t]
    · funext j; rw [upI_e, upI_e, v2.1 120 (by decide) (by decide)]
theorem pkG_s (G : AI) {i : Int} (h : 0 ≤ i) : pkG G (i + 1).toNat = if bI (rdR (pkG G i.toNat) i) = 1 then upI (pkG G i.toNat) 120 i (pkb (pkG G i.toNat) i i.toNat).1 else pkG G i.toNat := by
  rw [show (i + 1).toNat = i.toNat + 1 by omega]
  show (if bI (rdR (pkG G i.toNat) ((i.toNat : Nat) : Int)) = 1 then _ else _) = _
  rw [show ((i.toNat : Nat) : Int) = i by omega]
theorem TxR_pk (hT : TxR I) : ∀ n : Nat, (n : Int) ≤ I 115 5 → TxR (pkG I n)
  | 0, _ => hT
  | n + 1, h => by
    have ih := TxR_pk hT n (by omega)
    have e5 : pkG I n 115 5 = I 115 5 := by rw [pkG_o _ (by decide)]
    have ep := pkG_s I (i := n) (by omega)
    rw [show ((n : Int) + 1).toNat = n + 1 by omega, show ((n : Nat) : Int).toNat = n by omega] at ep
    rw [ep]
    split
    · refine ⟨?_, fun t a c => ?_, fun t a c => ?_, fun t a c => ?_⟩
      · rw [upI_c (by decide)]; exact ih.1
      · rw [upI_c (by decide)] at c
        by_cases z : t = n
        · rw [z, upI_s]
          rcases am_bd (fun u => rdR (pkG I n) u ∧ dpR (pkG I n) 120 u ≤ 3) (fun u => 2 + pkG I n 117 u + pkG I n 117 (n : Int) - 2 * lcs (pkG I n) u (n : Int)) (1 + pkG I n 117 (n : Int)) n with ⟨z1, -⟩ | ⟨z1, -⟩
          · have z1 : (pkb (pkG I n) (n : Int) n).1 = -1 := z1
            rw [z1]; omega
          · have z1 : 0 ≤ (pkb (pkG I n) (n : Int) n).1 ∧ (pkb (pkG I n) (n : Int) n).1 < n := z1
            omega
        · rw [upI_i z]; exact ih.2.1 t a c
      · rw [upI_c (by decide)] at c ⊢; exact ih.2.2.1 t a c
      · rw [upI_c (by decide)] at c
        rw [upI_c (by decide), upI_c (by decide)]; exact ih.2.2.2 t a c
    · exact ih
def isD (G : AI) (t : Int) : Prop := G 119 t = 0 ∧ G 118 t = 0 ∧ 0 ≤ G 120 t
theorem c147 (hT : TxR I) (t : Int) : evc 147 [vr 115, vi t] (hp L b I J) = some (vi (if 0 ≤ t ∧ t < I 115 5 then (if I 119 t = 1 then 3 else if I 118 t = 1 then 2 else if 0 ≤ I 120 t then 1 else 0) else -2), hp L b I J) := by
  have h0 := hT.1
  rw [n147, s147_0, c134]
  by_cases c : 0 ≤ t ∧ t < I 115 5
  · have h1 := hT.2.2.2 t c.1 c.2
    rw [if_pos c, bI_t c]
    simp only [Option.bind_some]
    rw [s147_5]
    by_cases c1 : I 119 t = 1
    · simp (disch := first | assumption | omega) only [↓gd_t, ↓if_pos, ↓if_neg, Option.bind_some, true_or, true_and, gd_t]
    · by_cases c2 : I 118 t = 1
      · simp (disch := first | assumption | omega) only [↓gd_t, ↓if_pos, ↓if_neg, Option.bind_some, true_or, true_and, gd_t]
      · by_cases c3 : 0 ≤ I 120 t
        · simp (disch := first | assumption | omega) only [↓gd_t, ↓if_pos, ↓if_neg, Option.bind_some, true_or, true_and, gd_t]
        · simp (disch := first | assumption | omega) only [↓gd_t, ↓if_pos, ↓if_neg, Option.bind_some, true_or, true_and, gd_t]
  · rw [if_neg c, bI_f c]
    simp (disch := first | assumption | omega) only [↓gd_t, ↓if_pos, ↓if_neg, Option.bind_some, true_or, true_and, gd_t, s147_5]
theorem c220 (hT : TxR I) : (fun r => ∃ I' : AI, r = some (vi (ct (isD (pkG I (I 115 5).toNat)) (I 115 5).toNat), hp L b I' J) ∧ Sm [120, 135, 136, 137] [27] I I' ∧ I' 120 = pkG I (I 115 5).toNat 120) (evc 220 [vr 115] (hp L b I J)) := by
  have h0 := hT.1
  rw [n220, s220_0]
  have key : ∀ I2 : AI, Sm [120, 135, 136, 137] [27] I I2 → I2 120 = pkG I (I 115 5).toNat 120 → ev 220 33 [some (vr 115), some (vi 0), some (vi 0)] [] (hp L b I2 J) = some (vi (ct (isD (pkG I (I 115 5).toNat)) (I 115 5).toNat), hp L b I2 J) := by
    intro I2 v1 v2
    have h5 : I2 115 5 = I 115 5 := v1.2 5 (by decide)
    have hp1 := TxR_pk hT (I 115 5).toNat (by omega)
    have hg : ∀ c ∈ [117, 118, 119, 120], I2 c = pkG I (I 115 5).toNat c := fun c hc => by
      by_cases z : c = 120
      · rw [z]; exact v2
      · rw [pkG_o _ z]; exact v1.1 c (by simp at hc ⊢; omega) (by revert c; decide)
    have h' : TxR I2 := hp1.cg hg (by rw [h5, pkG_o _ (by decide)])
    have ed : ∀ t, isD I2 t ↔ isD (pkG I (I 115 5).toNat) t := fun t => by unfold isD; rw [hg 118 (by decide), hg 119 (by decide), hg 120 (by decide)]
    rw [← ct_cg (I 115 5).toNat (fun t _ _ => ed t)]
    refine lp (lo := 0) (hi := I 115 5) (F := fun i (y : Int) => ev 220 33 [some (vr 115), some (vi y), some (vi i)] [] (hp L b I2 J)) (Q := fun r => r = some (vi (ct (isD I2) (I 115 5).toNat), hp L b I2 J)) (fun i y => y = ct (isD I2) i.toNat) ?_ ?_ 0 0 (Int.le_refl _) h0.1 rfl
    · intro i y g1 g2 v
      right
      have hb := ct_bd (p := isD I2) i.toNat
      have hf := h'.2.2.2 i g1 (by omega)
      refine ⟨y + bI (isD I2 i), ?_, by rw [v, ct_s g1]⟩
      try dsimp only
      rw [s220_33, if_neg (by omega), c147 h', if_pos ⟨g1, by omega⟩]
      simp only [Option.bind_some]
      rw [s220_47]
      by_cases c : isD I2 i
      · obtain ⟨d1, d2, d3⟩ := id c
        rw [bI_t c]
        simp (disch := first | assumption | omega) only [↓gd_t, ↓if_pos, ↓if_neg, Option.bind_some, true_or, true_and, gd_t, s220_56]
      · rw [bI_f c]
        by_cases c1 : I2 119 i = 1
        · simp (disch := first | assumption | omega) only [↓gd_t, ↓if_pos, ↓if_neg, Option.bind_some, true_or, true_and, gd_t, s220_56]
        · by_cases c2 : I2 118 i = 1
          · simp (disch := first | assumption | omega) only [↓gd_t, ↓if_pos, ↓if_neg, Option.bind_some, true_or, true_and, gd_t, s220_56]
          · have c3 : ¬ 0 ≤ I2 120 i := fun z => c ⟨by omega, by omega, z⟩
            simp (disch := first | assumption | omega) only [↓gd_t, ↓if_pos, ↓if_neg, Option.bind_some, true_or, true_and, gd_t, s220_56]
    · intro y v
      try dsimp only
      rw [s220_33, v]
      simp (disch := first | assumption | omega) only [↓gd_t, ↓if_pos, ↓if_neg, Option.bind_some, true_or, true_and, gd_t]
  refine lp (lo := 0) (hi := I 115 5) (F := fun i (I2 : AI) => ev 220 2 [some (vr 115), some (vi i), none] [] (hp L b I2 J)) (Q := fun r => ∃ I' : AI, r = some (vi (ct (isD (pkG I (I 115 5).toNat)) (I 115 5).toNat), hp L b I' J) ∧ Sm [120, 135, 136, 137] [27] I I' ∧ I' 120 = pkG I (I 115 5).toNat 120) (fun i I2 => Sm [120, 135, 136, 137] [27] I I2 ∧ I2 120 = pkG I i.toNat 120) ?_ ?_ 0 I (Int.le_refl _) h0.1 ⟨Sm.rf, rfl⟩
  · intro i I2 g1 g2 ⟨v1, v2⟩
    right
    have h5 : I2 115 5 = I 115 5 := v1.2 5 (by decide)
    have hp1 := TxR_pk hT i.toNat (by omega)
    have e5 : I2 115 5 = pkG I i.toNat 115 5 := by rw [h5, pkG_o _ (by decide)]
    have hg : ∀ c ∈ [116, 117, 118, 119, 120], I2 c = pkG I i.toNat c := fun c hc => by
      by_cases z : c = 120
      · rw [z]; exact v2
      · rw [pkG_o _ z]; exact v1.1 c (by simp at hc ⊢; omega) (by revert c; decide)
    have h' : TxR I2 := hp1.cg (fun c z => hg c (by revert c; decide)) e5
    have er := rdR_cg (fun c z => hg c (by revert c; decide)) e5 i
    have ep := pkG_s I g1
    by_cases c : rdR I2 i
    · rw [if_pos (bI_t (er.mp c))] at ep
      obtain ⟨I3, q1, q2, q3⟩ := c219 (L := L) (b := b) (J := J) h' (t := i) ⟨g1, by omega⟩
      refine ⟨I3, ?_, v1.tr q2, ?_⟩
      · try dsimp only
        rw [s220_2, if_neg (by omega), c137 h', bI_t c]
        simp (disch := first | assumption | omega) only [↓gd_t, ↓if_pos, ↓if_neg, Option.bind_some, true_or, true_and, gd_t, s220_15, q1, s220_23]
      · rw [q3, ep, pkb_cg hg e5]
        funext j; rw [upI_e, upI_e, v2]
    · rw [if_neg (fun z => c (er.mpr (bI_1.mp z)))] at ep
      refine ⟨I2, ?_, v1, by rw [ep]; exact v2⟩
      try dsimp only
      rw [s220_2, if_neg (by omega), c137 h', bI_f c]
      simp (disch := first | assumption | omega) only [↓gd_t, ↓if_pos, ↓if_neg, Option.bind_some, true_or, true_and, gd_t, s220_15, s220_23]
  · intro I2 ⟨v1, v2⟩
    have h5 : I2 115 5 = I 115 5 := v1.2 5 (by decide)
    refine ⟨I2, ?_, v1, v2⟩
    try dsimp only
    rw [s220_2, if_pos (by omega), key I2 v1 v2]
/-- the units of a text; of n texts -/
noncomputable def uv (G : AI) (t : Int) : Int := if G 119 t = 1 ∨ G 118 t = 1 then 0 else if G 120 t < 0 then 1 + G 117 t else if bI (rdR G t) = 1 then 2 + G 117 (G 120 t) + G 117 t - 2 * lcs G (G 120 t) t else 2
noncomputable def us (G : AI) : Nat → Int
  | 0 => 0
  | n + 1 => us G n + uv G n
theorem us_s (G : AI) {i : Int} (h : 0 ≤ i) : us G (i + 1).toNat = us G i.toNat + uv G i := by
  rw [show (i + 1).toNat = i.toNat + 1 by omega]
  show us G i.toNat + uv G (i.toNat : Int) = _
  rw [show ((i.toNat : Nat) : Int) = i by omega]
theorem uv_bd (hT : TxR I) {t : Int} (ht : 0 ≤ t ∧ t < I 115 5) : 0 ≤ uv I t ∧ uv I t ≤ 100 := by
  unfold uv
  have b1 := hT.2.2.1 t ht.1 ht.2
  have s1 := hT.2.1 t ht.1 ht.2
  split
  · decide
  · split
    · omega
    · split
      · have b2 := hT.2.2.1 (I 120 t) (by omega) (by omega)
        have lb : 0 ≤ lcs I (I 120 t) t ∧ lcs I (I 120 t) t ≤ I 117 (I 120 t) ∧ lcs I (I 120 t) t ≤ I 117 t := pc_bd b2.1 b1.1
        omega
      · decide
theorem us_bd (hT : TxR I) : ∀ n : Nat, (n : Int) ≤ I 115 5 → 0 ≤ us I n ∧ us I n ≤ 100 * n
  | 0, _ => by show (0 : Int) ≤ 0 ∧ _; exact ⟨Int.le_refl _, by simp [us]⟩
  | n + 1, h => by
    have := us_bd hT n (by omega)
    have := uv_bd hT (t := n) ⟨by omega, by omega⟩
    show 0 ≤ us I n + uv I n ∧ us I n + uv I n ≤ _
    omega
theorem c222 (hT : TxR I) : (fun r => ∃ I' : AI, r = some (vi (us I (I 115 5).toNat), hp L b I' J) ∧ Sm [135, 136, 137] [27] I I') (evc 222 [vr 115] (hp L b I J)) := by
  have h0 := hT.1
  rw [n222, s222_0]
  refine lp (lo := 0) (hi := I 115 5) (F := fun i (s : Int × AI) => ev 222 4 [some (vr 115), some (vi s.1), some (vi i)] [] (hp L b s.2 J)) (Q := fun r => ∃ I' : AI, r = some (vi (us I (I 115 5).toNat), hp L b I' J) ∧ Sm [135, 136, 137] [27] I I') (fun i s => s.1 = us I i.toNat ∧ Sm [135, 136, 137] [27] I s.2) ?_ ?_ 0 (0, I) (Int.le_refl _) h0.1 ⟨rfl, Sm.rf⟩
  · rintro i ⟨y, I2⟩ g1 g2 ⟨v1, v2⟩
    dsimp only at v1 v2
    right
    have hc : ∀ c ∈ [116, 117, 118, 119, 120], I2 c = I c := fun c hc => v2.1 c (by revert c; decide) (by revert c; decide)
    have h5 : I2 115 5 = I 115 5 := v2.2 5 (by decide)
    have h' : TxR I2 := hT.cg (fun c z => hc c (by revert c; decide)) h5
    have hf := hT.2.2.2 i g1 g2
    have s1 := hT.2.1 i g1 g2
    have b1 := hT.2.2.1 i g1 g2
    have ub := uv_bd hT ⟨g1, g2⟩
    have ub2 := us_bd hT i.toNat (by omega)
    have er : rdR I2 i ↔ rdR I i := rdR_cg (fun c z => hc c (by revert c; decide)) h5 i
    have fin : ∀ (v : Int) (I3 : AI), v = uv I i → Sm [135, 136, 137] [27] I I3 → ev 222 74 [some (vr 115), none, some (vi i)] [vi v, vi y] (hp L b I3 J) = ev 222 4 [some (vr 115), some (vi (us I (i + 1).toNat)), some (vi (i + 1))] [] (hp L b I3 J) := fun v I3 e1 e2 => by
      rw [s222_74, us_s I g1, ← v1, ← e1]
      simp (disch := first | assumption | omega) only [↓gd_t, ↓if_pos, ↓if_neg, Option.bind_some, true_or, true_and, gd_t, s222_76]
    have st := s222_4 (L := L) (b := b) (I := I2) (J := J) y i
    rw [hc 119 (by decide), hc 118 (by decide), hc 120 (by decide), hc 117 (by decide), h5] at st
    by_cases c : I 119 i = 1 ∨ I 118 i = 1
    · have e : uv I i = 0 := by unfold uv; rw [if_pos c]
      refine ⟨(us I (i + 1).toNat, I2), ?_, rfl, v2⟩
      try dsimp only
      rw [st, us_s I g1, ← v1, e, Int.add_zero]
      by_cases c1 : I 119 i = 0
      · simp (disch := first | assumption | omega) only [↓gd_t, ↓if_pos, ↓if_neg, Option.bind_some, true_or, true_and, gd_t, s222_76]
      · simp (disch := first | assumption | omega) only [↓gd_t, ↓if_pos, ↓if_neg, Option.bind_some, true_or, true_and, gd_t, s222_76]
    · by_cases c2 : I 120 i < 0
      · refine ⟨(us I (i + 1).toNat, I2), ?_, rfl, v2⟩
        try dsimp only
        rw [st]
        simp (disch := first | assumption | omega) only [↓gd_t, ↓if_pos, ↓if_neg, Option.bind_some, true_or, true_and, gd_t]
        exact fin _ I2 (by unfold uv; rw [if_neg c, if_pos c2]) v2
      · by_cases c3 : rdR I i
        · obtain ⟨I3, q1, q2⟩ := c218 (L := L) (b := b) (J := J) h' (t := I 120 i) (u := i) ⟨by omega, by omega⟩ ⟨g1, by omega⟩
          rw [hc 117 (by decide), lcs_cg (hc 116 (by decide)) (hc 117 (by decide))] at q1
          refine ⟨(us I (i + 1).toNat, I3), ?_, rfl, v2.tr q2⟩
          try dsimp only
          rw [st, if_neg (by omega), gd_t (by omega), if_neg (by omega), gd_t (by omega), if_neg (by omega), gd_t (by omega), if_pos (by omega), c137 h', bI_t (er.mpr c3)]
          simp only [Option.bind_some]
          rw [s222_56, hc 120 (by decide)]
          simp (disch := first | assumption | omega) only [↓gd_t, ↓if_pos, ↓if_neg, Option.bind_some, true_or, true_and, gd_t, q1, s222_70]
          exact fin _ I3 (by unfold uv; rw [if_neg c, if_neg c2, if_pos (bI_t c3)]) (v2.tr q2)
        · refine ⟨(us I (i + 1).toNat, I2), ?_, rfl, v2⟩
          try dsimp only
          rw [st, if_neg (by omega), gd_t (by omega), if_neg (by omega), gd_t (by omega), if_neg (by omega), gd_t (by omega), if_pos (by omega), c137 h', bI_f (fun z => c3 (er.mp z))]
          simp (disch := first | assumption | omega) only [↓gd_t, ↓if_pos, ↓if_neg, Option.bind_some, true_or, true_and, gd_t, s222_56]
          exact fin _ I2 (by unfold uv; rw [if_neg c, if_neg c2, if_neg (fun z => c3 (bI_1.mp z))]) v2
  · rintro ⟨y, I2⟩ ⟨v1, v2⟩
    dsimp only at v1 v2
    have h5 : I2 115 5 = I 115 5 := v2.2 5 (by decide)
    refine ⟨I2, ?_, v2⟩
    try dsimp only
    rw [s222_4, h5, v1]
    simp (disch := first | assumption | omega) only [↓gd_t, ↓if_pos, ↓if_neg, Option.bind_some, true_or, true_and, gd_t]
theorem c227 {n : Int} (hk : (k = 119 ∧ n ≤ 120) ∨ (k = 123 ∧ n ≤ 100)) (hn : 0 ≤ n) : evc 227 [vr 115, vr k, vi n] (hp L b I J) = some (vi (ct (fun t => I k t ≠ 0) n.toNat), hp L b I J) := by
  have k1 : (_root_.Jvm.Pilot.CVersionVaultLaw_law_r7127_110c49.hk L b)[k]? = some (1, aL k) ∧ 0 < k ∧ n ≤ ((aL k : Nat) : Int) := by
    rcases hk with ⟨h, h2⟩ | ⟨h, h2⟩ <;> subst h
    · exact ⟨hk_at b 118 (1, 120) rfl, by decide, h2⟩
    · exact ⟨hk_at b 122 (1, 100) rfl, by decide, h2⟩
  have hb2 : n ≤ 120 := by rcases hk with h | h <;> omega
  rw [n227, s227_0]
  refine lp (lo := 0) (hi := n) (F := fun i (y : Int) => ev 227 5 [none, some (vr k), some (vi n), some (vi y), some (vi i)] [] (hp L b I J)) (Q := fun r => r = some (vi (ct (fun t => I k t ≠ 0) n.toNat), hp L b I J)) (fun i y => y = ct (fun t => I k t ≠ 0) i.toNat) ?_ ?_ 0 0 (Int.le_refl _) hn rfl
  · intro i y g1 g2 v
    right
    have hb := ct_bd (p := fun t => I k t ≠ 0) i.toNat
    refine ⟨y + bI (I k i ≠ 0), ?_, by rw [v, ct_s g1]⟩
    have k3 := k1.2.2
    try dsimp only
    rw [s227_5 _ _ _ _ k1.1 k1.2.1]
    by_cases c : I k i = 0
    · rw [bI_f (fun z => z c)]
      simp (disch := first | assumption | omega) only [↓gd_t, ↓if_pos, ↓if_neg, Option.bind_some, true_or, true_and, gd_t, s227_24]
    · rw [bI_t c]
      simp (disch := first | assumption | omega) only [↓gd_t, ↓if_pos, ↓if_neg, Option.bind_some, true_or, true_and, gd_t, s227_24]
  · intro y v
    try dsimp only
    rw [s227_5 _ _ _ _ k1.1 k1.2.1, v]
    simp (disch := first | assumption | omega) only [↓gd_t, ↓if_pos, ↓if_neg, Option.bind_some, true_or, true_and, gd_t]
theorem c229 (hT : TxR I) : evc 229 [vr 115] (hp L b I J) = some (vi (ct (fun t => I 118 t = 1 ∧ I 119 t = 0) (I 115 5).toNat), hp L b I J) := by
  have h0 := hT.1
  rw [n229, s229_0]
  refine lp (lo := 0) (hi := I 115 5) (F := fun i (y : Int) => ev 229 4 [some (vr 115), some (vi y), some (vi i)] [] (hp L b I J)) (Q := fun r => r = some (vi (ct (fun t => I 118 t = 1 ∧ I 119 t = 0) (I 115 5).toNat), hp L b I J)) (fun i y => y = ct (fun t => I 118 t = 1 ∧ I 119 t = 0) i.toNat) ?_ ?_ 0 0 (Int.le_refl _) h0.1 rfl
  · intro i y g1 g2 v
    right
    have hb := ct_bd (p := fun t => I 118 t = 1 ∧ I 119 t = 0) i.toNat
    have hf := hT.2.2.2 i g1 g2
    refine ⟨y + bI (I 118 i = 1 ∧ I 119 i = 0), ?_, by rw [v, ct_s g1]⟩
    try dsimp only
    rw [s229_4]
    by_cases c1 : I 118 i = 0
    · rw [bI_f (by omega)]
      simp (disch := first | assumption | omega) only [↓gd_t, ↓if_pos, ↓if_neg, Option.bind_some, true_or, true_and, gd_t, s229_35, s229_36]
    · by_cases c2 : I 119 i = 0
      · rw [bI_t (by omega)]
        simp (disch := first | assumption | omega) only [↓gd_t, ↓if_pos, ↓if_neg, Option.bind_some, true_or, true_and, gd_t, s229_36]
      · rw [bI_f (by omega)]
        simp (disch := first | assumption | omega) only [↓gd_t, ↓if_pos, ↓if_neg, Option.bind_some, true_or, true_and, gd_t, s229_35, s229_36]
  · intro y v
    try dsimp only
    rw [s229_4, v]
    simp (disch := first | assumption | omega) only [↓gd_t, ↓if_pos, ↓if_neg, Option.bind_some, true_or, true_and, gd_t]
end
/-! the class: units -/
section
variable {L : Nat} {b : Bool} {I G : AI} {J : AJ}
theorem c80R (h : RT I G) (hU : RU I G) : evc 80 [vr 6] (hp L b I J) = some (vi (us G (G 115 5).toNat), hp L b I J) := by
  have h0 := h.1.1
  have h6 := h.2.1
  rw [n80, s80_0]
  refine lp (lo := 0) (hi := G 115 5) (F := fun i (y : Int) => ev 80 4 [some (vr 6), some (vi y), some (vi i)] [] (hp L b I J)) (Q := fun r => r = some (vi (us G (G 115 5).toNat), hp L b I J)) (fun i y => y = us G i.toNat) ?_ ?_ 0 0 (Int.le_refl _) h0.1 rfl
  · intro i y g1 g2 v
    right
    have r := h.2.2 i g1 g2
    have hf := h.1.2.2.2 i g1 g2
    have b1 := h.1.2.2.1 i g1 g2
    have ub := uv_bd h.1 ⟨g1, g2⟩
    have ub2 := us_bd h.1 i.toNat (by omega)
    refine ⟨us G (i + 1).toNat, ?_, rfl⟩
    try dsimp only
    rw [us_s G g1, ← v]
    have st := s80_4 (L := L) (b := b) (I := I) (J := J) y i
    rw [h6, r.1] at st
    rw [st]
    have r3 := r.2.2.1
    by_cases c : G 119 i = 1 ∨ G 118 i = 1
    · have e : uv G i = 0 := by unfold uv; rw [if_pos c]
      have r4 : I 9 i = 3 ∨ I 9 i = 2 := by
        rw [r3]
        by_cases d : G 119 i = 1
        · rw [if_pos d]; exact Or.inl rfl
        · rw [if_neg d, if_pos (by omega)]; exact Or.inr rfl
      rw [e, Int.add_zero]
      simp (disch := first | assumption | omega) only [↓gd_t, ↓if_pos, ↓if_neg, Option.bind_some, true_or, true_and, gd_t, s80_67]
    · rw [if_neg (by omega), if_neg (by omega)] at r3
      by_cases c2 : G 120 i < 0
      · rw [if_neg (by omega)] at r3
        have e : uv G i = 1 + G 117 i := by unfold uv; rw [if_neg c, if_pos c2]
        rw [e] at ub ⊢
        simp (disch := first | assumption | omega) only [↓gd_t, ↓if_pos, ↓if_neg, Option.bind_some, true_or, true_and, gd_t, s80_67]
      · rw [if_pos (by omega)] at r3
        have th : thR G i := ⟨⟨g1, g2⟩, by omega⟩
        have fb := flR_bd h.1 (t := i) g2
        rw [if_neg (by omega), gd_t (by omega), if_pos (by omega), gd_t (by omega), if_neg (by omega), c68R h th]
        simp only [Option.bind_some]
        rw [s80_51]
        by_cases c3 : flR G i = -1
        · have e : uv G i = 2 + G 117 (G 120 i) + G 117 i - 2 * lcs G (G 120 i) i := by unfold uv; rw [if_neg c, if_neg c2, if_pos (bI_t ⟨th, c3⟩)]
          rw [← hU i g1 g2 (by omega) (by omega)] at e
          rw [e] at ub ⊢
          simp (disch := first | assumption | omega) only [↓gd_t, ↓if_pos, ↓if_neg, Option.bind_some, true_or, true_and, gd_t, s80_65, s80_67]
        · have e : uv G i = 2 := by unfold uv; rw [if_neg c, if_neg c2, if_neg (fun z => c3 (bI_1.mp z).2)]
          rw [e]
          simp (disch := first | assumption | omega) only [↓gd_t, ↓if_pos, ↓if_neg, Option.bind_some, true_or, true_and, gd_t, s80_65, s80_67]
  · intro y v
    try dsimp only
    rw [s80_4, v]
    simp (disch := first | assumption | omega) only [↓gd_t, ↓if_pos, ↓if_neg, Option.bind_some, true_or, true_and, gd_t]
end
