/-! packing -/
def dpR (G : AI) : Nat → Int → Int
  | 0, _ => 0
  | n + 1, u => if u < 0 ∨ G 120 u < 0 then 0 else 1 + dpR G n (G 120 u)
theorem dpR_bd (G : AI) : ∀ (n : Nat) (u : Int), 0 ≤ dpR G n u ∧ dpR G n u ≤ n
  | 0, _ => ⟨Int.le_refl 0, Int.le_refl 0⟩
  | n + 1, u => by
    unfold dpR
    have := dpR_bd G n (G 120 u)
    split <;> omega
theorem dpR_cg {G G' : AI} (h : G' 120 = G 120) : ∀ (n : Nat) (u : Int), dpR G' n u = dpR G n u
  | 0, _ => rfl
  | n + 1, u => by unfold dpR; rw [h, dpR_cg h n]
theorem rdR_cg {G G' : AI} (hg : ∀ c ∈ [118, 119, 120], G' c = G c) (h5 : G' 115 5 = G 115 5) (t : Int) : rdR G' t ↔ rdR G t := by
  unfold rdR thR flR
  rw [hg 118 (by decide), hg 119 (by decide), hg 120 (by decide), h5]
/-- the best stem of a text, and its units -/
noncomputable def pkb (G : AI) (t : Int) (n : Nat) : Int × Int := am (fun u => rdR G u ∧ dpR G 120 u ≤ 3) (fun u => 2 + G 117 u + G 117 t - 2 * lcs G u t) (1 + G 117 t) n
/-- the texts, n of them packed anew -/
noncomputable def pkG (G : AI) : Nat → AI
  | 0 => G
  | n + 1 => if bI (rdR (pkG G n) n) = 1 then upI (pkG G n) 120 n (pkb (pkG G n) n n).1 else pkG G n
theorem pkG_o (G : AI) {c : Nat} (hc : c ≠ 120) : ∀ n : Nat, pkG G n c = G c
  | 0 => rfl
  | n + 1 => by
    unfold pkG
    split
    · rw [upI_c hc, pkG_o G hc n]
    · exact pkG_o G hc n
theorem pkb_cg {G G' : AI} (hg : ∀ c ∈ [116, 117, 118, 119, 120], G' c = G c) (h5 : G' 115 5 = G 115 5) (t : Int) (n : Nat) : pkb G' t n = pkb G t n := by
  unfold pkb
  rw [lcs_cg (hg 116 (by decide)) (hg 117 (by decide)), hg 117 (by decide)]
  congr 1
  funext u
  rw [dpR_cg (hg 120 (by decide)), propext (rdR_cg (fun c hc => hg c (by revert c; decide)) h5 u)]
theorem pkG_cg {G G' : AI} (hg : ∀ c ∈ [116, 117, 118, 119, 120], G' c = G c) (h5 : G' 115 5 = G 115 5) : ∀ n : Nat, pkG G' n 120 = pkG G n 120
  | 0 => hg 120 (by decide)
  | n + 1 => by
    have ih := pkG_cg hg h5 n
    have hh : ∀ c ∈ [116, 117, 118, 119, 120], pkG G' n c = pkG G n c := fun c hc => by
      by_cases z : c = 120
      · rw [z]; exact ih
      · rw [pkG_o _ z, pkG_o _ z]; exact hg c hc
    have h5' : pkG G' n 115 5 = pkG G n 115 5 := by rw [pkG_o _ (by decide), pkG_o _ (by decide)]; exact h5
    unfold pkG
    rw [bI_cg (rdR_cg (fun c hc => hh c (by revert c; decide)) h5' (n : Int)), pkb_cg hh h5']
    split
    · funext x; rw [upI_e, upI_e, ih]
    · exact ih
/-- what a delta's units are -/
def RU (I G : AI) : Prop := ∀ t, 0 ≤ t → t < G 115 5 → G 119 t = 0 → 0 ≤ G 120 t → I 11 t = 2 + G 117 (G 120 t) + G 117 t - 2 * lcs G (G 120 t) t
section
variable {L : Nat} {b : Bool} {I G : AI} {J : AJ} {k : Nat}
theorem l69 (h : RT I G) : ∀ (n : Nat) (i u d : Int), 0 ≤ i → (120 - i).toNat = n → (0 ≤ u ∧ u < G 115 5) → G 119 u = 0 → fl (G 118) (G 120) n u = -1 → (0 ≤ d ∧ d ≤ i) → ev 69 7 [some (vr 6), none, some (vi d), some (vi u), some (vi i)] [] (hp L b I J) = some (vi (d + dpR G n u), hp L b I J) := by
  have h0 := h.1.1
  have h6 := h.2.1
  intro n
  induction n with
  | zero =>
    intro i u d h1 h2 h3 h4 h5 hd
    rw [s69_7, if_pos (by omega), s69_48]
    show _ = some (vi (d + 0), _)
    rw [Int.add_zero]
  | succ n ih =>
    intro i u d h1 h2 h3 h4 h5 hd
    obtain ⟨-, -, r3, r4, r5, r6⟩ := h.2.2 u h3.1 h3.2
    have hs := h.1.2.1 u h3.1 h3.2
    unfold fl at h5
    rw [if_neg (by omega)] at h5 r3 r4
    have c2 : ¬ G 118 u = 1 := fun z => by rw [if_pos z] at h5; omega
    rw [if_neg c2] at h5 r3
    rw [s69_7, if_neg (by omega), c64R h, bI_t h3]
    unfold dpR
    by_cases c : 0 ≤ G 120 u
    · rw [if_pos c] at r3
      simp (disch := first | assumption | omega) only [↓gd_t, ↓if_pos, ↓if_neg, Option.bind_some, true_or, true_and, gd_t, s69_19]
      rw [r4, ih (i + 1) (G 120 u) (d + 1) (by omega) (by omega) ⟨c, by omega⟩ (r5 h4 c) h5 (by omega), Int.add_assoc]
    · rw [if_neg c] at r3
      simp (disch := first | assumption | omega) only [↓gd_t, ↓if_pos, ↓if_neg, Option.bind_some, true_or, true_and, gd_t, s69_19, s69_48, Int.add_zero]
theorem c69R (h : RT I G) {t : Int} (ht : rdR G t) : evc 69 [vr 6, vi t] (hp L b I J) = some (vi (dpR G 120 t), hp L b I J) := by
  rw [n69, s69_0, l69 h 120 0 t 0 (Int.le_refl _) rfl ht.1.1 ht.1.2 ht.2 (by decide), Int.zero_add]
theorem lcs_bd (h : RLn I G) {t u : Int} (ht : 0 ≤ t ∧ t < G 115 5) (hu : 0 ≤ u ∧ u < G 115 5) : 0 ≤ lcs G t u ∧ lcs G t u ≤ G 117 t ∧ lcs G t u ≤ G 117 u := pc_bd (rl1 h ht.1 ht.2).1 (rl1 h hu.1 hu.2).1
theorem c79R (h : RT I G) (hC : RC I G) {t : Int} (ht : 0 ≤ t ∧ t < G 115 5) : (fun r => ∃ (b' : Bool) (I' : AI), r = some (vi 0, hp L b' I' J) ∧ Same [2, 13, 14, 15, 16, 161, 9, 10, 11] I I' ∧ RC I' G ∧ I' 9 = upI I 9 t (if (pkb G t t.toNat).1 = -1 then 0 else 1) 9 ∧ I' 10 = upI I 10 t (pkb G t t.toNat).1 10 ∧ I' 11 = upI I 11 t (pkb G t t.toNat).2 11) (evc 79 [vr 6, vi t] (hp L b I J)) := by
  have h0 := h.1.1
  have h6 := h.2.1
  have et := (h.2.2 t ht.1 ht.2).1
  have bt := rl1 h.rl ht.1 ht.2
  have e0 : evc 79 [vr 6, vi t] (hp L b I J) = ev 79 14 [some (vr 6), some (vi t), some (vi (1 + G 117 t)), some (vi (-1)), some (vi 0), none, none] [] (hp L b I J) := by
    rw [n79]
    simp (disch := first | assumption | omega) only [↓gd_t, ↓if_pos, ↓if_neg, Option.bind_some, true_or, true_and, gd_t, s79_0, et]
  rw [e0]
  refine lp (lo := 0) (hi := t) (F := fun u (s : (Int × Int) × Bool × AI) => ev 79 14 [some (vr 6), some (vi t), some (vi s.1.2), some (vi s.1.1), some (vi u), none, none] [] (hp L s.2.1 s.2.2 J)) (Q := fun r => ∃ (b' : Bool) (I' : AI), r = some (vi 0, hp L b' I' J) ∧ Same [2, 13, 14, 15, 16, 161, 9, 10, 11] I I' ∧ RC I' G ∧ I' 9 = upI I 9 t (if (pkb G t t.toNat).1 = -1 then 0 else 1) 9 ∧ I' 10 = upI I 10 t (pkb G t t.toNat).1 10 ∧ I' 11 = upI I 11 t (pkb G t t.toNat).2 11) (fun u s => s.1 = pkb G t u.toNat ∧ Same [2, 13, 14, 15, 16, 161] I s.2.2 ∧ RC s.2.2 G) ?_ ?_ 0 ((-1, 1 + G 117 t), b, I) (Int.le_refl _) ht.1 ⟨rfl, Same.rf, hC⟩
  · rintro u ⟨⟨best, few⟩, b2, I2⟩ g1 g2 ⟨v1, v2, v3⟩
    dsimp only at v1 v2 v3
    right
    have h' : RT I2 G := h.cg (fun c hc => v2 c (by revert c; decide)) (fun _ _ => rfl) rfl
    have e8 : I2 8 = I 8 := v2 8 (by decide)
    have eu := (h.2.2 u g1 (by omega)).1
    have bu := rl1 h.rl g1 (show u < G 115 5 by omega)
    have lb := lcs_bd h.rl (t := u) (u := t) ⟨g1, by omega⟩ ht
    have ub := dpR_bd G 120 u
    have few_bd : few ≤ 1 + G 117 t ∧ 2 ≤ few + 1 := by
      have z := am_bd (fun u => rdR G u ∧ dpR G 120 u ≤ 3) (fun u => 2 + G 117 u + G 117 t - 2 * lcs G u t) (1 + G 117 t) u.toNat
      have e : (am (fun u => rdR G u ∧ dpR G 120 u ≤ 3) (fun u => 2 + G 117 u + G 117 t - 2 * lcs G u t) (1 + G 117 t) u.toNat) = (best, few) := v1.symm
      rw [e] at z
      rcases z with ⟨z1, z2, -⟩ | ⟨z1, z2, z3, z4⟩
      · have z2 : few = 1 + G 117 t := z2
        omega
      · have z3 : few = 2 + G 117 best + G 117 t - 2 * lcs G best t := z3
        have z1 : 0 ≤ best ∧ best < u.toNat := z1
        have z4 : few < 1 + G 117 t := z4
        have y := lcs_bd h.rl (t := best) (u := t) ⟨z1.1, by omega⟩ ht
        omega
    have fwd : ∀ (r : Int × Int) (b3 : Bool) (I3 : AI), ev 79 106 [some (vr 6), some (vi t), some (vi r.2), some (vi r.1), some (vi u), none, none] [] (hp L b3 I3 J) = ev 79 14 [some (vr 6), some (vi t), some (vi r.2), some (vi r.1), some (vi (u + 1)), none, none] [] (hp L b3 I3 J) := fun r b3 I3 => by
      rw [s79_106]
      simp (disch := first | assumption | omega) only [↓gd_t, ↓if_pos, ↓if_neg, Option.bind_some, true_or, true_and, gd_t]
    by_cases c1 : few ≤ 2 + (if 0 ≤ G 117 u - G 117 t then G 117 u - G 117 t else -(G 117 u - G 117 t))
    · refine ⟨((best, few), b2, I2), ?_, ?_, v2, v3⟩
      · try dsimp only
        rw [s79_14, e8, eu, et]
        simp (disch := first | assumption | omega) only [↓gd_t, ↓if_pos, ↓if_neg, Option.bind_some, true_or, true_and, gd_t]
        exact fwd (best, few) b2 I2
      · show (best, few) = _
        rw [v1]
        refine (am_f g1 (fun z => ?_)).symm
        have z2 : 2 + G 117 u + G 117 t - 2 * lcs G u t < (pkb G t u.toNat).2 := z.2
        rw [← v1] at z2
        have z2 : 2 + G 117 u + G 117 t - 2 * lcs G u t < few := z2
        split at c1 <;> omega
    · have st : ev 79 14 [some (vr 6), some (vi t), some (vi few), some (vi best), some (vi u), none, none] [] (hp L b2 I2 J) = ev 79 53 [some (vr 6), some (vi t), some (vi few), some (vi best), some (vi u), none, none] [vi (bI (rdR G u))] (hp L b2 I2 J) := by
        rw [s79_14, e8, eu, et]
        simp (disch := first | assumption | omega) only [↓gd_t, ↓if_pos, ↓if_neg, Option.bind_some, true_or, true_and, gd_t, c66R h']
      by_cases c2 : rdR G u
      · by_cases c3 : dpR G 120 u ≤ 3
        · obtain ⟨b3, I3, q1, q2, q3⟩ := c77 (L := L) (b := b2) (J := J) h'.rl v3 (t := u) (u := t) ⟨g1, by omega⟩ ht
          have st2 : ev 79 14 [some (vr 6), some (vi t), some (vi few), some (vi best), some (vi u), none, none] [] (hp L b2 I2 J) = ev 79 90 [some (vr 6), some (vi t), some (vi few), some (vi best), some (vi u), none, none] [vi (lcs G u t), vi 2, vi (2 + G 117 u + G 117 t)] (hp L b3 I3 J) := by
            rw [st, bI_t c2, s79_53]
            simp (disch := first | assumption | omega) only [↓gd_t, ↓if_pos, ↓if_neg, Option.bind_some, true_or, true_and, gd_t, c69R h' c2]
            rw [s79_62, e8, eu, et]
            simp (disch := first | assumption | omega) only [↓gd_t, ↓if_pos, ↓if_neg, Option.bind_some, true_or, true_and, gd_t, q1]
          by_cases c4 : 2 + G 117 u + G 117 t - 2 * lcs G u t < few
          · refine ⟨((u, 2 + G 117 u + G 117 t - 2 * lcs G u t), b3, I3), ?_, ?_, v2.tr q2, q3⟩
            · try dsimp only
              rw [st2, s79_90]
              simp (disch := first | assumption | omega) only [↓gd_t, ↓if_pos, ↓if_neg, Option.bind_some, true_or, true_and, gd_t]
              exact fwd (u, 2 + G 117 u + G 117 t - 2 * lcs G u t) b3 I3
            · exact (am_t (ok := fun u => rdR G u ∧ dpR G 120 u ≤ 3) (v := fun u => 2 + G 117 u + G 117 t - 2 * lcs G u t) (A := 1 + G 117 t) g1 ⟨c2, c3⟩ (by show _ < (pkb G t u.toNat).2; rw [← v1]; exact c4)).symm
          · refine ⟨((best, few), b3, I3), ?_, ?_, v2.tr q2, q3⟩
            · try dsimp only
              rw [st2, s79_90]
              simp (disch := first | assumption | omega) only [↓gd_t, ↓if_pos, ↓if_neg, Option.bind_some, true_or, true_and, gd_t]
              exact fwd (best, few) b3 I3
            · show (best, few) = _
              rw [v1]
              refine (am_f g1 (fun z => c4 ?_)).symm
              have z2 : 2 + G 117 u + G 117 t - 2 * lcs G u t < (pkb G t u.toNat).2 := z.2
              rw [← v1] at z2; exact z2
        · refine ⟨((best, few), b2, I2), ?_, ?_, v2, v3⟩
          · try dsimp only
            rw [st, bI_t c2, s79_53]
            simp (disch := first | assumption | omega) only [↓gd_t, ↓if_pos, ↓if_neg, Option.bind_some, true_or, true_and, gd_t, c69R h' c2, s79_62]
            exact fwd (best, few) b2 I2
          · show (best, few) = _
            rw [v1]
            exact (am_f g1 (fun z => c3 z.1.2)).symm
      · refine ⟨((best, few), b2, I2), ?_, ?_, v2, v3⟩
        · try dsimp only
          rw [st, bI_f c2, s79_53]
          simp (disch := first | assumption | omega) only [↓gd_t, ↓if_pos, ↓if_neg, Option.bind_some, true_or, true_and, gd_t]
          exact fwd (best, few) b2 I2
        · show (best, few) = _
          rw [v1]
          exact (am_f g1 (fun z => c2 z.1.1)).symm
  · rintro ⟨⟨best, few⟩, b2, I2⟩ ⟨v1, v2, v3⟩
    dsimp only at v1 v2 v3
    rw [← v1]
    have ex : ∀ (X : AI) (x v y w z s : Int), (upI (upI (upI X 9 x v) 10 y w) 11 z s) 9 = upI X 9 x v 9 ∧ (upI (upI (upI X 9 x v) 10 y w) 11 z s) 10 = upI X 10 y w 10 ∧ (upI (upI (upI X 9 x v) 10 y w) 11 z s) 11 = upI X 11 z s 11 := fun X x v y w z s => by
      refine ⟨by rw [upI_c (by decide), upI_c (by decide)], ?_, ?_⟩
      · rw [upI_c (by decide)]
        funext j
        by_cases d : j = y
        · rw [d, upI_s, upI_s]
        · rw [upI_i d, upI_i d, upI_c (by decide)]
      · funext j
        by_cases d : j = z
        · rw [d, upI_s, upI_s]
        · rw [upI_i d, upI_i d, upI_c (by decide), upI_c (by decide)]
    have eI : ∀ (c : Nat) (x v : Int), c ∈ [9, 10, 11] → upI I2 c x v c = upI I c x v c := fun c x v hc => by
      funext j; rw [upI_e, upI_e, v2 c (by revert c; decide)]
    refine ⟨b2, upI (upI (upI I2 9 t (if best = -1 then 0 else 1)) 10 t best) 11 t few, ?_, (((v2.mono (by simp)).up (by simp)).up (by simp)).up (by simp), v3.cg (by rw [upI_c (by decide), upI_c (by decide), upI_c (by decide)]) (fun _ _ => rfl) rfl, ?_, ?_, ?_⟩
    · try dsimp only
      rw [s79_14]
      by_cases c : best = -1
      · rw [if_pos c]
        simp (disch := first | assumption | omega) only [↓gd_t, ↓if_pos, ↓if_neg, Option.bind_some, true_or, true_and, gd_t, s79_127]
      · rw [if_neg c]
        simp (disch := first | assumption | omega) only [↓gd_t, ↓if_pos, ↓if_neg, Option.bind_some, true_or, true_and, gd_t, s79_127]
    · rw [(ex _ _ _ _ _ _ _).1]; exact eI 9 _ _ (by decide)
    · rw [(ex _ _ _ _ _ _ _).2.1]; exact eI 10 _ _ (by decide)
    · rw [(ex _ _ _ _ _ _ _).2.2]; exact eI 11 _ _ (by decide)
theorem pkb_bd (h : RT I G) {t : Int} (ht : 0 ≤ t ∧ t < G 115 5) : ((pkb G t t.toNat).1 = -1) ∨ ((0 ≤ (pkb G t t.toNat).1 ∧ (pkb G t t.toNat).1 < t) ∧ rdR G (pkb G t t.toNat).1 ∧ (pkb G t t.toNat).2 = 2 + G 117 (pkb G t t.toNat).1 + G 117 t - 2 * lcs G (pkb G t t.toNat).1 t) := by
  rcases am_bd (fun u => rdR G u ∧ dpR G 120 u ≤ 3) (fun u => 2 + G 117 u + G 117 t - 2 * lcs G u t) (1 + G 117 t) t.toNat with ⟨z1, -⟩ | ⟨z1, z2, z3, -⟩
  · exact Or.inl z1
  · refine Or.inr ⟨⟨z1.1, ?_⟩, z2.1, z3⟩
    have := z1.2
    show (am _ _ _ _).1 < t
    omega
theorem RT_pk (h : RT I G) (hU : RU I G) {t : Int} (hr : rdR G t) {I' : AI} (hs : ∀ c ∈ [6, 7, 8], I' c = I c) (h9 : I' 9 = upI I 9 t (if (pkb G t t.toNat).1 = -1 then 0 else 1) 9) (h10 : I' 10 = upI I 10 t (pkb G t t.toNat).1 10) (h11 : I' 11 = upI I 11 t (pkb G t t.toNat).2 11) : RT I' (upI G 120 t (pkb G t t.toNat).1) ∧ RU I' (upI G 120 t (pkb G t t.toNat).1) := by
  have ht := hr.1.1
  have hg := hr.1.2
  have hb := pkb_bd h ht
  have nl : G 118 t = 0 := by
    rcases (h.1.2.2.2 t ht.1 ht.2).1 with z | z
    · exact z
    · have := hr.2; unfold flR fl at this; rw [if_neg (by omega), if_pos z] at this; omega
  generalize pkb G t t.toNat = p at *
  obtain ⟨best, few⟩ := p
  dsimp only at h9 h10 h11 hb ⊢
  have el : lcs (upI G 120 t best) = lcs G := lcs_cg (upI_c (by decide) _ _ _) (upI_c (by decide) _ _ _)
  refine ⟨⟨⟨?_, fun u a b => ?_, fun u a b => ?_, fun u a b => ?_⟩, ?_, fun u a b => ?_⟩, fun u a b g s => ?_⟩
  · rw [upI_c (by decide)]; exact h.1.1
  · rw [upI_c (by decide)] at b
    by_cases c : u = t
    · rw [c, upI_s]; omega
    · rw [upI_i c]; exact h.1.2.1 u a b
  · rw [upI_c (by decide)] at b ⊢; exact h.1.2.2.1 u a b
  · rw [upI_c (by decide)] at b
    rw [upI_c (by decide), upI_c (by decide)]; exact h.1.2.2.2 u a b
  · rw [upI_c (by decide), hs 6 (by decide)]; exact h.2.1
  · rw [upI_c (by decide)] at b
    have r := h.2.2 u a b
    unfold RT1 at r ⊢
    rw [hs 8 (by decide), hs 7 (by decide), h9, h10, upI_c (show 117 ≠ 120 by decide), upI_c (show 116 ≠ 120 by decide), upI_c (show 119 ≠ 120 by decide), upI_c (show 118 ≠ 120 by decide)]
    refine ⟨r.1, r.2.1, ?_⟩
    by_cases c : u = t
    · rw [c, upI_s, upI_s, upI_s, hg, nl]
      rcases hb with z | ⟨z1, z2, z3⟩
      · rw [z]; exact ⟨by simp, by simp, fun _ y => absurd y (by decide), fun y => absurd y (by decide)⟩
      · rw [if_neg (show ¬ best = -1 by omega), if_pos z1.1]
        exact ⟨by simp, by simp, fun _ _ => z2.1.2, fun y => absurd y (by decide)⟩
    · rw [upI_i c, upI_i c, upI_i c]; exact r.2.2
  · rw [upI_c (by decide)] at b g
    rw [el, upI_c (show 117 ≠ 120 by decide), h11]
    by_cases c : u = t
    · rw [c, upI_s] at s ⊢
      rw [upI_s]
      rcases hb with z | ⟨z1, z2, z3⟩
      · omega
      · exact z3
    · rw [upI_i c] at s ⊢
      rw [upI_i c]
      exact hU u a b g s
theorem c78R (h : RT I G) (hC : RC I G) (hU : RU I G) : (fun r => ∃ (b' : Bool) (I' : AI), r = some (vi 0, hp L b' I' J) ∧ Same [2, 13, 14, 15, 16, 161, 9, 10, 11] I I' ∧ RT I' (pkG G (G 115 5).toNat) ∧ RC I' (pkG G (G 115 5).toNat) ∧ RU I' (pkG G (G 115 5).toNat)) (evc 78 [vr 6] (hp L b I J)) := by
  have h0 := h.1.1
  have h6 := h.2.1
  rw [n78, s78_0]
  refine lp (lo := 0) (hi := G 115 5) (F := fun i (s : Bool × AI) => ev 78 2 [some (vr 6), some (vi i)] [] (hp L s.1 s.2 J)) (Q := fun r => ∃ (b' : Bool) (I' : AI), r = some (vi 0, hp L b' I' J) ∧ Same [2, 13, 14, 15, 16, 161, 9, 10, 11] I I' ∧ RT I' (pkG G (G 115 5).toNat) ∧ RC I' (pkG G (G 115 5).toNat) ∧ RU I' (pkG G (G 115 5).toNat)) (fun i s => Same [2, 13, 14, 15, 16, 161, 9, 10, 11] I s.2 ∧ RT s.2 (pkG G i.toNat) ∧ RC s.2 (pkG G i.toNat) ∧ RU s.2 (pkG G i.toNat)) ?_ ?_ 0 (b, I) (Int.le_refl _) h0.1 ⟨Same.rf, h, hC, hU⟩
  · rintro i ⟨b2, I2⟩ g1 g2 ⟨v1, v2, v3, v4⟩
    dsimp only at v1 v2 v3 v4
    right
    have e5 : pkG G i.toNat 115 5 = G 115 5 := by rw [pkG_o _ (by decide)]
    have e6 := v2.2.1
    have ep : pkG G (i + 1).toNat = if bI (rdR (pkG G i.toNat) i) = 1 then upI (pkG G i.toNat) 120 i (pkb (pkG G i.toNat) i i.toNat).1 else pkG G i.toNat := by
      rw [show (i + 1).toNat = i.toNat + 1 by omega]
      show (if bI (rdR (pkG G i.toNat) ((i.toNat : Nat) : Int)) = 1 then _ else _) = _
      rw [show ((i.toNat : Nat) : Int) = i by omega]
    have st : ev 78 2 [some (vr 6), some (vi i)] [] (hp L b2 I2 J) = ev 78 15 [some (vr 6), some (vi i)] [vi (bI (rdR (pkG G i.toNat) i))] (hp L b2 I2 J) := by
      rw [s78_2]
      simp (disch := first | assumption | omega) only [↓gd_t, ↓if_pos, ↓if_neg, Option.bind_some, true_or, true_and, gd_t, c66R v2]
    by_cases c : rdR (pkG G i.toNat) i
    · rw [if_pos (bI_t c)] at ep
      obtain ⟨b3, I3, q1, q2, q3, q4, q5, q6⟩ := c79R (L := L) (b := b2) (J := J) v2 v3 (t := i) ⟨g1, by rw [e5]; exact g2⟩
      have z := RT_pk v2 v4 c (I' := I3) (fun c hc => q2 c (by revert c; decide)) q4 q5 q6
      rw [← ep] at z
      refine ⟨(b3, I3), ?_, v1.tr q2, z.1, ?_, z.2⟩
      · try dsimp only
        rw [st, bI_t c]
        simp (disch := first | assumption | omega) only [↓gd_t, ↓if_pos, ↓if_neg, Option.bind_some, true_or, true_and, gd_t, s78_15, q1, s78_23]
      · rw [ep]
        exact q3.cg rfl (fun c hc => upI_c (by revert c; decide) _ _ _) (by rw [upI_c (by decide)])
    · rw [if_neg (fun z => c (bI_1.mp z))] at ep
      refine ⟨(b2, I2), ?_, v1, by rw [ep]; exact v2, by rw [ep]; exact v3, by rw [ep]; exact v4⟩
      try dsimp only
      rw [st, bI_f c]
      simp (disch := first | assumption | omega) only [↓gd_t, ↓if_pos, ↓if_neg, Option.bind_some, true_or, true_and, gd_t, s78_15, s78_23]
  · rintro ⟨b2, I2⟩ ⟨v1, v2, v3, v4⟩
    dsimp only at v1 v2 v3 v4
    have e5 : pkG G (G 115 5).toNat 115 5 = G 115 5 := by rw [pkG_o _ (by decide)]
    have e6 := v2.2.1
    refine ⟨b2, I2, ?_, v1, v2, v3, v4⟩
    try dsimp only
    rw [s78_2]
    simp (disch := first | assumption | omega) only [↓gd_t, ↓if_pos, ↓if_neg, Option.bind_some, true_or, true_and, gd_t]
theorem c81 (hT : 0 ≤ I 6 9 ∧ I 6 9 ≤ 120) (x : Int) : evc 81 [vr 6, vi x] (hp L b I J) = some (vi (ct (fun t => I 9 t = x) (I 6 9).toNat), hp L b I J) := by
  rw [n81, s81_0]
  refine lp (lo := 0) (hi := I 6 9) (F := fun i (y : Int) => ev 81 4 [some (vr 6), some (vi x), some (vi y), some (vi i)] [] (hp L b I J)) (Q := fun r => r = some (vi (ct (fun t => I 9 t = x) (I 6 9).toNat), hp L b I J)) (fun i y => y = ct (fun t => I 9 t = x) i.toNat) ?_ ?_ 0 0 (Int.le_refl _) hT.1 rfl
  · intro i y g1 g2 v
    right
    have hb := ct_bd (p := fun t => I 9 t = x) i.toNat
    refine ⟨y + bI (I 9 i = x), ?_, by rw [v, ct_s g1]⟩
    try dsimp only
    rw [s81_4]
    by_cases c : I 9 i = x
    · rw [bI_t c]
      simp (disch := first | assumption | omega) only [↓gd_t, ↓if_pos, ↓if_neg, Option.bind_some, true_or, true_and, gd_t, s81_25]
    · rw [bI_f c, Int.add_zero]
      simp (disch := first | assumption | omega) only [↓gd_t, ↓if_pos, ↓if_neg, Option.bind_some, true_or, true_and, gd_t, s81_25]
  · intro y v
    try dsimp only
    rw [s81_4, v]
    simp (disch := first | assumption | omega) only [↓gd_t, ↓if_pos, ↓if_neg, Option.bind_some, true_or, true_and, gd_t]
end
