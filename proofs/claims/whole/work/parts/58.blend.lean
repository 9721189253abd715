/-! the merge of three texts; blendTexts -/
noncomputable def mo (G : AI) (o a i : Int) : Int := mt (pI (tl G o) (tl G a) (ts G o) (ts G a)) (pJ (tl G o) (tl G a) (ts G o) (ts G a)) (pc (tl G o) (tl G a) (ts G o) (ts G a)) i
noncomputable def mgS (G : AI) (o a b : Int) : MS := (fun d => if d = 0 then ts G o else if d = 1 then ts G a else ts G b, fun d => if d = 0 then tl G o else if d = 1 then tl G a else tl G b, fun d i => if d = 0 then i else if d = 1 then mo G o a i else mo G o b i)
def POm (G : AI) (o a : Int) : Prop := PO (tl G o) (tl G a) (ts G o) (ts G a) (pI (tl G o) (tl G a) (ts G o) (ts G a)) (pJ (tl G o) (tl G a) (ts G o) (ts G a)) (pc (tl G o) (tl G a) (ts G o) (ts G a))
theorem mo_lt {G : AI} {o a i : Int} (h : POm G o a) (h0 : 0 ≤ mo G o a i) : mo G o a i < ts G a := by
  rcases mt_s (pI (tl G o) (tl G a) (ts G o) (ts G a)) (pJ (tl G o) (tl G a) (ts G o) (ts G a)) (pc (tl G o) (tl G a) (ts G o) (ts G a)) i with ⟨e, -⟩ | ⟨k, hk', -, e⟩
  · unfold mo at h0; omega
  · unfold mo; rw [e]; exact (h k hk'.1 hk'.2).2.1.2
theorem mo_up {G : AI} {o a i j : Int} (h : POm G o a) (hi : i < j) (h0 : 0 ≤ mo G o a i) (h1 : 0 ≤ mo G o a j) : mo G o a i < mo G o a j := by
  rcases mt_s (pI (tl G o) (tl G a) (ts G o) (ts G a)) (pJ (tl G o) (tl G a) (ts G o) (ts G a)) (pc (tl G o) (tl G a) (ts G o) (ts G a)) i with ⟨e, -⟩ | ⟨k, k1, k2, e⟩
  · unfold mo at h0; omega
  · rcases mt_s (pI (tl G o) (tl G a) (ts G o) (ts G a)) (pJ (tl G o) (tl G a) (ts G o) (ts G a)) (pc (tl G o) (tl G a) (ts G o) (ts G a)) j with ⟨e', -⟩ | ⟨l, l1, l2, e'⟩
    · unfold mo at h1; omega
    · unfold mo; rw [e, e']
      by_cases c : k < l
      · exact (PO_ris h _ k l rfl k1.1 c l1.2).2
      · by_cases d : k = l
        · subst d; omega
        · have := (PO_ris h _ l k rfl l1.1 (by omega) k1.2).1; omega
theorem MV_mg {G : AI} {o a b : Int} (ho : 0 ≤ ts G o ∧ ts G o ≤ 24) (ha : 0 ≤ ts G a ∧ ts G a ≤ 24) (hb : 0 ≤ ts G b ∧ ts G b ≤ 24) (h1 : POm G o a) (h2 : POm G o b) : MV (mgS G o a b) := by
  refine ⟨fun d p q => ?_, fun i => rfl, fun d i p q hi hm => ?_, fun d i j p q hi hj hm hn => ?_⟩
  · rcases (show d = 0 ∨ d = 1 ∨ d = 2 by omega) with e | e | e <;> subst e
    · exact ho
    · exact ha
    · exact hb
  · rcases (show d = 0 ∨ d = 1 ∨ d = 2 by omega) with e | e | e <;> subst e
    · exact hm.1
    · exact mo_lt h1 hm.2.1
    · exact mo_lt h2 hm.2.2
  · rcases (show d = 0 ∨ d = 1 ∨ d = 2 by omega) with e | e | e <;> subst e
    · exact hj
    · exact mo_up h1 hj hm.2.1 hn.2.1
    · exact mo_up h2 hj hm.2.2 hn.2.2
section
variable {L : Nat} {b : Bool} {I : AI} {J : AJ}
theorem c1R {x : Nat} (hb : isBl x = true) {G : AI} (h : RLn I G) {o a c : Int} (ho : -1 ≤ o ∧ o < G 115 5) (ha : -1 ≤ a ∧ a < G 115 5) (hc : -1 ≤ c ∧ c < G 115 5) : (fun r => ∃ I' : AI, r = some (vi 0, hp L b I' J) ∧ Same [2, x, x + 1, x + 2, x + 3, x + 4, x + 5, x + 6, x + 7, x + 8, x + 9, x + 10, x + 11, x + 12, x + 13, x + 14, x + 15] I I' ∧ MV (mgS G o a c) ∧ BlC I' x (mgS G o a c) (fun _ => -1)) (evc 1 [vr x, vr 6, vi o, vi a, vi c] (hp L b I J)) := by
  obtain ⟨⟨r1, r2, r3⟩, ⟨d1, d2⟩, hx⟩ := bl_all hb
  have bo := ts_bd h ho.2
  have ba := ts_bd h ha.2
  have bc := ts_bd h hc.2
  obtain ⟨I1, p1, q1, w1⟩ := c71R (L := L) (b := b) (J := J) h r1 ho
  have H1 : RLn I1 G := h.cg (fun c hc => q1 c (by rcases hx with e | e <;> subst e <;> revert c <;> decide)) (fun _ _ => rfl) rfl
  obtain ⟨I2, p2, q2, w2⟩ := c71R (L := L) (b := b) (J := J) H1 r2 ha
  have H2 : RLn I2 G := H1.cg (fun c hc => q2 c (by rcases hx with e | e <;> subst e <;> revert c <;> decide)) (fun _ _ => rfl) rfl
  obtain ⟨I3, p3, q3, w3⟩ := c71R (L := L) (b := b) (J := J) H2 r3 hc
  have v1 : RwC I3 (x + 1) (ts G o) (tl G o) := (w1.cg (q2 _ (by simp)) (q2 _ (by simp))).cg (q3 _ (by simp)) (q3 _ (by simp))
  have v2 : RwC I3 (x + 3) (ts G a) (tl G a) := w2.cg (q3 _ (by simp)) (q3 _ (by simp))
  obtain ⟨I4, p4, q4, w4, z4⟩ := c14 (L := L) (b := b) (J := J) d1 r1 r2 bo ba v1 v2
  have u1 : RwC I4 (x + 1) (ts G o) (tl G o) := v1.cg (q4 _ (by simp <;> omega)) (q4 _ (by simp <;> omega))
  have u2 : RwC I4 (x + 3) (ts G a) (tl G a) := v2.cg (q4 _ (by simp <;> omega)) (q4 _ (by simp <;> omega))
  have u3 : RwC I4 (x + 5) (ts G c) (tl G c) := w3.cg (q4 _ (by simp <;> omega)) (q4 _ (by simp <;> omega))
  obtain ⟨I5, p5, q5, w5, z5⟩ := c14 (L := L) (b := b) (J := J) d2 r1 r3 bo bc u1 u3
  have f1 : RwC I5 (x + 1) (ts G o) (tl G o) := u1.cg (q5 _ (by simp <;> omega)) (q5 _ (by simp <;> omega))
  have f2 : RwC I5 (x + 3) (ts G a) (tl G a) := u2.cg (q5 _ (by simp <;> omega)) (q5 _ (by simp <;> omega))
  have f3 : RwC I5 (x + 5) (ts G c) (tl G c) := u3.cg (q5 _ (by simp <;> omega)) (q5 _ (by simp <;> omega))
  have pr1 := Pr_of z4 w4
  have pr2 := Pr_of z5 w5
  have V : MV (mgS G o a c) := MV_mg bo ba bc (Pr.po w4 z4) (Pr.po w5 z5)
  have g0' : I5 (x + 10) = I4 (x + 10) := q5 _ (by simp <;> omega)
  have g1' : I5 (x + 10 + 1) = I4 (x + 10 + 1) := q5 _ (by simp <;> omega)
  have g2' : I5 (x + 10 + 2) = I4 (x + 10 + 2) := q5 _ (by simp <;> omega)
  obtain ⟨S, hS⟩ : ∃ S, S = mgS G o a c := ⟨_, rfl⟩
  have S0 : S.1 0 = ts G o := by rw [hS]; rfl
  have S1 : S.1 1 = ts G a := by rw [hS]; rfl
  have S2 : S.1 2 = ts G c := by rw [hS]; rfl
  have T0 : S.2.1 0 = tl G o := by rw [hS]; rfl
  have T1 : S.2.1 1 = tl G a := by rw [hS]; rfl
  have T2 : S.2.1 2 = tl G c := by rw [hS]; rfl
  have K0 : ∀ i, S.2.2 0 i = i := fun i => by rw [hS]; rfl
  have K1 : ∀ i, S.2.2 1 i = mo G o a i := fun i => by rw [hS]; rfl
  have K2 : ∀ i, S.2.2 2 i = mo G o c i := fun i => by rw [hS]; rfl
  rw [← hS] at V
  have st : evc 1 [vr x, vr 6, vi o, vi a, vi c] (hp L b I J) = ev 1 80 [some (vr x), none, none, none, none, some (vi 0), some (vi 0), some (vi 0), some (vi 0), none, none] [] (hp L b (upI (upI I5 x 8 0) x 9 0) J) := by
    rw [n1, s1_0 _ _ _ _ hb, p1]
    simp only [Option.bind_some]
    rw [s1_9 _ _ _ hb, p2]
    simp only [Option.bind_some]
    rw [s1_18 _ _ hb, p3]
    simp only [Option.bind_some]
    rw [s1_28 _ hb, p4]
    simp only [Option.bind_some]
    rw [s1_43 _ hb, p5]
    simp only [Option.bind_some]
    rw [s1_58 _ hb]
  have fr : Same [2, x, x + 1, x + 2, x + 3, x + 4, x + 5, x + 6, x + 7, x + 8, x + 9, x + 10, x + 11, x + 12, x + 13, x + 14, x + 15] I I5 := Same.tr (Same.tr (Same.tr (Same.tr (q1.mono (by simp)) (q2.mono (by simp))) (q3.mono (by simp))) (q4.mono (by simp))) (q5.mono (by simp))

  rw [st, ← hS]
  refine lp (lo := 0) (hi := S.1 0) (F := fun i (Y : AI) => ev 1 80 [some (vr x), none, none, none, none, some (vi (mF S 0 i.toNat)), some (vi (mF S 1 i.toNat)), some (vi (mF S 2 i.toNat)), some (vi i), none, none] [] (hp L b Y J)) (Q := fun r => ∃ I' : AI, r = some (vi 0, hp L b I' J) ∧ Same [2, x, x + 1, x + 2, x + 3, x + 4, x + 5, x + 6, x + 7, x + 8, x + 9, x + 10, x + 11, x + 12, x + 13, x + 14, x + 15] I I' ∧ MV S ∧ BlC I' x S (fun _ => -1)) (fun i Y => Same [x, x + 7, x + 8, x + 9] I5 Y ∧ BlP Y x S i) ?_ ?_ 0 _ (Int.le_refl _) (V.1 0 (by decide) (by decide)).1 ⟨?_, ?_⟩
  · intro i Y g1 g2 ⟨v1', v2'⟩
    right
    have y1 : RwC Y (x + 1) (S.1 0) (S.2.1 0) := by rw [S0, T0]; exact f1.cg (v1' _ (by simp <;> omega)) (v1' _ (by simp <;> omega))
    have y2 : RwC Y (x + 3) (S.1 1) (S.2.1 1) := by rw [S1, T1]; exact f2.cg (v1' _ (by simp <;> omega)) (v1' _ (by simp <;> omega))
    have y3 : RwC Y (x + 5) (S.1 2) (S.2.1 2) := by rw [S2, T2]; exact f3.cg (v1' _ (by simp <;> omega)) (v1' _ (by simp <;> omega))
    have e1 : evc 16 [vr (x + 10), vi i] (hp L b Y J) = some (vi (S.2.2 1 i), hp L b Y J) := by
      have a1 : Y (x + 10) = I4 (x + 10) := (v1' _ (by simp <;> omega)).trans g0'
      rw [c16 d1 (by rw [a1, z4]; exact ⟨(pc_bd bo.1 ba.1).1, by have := (pc_bd (f := tl G o) (g := tl G a) bo.1 ba.1).2.1; unfold pc at this; omega⟩), a1, (v1' (x + 10 + 1) (by simp <;> omega)).trans g1', (v1' (x + 10 + 2) (by simp <;> omega)).trans g2', K1, pr1.1]
      unfold mo
      rw [mt_cg (by rw [← pr1.1]; exact pr1.2)]
    have e2 : evc 16 [vr (x + 13), vi i] (hp L b Y J) = some (vi (S.2.2 2 i), hp L b Y J) := by
      have a1 : Y (x + 13) = I5 (x + 13) := v1' _ (by simp)
      rw [c16 d2 (by rw [a1, z5]; exact ⟨(pc_bd bo.1 bc.1).1, by have := (pc_bd (f := tl G o) (g := tl G c) bo.1 bc.1).2.1; unfold pc at this; omega⟩), a1, v1' (x + 13 + 1) (by simp <;> omega), v1' (x + 13 + 2) (by simp <;> omega), K2, pr2.1]
      unfold mo
      rw [mt_cg (by rw [← pr2.1]; exact pr2.2)]
    have yl : Y (x + 1) 1 = S.1 0 := y1.1
    have ei : (i + 1).toNat = i.toNat + 1 := by omega
    by_cases m : mA S i
    · obtain ⟨Y', s1, s2, s3⟩ := c2 (L := L) (b := b) (J := J) hb V y1 y2 y3 (i := i) ⟨g1, by omega⟩ (Or.inl m) v2'
      have t0 : ∀ d, mT S d i = S.2.2 d i := fun d => if_neg (by omega)
      rw [t0, t0, t0, K0] at s1
      have lt1 := V.2.2.1 1 i (by decide) (by decide) g1 m
      have lt2 := V.2.2.1 2 i (by decide) (by decide) g1 m
      have bb1 := V.1 1 (by decide) (by decide)
      have bb2 := V.1 2 (by decide) (by decide)
      have bb0 := V.1 0 (by decide) (by decide)
      have m1 := m.2.1
      have m2 := m.2.2
      refine ⟨Y', ?_, Same.tr v1' s2, s3⟩
      try dsimp only
      rw [mF_s S 0 g1, mF_s S 1 g1, mF_s S 2 g1, if_pos (bI_t m), if_pos (bI_t m), if_pos (bI_t m), K0]
      rw [s1_80 _ _ _ _ _ hb, yl, if_neg (by omega), e1]
      simp only [Option.bind_some]
      rw [s1_101 _ _ _ _ _ _ hb, e2]
      simp only [Option.bind_some]
      rw [s1_112 _ _ _ _ _ _ _ hb, if_neg (by omega), if_neg (by omega), s1]
      simp only [Option.bind_some]
      rw [s1_142]
      simp (disch := first | assumption | omega) only [↓gd_t, ↓if_pos, ↓if_neg, Option.bind_some, true_or, true_and, gd_t, s1_160]
    · refine ⟨Y, ?_, v1', ?_⟩
      · try dsimp only
        rw [mF_s S 0 g1, mF_s S 1 g1, mF_s S 2 g1, if_neg (fun z => m (bI_1.mp z)), if_neg (fun z => m (bI_1.mp z)), if_neg (fun z => m (bI_1.mp z))]
        have bb0 := V.1 0 (by decide) (by decide)
        rw [s1_80 _ _ _ _ _ hb, yl, if_neg (by omega), e1]
        simp only [Option.bind_some]
        rw [s1_101 _ _ _ _ _ _ hb, e2]
        simp only [Option.bind_some]
        rw [s1_112 _ _ _ _ _ _ _ hb]
        have mn : ∀ t u i : Int, mo G t u i = -1 ∨ POm G t u → True := fun _ _ _ _ => trivial
        by_cases k1 : S.2.2 1 i = -1
        · rw [if_pos k1]
          simp (disch := first | assumption | omega) only [↓gd_t, ↓if_pos, ↓if_neg, Option.bind_some, true_or, true_and, gd_t, s1_160]
        · rw [if_neg k1, if_pos]
          · simp (disch := first | assumption | omega) only [↓gd_t, ↓if_pos, ↓if_neg, Option.bind_some, true_or, true_and, gd_t, s1_160]
          · have nn1 : 0 ≤ S.2.2 1 i := by
              rw [K1] at k1 ⊢
              rcases mt_s (pI (tl G o) (tl G a) (ts G o) (ts G a)) (pJ (tl G o) (tl G a) (ts G o) (ts G a)) (pc (tl G o) (tl G a) (ts G o) (ts G a)) i with ⟨e, -⟩ | ⟨k, k1', -, e⟩
              · exact absurd e k1
              · unfold mo; rw [e]; exact (PO_nn (Pr.po w4 z4) _ k rfl k1'.1 k1'.2).2
            rw [K2]
            rcases mt_s (pI (tl G o) (tl G c) (ts G o) (ts G c)) (pJ (tl G o) (tl G c) (ts G o) (ts G c)) (pc (tl G o) (tl G c) (ts G o) (ts G c)) i with ⟨e, -⟩ | ⟨k, k1', -, e⟩
            · exact e
            · exact absurd ⟨g2, nn1, by rw [K2]; unfold mo; rw [e]; exact (PO_nn (Pr.po w5 z5) _ k rfl k1'.1 k1'.2).2⟩ m
      · have np : ¬ mP S i := fun z => by rcases z with y | y; exact m y; omega
        refine ⟨?_, ?_, fun j a1 a2 a3 => v2'.2.2 j a1 (by by_cases z : j = i; exact absurd (z ▸ a3) np; omega) a3⟩
        · rw [ct_s g1, bI_f np, Int.add_zero]; exact v2'.1
        · rw [ct_s g1, bI_f (fun z => np z.1), Int.add_zero]; exact v2'.2.1
  · intro Y ⟨v1', v2'⟩
    have y1 : RwC Y (x + 1) (S.1 0) (S.2.1 0) := by rw [S0, T0]; exact f1.cg (v1' _ (by simp <;> omega)) (v1' _ (by simp <;> omega))
    have y2 : RwC Y (x + 3) (S.1 1) (S.2.1 1) := by rw [S1, T1]; exact f2.cg (v1' _ (by simp <;> omega)) (v1' _ (by simp <;> omega))
    have y3 : RwC Y (x + 5) (S.1 2) (S.2.1 2) := by rw [S2, T2]; exact f3.cg (v1' _ (by simp <;> omega)) (v1' _ (by simp <;> omega))
    obtain ⟨Y', s1, s2, s3⟩ := c2 (L := L) (b := b) (J := J) hb V y1 y2 y3 (i := S.1 0) ⟨(V.1 0 (by decide) (by decide)).1, Int.le_refl _⟩ (Or.inr rfl) v2'
    have t0 : ∀ d, mT S d (S.1 0) = S.1 d := fun d => if_pos rfl
    rw [t0, t0, t0] at s1
    refine ⟨Y', ?_, Same.tr fr ((Same.tr v1' s2).mono (by simp)), V, ⟨y1.cg (s2 _ (by simp <;> omega)) (s2 _ (by simp <;> omega)), y2.cg (s2 _ (by simp <;> omega)) (s2 _ (by simp <;> omega)), y3.cg (s2 _ (by simp <;> omega)) (s2 _ (by simp <;> omega))⟩, s3.1, s3.2.1, fun j a1 a2 a3 => ?_⟩
    · try dsimp only
      rw [s1_80 _ _ _ _ _ hb, y1.1, y2.1, y3.1, if_pos (Int.le_refl _), s1]
      simp only [Option.bind_some]
      rw [s1_197]
    · have z := s3.2.2 j a1 (by omega) a3
      refine ⟨z.1, ?_, z.2.2⟩
      rw [z.2.1]
      by_cases y : mK S j = -1
      · rw [if_pos y, y]
      · rw [if_neg y]
  · intro c hc'
    simp at hc'
    rw [upI_c (by omega), upI_c (by omega)]
  · refine ⟨by rw [upI_i (by decide), upI_s]; rfl, by rw [upI_s]; rfl, fun j a1 a2 => by omega⟩
end
