/-! blame -/
/-- the line of text t that line x of text u is -/
noncomputable def kf (G : AI) (t u x : Int) : Int := mt (pJ (tl G t) (tl G u) (G 117 t) (G 117 u)) (pI (tl G t) (tl G u) (G 117 t) (G 117 u)) (lcs G t u) x
def nm (G : AI) (s x : Int) : Int := G 122 (16 * G 125 s + x)
noncomputable def bl (G : AI) (x : Int) : Nat → Int → Int → Int
  | 0, a, _ => a
  | n + 1, a, y => if G 126 a < 0 then a else if G 123 (G 125 (G 126 a)) ≠ 0 then -2 else if nm G (G 126 a) x < 0 then a else if bI (rdR G (nm G (G 126 a) x)) = 0 then -2 else if kf G (nm G (G 126 a) x) (nm G a x) y < 0 then a else bl G x n (G 126 a) (kf G (nm G (G 126 a) x) (nm G a x) y)
section
variable {f g : Int → Int} {n m : Int} {p q : Int → Int}
theorem mt_un {c x v : Int} (h : PO f g n m p q c) (hv : (v = -1 ∧ ∀ k, 0 ≤ k → k < c → q k ≠ x) ∨ ∃ k, (0 ≤ k ∧ k < c) ∧ q k = x ∧ v = p k) : v = mt q p c x := by
  rcases mt_s q p c x with ⟨a1, a2⟩ | ⟨k, a1, a2, a3⟩
  · rcases hv with ⟨b1, -⟩ | ⟨j, b1, b2, -⟩
    · rw [a1, b1]
    · exact absurd b2 (a2 j b1.1 b1.2)
  · rcases hv with ⟨-, b2⟩ | ⟨j, b1, b2, b3⟩
    · exact absurd a2 (b2 k a1.1 a1.2)
    · have e : j = k := by
        by_cases l : j < k
        · have := PO_ris h _ j k rfl b1.1 l a1.2; omega
        · by_cases l2 : k < j
          · have := PO_ris h _ k j rfl a1.1 l2 b1.2; omega
          · omega
      rw [a3, b3, e]
theorem PO_self (hn : 0 ≤ n) : PO f f n n (fun k => k) (fun k => k) n := fun k h0 h1 => by
  have e : sq (fun k => k) k = k := by
    unfold sq
    by_cases c : k = 0
    · rw [if_pos c, c]
    · rw [if_neg c]; show k - 1 + 1 = k; omega
  have t0 := tb_self (f := f) (n := n) _ 0 rfl hn
  have t1 := tb_self (f := f) (n := n) _ (k + 1) rfl (by omega)
  unfold PS
  rw [e]
  refine ⟨⟨Int.le_refl _, h1⟩, ⟨Int.le_refl _, h1⟩, rfl, by show tb f f n n (k + 1) (k + 1) + 1 = _; omega, fun x y a1 a2 a3 a4 => ?_⟩
  have a4 : x < k ∨ (x = k ∧ y < k) := a4
  omega
end
theorem kf_self {G : AI} {t x : Int} (hn : 0 ≤ G 117 t) (hx : 0 ≤ x ∧ x < G 117 t) : kf G t t x = x := by
  unfold kf
  rw [lcs_self hn]
  have t0 := tb_self (f := tl G t) (n := G 117 t) _ 0 rfl hn
  have pr := Pr_of (f := tl G t) (g := tl G t) (n := G 117 t) (m := G 117 t) (c := G 117 t) (p := fun k => k) (q := fun k => k) (by omega) (PO_self hn)
  rw [← mt_cg (p := fun k => k) (q := fun k => k) (fun k a c => ⟨(pr.2 k a c).2, (pr.2 k a c).1⟩)]
  exact (mt_un (PO_self (f := tl G t) hn) (Or.inr ⟨x, hx, rfl, rfl⟩)).symm
/-- out of rows that hold the pairs -/
theorem kf_of {G : AI} {t u x c : Int} {p q : Int → Int} (h : PO (tl G t) (tl G u) (G 117 t) (G 117 u) p q c) (hc : c = lcs G t u) : mt q p c x = kf G t u x := by
  subst hc
  have pr := Pr_of (c := lcs G t u) rfl h
  unfold kf
  exact mt_cg (fun k a c => ⟨(pr.2 k a c).2, (pr.2 k a c).1⟩)
theorem kf_bd {G : AI} {t u x c : Int} {p q : Int → Int} (h : PO (tl G t) (tl G u) (G 117 t) (G 117 u) p q c) (hc : c = lcs G t u) : kf G t u x = -1 ∨ (0 ≤ kf G t u x ∧ kf G t u x < G 117 t) := by
  rw [← kf_of h hc]
  rcases mt_s q p c x with ⟨a1, -⟩ | ⟨k, a1, -, a3⟩
  · exact Or.inl a1
  · have z := PO_nn h _ k rfl a1.1 a1.2
    have y := (h k a1.1 a1.2).1
    rw [a3]; exact Or.inr ⟨z.1, y.2⟩
section
variable {L : Nat} {b : Bool} {I G : AI} {J : AJ}
/-- the reference's keptFrom -/
theorem c205 (hT : TxR I) {t u : Int} (ht : 0 ≤ t ∧ t < I 115 5) (hu : 0 ≤ u ∧ u < I 115 5) (x : Int) : ∃ I', evc 205 [vr 115, vi t, vi u, vi x] (hp L b I J) = some (vi (kf I t u x), hp L b I' J) ∧ Sm [135, 136, 137] [27] I I' ∧ (kf I t u x = -1 ∨ (0 ≤ kf I t u x ∧ kf I t u x < I 117 t)) := by
  have b1 := hT.2.2.1 t ht.1 ht.2
  have b2 := hT.2.2.1 u hu.1 hu.2
  have lb : 0 ≤ lcs I t u ∧ lcs I t u ≤ I 117 t ∧ lcs I t u ≤ I 117 u := pc_bd b1.1 b2.1
  obtain ⟨I1, q1, q2, q3, q4⟩ := c175R (L := L) (b := b) (J := J) hT ht.2 hu.2
  rw [ts_t ht.1, ts_t hu.1] at q3 q4
  have q4 : I1 115 27 = lcs I t u := q4
  refine ⟨I1, ?_, q2, kf_bd q3 q4⟩
  rw [← kf_of q3 q4, n205, s205_0, q1]
  simp only [Option.bind_some]
  rw [s205_6]
  refine lp (lo := 0) (hi := I1 115 27) (F := fun k (y : Int) => ev 205 12 [some (vr 115), none, none, some (vi x), some (vi y), some (vi k)] [] (hp L b I1 J)) (Q := fun r => r = some (vi (mt (I1 137) (I1 136) (I1 115 27) x), hp L b I1 J)) (fun i y => (y = -1 ∧ ∀ k, 0 ≤ k → k < i → I1 137 k ≠ x) ∨ ∃ k, (0 ≤ k ∧ k < i) ∧ I1 137 k = x ∧ y = I1 136 k) ?_ ?_ 0 (-1) (Int.le_refl _) (by omega) (Or.inl ⟨rfl, fun k a c => by omega⟩)
  · intro i y g1 g2 v
    right
    by_cases c : I1 137 i = x
    · refine ⟨I1 136 i, ?_, Or.inr ⟨i, ⟨g1, by omega⟩, c, rfl⟩⟩
      try dsimp only
      rw [s205_12]
      simp (disch := first | assumption | omega) only [↓gd_t, ↓if_pos, ↓if_neg, Option.bind_some, true_or, true_and, gd_t, s205_44]
    · refine ⟨y, ?_, ?_⟩
      · try dsimp only
        rw [s205_12]
        simp (disch := first | assumption | omega) only [↓gd_t, ↓if_pos, ↓if_neg, Option.bind_some, true_or, true_and, gd_t, s205_44]
      · rcases v with ⟨v1, v2⟩ | ⟨k, v1, v2⟩
        · refine Or.inl ⟨v1, fun k a d => ?_⟩
          by_cases e : k = i
          · rw [e]; exact c
          · exact v2 k a (by omega)
        · exact Or.inr ⟨k, ⟨v1.1, by omega⟩, v2⟩
  · intro y v
    try dsimp only
    rw [s205_12, if_pos (Int.le_refl _), mt_un q3 v]
/-- what blame needs of the reference's cells -/
def BlR (G : AI) : Prop := TxR G ∧ ShR G ∧ SpR G
theorem BlR.cg (h : BlR I) {I' : AI} {cs : List Nat} {fs : List Int} (hA : Sm cs fs I I') (hd : (∀ c ∈ [117, 118, 119, 120, 122, 123, 125, 126, 127, 129], c ∉ cs) ∧ ∀ j ∈ [(5 : Int), 10, 16], j ∉ fs) : BlR I' := by
  obtain ⟨h1, h2, h3⟩ := h
  have m : ∀ c ∈ [117, 118, 119, 120, 122, 123, 125, 126, 127, 129], I' c = I c := fun c z => hA.1 c (hd.1 c z) (by revert c; decide)
  refine ⟨h1.cg (fun c z => m c (by revert c; decide)) (hA.2 5 (hd.2 5 (by decide))), ?_, ?_⟩
  · unfold ShR SvR at *
    rw [hA.2 10 (hd.2 10 (by decide)), hA.2 5 (hd.2 5 (by decide)), m 122 (by decide), m 123 (by decide)]; exact h2
  · unfold SpR StR at *
    rw [hA.2 16 (hd.2 16 (by decide)), hA.2 10 (hd.2 10 (by decide)), m 125 (by decide), m 126 (by decide), m 127 (by decide), m 129 (by decide)]; exact h3
theorem nm_bd (h : BlR G) {s x : Int} (hs : 0 ≤ s ∧ s < G 115 16) (hx : 0 ≤ x ∧ x < 16) : -1 ≤ nm G s x ∧ nm G s x < G 115 5 := h.2.1.2 _ (h.2.2.2.1 s hs.1 hs.2).1 (h.2.2.2.1 s hs.1 hs.2).2 x hx.1 hx.2
theorem l204 (h : BlR I) {x : Int} (hx : 0 ≤ x ∧ x < 16) : ∀ (n : Nat) (a y : Int) (X : AI), (0 ≤ a ∧ a < I 115 16) → a < n → 0 ≤ nm I a x → Sm [135, 136, 137] [27] I X → ∃ Y, ev 204 82 [some (vr 115), none, some (vi x), none, none, some (vi a), some (vi y), none, none, none] [] (hp L b X J) = some (vi (bl I x n a y), hp L b Y J) ∧ Sm [135, 136, 137] [27] I Y := by
  have p0 := h.2.2.1.1
  have s0 := h.2.1.1.1
  intro n
  induction n with
  | zero => intro a y X h1 h2; omega
  | succ n ih =>
    intro a y X h1 h2 h3 hX
    have hX' : BlR X := h.cg hX (by decide)
    have m : ∀ c ∈ [116, 117, 118, 119, 120, 122, 123, 125, 126], X c = I c := fun c z => hX.1 c (by revert c; decide) (by revert c; decide)
    have hq := h.2.2.1.2 a h1.1 h1.2
    rw [s204_82, m 126 (by decide), m 125 (by decide), m 123 (by decide)]
    unfold bl
    by_cases c1 : I 126 a < 0
    · refine ⟨X, ?_, hX⟩
      simp (disch := first | assumption | omega) only [↓gd_t, ↓if_pos, ↓if_neg, Option.bind_some, true_or, true_and, gd_t]
    · have hp' : 0 ≤ I 126 a ∧ I 126 a < I 115 16 := by omega
      have hb := h.2.2.2.1 _ hp'.1 hp'.2
      by_cases c2 : I 123 (I 125 (I 126 a)) = 0
      · have nb := nm_bd h hp' hx
        have on1 := c192R (L := L) (b := b) (J := J) h.2.1.1 h.2.2 (s := I 126 a) (x := x) ⟨by omega, hp'.2⟩ hx (X := X) (fun c z => m c (by revert c; decide))
        rw [if_neg c1] at on1
        have on1 : evc 192 [vr 115, vi (I 126 a), vi x] (hp L b X J) = some (vi (nm I (I 126 a) x), hp L b X J) := on1
        have st : ∀ r, ev 204 126 [some (vr 115), none, some (vi x), none, none, some (vi a), some (vi y), some (vi (I 126 a)), none, none] [vi (nm I (I 126 a) x)] (hp L b X J) = r → (gd (0 ≤ a ∧ a < 80) (if I 126 a < 0 then some (vi a, hp L b X J) else gd (0 ≤ a ∧ a < 80) (gd (0 ≤ I 126 a ∧ I 126 a < 80) (gd (0 ≤ I 125 (I 126 a) ∧ I 125 (I 126 a) < 100) (if I 123 (I 125 (I 126 a)) = 0 then (evc 192 [vr 115, vi (I 126 a), vi x] (hp L b X J)).bind (fun q => ev 204 126 [some (vr 115), none, some (vi x), none, none, some (vi a), some (vi y), some (vi (I 126 a)), none, none] (q.1 :: []) q.2) else some (vi (-2), hp L b X J)))))) = r := fun r z => by
          simp (disch := first | assumption | omega) only [↓gd_t, ↓if_pos, ↓if_neg, Option.bind_some, true_or, true_and, gd_t, on1]
          exact z
        have key : (fun r => ∃ Y, r = some (vi (if I 126 a < 0 then a else if I 123 (I 125 (I 126 a)) ≠ 0 then -2 else if nm I (I 126 a) x < 0 then a else if bI (rdR I (nm I (I 126 a) x)) = 0 then -2 else if kf I (nm I (I 126 a) x) (nm I a x) y < 0 then a else bl I x n (I 126 a) (kf I (nm I (I 126 a) x) (nm I a x) y)), hp L b Y J) ∧ Sm [135, 136, 137] [27] I Y) (ev 204 126 [some (vr 115), none, some (vi x), none, none, some (vi a), some (vi y), some (vi (I 126 a)), none, none] [vi (nm I (I 126 a) x)] (hp L b X J)) := by
          rw [if_neg c1, if_neg (fun z => z c2)]
          by_cases c3 : nm I (I 126 a) x < 0
          · refine ⟨X, ?_, hX⟩
            rw [if_pos c3, s204_126]
            simp (disch := first | assumption | omega) only [↓gd_t, ↓if_pos, ↓if_neg, Option.bind_some, true_or, true_and, gd_t, s204_145, s204_169]
          · rw [if_neg c3]
            have rdx : rdR X (nm I (I 126 a) x) ↔ rdR I (nm I (I 126 a) x) := rdR_cg (fun c z => m c (by revert c; decide)) (hX.2 5 (by decide)) _
            by_cases c4 : rdR I (nm I (I 126 a) x)
            · rw [if_neg (by rw [bI_t c4]; decide)]
              have on2 := c192R (L := L) (b := b) (J := J) h.2.1.1 h.2.2 (s := a) (x := x) ⟨by omega, h1.2⟩ hx (X := X) (fun c z => m c (by revert c; decide))
              rw [if_neg (by omega)] at on2
              have on2 : evc 192 [vr 115, vi a, vi x] (hp L b X J) = some (vi (nm I a x), hp L b X J) := on2
              have na := nm_bd h h1 hx
              obtain ⟨Y, y1, y2, y3⟩ := c205 (L := L) (b := b) (J := J) hX'.1 (t := nm I (I 126 a) x) (u := nm I a x) (by rw [hX.2 5 (by decide)]; omega) (by rw [hX.2 5 (by decide)]; omega) y
              have ekf : kf X = kf I := by
                funext t u z
                unfold kf tl lcs tl
                rw [m 116 (by decide), m 117 (by decide)]
              rw [ekf] at y1 y3
              have st2 : ev 204 126 [some (vr 115), none, some (vi x), none, none, some (vi a), some (vi y), some (vi (I 126 a)), none, none] [vi (nm I (I 126 a) x)] (hp L b X J) = ev 204 169 [some (vr 115), none, some (vi x), none, none, some (vi a), none, some (vi (I 126 a)), none, none] [vi (kf I (nm I (I 126 a) x) (nm I a x) y)] (hp L b Y J) := by
                rw [s204_126, if_neg c3, c137 hX'.1, bI_t (rdx.mpr c4)]
                simp (disch := first | assumption | omega) only [↓gd_t, ↓if_pos, ↓if_neg, Option.bind_some, true_or, true_and, gd_t, s204_139, s204_145, on2, s204_164, y1]
              rw [st2]
              by_cases c5 : kf I (nm I (I 126 a) x) (nm I a x) y < 0
              · refine ⟨Y, ?_, hX.tr y2⟩
                rw [if_pos c5, s204_169]
                simp (disch := first | assumption | omega) only [↓gd_t, ↓if_pos, ↓if_neg, Option.bind_some, true_or, true_and, gd_t]
              · rw [if_neg c5, s204_169, if_pos (by omega)]
                exact ih (I 126 a) _ Y hp' (by omega) (by omega) (hX.tr y2)
            · refine ⟨X, ?_, hX⟩
              rw [if_pos (bI_f c4), s204_126, if_neg c3, c137 hX'.1, bI_f (fun z => c4 (rdx.mp z))]
              simp (disch := first | assumption | omega) only [↓gd_t, ↓if_pos, ↓if_neg, Option.bind_some, true_or, true_and, gd_t, s204_139]
        rw [st _ rfl]
        exact key
      · refine ⟨X, ?_, hX⟩
        rw [if_neg c1, if_pos c2]
        simp (disch := first | assumption | omega) only [↓gd_t, ↓if_pos, ↓if_neg, Option.bind_some, true_or, true_and, gd_t]
end
section
variable {L : Nat} {b : Bool} {I G : AI} {J : AJ}
theorem l84 (hT : RT I G) (hS : RS I G) (hP : RP I J G) (hH : RH I G) {x : Int} (hx : 0 ≤ x ∧ x < 16) : ∀ (n : Nat) (i a y : Int) (X : AI), (80 - i).toNat = n → 0 ≤ i → (0 ≤ a ∧ a < G 115 16) → a < n → 0 ≤ nm G a x → (0 ≤ y ∧ y < G 117 (nm G a x)) → Same [2, 13, 14, 15, 16, 107, 108, 109] I X → ∃ Y, ev 84 13 [some (vr 104), none, some (vi x), none, none, some (vi a), some (vi (nm G a x)), some (vi y), some (vi i), none, none] [] (hp L b X J) = some (vi (bl G x n a y), hp L b Y J) ∧ Same [2, 13, 14, 15, 16, 107, 108, 109] I Y := by
  have p0 := hP.1.1
  have hB : BlR G := ⟨hT.1, hS.shr, hP.spr hH⟩
  intro n
  induction n with
  | zero => intro i a y X h0 h1 h2 h3; omega
  | succ n ih =>
    intro i a y X h0 hi h1 h2 h3 hy hX
    have hTX : RT X G := hT.cg (fun c z => hX c (by revert c; decide)) (fun _ _ => rfl) rfl
    have hSX : RS X G := hS.cg (fun c z => hX c (by revert c; decide)) (fun _ _ => rfl) rfl rfl
    have hPX : RP X J G := hP.cg (fun c z => hX c (by revert c; decide)) (fun _ _ => rfl) (fun _ _ => rfl) rfl rfl
    have ra := hPX.2.2.1 a h1.1 h1.2
    have hq := hP.1.2 a h1.1 h1.2
    rw [s84_13, if_neg (by omega), gd_t (by omega), c54R hPX, ra.2.2.1]
    simp only [Option.bind_some]
    unfold bl
    by_cases c1 : G 126 a < 0
    · refine ⟨X, ?_, hX⟩
      rw [bI_f (by omega), s84_41]
      simp (disch := first | assumption | omega) only [↓gd_t, ↓if_pos, ↓if_neg, Option.bind_some, true_or, true_and, gd_t]
    · have hp' : 0 ≤ G 126 a ∧ G 126 a < G 115 16 := by omega
      have rp := hPX.2.2.1 _ hp'.1 hp'.2
      have nb := nm_bd hB hp' hx
      have na := nm_bd hB h1 hx
      rw [bI_t hp', s84_41, if_pos (by decide), gd_t (by omega), rp.1, c42R hSX, if_neg c1]
      simp only [Option.bind_some]
      by_cases c2 : G 123 (G 125 (G 126 a)) = 0
      · rw [bI_t (show shR G (G 125 (G 126 a)) from ⟨rp.2.1, c2⟩), s84_64, if_pos (by decide), gd_t (by omega), rp.1, c43R hSX rp.2.1 hx, if_neg (fun z => z c2)]
        simp only [Option.bind_some]
        rw [show G 122 (16 * G 125 (G 126 a) + x) = nm G (G 126 a) x from rfl, s84_88]
        by_cases c3 : nm G (G 126 a) x < 0
        · refine ⟨X, ?_, hX⟩
          rw [if_neg (by omega), if_pos c3]
        · rw [if_pos (by omega), c66R hTX, if_neg c3]
          simp only [Option.bind_some]
          rw [s84_108]
          by_cases c4 : rdR G (nm G (G 126 a) x)
          · rw [bI_t c4, if_pos (by decide), if_neg (show ¬ (1 : Int) = 0 by decide)]
            have nxt : ∀ (z : Int) (Y : AI), ev 84 156 [some (vr 104), none, some (vi x), none, none, none, none, some (vi z), some (vi i), some (vi (G 126 a)), some (vi (nm G (G 126 a) x))] [] (hp L b Y J) = ev 84 13 [some (vr 104), none, some (vi x), none, none, some (vi (G 126 a)), some (vi (nm G (G 126 a) x)), some (vi z), some (vi (i + 1)), none, none] [] (hp L b Y J) := fun z Y => by
              rw [s84_156]
              simp (disch := first | assumption | omega) only [↓gd_t, ↓if_pos, ↓if_neg, Option.bind_some, true_or, true_and, gd_t]
            by_cases c5 : nm G (G 126 a) x = nm G a x
            · have e : kf G (nm G (G 126 a) x) (nm G a x) y = y := by rw [c5]; exact kf_self (by omega) hy
              rw [if_pos c5, e, if_neg (by omega), nxt]
              exact ih (i + 1) (G 126 a) y X (by omega) (by omega) hp' (by omega) (by omega) (by rw [c5]; exact hy) hX
            · rw [if_neg c5]
              obtain ⟨Y, y1, y2, y3, y4⟩ := c76R (L := L) (b := b) (J := J) (d := 107) hTX.rl (by decide) (t := nm G (G 126 a) x) (u := nm G a x) ⟨by omega, nb.2⟩ ⟨h3, na.2⟩
              have lb := lcs_bd hT.rl (t := nm G (G 126 a) x) (u := nm G a x) ⟨by omega, nb.2⟩ ⟨h3, na.2⟩
              have z24 := (rl1 hT.rl (t := nm G a x) h3 na.2).2
              have k1 := kf_of (x := y) y3 y4
              have k2 := kf_bd (x := y) y3 y4
              have sY : Same [2, 13, 14, 15, 16, 107, 108, 109] I Y := hX.tr y2
              rw [y1]
              simp only [Option.bind_some]
              have e17 := c17 (L := L) (b := b) (I := Y) (J := J) (d := 107) (by decide) (by rw [y4]; omega) y
              rw [show (107 + 2 : Nat) = 109 from rfl, show (107 + 1 : Nat) = 108 from rfl] at e17
              have k1 : mt (Y 109) (Y 108) (Y 107 3) y = kf G (nm G (G 126 a) x) (nm G a x) y := k1
              rw [k1] at e17
              rw [s84_136, e17]
              simp only [Option.bind_some]
              rw [s84_145]
              by_cases c6 : kf G (nm G (G 126 a) x) (nm G a x) y < 0
              · refine ⟨Y, ?_, sY⟩
                rw [if_neg (by omega), if_pos c6]
              · rw [if_pos (by omega), if_neg c6, nxt]
                exact ih (i + 1) (G 126 a) _ Y (by omega) (by omega) hp' (by omega) (by omega) (by omega) sY
          · refine ⟨X, ?_, hX⟩
            rw [bI_f c4]
            simp (disch := first | assumption | omega) only [↓gd_t, ↓if_pos, ↓if_neg, Option.bind_some, true_or, true_and, gd_t]
      · refine ⟨X, ?_, hX⟩
        rw [bI_f (fun z => c2 z.2), s84_64, if_pos c2]
        simp (disch := first | assumption | omega) only [↓gd_t, ↓if_pos, ↓if_neg, Option.bind_some, true_or, true_and, gd_t]
end
theorem op_blame (s x y : Int) : Op 119 204 [vi s, vi x, vi y] := by
  intro L b I J h
  obtain ⟨hT, hC, hU, hD, hB, hS, hP, hH, hF, hM, hJ⟩ := id h
  have p0 := hP.1.1
  have t0 := hT.1.1
  have s0 := hS.1.1
  have hBl : BlR I := ⟨hT.1, hS.shr, hP.spr hH⟩
  by_cases c : (0 ≤ s ∧ s < I 115 16) ∧ 0 ≤ x ∧ x < 16
  · obtain ⟨hs, hx⟩ := c
    have r := hP.2.2.1 s hs.1 hs.2
    have nb := nm_bd hBl hs hx
    have cst : evc 119 [vr 1, vi s, vi x, vi y] (hp L b I J) = (evc 83 [vr 104, vi s, vi x, vi y] (hp L b I J)).bind (fun q => ev 119 28 [none, none, none, none] (q.1 :: []) q.2) := by
      rw [n119, s119_0, c54R hP, bI_t hs]
      simp only [Option.bind_some]
      rw [s119_8, if_neg (by decide), c131, bI_t hx]
      simp only [Option.bind_some]
      rw [s119_15, if_neg (by decide)]
    have rst : ∀ X : AI, (∀ c ∈ [123, 125], X c = I c) → X 115 = I 115 → evc 204 [vr 115, vi s, vi x, vi y] (hp L b X J) = if I 123 (I 125 s) = 0 then (evc 192 [vr 115, vi s, vi x] (hp L b X J)).bind (fun q => ev 204 38 [some (vr 115), some (vi s), some (vi x), some (vi y), none, none, none, none, none, none] (q.1 :: []) q.2) else some (vi (-2), hp L b X J) := fun X e1 e2 => by
      rw [n204, s204_0, c160, e2, bI_t hs]
      simp only [Option.bind_some]
      rw [s204_5, if_neg (by decide), c149, bI_t hx]
      simp only [Option.bind_some]
      rw [s204_12, e1 123 (by decide), e1 125 (by decide), if_neg (by decide), gd_t (by omega), gd_t (by omega)]
      by_cases d : I 123 (I 125 s) = 0
      · rw [if_pos d, if_pos d]
      · rw [if_neg d, if_neg d, s204_29]
    by_cases d : I 123 (I 125 s) = 0
    · have c1 : evc 83 [vr 104, vi s, vi x, vi y] (hp L b I J) = ev 83 39 [some (vr 104), some (vi s), some (vi x), some (vi y), none] [vi (nm I s x)] (hp L b I J) := by
        rw [n83, s83_0, gd_t (by omega), r.1, c42R hS, bI_t (show shR I (I 125 s) from ⟨r.2.1, d⟩)]
        simp only [Option.bind_some]
        rw [s83_16, if_pos (by decide), gd_t (by omega), r.1, c43R hS r.2.1 hx]
        rfl
      have r1 : ∀ X : AI, (∀ c ∈ [122, 123, 125], X c = I c) → X 115 = I 115 → evc 204 [vr 115, vi s, vi x, vi y] (hp L b X J) = ev 204 38 [some (vr 115), some (vi s), some (vi x), some (vi y), none, none, none, none, none, none] [vi (nm I s x)] (hp L b X J) := fun X e1 e2 => by
        have on1 := c192R (L := L) (b := b) (J := J) hS.1 (hP.spr hH) (s := s) (x := x) ⟨by omega, hs.2⟩ hx (X := X) (fun c z => e1 c (by revert c; decide))
        rw [if_neg (by omega)] at on1
        rw [rst X (fun c z => e1 c (by revert c; decide)) e2, if_pos d, on1]
        rfl
      by_cases e : 0 ≤ nm I s x
      · by_cases f : rdR I (nm I s x)
        · by_cases g : 0 ≤ y ∧ y < I 117 (nm I s x)
          · obtain ⟨I1, q1, q2⟩ := l84 (L := L) (b := b) (J := J) hT hS hP hH hx 80 0 s y I rfl (Int.le_refl _) hs (by omega) e g Same.rf
            have hB1 : BlR I1 := hBl.cg (q2.sm (by decide)) (by decide)
            have e1 : ∀ c, c ∉ [2, 13, 14, 15, 16, 107, 108, 109] → I1 c = I c := q2
            have x115 : I1 115 = I 115 := e1 115 (by decide)
            have enm : nm I1 s x = nm I s x := by unfold nm; rw [e1 122 (by decide), e1 125 (by decide)]
            have rd1 : rdR I1 (nm I s x) := (rdR_cg (fun c z => e1 c (by revert c; decide)) (by rw [x115]) _).mpr f
            obtain ⟨I2, w1, w2⟩ := l204 (L := L) (b := b) (J := J) hB1 hx 80 s y I1 (by rw [x115]; exact hs) (by omega) (by rw [enm]; exact e) Sm.rf
            have ebl : ∀ n a z, bl I1 x n a z = bl I x n a z := by
              intro n
              induction n with
              | zero => intro a z; rfl
              | succ n ih =>
                intro a z
                have k1 : kf I1 = kf I := by funext t u w; unfold kf tl lcs tl; rw [e1 116 (by decide), e1 117 (by decide)]
                have k2 : nm I1 = nm I := by funext t u; unfold nm; rw [e1 122 (by decide), e1 125 (by decide)]
                have k3 : ∀ t, bI (rdR I1 t) = bI (rdR I t) := fun t => bI_cg (rdR_cg (fun c z => e1 c (by revert c; decide)) (by rw [x115]) t)
                unfold bl
                rw [k1, k2, k3, e1 126 (by decide), e1 123 (by decide), e1 125 (by decide), ih]
            refine ⟨bl I x 80 s y, b, I1, J, I2, ?_, ?_, rel_ro h (Sm.of2 (es := [2, 13, 14, 15, 16, 107, 108, 109, 135, 136, 137]) q2 w2 (by decide) (by simp) (by simp)) (fun _ _ => rfl) (by decide)⟩
            · rw [cst, c1, s83_39, if_pos (by omega), c66R hT, bI_t f]
              simp only [Option.bind_some]
              rw [s83_58, if_pos (by decide), if_neg (by omega), gd_t (by omega), (hT.2.2 _ e nb.2).1, if_neg (by omega), n84, s84_0, q1]
              simp only [Option.bind_some]
              rw [s83_91]
              simp only [Option.bind_some]
              rw [s119_28]
            · rw [r1 I1 (fun c z => e1 c (by revert c; decide)) x115, s204_38, if_pos e, c137 hB1.1, bI_t rd1]
              simp only [Option.bind_some]
              rw [s204_53, e1 117 (by decide), if_pos (by decide), if_neg (by omega), gd_t (by omega), if_pos g.2, w1, ebl]
          · refine ⟨-1, b, I, J, I, ?_, ?_, h, rfl⟩
            · rw [cst, c1, s83_39, if_pos (by omega), c66R hT, bI_t f]
              simp only [Option.bind_some]
              rw [s83_58, if_pos (by decide), (hT.2.2 _ e nb.2).1]
              by_cases k : y < 0
              · simp (disch := first | assumption | omega) only [↓gd_t, ↓if_pos, ↓if_neg, Option.bind_some, true_or, true_and, gd_t, s83_94, s119_28]
              · simp (disch := first | assumption | omega) only [↓gd_t, ↓if_pos, ↓if_neg, Option.bind_some, true_or, true_and, gd_t, s83_94, s119_28]
            · rw [r1 I (fun _ _ => rfl) rfl, s204_38, if_pos e, c137 hT.1, bI_t f]
              simp only [Option.bind_some]
              rw [s204_53, if_pos (by decide)]
              by_cases k : y < 0
              · simp (disch := first | assumption | omega) only [↓gd_t, ↓if_pos, ↓if_neg, Option.bind_some, true_or, true_and, gd_t, s204_74]
              · simp (disch := first | assumption | omega) only [↓gd_t, ↓if_pos, ↓if_neg, Option.bind_some, true_or, true_and, gd_t, s204_74]
        · refine ⟨-2, b, I, J, I, ?_, ?_, h, rfl⟩
          · rw [cst, c1, s83_39, if_pos (by omega), c66R hT, bI_f f]
            simp (disch := first | assumption | omega) only [↓gd_t, ↓if_pos, ↓if_neg, Option.bind_some, true_or, true_and, gd_t, s83_58, s119_28]
          · rw [r1 I (fun _ _ => rfl) rfl, s204_38, if_pos e, c137 hT.1, bI_f f]
            simp (disch := first | assumption | omega) only [↓gd_t, ↓if_pos, ↓if_neg, Option.bind_some, true_or, true_and, gd_t, s204_53]
      · refine ⟨-1, b, I, J, I, ?_, ?_, h, rfl⟩
        · rw [cst, c1, s83_39, if_neg (by omega)]
          simp (disch := first | assumption | omega) only [↓gd_t, ↓if_pos, ↓if_neg, Option.bind_some, true_or, true_and, gd_t, s119_28]
        · rw [r1 I (fun _ _ => rfl) rfl, s204_38, if_neg e]
    · refine ⟨-2, b, I, J, I, ?_, ?_, h, rfl⟩
      · rw [cst, n83, s83_0, gd_t (by omega), r.1, c42R hS, bI_f (fun z => d z.2)]
        simp (disch := first | assumption | omega) only [↓gd_t, ↓if_pos, ↓if_neg, Option.bind_some, true_or, true_and, gd_t, s83_16, s119_28]
      · rw [rst I (fun _ _ => rfl) rfl, if_neg d]
  · refine ⟨-2, b, I, J, I, ?_, ?_, h, rfl⟩
    · rw [n119, s119_0, c54R hP]
      by_cases d : 0 ≤ s ∧ s < I 115 16
      · rw [bI_t d]
        simp only [Option.bind_some]
        rw [s119_8, if_neg (by decide), c131, bI_f (fun z => c ⟨d, z⟩)]
        simp (disch := first | assumption | omega) only [↓gd_t, ↓if_pos, ↓if_neg, Option.bind_some, true_or, true_and, gd_t, s119_15, s119_31]
      · rw [bI_f d]
        simp (disch := first | assumption | omega) only [↓gd_t, ↓if_pos, ↓if_neg, Option.bind_some, true_or, true_and, gd_t, s119_8, s119_31]
    · rw [n204, s204_0, c160]
      by_cases d : 0 ≤ s ∧ s < I 115 16
      · rw [bI_t d]
        simp only [Option.bind_some]
        rw [s204_5, if_neg (by decide), c149, bI_f (fun z => c ⟨d, z⟩)]
        simp (disch := first | assumption | omega) only [↓gd_t, ↓if_pos, ↓if_neg, Option.bind_some, true_or, true_and, gd_t, s204_12, s204_29]
      · rw [bI_f d]
        simp (disch := first | assumption | omega) only [↓gd_t, ↓if_pos, ↓if_neg, Option.bind_some, true_or, true_and, gd_t, s204_5, s204_29]
