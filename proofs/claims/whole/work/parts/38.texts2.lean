/-! texts: how the class (the cells of I) holds what the reference holds (the cells of G) -/
def RLn (I G : AI) : Prop := TxC I ∧ I 6 9 = G 115 5 ∧ ∀ t, 0 ≤ t → t < G 115 5 → (0 ≤ G 117 t ∧ G 117 t ≤ 24) ∧ I 8 t = G 117 t ∧ ∀ i, 0 ≤ i → i < G 117 t → I 7 (t * 24 + i) = G 116 (24 * t + i)
def RT1 (I G : AI) (t : Int) : Prop := I 8 t = G 117 t ∧ (∀ i, 0 ≤ i → i < G 117 t → I 7 (t * 24 + i) = G 116 (24 * t + i)) ∧ (I 9 t = (if G 119 t = 1 then 3 else if G 118 t = 1 then 2 else if 0 ≤ G 120 t then 1 else 0)) ∧ (I 10 t = (if G 119 t = 1 then -1 else G 120 t)) ∧ (G 119 t = 0 → 0 ≤ G 120 t → G 119 (G 120 t) = 0) ∧ (G 118 t = 1 → G 120 t = -1)
def RT (I G : AI) : Prop := TxR G ∧ I 6 9 = G 115 5 ∧ ∀ t, 0 ≤ t → t < G 115 5 → RT1 I G t
/-- as many lines as two texts have in common -/
noncomputable def lcs (I : AI) (t u : Int) : Int := pc (tl I t) (tl I u) (I 117 t) (I 117 u)
def tri (t : Int) : Int := t * (t - 1) / 2
theorem tri_s (t : Int) : tri (t + 1) = tri t + t := by
  unfold tri
  have e : (t + 1) * (t + 1 - 1) = t * (t - 1) + 2 * t := by rw [show t + 1 - 1 = t by omega, Int.add_mul, Int.mul_sub]; omega
  rw [e]; omega
theorem tri_0 : tri 0 = 0 := by decide
theorem tri_le {t u : Int} (h0 : 0 ≤ t) (h : t ≤ u) : tri t ≤ tri u := by
  obtain ⟨n, rfl⟩ : ∃ n : Nat, u = t + n := ⟨(u - t).toNat, by omega⟩
  induction n with
  | zero => simp
  | succ n ih =>
    have := ih (by omega)
    have e := tri_s (t + n)
    rw [show t + (n : Nat) + 1 = t + ((n + 1 : Nat) : Int) by omega] at e
    omega
theorem tri_inj {t u t' u' : Int} (h0 : 0 ≤ u) (h1 : u < t) (h2 : 0 ≤ u') (h3 : u' < t') (h : tri t + u = tri t' + u') : t = t' ∧ u = u' := by
  have a := tri_s t
  have a' := tri_s t'
  by_cases c : t < t'
  · have := tri_le (t := t + 1) (u := t') (by omega) (by omega); omega
  · by_cases c2 : t' < t
    · have := tri_le (t := t' + 1) (u := t) (by omega) (by omega); omega
    · have e : t = t' := by omega
      subst e; omega
theorem tri_bd {t u : Int} (h0 : 0 ≤ u) (h1 : u < t) (h2 : t < 120) : 0 ≤ tri t + u ∧ tri t + u < 7140 := by
  have a := tri_le (t := 0) (u := t) (by omega) (by omega)
  have c := tri_le (t := t + 1) (u := 120) (by omega) (by omega)
  have e := tri_s t
  have z : tri 120 = 7140 := by decide
  rw [tri_0] at a
  omega
def RC (I G : AI) : Prop := ∀ t u, 0 ≤ u → u < t → t < 120 → I 161 (tri t + u) = 0 ∨ (t < G 115 5 ∧ I 161 (tri t + u) = 1 + lcs G t u)
theorem RT.cg {I G I' G' : AI} (h : RT I G) (hs : ∀ c ∈ [6, 7, 8, 9, 10], I' c = I c) (hg : ∀ c ∈ [116, 117, 118, 119, 120], G' c = G c) (h5 : G' 115 5 = G 115 5) : RT I' G' := by
  unfold RT RT1 TxR at *
  rw [hs 6 (by decide), hs 7 (by decide), hs 8 (by decide), hs 9 (by decide), hs 10 (by decide), hg 116 (by decide), hg 117 (by decide), hg 118 (by decide), hg 119 (by decide), hg 120 (by decide), h5]
  exact h
theorem RLn.cg {I G I' G' : AI} (h : RLn I G) (hs : ∀ c ∈ [6, 7, 8, 10], I' c = I c) (hg : ∀ c ∈ [116, 117], G' c = G c) (h5 : G' 115 5 = G 115 5) : RLn I' G' := by
  unfold RLn TxC at *
  rw [hs 6 (by decide), hs 7 (by decide), hs 8 (by decide), hs 10 (by decide), hg 116 (by decide), hg 117 (by decide), h5]
  exact h
theorem lcs_cg {I I' : AI} (h1 : I' 116 = I 116) (h2 : I' 117 = I 117) : lcs I' = lcs I := by funext t u; unfold lcs tl; rw [h1, h2]
theorem RC.cg {I G I' G' : AI} (h : RC I G) (hs : I' 161 = I 161) (hg : ∀ c ∈ [116, 117], G' c = G c) (h5 : G' 115 5 = G 115 5) : RC I' G' := by
  unfold RC at *
  rw [hs, lcs_cg (hg 116 (by decide)) (hg 117 (by decide)), h5]
  exact h
theorem lcs_sym (I : AI) (t u : Int) : lcs I t u = lcs I u t := pc_sym _ _ _ _
theorem lcs_self {I : AI} {t : Int} (h : 0 ≤ I 117 t) : lcs I t t = I 117 t := by
  unfold lcs pc
  rw [tb_self _ 0 rfl h]; omega
section
variable {L : Nat} {b : Bool} {I G : AI} {J : AJ} {k : Nat}
theorem RT_txc (h : RT I G) : TxC I := by
  refine ⟨by rw [h.2.1]; exact h.1.1, fun t a b => ?_, fun t a b => ?_⟩
  · rw [h.2.1] at b
    have h1 := h.1.2.1 t a b
    rw [(h.2.2 t a b).2.2.2.1]; split <;> omega
  · rw [h.2.1] at b
    rw [(h.2.2 t a b).1]; exact h.1.2.2.1 t a b
theorem RT.rl (h : RT I G) : RLn I G := ⟨RT_txc h, h.2.1, fun t a b => ⟨h.1.2.2.1 t a b, (h.2.2 t a b).1, (h.2.2 t a b).2.1⟩⟩
theorem RT_th (h : RT I G) (t : Int) : thC I t ↔ thR G t := by
  unfold thC thR
  rw [h.2.1]
  constructor
  · rintro ⟨a, b, c⟩
    have h1 := (h.2.2 t a b).2.2.1
    have h2 := (h.1.2.2.2 t a b).2
    refine ⟨⟨a, b⟩, ?_⟩
    rcases h2 with z | z
    · exact z
    · rw [if_pos z] at h1; exact absurd h1 c
  · rintro ⟨⟨a, b⟩, c⟩
    have h1 := (h.2.2 t a b).2.2.1
    refine ⟨a, b, ?_⟩
    rw [h1, if_neg (by omega)]
    split
    · decide
    · split <;> decide
theorem RT_fl (h : RT I G) : ∀ (n : Nat) (t : Int), -1 ≤ t → t < G 115 5 → (0 ≤ t → G 119 t = 0) → fl (qC I) (I 10) n t = fl (G 118) (G 120) n t
  | 0, _, _, _, _ => rfl
  | n + 1, t, h0, h1, h2 => by
    unfold fl
    by_cases c : t < 0
    · rw [if_pos c, if_pos c]
    · rw [if_neg c, if_neg c]
      obtain ⟨-, -, r3, r4, r5, r6⟩ := h.2.2 t (by omega) h1
      have g := h2 (by omega)
      have hs := h.1.2.1 t (by omega) h1
      have hl := (h.1.2.2.2 t (by omega) h1).1
      rw [if_neg (by omega)] at r3 r4
      by_cases c2 : G 118 t = 1
      · rw [if_pos c2] at r3
        rw [if_pos (show qC I t = 1 from bI_t r3), if_pos c2]
      · rw [if_neg c2] at r3
        have c3 : ¬ I 9 t = 2 := by rw [r3]; split <;> decide
        rw [if_neg (show ¬ qC I t = 1 from fun z => c3 (bI_1.mp z)), if_neg c2, r4]
        exact RT_fl h n (G 120 t) hs.1 (by omega) (fun z => r5 g z)
theorem RT_flc (h : RT I G) {t : Int} (ht : thR G t) : flC I t = flR G t := RT_fl h 120 t (by have := ht.1; omega) ht.1.2 (fun _ => ht.2)
theorem RT_rd (h : RT I G) (t : Int) : rdC I t ↔ rdR G t := by
  unfold rdC rdR
  constructor
  · rintro ⟨a, c⟩
    have a' := (RT_th h t).mp a
    exact ⟨a', by rw [← RT_flc h a']; exact c⟩
  · rintro ⟨a, c⟩
    exact ⟨(RT_th h t).mpr a, by rw [RT_flc h a]; exact c⟩
theorem c64R (h : RT I G) (t : Int) : evc 64 [vr 6, vi t] (hp L b I J) = some (vi (bI (0 ≤ t ∧ t < G 115 5)), hp L b I J) := by rw [c64, h.2.1]
theorem c65R (h : RT I G) (t : Int) : evc 65 [vr 6, vi t] (hp L b I J) = some (vi (bI (thR G t)), hp L b I J) := by
  rw [c65 (RT_txc h).1.2, bI_cg (RT_th h t)]
theorem c66R (h : RT I G) (t : Int) : evc 66 [vr 6, vi t] (hp L b I J) = some (vi (bI (rdR G t)), hp L b I J) := by
  rw [c66 (RT_txc h), bI_cg (RT_rd h t)]
theorem c68R (h : RT I G) {t : Int} (ht : thR G t) : evc 68 [vr 6, vi t] (hp L b I J) = some (vi (flR G t), hp L b I J) := by
  rw [c68 (RT_txc h) t (by have := ht.1; omega) (by rw [h.2.1]; exact ht.1.2), RT_flc h ht]
theorem rl0 (h : RLn I G) : 0 ≤ G 115 5 ∧ G 115 5 ≤ 120 := by have := h.1.1; rw [h.2.1] at this; exact this
theorem rl1 (h : RLn I G) {t : Int} (a : 0 ≤ t) (c : t < G 115 5) : 0 ≤ G 117 t ∧ G 117 t ≤ 24 := (h.2.2 t a c).1
theorem ts_bd (h : RLn I G) {t : Int} (ht : t < G 115 5) : 0 ≤ ts G t ∧ ts G t ≤ 24 := by
  unfold ts
  by_cases c : 0 ≤ t
  · rw [if_pos c]; exact rl1 h c ht
  · rw [if_neg c]; decide
theorem ts_t {t : Int} (ht : 0 ≤ t) : ts G t = G 117 t := if_pos ht
/-- the lines of a text (or of none) come into a row -/
theorem c71R (h : RLn I G) (hk : isRow k = true) {t : Int} (ht : -1 ≤ t ∧ t < G 115 5) : ∃ I' : AI, evc 71 [vr 6, vi t, vr k] (hp L b I J) = some (vi 0, hp L b I' J) ∧ Same [k, k + 1] I I' ∧ RwC I' k (ts G t) (tl G t) := by
  obtain ⟨I', q1, q2, q3, q4⟩ := c71 (L := L) (b := b) (J := J) h.1 hk t
  have e : I' k 1 = ts G t := by
    rw [q3, h.2.1]
    unfold ts
    by_cases c : 0 ≤ t
    · rw [if_pos ⟨c, ht.2⟩, if_pos c, (h.2.2 t c ht.2).2.1]
    · rw [if_neg (fun z => c z.1), if_neg c]
  refine ⟨I', q1, q2, e, fun j a c => ?_⟩
  rw [← e] at c
  rw [q4 j a c]
  by_cases d : 0 ≤ t
  · refine (h.2.2 t d ht.2).2.2 j a ?_
    rw [e] at c
    unfold ts at c
    rw [if_pos d] at c
    exact c
  · rw [e] at c
    unfold ts at c
    rw [if_neg d] at c
    omega
theorem RwC.cg {I I' : AI} {k : Nat} {n : Int} {f : Int → Int} (h : RwC I k n f) (h1 : I' k = I k) (h2 : I' (k + 1) = I (k + 1)) : RwC I' k n f := by
  unfold RwC
  rw [h1, h2]; exact h
/-- THE DIFF of two texts -/
theorem c76R {d : Nat} (h : RLn I G) (hd : isDiff d = true) {t u : Int} (ht : 0 ≤ t ∧ t < G 115 5) (hu : 0 ≤ u ∧ u < G 115 5) : ∃ I' : AI, evc 76 [vr 6, vi t, vi u, vr d] (hp L b I J) = some (vi 0, hp L b I' J) ∧ Same [2, 13, 14, 15, 16, d, d + 1, d + 2] I I' ∧ PO (tl G t) (tl G u) (G 117 t) (G 117 u) (I' (d + 1)) (I' (d + 2)) (I' d 3) ∧ I' d 3 = lcs G t u := by
  obtain ⟨I1, q1, q2, q3⟩ := c71R (L := L) (b := b) (J := J) h (k := 13) (by decide) (t := t) ⟨by omega, ht.2⟩
  have h' : RLn I1 G := h.cg (fun c hc => q2 c (by revert c; decide)) (fun _ _ => rfl) rfl
  obtain ⟨I2, r1, r2, r3⟩ := c71R (L := L) (b := b) (J := J) h' (k := 15) (by decide) (t := u) ⟨by omega, hu.2⟩
  have r4 : RwC I2 13 (ts G t) (tl G t) := q3.cg (r2 13 (by decide)) (r2 14 (by decide))
  obtain ⟨I3, w1, w2, w3, w4⟩ := c14 (L := L) (b := b) (J := J) (d := d) hd (ka := 13) (kb := 15) (by decide) (by decide) (ts_bd h ht.2) (ts_bd h hu.2) r4 r3
  rw [ts_t ht.1, ts_t hu.1] at w3 w4
  refine ⟨I3, ?_, ?_, w3, w4⟩
  · rw [n76]
    simp (disch := first | assumption | omega) only [↓gd_t, ↓if_pos, ↓if_neg, Option.bind_some, true_or, true_and, gd_t, s76_0, q1, s76_9, r1, s76_18, w1, s76_30]
  · exact Same.tr (Same.tr (q2.mono (by simp)) (r2.mono (by simp))) (w2.mono (by simp))
/-- how many lines two texts have in common, by the class's table -/
theorem l77 (h : RLn I G) (hC : RC I G) {t u : Int} (ht : 0 ≤ t ∧ t < G 115 5) (hu : 0 ≤ u ∧ u < G 115 5) (hn : t ≠ u) {x : Int} (hx : x = tri (if t < u then u else t) + (if u < t then u else t)) : ∃ I' : AI, ev 77 68 [some (vr 6), some (vi t), some (vi u), none, some (vi x)] [] (hp L true I J) = some (vi (lcs G t u), hp L true I' J) ∧ Same [2, 13, 14, 15, 16, 161] I I' ∧ RC I' G := by
  have h0 := rl0 h
  obtain ⟨m, l, e1, e2, hm⟩ : ∃ m l : Int, (if t < u then u else t) = m ∧ (if u < t then u else t) = l ∧ ((0 ≤ l ∧ l < m ∧ m < G 115 5) ∧ lcs G m l = lcs G t u) := by
    by_cases c : t < u
    · exact ⟨u, t, if_pos c, if_neg (by omega), ⟨ht.1, c, hu.2⟩, lcs_sym _ _ _⟩
    · exact ⟨t, u, if_neg c, if_pos (by omega), ⟨hu.1, by omega, ht.2⟩, rfl⟩
  obtain ⟨⟨m1, m2, m3⟩, m4⟩ := hm
  rw [e1, e2] at hx
  have bd := tri_bd m1 m2 (by omega)
  have pb := pc_bd (f := tl G m) (g := tl G l) (n := G 117 m) (m := G 117 l) (rl1 h (by omega) m3).1 (rl1 h (by omega) (by omega)).1
  have pb2 := (rl1 h (t := m) (by omega) m3).2
  have pb3 : pc (tl G m) (tl G l) (G 117 m) (G 117 l) = lcs G t u := m4
  rw [pb3] at pb
  have fin : ∀ I2 : AI, I2 161 x = 1 + lcs G t u → ev 77 121 [some (vr 6), none, none, none, some (vi x)] [] (hp L true I2 J) = some (vi (lcs G t u), hp L true I2 J) := fun I2 e => by
    rw [s77_121, show cm true = 161 from rfl, show ((cl true : Nat) : Int) = 7140 from rfl, e]
    simp (disch := first | assumption | omega) only [↓gd_t, ↓if_pos, ↓if_neg, Option.bind_some, true_or, true_and, gd_t]
    rw [show 1 + lcs G t u - 1 = lcs G t u by omega]
  rw [s77_68, show cm true = 161 from rfl, show ((cl true : Nat) : Int) = 7140 from rfl, gd_t (by omega)]
  by_cases c : I 161 x = 0
  · rw [if_neg (fun z => z c)]
    obtain ⟨I1, q1, q2, q3⟩ := c71R (L := L) (b := true) (J := J) h (k := 13) (by decide) (t := t) ⟨by omega, ht.2⟩
    have h' : RLn I1 G := h.cg (fun c hc => q2 c (by revert c; decide)) (fun _ _ => rfl) rfl
    obtain ⟨I2, r1, r2, r3⟩ := c71R (L := L) (b := true) (J := J) h' (k := 15) (by decide) (t := u) ⟨by omega, hu.2⟩
    have r4 : RwC I2 13 (ts G t) (tl G t) := q3.cg (r2 13 (by decide)) (r2 14 (by decide))
    obtain ⟨I3, w1, w2, w3⟩ := c13 (L := L) (b := true) (J := J) (d := 17) (by decide) (ka := 13) (kb := 15) (by decide) (by decide) (ts_bd h ht.2) (ts_bd h hu.2) r4 r3
    rw [ts_t ht.1, ts_t hu.1] at w1
    have w1 : evc 13 [vr 17, vr 13, vr 15] (hp L true I2 J) = some (vi (lcs G t u), hp L true I3 J) := w1
    have sm : Same [2, 13, 14, 15, 16, 161] I I3 := Same.tr (Same.tr (q2.mono (by simp)) (r2.mono (by simp))) (w2.mono (by simp))
    have s161 : I3 161 = I 161 := by rw [w2 161 (by decide), r2 161 (by decide), q2 161 (by decide)]
    refine ⟨upI I3 161 x (lcs G t u + 1), ?_, sm.up (by simp), fun t' u' g1 g2 g3 => ?_⟩
    · rw [q1]
      simp only [Option.bind_some]
      rw [s77_87, r1]
      simp only [Option.bind_some]
      rw [s77_96, w1]
      simp only [Option.bind_some]
      rw [s77_117, show cm true = 161 from rfl, show ((cl true : Nat) : Int) = 7140 from rfl]
      simp (disch := first | assumption | omega) only [↓gd_t, ↓if_pos, ↓if_neg, Option.bind_some, true_or, true_and, gd_t]
      exact fin _ (by rw [upI_s]; omega)
    · by_cases z : tri t' + u' = x
      · obtain ⟨z1, z2⟩ := tri_inj g1 g2 m1 m2 (by rw [z, hx])
        refine Or.inr ⟨by omega, ?_⟩
        rw [z, upI_s, z1, z2, m4]; omega
      · rw [upI_i z, s161]
        exact hC t' u' g1 g2 g3
  · rw [if_pos c]
    have e := hC m l m1 m2 (by omega)
    rw [← hx, m4] at e
    rcases e with e | e
    · exact absurd e c
    · exact ⟨I, fin I e.2, Same.rf, hC⟩
theorem c77 (h : RLn I G) (hC : RC I G) {t u : Int} (ht : 0 ≤ t ∧ t < G 115 5) (hu : 0 ≤ u ∧ u < G 115 5) : ∃ (b' : Bool) (I' : AI), evc 77 [vr 6, vi t, vi u] (hp L b I J) = some (vi (lcs G t u), hp L b' I' J) ∧ Same [2, 13, 14, 15, 16, 161] I I' ∧ RC I' G := by
  have h0 := rl0 h
  have h6 := h.2.1
  have e0 : evc 77 [vr 6, vi t, vi u] (hp L b I J) = ev 77 13 [some (vr 6), some (vi t), some (vi u), none, none] [vi 1] (hp L b I J) := by
    rw [n77]
    simp (disch := first | assumption | omega) only [↓gd_t, ↓if_pos, ↓if_neg, Option.bind_some, true_or, true_and, gd_t, s77_0, c64, bI_t (show 0 ≤ t ∧ t < I 6 9 by omega), s77_5, bI_t (show 0 ≤ u ∧ u < I 6 9 by omega)]
  rw [e0, s77_13, if_pos (by decide)]
  by_cases c : t = u
  · rw [if_neg (fun z => z c), gd_t (by omega), (h.2.2 t ht.1 ht.2).2.1, ← c, lcs_self (rl1 h ht.1 ht.2).1]
    exact ⟨b, I, rfl, Same.rf, hC⟩
  · rw [if_pos c]
    have bd : ∃ m l : Int, (if t < u then u else t) = m ∧ (if u < t then u else t) = l ∧ 0 ≤ l ∧ l < m ∧ m < 120 := by
      by_cases d : t < u
      · exact ⟨u, t, if_pos d, if_neg (by omega), by omega, by omega, by omega⟩
      · exact ⟨t, u, if_neg d, if_pos (by omega), by omega, by omega, by omega⟩
    obtain ⟨m, l, e1, e2, b1, b2, b3⟩ := bd
    have hx : ∀ x, x = tri m + l → x = tri (if t < u then u else t) + (if u < t then u else t) := fun x hx => by rw [e1, e2]; exact hx
    rw [e1, e2]
    have hm : 0 ≤ m * (m - 1) ∧ m * (m - 1) ≤ 14161 := ⟨Int.mul_nonneg (by omega) (by omega), by
      have := Int.mul_le_mul (a := m) (b := m - 1) (c := 119) (d := 119) (by omega) (by omega) (by omega) (by omega)
      omega⟩
    have bt := tri_bd b1 b2 b3
    have ex : m * (m - 1) / 2 + l = tri m + l := rfl
    rw [gd_t (by omega), gd_t (by omega), gd_t (by omega), ex, gd_t (by omega)]
    cases b with
    | true =>
      obtain ⟨I', q1, q2, q3⟩ := l77 (L := L) (J := J) h hC ht hu c (hx _ rfl)
      refine ⟨true, I', ?_, q2, q3⟩
      rw [if_pos (by decide)]
      exact q1
    | false =>
      obtain ⟨I', q1, q2, q3⟩ := l77 (L := L) (J := J) h hC ht hu c (hx _ rfl)
      refine ⟨true, I', ?_, q2, q3⟩
      rw [if_neg (by decide), e77_63]
      exact q1
end
