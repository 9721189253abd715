/-! the reference: ancestors, bases, what is in question -/
/-- the k-th number with a property -/
theorem ct_ex {p : Int → Prop} : ∀ (n : Nat) (k : Int), 0 ≤ k → k < ct p n → ∃ c : Int, (0 ≤ c ∧ c < n) ∧ p c ∧ ct p c.toNat = k
  | 0, k, h0, h1 => by have : ct p 0 = 0 := rfl; omega
  | n + 1, k, h0, h1 => by
    have h1 : k < ct p n + bI (p n) := h1
    by_cases c : k < ct p n
    · obtain ⟨x, a, d, e⟩ := ct_ex n k h0 c
      exact ⟨x, ⟨a.1, by omega⟩, d, e⟩
    · by_cases d : p n
      · rw [bI_t d] at h1
        exact ⟨n, ⟨by omega, by omega⟩, d, by rw [show ((n : Nat) : Int).toNat = n by omega]; omega⟩
      · rw [bI_f d] at h1; omega
theorem ct_mono {p : Int → Prop} {n m : Nat} (h : n ≤ m) : ct p n ≤ ct p m := by
  obtain ⟨d, rfl⟩ := Nat.exists_eq_add_of_le h
  rw [ct_add]; have := (ct_bd (p := fun i => p (i + n)) d).1; omega
theorem ct_inj {p : Int → Prop} {c d : Int} (hc : 0 ≤ c) (hd : 0 ≤ d) (pc : p c) (pd : p d) (h : ct p c.toNat = ct p d.toNat) : c = d := by
  have key : ∀ {c d : Int}, 0 ≤ c → 0 ≤ d → p c → c < d → ct p c.toNat < ct p d.toNat := fun {c d} hc hd pc h => by
    have a := ct_s (p := p) hc
    rw [bI_t pc] at a
    have z := ct_mono (p := p) (n := (c + 1).toNat) (m := d.toNat) (by omega)
    omega
  by_cases e : c < d
  · have := key hc hd pc e; omega
  · by_cases f : d < c
    · have := key hd hc pd f; omega
    · omega
section
variable {L : Nat} {b : Bool} {I : AI} {J : AJ} {k : Nat}
theorem c165 (hS : StR I) {s t : Int} (hs : 0 ≤ s ∧ s < I 115 16) (ht : 0 ≤ t ∧ t < 80) : ∃ I', evc 165 [vr 115, vi t, vi s] (hp L b I J) = some (vi (bI (anR I s t)), hp L b I' J) ∧ Sm [130, 133] [] I I' := by
  obtain ⟨I1, q1, q2, q3⟩ := c164 (L := L) (b := b) (I := I) (J := J) (k := 133) (by decide)
  have hS1 : StR I1 := hS.cg (fun c z => q2.1 c (by revert c; decide) (by revert c; decide)) (q2.2 16 (by decide))
  obtain ⟨I2, w1, w2, w3⟩ := c163 (L := L) (b := b) (I := I1) (J := J) (k := 133) (by decide) (by decide) hS1 (fun j a c => Or.inl (q3 j a c)) (s := s) (by rw [q2.2 16 (by decide)]; exact hs)
  have e : I2 133 t = bI (anR I s t) := by
    rw [w3 t ht.1 ht.2, q3 t ht.1 ht.2, anR_cg (fun c z => q2.1 c (by revert c; decide) (by revert c; decide))]
    exact bI_cg ⟨fun z => by rcases z with z | z; omega; exact z, Or.inr⟩
  refine ⟨I2, ?_, (q2.mono (by simp) (by simp)).tr w2⟩
  rw [n165]
  simp (disch := first | assumption | omega) only [↓gd_t, ↓if_pos, ↓if_neg, Option.bind_some, true_or, true_and, gd_t, s165_0, q1, s165_7, w1]
  rw [s165_16, e, gd_t ht, bI_g]
theorem c131a (hS : StR I) {s : Int} (hs : 0 ≤ s ∧ s < I 115 16) {k : Nat} (hb : isB k = true) (hn : k ≠ 130) : ∃ I1 I2, evc 164 [vr k] (hp L b I J) = some (vi 0, hp L b I1 J) ∧ evc 163 [vr 115, vi s, vr k] (hp L b I1 J) = some (vi 0, hp L b I2 J) ∧ Sm [130, k] [] I I2 ∧ ∀ t, 0 ≤ t → t < 80 → I2 k t = bI (anR I s t) := by
  obtain ⟨-, -, k3, k4, k5⟩ := isB_k (L := L) (b := b) hb
  obtain ⟨I1, q1, q2, q3⟩ := c164 (L := L) (b := b) (I := I) (J := J) (k := k) hb
  have hS1 : StR I1 := hS.cg (fun c z => q2.1 c (by simp at z ⊢; omega) (by revert c; decide)) (q2.2 16 (by decide))
  obtain ⟨I2, w1, w2, w3⟩ := c163 (L := L) (b := b) (I := I1) (J := J) (k := k) hb hn hS1 (fun j a c => Or.inl (q3 j a c)) (s := s) (by rw [q2.2 16 (by decide)]; exact hs)
  refine ⟨I1, I2, q1, w1, (q2.mono (by simp) (by simp)).tr w2, fun t a c => ?_⟩
  rw [w3 t a c, q3 t a c, anR_cg (fun c z => q2.1 c (by simp at z ⊢; omega) (by revert c; decide))]
  exact bI_cg ⟨fun z => by rcases z with z | z; omega; exact z, Or.inr⟩
theorem c166 (hS : StR I) {s : Int} (hs : 0 ≤ s ∧ s < I 115 16) : ∃ I', evc 166 [vr 115, vi s] (hp L b I J) = some (vi (ct (anR I s) (I 115 16).toNat), hp L b I' J) ∧ Sm [130, 131] [] I I' := by
  have p0 := hS.1
  obtain ⟨I1, I2, q1, w1, w2, w3⟩ := c131a (L := L) (b := b) (J := J) hS hs (k := 131) (by decide) (by decide)
  refine ⟨I2, ?_, w2⟩
  have e16 : I2 115 16 = I 115 16 := w2.2 16 (by decide)
  rw [n166]
  simp (disch := first | assumption | omega) only [↓gd_t, ↓if_pos, ↓if_neg, Option.bind_some, true_or, true_and, gd_t, s166_0, q1, s166_7, w1, s166_16]
  refine lp (lo := 0) (hi := I 115 16) (F := fun i (y : Int) => ev 166 20 [some (vr 115), none, some (vi y), some (vi i)] [] (hp L b I2 J)) (Q := fun r => r = some (vi (ct (anR I s) (I 115 16).toNat), hp L b I2 J)) (fun i y => y = ct (anR I s) i.toNat) ?_ ?_ 0 0 (Int.le_refl _) p0.1 rfl
  · intro i y g1 g2 v
    right
    have hb := ct_bd (p := anR I s) i.toNat
    refine ⟨y + bI (anR I s i), ?_, by rw [v, ct_s g1]⟩
    try dsimp only
    rw [s166_20, w3 i g1 (by omega), e16]
    by_cases c : anR I s i
    · rw [bI_t c]
      simp (disch := first | assumption | omega) only [↓gd_t, ↓if_pos, ↓if_neg, Option.bind_some, true_or, true_and, gd_t, s166_43]
    · rw [bI_f c]
      simp (disch := first | assumption | omega) only [↓gd_t, ↓if_pos, ↓if_neg, Option.bind_some, true_or, true_and, gd_t, s166_43]
  · intro y v
    try dsimp only
    rw [s166_20, v, e16]
    simp (disch := first | assumption | omega) only [↓gd_t, ↓if_pos, ↓if_neg, Option.bind_some, true_or, true_and, gd_t]
/-- a base of two steps -/
def baG (G : AI) (s t c : Int) : Prop := (anR G s c ∧ anR G t c) ∧ ∀ d, 0 ≤ d → d < G 115 16 → d ≠ c → anR G s d → anR G t d → ¬ anR G d c
theorem c169 (hS : StR I) {s t : Int} (hs : 0 ≤ s ∧ s < I 115 16) (ht : 0 ≤ t ∧ t < I 115 16) : (fun r => ∃ I', r = some (vi 0, hp L b I' J) ∧ Sm [130, 131, 132, 133, 134] [23] I I' ∧ I' 115 23 = ct (baG I s t) (I 115 16).toNat ∧ ∀ c, 0 ≤ c → c < I 115 16 → baG I s t c → I' 134 (ct (baG I s t) c.toNat) = c) (evc 169 [vr 115, vi s, vi t] (hp L b I J)) := by
  have p0 := hS.1
  obtain ⟨I1, q1, q2, q3⟩ := c164 (L := L) (b := b) (I := I) (J := J) (k := 131) (by decide)
  obtain ⟨I2, r1, r2, r3⟩ := c164 (L := L) (b := b) (I := I1) (J := J) (k := 132) (by decide)
  have hS2 : StR I2 := (hS.cg (fun c z => q2.1 c (by revert c; decide) (by revert c; decide)) (q2.2 16 (by decide))).cg (fun c z => r2.1 c (by revert c; decide) (by revert c; decide)) (r2.2 16 (by decide))
  have e16a : I2 115 16 = I 115 16 := by rw [r2.2 16 (by decide), q2.2 16 (by decide)]
  have ea2 : anR I2 = anR I := by rw [anR_cg (fun c z => r2.1 c (by revert c; decide) (by revert c; decide)), anR_cg (fun c z => q2.1 c (by revert c; decide) (by revert c; decide))]
  have i131 : ∀ j, 0 ≤ j → j < 80 → I2 131 j = 0 := fun j a c => by rw [r2.1 131 (by decide) (by decide)]; exact q3 j a c
  obtain ⟨I3, w1, w2, w3⟩ := c163 (L := L) (b := b) (I := I2) (J := J) (k := 131) (by decide) (by decide) hS2 (fun j a c => Or.inl (i131 j a c)) (s := s) (by rw [e16a]; exact hs)
  have hS3 : StR I3 := hS2.cg (fun c z => w2.1 c (by revert c; decide) (by revert c; decide)) (w2.2 16 (by decide))
  have e16b : I3 115 16 = I 115 16 := by rw [w2.2 16 (by decide), e16a]
  have ea3 : anR I3 = anR I := by rw [anR_cg (fun c z => w2.1 c (by revert c; decide) (by revert c; decide)), ea2]
  have i132 : ∀ j, 0 ≤ j → j < 80 → I3 132 j = 0 := fun j a c => by rw [w2.1 132 (by decide) (by decide)]; exact r3 j a c
  obtain ⟨I4, u1, u2, u3⟩ := c163 (L := L) (b := b) (I := I3) (J := J) (k := 132) (by decide) (by decide) hS3 (fun j a c => Or.inl (i132 j a c)) (s := t) (by rw [e16b]; exact ht)
  have m131 : ∀ j, 0 ≤ j → j < 80 → I4 131 j = bI (anR I s j) := fun j a c => by
    rw [u2.1 131 (by decide) (by decide), w3 j a c, i131 j a c, ea2]
    exact bI_cg ⟨fun z => by rcases z with z | z; omega; exact z, Or.inr⟩
  have m132 : ∀ j, 0 ≤ j → j < 80 → I4 132 j = bI (anR I t j) := fun j a c => by
    rw [u3 j a c, i132 j a c, ea3]
    exact bI_cg ⟨fun z => by rcases z with z | z; omega; exact z, Or.inr⟩
  have sm4 : Sm [130, 131, 132, 133, 134] [23] I I4 := (((q2.mono (by simp) (by simp)).tr (r2.mono (by simp) (by simp))).tr (w2.mono (by simp) (by simp))).tr (u2.mono (by simp) (by simp))
  have e0 : evc 169 [vr 115, vi s, vi t] (hp L b I J) = ev 169 39 [some (vr 115), none, none, some (vi 0), none, none] [] (hp L b (upI I4 115 23 0) J) := by
    rw [n169]
    simp (disch := first | assumption | omega) only [↓gd_t, ↓if_pos, ↓if_neg, Option.bind_some, true_or, true_and, gd_t, s169_0, q1, s169_7, r1, s169_14, w1, s169_23, u1, s169_32]
  rw [e0]
  -- one c against all d
  have inner : ∀ (c : Int) (X : AI), (0 ≤ c ∧ c < I 115 16) → Sm [130, 131, 132, 133, 134] [23] I X → X 131 = I4 131 → X 132 = I4 132 → ∃ Y, ev 169 75 [some (vr 115), none, none, some (vi c), some (vi (bI (anR I s c ∧ anR I t c))), some (vi 0)] [] (hp L b X J) = ev 169 138 [some (vr 115), none, none, some (vi c), some (vi (bI (baG I s t c))), none] [] (hp L b Y J) ∧ Sm [130, 133] [] X Y := by
    intro c X hc sX x1 x2
    refine lp (lo := 0) (hi := I 115 16) (F := fun d (z : Int × AI) => ev 169 75 [some (vr 115), none, none, some (vi c), some (vi z.1), some (vi d)] [] (hp L b z.2 J)) (Q := fun r => ∃ Y, r = ev 169 138 [some (vr 115), none, none, some (vi c), some (vi (bI (baG I s t c))), none] [] (hp L b Y J) ∧ Sm [130, 133] [] X Y) (fun d z => z.1 = bI ((anR I s c ∧ anR I t c) ∧ ∀ e, 0 ≤ e → e < d → e ≠ c → anR I s e → anR I t e → ¬ anR I e c) ∧ Sm [130, 133] [] X z.2) ?_ ?_ 0 (bI (anR I s c ∧ anR I t c), X) (Int.le_refl _) p0.1 ⟨bI_cg ⟨fun h => ⟨h, fun e a b => by omega⟩, fun h => h.1⟩, Sm.rf⟩
    · rintro d ⟨y, Y⟩ g1 g2 ⟨v1, v2⟩
      dsimp only at v1 v2
      have f16 : Y 115 16 = I 115 16 := by rw [v2.2 16 (by decide), sX.2 16 (by decide)]
      have f131 : Y 131 d = bI (anR I s d) := by rw [v2.1 131 (by decide) (by decide), x1]; exact m131 d g1 (by omega)
      have f132 : Y 132 d = bI (anR I t d) := by rw [v2.1 132 (by decide) (by decide), x2]; exact m132 d g1 (by omega)
      by_cases h : (anR I s c ∧ anR I t c) ∧ ∀ e, 0 ≤ e → e < d → e ≠ c → anR I s e → anR I t e → ¬ anR I e c
      · rw [bI_t h] at v1
        right
        have pass : (d = c ∨ ¬ anR I s d ∨ ¬ anR I t d ∨ ¬ anR I d c) → (1 : Int) = bI ((anR I s c ∧ anR I t c) ∧ ∀ e, 0 ≤ e → e < d + 1 → e ≠ c → anR I s e → anR I t e → ¬ anR I e c) := fun z => (bI_t ⟨h.1, fun e a1 a2 a3 a4 a5 => by
          by_cases w : e = d
          · rw [w] at a3 a4 a5 ⊢
            rcases z with z | z | z | z
            · exact absurd z a3
            · exact absurd a4 z
            · exact absurd a5 z
            · exact z
          · exact h.2 e a1 (by omega) a3 a4 a5⟩).symm
        have st : ev 169 125 [some (vr 115), none, none, some (vi c), none, some (vi d)] [] (hp L b Y J) = ev 169 75 [some (vr 115), none, none, some (vi c), some (vi 1), some (vi (d + 1))] [] (hp L b Y J) := by
          rw [s169_125, s169_130]
          simp (disch := first | assumption | omega) only [↓gd_t, ↓if_pos, ↓if_neg, Option.bind_some, true_or, true_and, gd_t]
        by_cases c1 : d = c
        · refine ⟨(1, Y), ?_, pass (Or.inl c1), v2⟩
          try dsimp only
          rw [s169_75, f16, v1]
          simp (disch := first | assumption | omega) only [↓gd_t, ↓if_pos, ↓if_neg, Option.bind_some, true_or, true_and, gd_t]
          exact st
        · by_cases c2 : anR I s d
          · by_cases c3 : anR I t d
            · have hSY : StR Y := (hS.cg (fun c z => sX.1 c (by revert c; decide) (by revert c; decide)) (sX.2 16 (by decide))).cg (fun c z => v2.1 c (by revert c; decide) (by revert c; decide)) (v2.2 16 (by decide))
              have eY : anR Y = anR I := by rw [anR_cg (fun c z => v2.1 c (by revert c; decide) (by revert c; decide)), anR_cg (fun c z => sX.1 c (by revert c; decide) (by revert c; decide))]
              obtain ⟨Z, z1, z2⟩ := c165 (L := L) (b := b) (J := J) hSY (s := d) (t := c) (by omega) (by omega)
              rw [eY] at z1
              have st2 : ev 169 75 [some (vr 115), none, none, some (vi c), some (vi y), some (vi d)] [] (hp L b Y J) = ev 169 122 [some (vr 115), none, none, some (vi c), none, some (vi d)] [vi (bI (anR I d c))] (hp L b Z J) := by
                rw [s169_75, f16, v1, f131, f132, bI_t c2, bI_t c3]
                simp (disch := first | assumption | omega) only [↓gd_t, ↓if_pos, ↓if_neg, Option.bind_some, true_or, true_and, gd_t, z1]
              by_cases c4 : anR I d c
              · refine ⟨(0, Z), ?_, (bI_f (fun w => w.2 d g1 (by omega) c1 c2 c3 c4)).symm, v2.tr z2⟩
                try dsimp only
                rw [st2, bI_t c4, s169_122]
                simp (disch := first | assumption | omega) only [↓gd_t, ↓if_pos, ↓if_neg, Option.bind_some, true_or, true_and, gd_t, s169_130]
              · refine ⟨(1, Z), ?_, pass (Or.inr (Or.inr (Or.inr c4))), v2.tr z2⟩
                try dsimp only
                rw [st2, bI_f c4, s169_122]
                simp (disch := first | assumption | omega) only [↓gd_t, ↓if_pos, ↓if_neg, Option.bind_some, true_or, true_and, gd_t, s169_125, s169_130]
            · refine ⟨(1, Y), ?_, pass (Or.inr (Or.inr (Or.inl c3))), v2⟩
              try dsimp only
              rw [s169_75, f16, v1, f131, f132, bI_t c2, bI_f c3]
              simp (disch := first | assumption | omega) only [↓gd_t, ↓if_pos, ↓if_neg, Option.bind_some, true_or, true_and, gd_t]
              exact st
          · refine ⟨(1, Y), ?_, pass (Or.inr (Or.inl c2)), v2⟩
            try dsimp only
            rw [s169_75, f16, v1, f131, bI_f c2]
            simp (disch := first | assumption | omega) only [↓gd_t, ↓if_pos, ↓if_neg, Option.bind_some, true_or, true_and, gd_t]
            exact st
      · rw [bI_f h] at v1
        left
        refine ⟨Y, ?_, v2⟩
        try dsimp only
        rw [s169_75, f16, v1, bI_f (show ¬ baG I s t c from fun z => h ⟨z.1, fun e a1 a2 a3 a4 a5 => z.2 e a1 (by omega) a3 a4 a5⟩)]
        simp (disch := first | assumption | omega) only [↓gd_t, ↓if_pos, ↓if_neg, Option.bind_some, true_or, true_and, gd_t]
    · rintro ⟨y, Y⟩ ⟨v1, v2⟩
      dsimp only at v1 v2
      have f16 : Y 115 16 = I 115 16 := by rw [v2.2 16 (by decide), sX.2 16 (by decide)]
      refine ⟨Y, ?_, v2⟩
      try dsimp only
      rw [s169_75, f16, v1]
      simp (disch := first | assumption | omega) only [↓gd_t, ↓if_pos, ↓if_neg, Option.bind_some, true_or, true_and, gd_t]
      rfl
  refine lp (lo := 0) (hi := I 115 16) (F := fun i (X : AI) => ev 169 39 [some (vr 115), none, none, some (vi i), none, none] [] (hp L b X J)) (Q := fun r => ∃ I', r = some (vi 0, hp L b I' J) ∧ Sm [130, 131, 132, 133, 134] [23] I I' ∧ I' 115 23 = ct (baG I s t) (I 115 16).toNat ∧ ∀ c, 0 ≤ c → c < I 115 16 → baG I s t c → I' 134 (ct (baG I s t) c.toNat) = c) (fun i X => Sm [130, 131, 132, 133, 134] [23] I X ∧ X 131 = I4 131 ∧ X 132 = I4 132 ∧ X 115 23 = ct (baG I s t) i.toNat ∧ ∀ c, 0 ≤ c → c < i → baG I s t c → X 134 (ct (baG I s t) c.toNat) = c) ?_ ?_ 0 (upI I4 115 23 0) (Int.le_refl _) p0.1 ⟨sm4.fld (by simp), upI_c (by decide) _ _ _, upI_c (by decide) _ _ _, by rw [upI_s]; rfl, fun c a d => by omega⟩
  · intro i X g1 g2 ⟨v1, v2, v3, v4, v5⟩
    right
    have f16 : X 115 16 = I 115 16 := v1.2 16 (by decide)
    obtain ⟨Y, z1, z2⟩ := inner i X ⟨g1, g2⟩ v1 v2 v3
    have hb := ct_bd (p := baG I s t) i.toNat
    have y23 : Y 115 23 = ct (baG I s t) i.toNat := by rw [z2.2 23 (by decide)]; exact v4
    have st : ev 169 39 [some (vr 115), none, none, some (vi i), none, none] [] (hp L b X J) = ev 169 138 [some (vr 115), none, none, some (vi i), some (vi (bI (baG I s t i))), none] [] (hp L b Y J) := by
      rw [← z1, s169_39, f16, v2, v3, m131 i g1 (by omega), m132 i g1 (by omega)]
      by_cases c1 : anR I s i
      · by_cases c2 : anR I t i
        · rw [bI_t c1, bI_t c2, bI_t (show anR I s i ∧ anR I t i from ⟨c1, c2⟩)]
          simp (disch := first | assumption | omega) only [↓gd_t, ↓if_pos, ↓if_neg, Option.bind_some, true_or, true_and, gd_t, s169_70]
        · rw [bI_t c1, bI_f c2, bI_f (fun z => c2 z.2)]
          simp (disch := first | assumption | omega) only [↓gd_t, ↓if_pos, ↓if_neg, Option.bind_some, true_or, true_and, gd_t, s169_69, s169_70]
      · rw [bI_f c1, bI_f (show ¬ (anR I s i ∧ anR I t i) from fun z => c1 z.1)]
        simp (disch := first | assumption | omega) only [↓gd_t, ↓if_pos, ↓if_neg, Option.bind_some, true_or, true_and, gd_t, s169_69, s169_70]
    by_cases c : baG I s t i
    · refine ⟨upI (upI Y 134 (ct (baG I s t) i.toNat) i) 115 23 (ct (baG I s t) i.toNat + 1), ?_, ((v1.tr (z2.mono (by simp) (by simp))).up (by simp) (by decide)).fld (by simp), ?_, ?_, ?_, fun d a1 a2 a3 => ?_⟩
      · try dsimp only
        rw [st, bI_t c, s169_138, upI_c (by decide), y23]
        simp (disch := first | assumption | omega) only [↓gd_t, ↓if_pos, ↓if_neg, Option.bind_some, true_or, true_and, gd_t, s169_163]
      · rw [upI_c (by decide), upI_c (by decide), z2.1 131 (by decide) (by decide)]; exact v2
      · rw [upI_c (by decide), upI_c (by decide), z2.1 132 (by decide) (by decide)]; exact v3
      · rw [upI_s, ct_s g1, bI_t c]
      · rw [upI_c (by decide)]
        by_cases e : d = i
        · rw [e, upI_s]
        · rw [upI_i (fun z => e (ct_inj a1 g1 a3 c z)), z2.1 134 (by decide) (by decide)]
          exact v5 d a1 (by omega) a3
    · refine ⟨Y, ?_, v1.tr (z2.mono (by simp) (by simp)), ?_, ?_, ?_, fun d a1 a2 a3 => ?_⟩
      · try dsimp only
        rw [st, bI_f c, s169_138]
        simp (disch := first | assumption | omega) only [↓gd_t, ↓if_pos, ↓if_neg, Option.bind_some, true_or, true_and, gd_t, s169_163]
      · rw [z2.1 131 (by decide) (by decide)]; exact v2
      · rw [z2.1 132 (by decide) (by decide)]; exact v3
      · rw [y23, ct_s g1, bI_f c, Int.add_zero]
      · rw [z2.1 134 (by decide) (by decide)]
        by_cases e : d = i
        · rw [e] at a3; exact absurd a3 c
        · exact v5 d a1 (by omega) a3
  · intro X ⟨v1, v2, v3, v4, v5⟩
    have f16 : X 115 16 = I 115 16 := v1.2 16 (by decide)
    refine ⟨X, ?_, v1, v4, v5⟩
    try dsimp only
    rw [s169_39, f16]
    simp (disch := first | assumption | omega) only [↓gd_t, ↓if_pos, ↓if_neg, Option.bind_some, true_or, true_and, gd_t]
noncomputable def lbR (G : AI) : Int := lst (fun s => G 128 s = 2) (G 115 16).toNat 0
theorem lbR_bd (h : 0 ≤ I 115 16) : (lbR I = -1 ∧ ∀ s, 0 ≤ s → s < I 115 16 → I 128 s ≠ 2) ∨ ((0 ≤ lbR I ∧ lbR I < I 115 16) ∧ I 128 (lbR I) = 2) := by
  rcases lst_s (p := fun s => I 128 s = 2) (I 115 16).toNat 0 with ⟨h1, h2⟩ | ⟨h1, h2, h3⟩
  · exact Or.inl ⟨h1, fun s a c => h2 s a (by omega)⟩
  · exact Or.inr ⟨⟨h1, by unfold lbR; omega⟩, h3⟩
theorem c212 (hS : StR I) : evc 212 [vr 115] (hp L b I J) = some (vi (lbR I), hp L b I J) := by
  have p0 := hS.1
  rw [n212, s212_0, gd_t (by omega)]
  refine lpd (lo := -1) (hi := I 115 16 - 1) (F := fun i (y : Int) => ev 212 9 [some (vr 115), some (vi y), some (vi i)] [] (hp L b I J)) (Q := fun r => r = some (vi (lbR I), hp L b I J)) (fun i y => y = lst (fun s => I 128 s = 2) (I 115 16 - 1 - i).toNat (i + 1)) ?_ ?_ (I 115 16 - 1) (-1) (by omega) (Int.le_refl _) (by rw [Int.sub_self]; rfl)
  · intro i y g1 g2 v
    right
    have e : lst (fun s => I 128 s = 2) (I 115 16 - 1 - (i + (-1))).toNat (i + (-1) + 1) = if bI (I 128 i = 2) = 1 then i else y := by
      rw [show (I 115 16 - 1 - (i + (-1))).toNat = (I 115 16 - 1 - i).toNat + 1 by omega, show i + (-1) + 1 = i by omega, v]
      rfl
    by_cases c : I 128 i = 2
    · refine ⟨i, ?_, by rw [e, if_pos (bI_t c)]⟩
      try dsimp only
      rw [s212_9]
      simp (disch := first | assumption | omega) only [↓gd_t, ↓if_pos, ↓if_neg, Option.bind_some, true_or, true_and, gd_t, s212_28]
    · refine ⟨y, ?_, by rw [e, if_neg (fun z => c (bI_1.mp z))]⟩
      try dsimp only
      rw [s212_9]
      simp (disch := first | assumption | omega) only [↓gd_t, ↓if_pos, ↓if_neg, Option.bind_some, true_or, true_and, gd_t, s212_28]
  · intro y v
    try dsimp only
    rw [s212_9, v, show (I 115 16 - 1 - -1).toNat = (I 115 16).toNat by omega]
    simp (disch := first | assumption | omega) only [↓gd_t, ↓if_pos, ↓if_neg, Option.bind_some, true_or, true_and, gd_t]
    rfl
/-- what is in question -/
def quG (G : AI) (t : Int) : Prop := (0 ≤ lbR G ∧ anR G (lbR G) t) ∧ ¬ ∃ s, (0 ≤ s ∧ s < G 115 16) ∧ G 128 s = 1 ∧ anR G s t
theorem c213 (hS : StR I) : (fun r => ∃ I', r = some (vi (ct (quG I) (I 115 16).toNat), hp L b I' J) ∧ Sm [130, 132, 158] [] I I' ∧ ∀ t, 0 ≤ t → t < I 115 16 → I' 158 t = bI (quG I t)) (evc 213 [vr 115] (hp L b I J)) := by
  have p0 := hS.1
  have hlb := lbR_bd (I := I) p0.1
  obtain ⟨I1, q1, q2, q3⟩ := c164 (L := L) (b := b) (I := I) (J := J) (k := 158) (by decide)
  have hS1 : StR I1 := hS.cg (fun c z => q2.1 c (by revert c; decide) (by revert c; decide)) (q2.2 16 (by decide))
  have l1 : lbR I1 = lbR I := by unfold lbR; rw [q2.1 128 (by decide) (by decide), q2.2 16 (by decide)]
  have ea1 : anR I1 = anR I := anR_cg (fun c z => q2.1 c (by revert c; decide) (by revert c; decide))
  have st : evc 213 [vr 115] (hp L b I J) = ev 213 11 [some (vr 115), none, none, none] [vi (lbR I)] (hp L b I1 J) := by
    rw [n213]
    simp (disch := first | assumption | omega) only [↓gd_t, ↓if_pos, ↓if_neg, Option.bind_some, true_or, true_and, gd_t, s213_0, q1, s213_7, c212 hS1, l1]
  rw [st, s213_11]
  by_cases c : 0 ≤ lbR I
  · rw [if_pos c]
    have bd : 0 ≤ lbR I ∧ lbR I < I 115 16 := by rcases hlb with z | z; omega; exact z.1
    obtain ⟨I2, w1, w2, w3⟩ := c163 (L := L) (b := b) (I := I1) (J := J) (k := 158) (by decide) (by decide) hS1 (fun j a c => Or.inl (q3 j a c)) (s := lbR I) (by rw [q2.2 16 (by decide)]; exact bd)
    obtain ⟨I3, u1, u2, u3⟩ := c164 (L := L) (b := b) (I := I2) (J := J) (k := 132) (by decide)
    have sm3 : Sm [130, 132, 158] [] I I3 := ((q2.mono (by simp) (by simp)).tr (w2.mono (by simp) (by simp))).tr (u2.mono (by simp) (by simp))
    have m158 : ∀ j, 0 ≤ j → j < 80 → I3 158 j = bI (anR I (lbR I) j) := fun j a c => by
      rw [u2.1 158 (by decide) (by decide), w3 j a c, q3 j a c, ea1]
      exact bI_cg ⟨fun z => by rcases z with z | z; omega; exact z, Or.inr⟩
    rw [w1]
    simp only [Option.bind_some]
    rw [s213_27, u1]
    simp only [Option.bind_some]
    rw [s213_34]
    have A : (fun r => ∃ I', r = ev 213 73 [some (vr 115), none, some (vi 0), some (vi 0)] [] (hp L b I' J) ∧ Sm [130, 132, 158] [] I I' ∧ I' 158 = I3 158 ∧ ∀ t, 0 ≤ t → t < 80 → I' 132 t = bI (∃ s, (0 ≤ s ∧ s < I 115 16) ∧ I 128 s = 1 ∧ anR I s t)) (ev 213 36 [some (vr 115), none, some (vi 0), none] [] (hp L b I3 J)) := by
      refine lp (lo := 0) (hi := I 115 16) (F := fun i (X : AI) => ev 213 36 [some (vr 115), none, some (vi i), none] [] (hp L b X J)) (Q := fun r => ∃ I', r = ev 213 73 [some (vr 115), none, some (vi 0), some (vi 0)] [] (hp L b I' J) ∧ Sm [130, 132, 158] [] I I' ∧ I' 158 = I3 158 ∧ ∀ t, 0 ≤ t → t < 80 → I' 132 t = bI (∃ s, (0 ≤ s ∧ s < I 115 16) ∧ I 128 s = 1 ∧ anR I s t)) (fun i X => Sm [130, 132, 158] [] I X ∧ X 158 = I3 158 ∧ ∀ t, 0 ≤ t → t < 80 → X 132 t = bI (∃ s, (0 ≤ s ∧ s < i) ∧ I 128 s = 1 ∧ anR I s t)) ?_ ?_ 0 I3 (Int.le_refl _) p0.1 ⟨sm3, rfl, fun t a c => by rw [u3 t a c, bI_f]; rintro ⟨s, z, -⟩; omega⟩
      · intro i X g1 g2 ⟨v1, v2, v3⟩
        right
        have f16 : X 115 16 = I 115 16 := v1.2 16 (by decide)
        have f128 : X 128 = I 128 := v1.1 128 (by decide) (by decide)
        by_cases d : I 128 i = 1
        · have hSX : StR X := hS.cg (fun c z => v1.1 c (by revert c; decide) (by revert c; decide)) f16
          obtain ⟨Y, y1, y2, y3⟩ := c163 (L := L) (b := b) (I := X) (J := J) (k := 132) (by decide) (by decide) hSX (fun j a c => by rw [v3 j a c]; exact bI_o _) (s := i) (by omega)
          refine ⟨Y, ?_, v1.tr (y2.mono (by simp) (by simp)), by rw [y2.1 158 (by decide) (by decide)]; exact v2, fun t a c => ?_⟩
          · try dsimp only
            rw [s213_36, f16, f128]
            simp (disch := first | assumption | omega) only [↓gd_t, ↓if_pos, ↓if_neg, Option.bind_some, true_or, true_and, gd_t, y1, s213_63]
          · rw [y3 t a c, v3 t a c, anR_cg (fun c z => v1.1 c (by revert c; decide) (by revert c; decide))]
            refine bI_cg ?_
            rw [bI_1]
            constructor
            · rintro (⟨s, z1, z2⟩ | z)
              · exact ⟨s, ⟨z1.1, by omega⟩, z2⟩
              · exact ⟨i, ⟨g1, by omega⟩, d, z⟩
            · rintro ⟨s, z1, z2, z3⟩
              by_cases e : s = i
              · rw [e] at z3; exact Or.inr z3
              · exact Or.inl ⟨s, ⟨z1.1, by omega⟩, z2, z3⟩
        · refine ⟨X, ?_, v1, v2, fun t a c => ?_⟩
          · try dsimp only
            rw [s213_36, f16, f128]
            simp (disch := first | assumption | omega) only [↓gd_t, ↓if_pos, ↓if_neg, Option.bind_some, true_or, true_and, gd_t, s213_63]
          · rw [v3 t a c]
            refine bI_cg ⟨fun ⟨s, z1, z2⟩ => ⟨s, ⟨z1.1, by omega⟩, z2⟩, fun ⟨s, z1, z2, z3⟩ => ⟨s, ⟨z1.1, ?_⟩, z2, z3⟩⟩
            by_cases e : s = i
            · rw [e] at z2; exact absurd z2 d
            · omega
      · intro X ⟨v1, v2, v3⟩
        have f16 : X 115 16 = I 115 16 := v1.2 16 (by decide)
        refine ⟨X, ?_, v1, v2, v3⟩
        try dsimp only
        rw [s213_36, f16]
        simp (disch := first | assumption | omega) only [↓gd_t, ↓if_pos, ↓if_neg, Option.bind_some, true_or, true_and, gd_t]
    obtain ⟨I4, a1, a2, a3, a4⟩ := A
    rw [a1]
    refine lp (lo := 0) (hi := I 115 16) (F := fun i (z : Int × AI) => ev 213 73 [some (vr 115), none, some (vi z.1), some (vi i)] [] (hp L b z.2 J)) (Q := fun r => ∃ I', r = some (vi (ct (quG I) (I 115 16).toNat), hp L b I' J) ∧ Sm [130, 132, 158] [] I I' ∧ ∀ t, 0 ≤ t → t < I 115 16 → I' 158 t = bI (quG I t)) (fun i z => z.1 = ct (quG I) i.toNat ∧ Sm [130, 132, 158] [] I z.2 ∧ z.2 132 = I4 132 ∧ ∀ t, 0 ≤ t → t < I 115 16 → z.2 158 t = if t < i then bI (quG I t) else I4 158 t) ?_ ?_ 0 (0, I4) (Int.le_refl _) p0.1 ⟨rfl, a2, rfl, fun t a c => by dsimp only; rw [if_neg (by omega)]⟩
    · rintro i ⟨y, X⟩ g1 g2 ⟨v1, v2, v3, v4⟩
      dsimp only at v1 v2 v3 v4
      right
      have f16 : X 115 16 = I 115 16 := v2.2 16 (by decide)
      have hb := ct_bd (p := quG I) i.toNat
      have x1 : X 158 i = bI (anR I (lbR I) i) := by rw [v4 i g1 g2, if_neg (by omega), a3]; exact m158 i g1 (by omega)
      have x2 : X 132 i = bI (∃ s, (0 ≤ s ∧ s < I 115 16) ∧ I 128 s = 1 ∧ anR I s i) := by rw [v3]; exact a4 i g1 (by omega)
      refine ⟨(y + bI (quG I i), upI X 158 i (bI (quG I i))), ?_, by show y + _ = _; rw [v1, ct_s g1], v2.up (by simp) (by decide), by dsimp only; rw [upI_c (by decide)]; exact v3, fun t a d => ?_⟩
      · try dsimp only
        rw [s213_73, f16, x1, x2]
        by_cases d1 : anR I (lbR I) i
        · by_cases d2 : ∃ s, (0 ≤ s ∧ s < I 115 16) ∧ I 128 s = 1 ∧ anR I s i
          · rw [bI_t d1, bI_t d2, bI_f (show ¬ quG I i from fun z => z.2 d2)]
            simp (disch := first | assumption | omega) only [↓gd_t, ↓if_pos, ↓if_neg, Option.bind_some, true_or, true_and, gd_t, s213_108]
            rw [s213_109, upI_s]
            simp (disch := first | assumption | omega) only [↓gd_t, ↓if_pos, ↓if_neg, Option.bind_some, true_or, true_and, gd_t, s213_125]
          · rw [bI_t d1, bI_f d2, bI_t (show quG I i from ⟨⟨c, d1⟩, d2⟩)]
            simp (disch := first | assumption | omega) only [↓gd_t, ↓if_pos, ↓if_neg, Option.bind_some, true_or, true_and, gd_t]
            rw [s213_109, upI_s]
            simp (disch := first | assumption | omega) only [↓gd_t, ↓if_pos, ↓if_neg, Option.bind_some, true_or, true_and, gd_t, s213_125]
        · rw [bI_f d1, bI_f (show ¬ quG I i from fun z => d1 z.1.2)]
          simp (disch := first | assumption | omega) only [↓gd_t, ↓if_pos, ↓if_neg, Option.bind_some, true_or, true_and, gd_t, s213_108]
          rw [s213_109, upI_s]
          simp (disch := first | assumption | omega) only [↓gd_t, ↓if_pos, ↓if_neg, Option.bind_some, true_or, true_and, gd_t, s213_125]
      · show (upI X 158 i (bI (quG I i))) 158 t = _
        by_cases e : t = i
        · rw [e, upI_s, if_pos (by omega)]
        · rw [upI_i e, v4 t a d]
          by_cases f : t < i
          · rw [if_pos f, if_pos (by omega)]
          · rw [if_neg f, if_neg (by omega)]
    · rintro ⟨y, X⟩ ⟨v1, v2, v3, v4⟩
      dsimp only at v1 v2 v3 v4
      have f16 : X 115 16 = I 115 16 := v2.2 16 (by decide)
      refine ⟨X, ?_, v2, fun t a d => by rw [v4 t a d, if_pos d]⟩
      try dsimp only
      rw [s213_73, f16, v1]
      simp (disch := first | assumption | omega) only [↓gd_t, ↓if_pos, ↓if_neg, Option.bind_some, true_or, true_and, gd_t]
  · rw [if_neg c]
    have z : ∀ t, ¬ quG I t := fun t h => c h.1.1
    refine ⟨I1, by rw [ct_0 _ (fun i _ _ => z i)], q2.mono (by simp) (by simp), fun t a d => by rw [q3 t a (by omega), bI_f (z t)]⟩
end
