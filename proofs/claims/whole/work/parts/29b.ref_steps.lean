/-! the reference's steps -/
section
variable {L : Nat} {b : Bool} {I : AI} {J : AJ} {k : Nat}
def isB (k : Nat) : Bool := [130, 131, 132, 133, 158].contains k
theorem isB_k (hb : isB k = true) : (hk L b)[k]? = some (1, 80) ∧ 0 < k ∧ k ≠ 115 ∧ k ≠ 126 ∧ k ≠ 127 := by
  have := mem_ct hb
  simp at this
  rcases this with h | h | h | h | h <;> subst h
  · exact ⟨hk_at b 129 (1, 80) rfl, by decide⟩
  · exact ⟨hk_at b 130 (1, 80) rfl, by decide⟩
  · exact ⟨hk_at b 131 (1, 80) rfl, by decide⟩
  · exact ⟨hk_at b 132 (1, 80) rfl, by decide⟩
  · exact ⟨hk_at b 157 (1, 80) rfl, by decide⟩
theorem c160 (s : Int) : evc 160 [vr 115, vi s] (hp L b I J) = some (vi (bI (0 ≤ s ∧ s < I 115 16)), hp L b I J) := by
  rw [n160, s160_0]
  by_cases c1 : s < 0
  · rw [if_pos c1, s160_16, g0, bI_f (by omega)]
  · rw [if_neg c1]
    by_cases c2 : I 115 16 ≤ s
    · rw [if_pos c2, s160_16, g0, bI_f (by omega)]
    · rw [if_neg c2, g1, bI_t (by omega)]
theorem c164 (hb : isB k = true) : (fun r => ∃ I', r = some (vi 0, hp L b I' J) ∧ Sm [k] [] I I' ∧ ∀ j, 0 ≤ j → j < 80 → I' k j = 0) (evc 164 [vr k] (hp L b I J)) := by
  obtain ⟨h1, h2, h3, -⟩ := isB_k (L := L) (b := b) hb
  rw [n164, s164_0]
  refine lp (lo := 0) (hi := 80) (F := fun i (I' : AI) => ev 164 2 [some (vr k), some (vi i)] [] (hp L b I' J)) (Q := fun r => ∃ I', r = some (vi 0, hp L b I' J) ∧ Sm [k] [] I I' ∧ ∀ j, 0 ≤ j → j < 80 → I' k j = 0) (fun i I' => Sm [k] [] I I' ∧ ∀ j, 0 ≤ j → j < i → I' k j = 0) ?_ ?_ 0 I (Int.le_refl _) (by decide) ⟨Sm.rf, fun j a b => by omega⟩
  · intro i I2 g1 g2 ⟨v1, v2⟩
    right
    refine ⟨upI I2 k i 0, ?_, v1.up (by simp) h3, fun j a b => ?_⟩
    · try dsimp only
      rw [s164_2 _ _ h1 h2]
      simp (disch := first | assumption | omega) only [↓gd_t, ↓if_pos, ↓if_neg, Option.bind_some, true_or, true_and, gd_t]
    · by_cases c : j = i
      · rw [c, upI_s]
      · rw [upI_i c]; exact v2 j a (by omega)
  · intro I2 ⟨v1, v2⟩
    refine ⟨I2, ?_, v1, v2⟩
    try dsimp only
    rw [s164_2 _ _ h1 h2]
    simp (disch := first | assumption | omega) only [↓gd_t, ↓if_pos, ↓if_neg, Option.bind_some, true_or, true_and, gd_t]
/-- the parents, as the reference has them -/
def StR (I : AI) : Prop := (0 ≤ I 115 16 ∧ I 115 16 ≤ 80) ∧ (∀ s, 0 ≤ s → s < I 115 16 → (-1 ≤ I 126 s ∧ I 126 s < s) ∧ (-1 ≤ I 127 s ∧ I 127 s < s))
theorem StR.ls (h : StR I) : Ls (I 126) (I 127) (I 115 16) := fun u a b => ⟨(h.2 u a b).1.2, (h.2 u a b).2.2⟩
def anR (I : AI) : Int → Int → Prop := An (I 126) (I 127)
/-- ancestors come into a row -/
theorem c163 (hb : isB k = true) (hn : k ≠ 130) (hS : StR I) (hk0 : ∀ j, 0 ≤ j → j < 80 → I k j = 0 ∨ I k j = 1) {s : Int} (hs : 0 ≤ s ∧ s < I 115 16) : (fun r => ∃ I', r = some (vi 0, hp L b I' J) ∧ Sm [130, k] [] I I' ∧ ∀ j, 0 ≤ j → j < 80 → I' k j = bI (I k j = 1 ∨ anR I s j)) (evc 163 [vr 115, vi s, vr k] (hp L b I J)) := by
  obtain ⟨h1, h2, h3, h4, h5⟩ := isB_k (L := L) (b := b) hb
  obtain ⟨I1, q1, q2, q3⟩ := c164 (L := L) (b := b) (I := I) (J := J) (k := 130) (by decide)
  have h6 := hS.1
  have e0 : evc 163 [vr 115, vi s, vr k] (hp L b I J) = ev 163 16 [some (vr 115), none, some (vr k), some (vi s)] [] (hp L b (upI I1 130 s 1) J) := by
    rw [n163]
    simp (disch := first | assumption | omega) only [↓gd_t, ↓if_pos, ↓if_neg, Option.bind_some, true_or, true_and, gd_t, s163_0, q1, s163_7]
  rw [e0]
  have ek : ∀ j, (upI I1 130 s 1) k j = I k j := fun j => by rw [upI_c hn, q2.1 k (by simp [hn]) h3]
  refine lpd (lo := -1) (hi := s) (F := fun i (I' : AI) => ev 163 16 [some (vr 115), none, some (vr k), some (vi i)] [] (hp L b I' J)) (Q := fun r => ∃ I', r = some (vi 0, hp L b I' J) ∧ Sm [130, k] [] I I' ∧ ∀ j, 0 ≤ j → j < 80 → I' k j = bI (I k j = 1 ∨ anR I s j)) (fun i I' => Sm [130, k] [] I I' ∧ (∀ j, 0 ≤ j → j < 80 → (I' 130 j = 0 ∨ I' 130 j = 1)) ∧ (∀ j, 0 ≤ j → j < 80 → I' 130 j = 1 → anR I s j) ∧ I' 130 s = 1 ∧ (∀ j, i < j → j < 80 → 0 ≤ j → I' 130 j = 1 → (0 ≤ I 126 j → I' 130 (I 126 j) = 1) ∧ (0 ≤ I 127 j → I' 130 (I 127 j) = 1)) ∧ (∀ j, i < j → j < 80 → I' k j = bI (I k j = 1 ∨ I' 130 j = 1)) ∧ ∀ j, 0 ≤ j → j ≤ i → I' k j = I k j) ?_ ?_ s (upI I1 130 s 1) (by omega) (Int.le_refl _) ?_
  · intro i I2 g1 g2 ⟨v1, v2, v3, v4, v5, v6, v7⟩
    right
    have e126 : I2 126 = I 126 := v1.1 126 (by simp; omega) (by decide)
    have e127 : I2 127 = I 127 := v1.1 127 (by simp; omega) (by decide)
    have hpq := hS.2 i (by omega) (by omega)
    by_cases c : I2 130 i = 0
    · refine ⟨I2, ?_, v1, v2, v3, v4, fun j a b d e => ?_, fun j a b => ?_, fun j a b => v7 j a (by omega)⟩
      · try dsimp only
        rw [s163_16 _ _ h1 h2]
        simp (disch := first | assumption | omega) only [↓gd_t, ↓if_pos, ↓if_neg, Option.bind_some, true_or, true_and, gd_t, s163_75]
      · by_cases z : j = i
        · rw [z] at e; omega
        · exact v5 j (by omega) b d e
      · by_cases z : j = i
        · rw [z, v7 i (by omega) (Int.le_refl _)]
          rcases hk0 i (by omega) (by omega) with y | y
          · rw [y, bI_f (by omega)]
          · rw [y, bI_t (by omega)]
        · exact v6 j (by omega) b
    · have c1 : I2 130 i = 1 := by rcases v2 i (by omega) (by omega) with y | y; exact absurd y c; exact y
      have an := v3 i (by omega) (by omega) c1
      -- after the first parent
      obtain ⟨I3, t1, t2, t3, t4⟩ : ∃ I3, ev 163 16 [some (vr 115), none, some (vr k), some (vi i)] [] (hp L b I2 J) = ev 163 54 [some (vr 115), none, some (vr k), some (vi i)] [] (hp L b I3 J) ∧ Sm [130, k] [] I2 I3 ∧ (∀ j, I3 k j = if j = i then 1 else I2 k j) ∧ ∀ j, I3 130 j = if 0 ≤ I 126 i ∧ j = I 126 i then 1 else I2 130 j := by
        by_cases z : I 126 i < 0
        · refine ⟨upI I2 k i 1, ?_, Sm.rf.up (by simp) h3, fun j => ?_, fun j => ?_⟩
          · rw [s163_16 _ _ h1 h2, upI_c (Ne.symm h4), e126]
            simp (disch := first | assumption | omega) only [↓gd_t, ↓if_pos, ↓if_neg, Option.bind_some, true_or, true_and, gd_t]
          · by_cases y : j = i
            · rw [y, upI_s, if_pos rfl]
            · rw [upI_i y, if_neg y]
          · rw [upI_c (Ne.symm hn), if_neg (by omega)]
        · refine ⟨upI (upI I2 k i 1) 130 (I 126 i) 1, ?_, (Sm.rf.up (by simp) h3).up (by simp) (by decide), fun j => ?_, fun j => ?_⟩
          · rw [s163_16 _ _ h1 h2, upI_c (Ne.symm h4), e126]
            simp (disch := first | assumption | omega) only [↓gd_t, ↓if_pos, ↓if_neg, Option.bind_some, true_or, true_and, gd_t]
          · rw [upI_c hn]
            by_cases y : j = i
            · rw [y, upI_s, if_pos rfl]
            · rw [upI_i y, if_neg y]
          · by_cases y : j = I 126 i
            · rw [y, upI_s, if_pos ⟨by omega, rfl⟩]
            · rw [upI_i y, upI_c (Ne.symm hn), if_neg (fun w => y w.2)]
      have e127' : I3 127 = I 127 := by rw [t2.1 127 (by simp; omega) (by decide), e127]
      obtain ⟨I4, u1, u2, u3, u4⟩ : ∃ I4, ev 163 54 [some (vr 115), none, some (vr k), some (vi i)] [] (hp L b I3 J) = ev 163 16 [some (vr 115), none, some (vr k), some (vi (i + (-1)))] [] (hp L b I4 J) ∧ Sm [130, k] [] I3 I4 ∧ (∀ j, I4 k j = I3 k j) ∧ ∀ j, I4 130 j = if 0 ≤ I 127 i ∧ j = I 127 i then 1 else I3 130 j := by
        by_cases z : I 127 i < 0
        · refine ⟨I3, ?_, Sm.rf, fun j => rfl, fun j => ?_⟩
          · rw [s163_54, e127']
            simp (disch := first | assumption | omega) only [↓gd_t, ↓if_pos, ↓if_neg, Option.bind_some, true_or, true_and, gd_t, s163_75]
          · rw [if_neg (by omega)]
        · refine ⟨upI I3 130 (I 127 i) 1, ?_, Sm.rf.up (by simp) (by decide), fun j => ?_, fun j => ?_⟩
          · rw [s163_54, e127']
            simp (disch := first | assumption | omega) only [↓gd_t, ↓if_pos, ↓if_neg, Option.bind_some, true_or, true_and, gd_t, s163_75]
          · rw [upI_c hn]
          · by_cases y : j = I 127 i
            · rw [y, upI_s, if_pos ⟨by omega, rfl⟩]
            · rw [upI_i y, if_neg (fun w => y w.2)]
      have mono : ∀ j, I2 130 j = 1 → I4 130 j = 1 := fun j h => by
        rw [u4]; split
        · rfl
        · rw [t4]; split
          · rfl
          · exact h
      have back : ∀ j, I4 130 j = 1 → I2 130 j = 1 ∨ (0 ≤ I 126 i ∧ j = I 126 i) ∨ (0 ≤ I 127 i ∧ j = I 127 i) := fun j h => by
        rw [u4] at h; split at h
        · rename_i y; exact Or.inr (Or.inr y)
        · rw [t4] at h; split at h
          · rename_i y; exact Or.inr (Or.inl y)
          · exact Or.inl h
      have hi : ∀ j, i ≤ j → I4 130 j = I2 130 j := fun j h => by rw [u4, if_neg (by omega), t4, if_neg (by omega)]
      refine ⟨I4, t1.trans u1, (v1.tr t2).tr u2, fun j a b => ?_, fun j a b h => ?_, mono s v4, fun j a b d e => ?_, fun j a b => ?_, fun j a b => ?_⟩
      · rw [u4]; split
        · exact Or.inr rfl
        · rw [t4]; split
          · exact Or.inr rfl
          · exact v2 j a b
      · rcases back j h with y | y | y
        · exact v3 j a b y
        · rw [y.2]; exact an.p1 y.1
        · rw [y.2]; exact an.q1 y.1
      · by_cases z : j = i
        · rw [z]
          refine ⟨fun y => ?_, fun y => ?_⟩
          · rw [u4]; split
            · rfl
            · rw [t4, if_pos ⟨y, rfl⟩]
          · rw [u4, if_pos ⟨y, rfl⟩]
        · rw [hi j (by omega)] at e
          have := v5 j (by omega) b d e
          exact ⟨fun y => mono _ (this.1 y), fun y => mono _ (this.2 y)⟩
      · rw [u3, t3, hi j (by omega)]
        by_cases z : j = i
        · rw [if_pos z, z, bI_t (Or.inr c1)]
        · rw [if_neg z]; exact v6 j (by omega) b
      · rw [u3, t3, if_neg (by omega)]; exact v7 j a (by omega)
  · intro I2 ⟨v1, v2, v3, v4, v5, v6, v7⟩
    refine ⟨I2, ?_, v1, fun j a b => ?_⟩
    · try dsimp only
      rw [s163_16 _ _ h1 h2]
      simp (disch := first | assumption | omega) only [↓gd_t, ↓if_pos, ↓if_neg, Option.bind_some, true_or, true_and, gd_t]
    · rw [v6 j (by omega) b]
      refine bI_cg ⟨fun h => ?_, fun h => ?_⟩
      · rcases h with h | h
        · exact Or.inl h
        · exact Or.inr (v3 j a b h)
      · rcases h with h | h
        · exact Or.inl h
        · refine Or.inr ?_
          have := h (fun j => (0 ≤ j ∧ j < I 115 16) ∧ I2 130 j = 1) ⟨hs, v4⟩ (fun u z y => ?_) (fun u z y => ?_)
          · exact this.2
          · have hpq := hS.2 u z.1.1 z.1.2
            exact ⟨⟨y, by omega⟩, (v5 u (by omega) (by omega) z.1.1 z.2).1 y⟩
          · have hpq := hS.2 u z.1.1 z.1.2
            exact ⟨⟨y, by omega⟩, (v5 u (by omega) (by omega) z.1.1 z.2).2 y⟩
  · have z0 : ∀ j, j ≠ s → (upI I1 130 s 1) 130 j = I1 130 j := fun j h => upI_i h _ _ _
    refine ⟨(q2.mono (by simp) (by simp)).up (by simp) (by decide), fun j a b => ?_, fun j a b h => ?_, upI_s _ _ _ _, fun j a b d e => ?_, fun j a b => ?_, fun j a b => ek j⟩
    · by_cases z : j = s
      · rw [z, upI_s]; exact Or.inr rfl
      · rw [z0 j z, q3 j a b]; exact Or.inl rfl
    · by_cases z : j = s
      · rw [z]; exact An.rf
      · rw [z0 j z, q3 j a b] at h; omega
    · rw [z0 j (by omega), q3 j d b] at e; omega
    · rw [ek, z0 j (by omega), q3 j (by omega) b]
      rcases hk0 j (by omega) b with y | y
      · rw [y, bI_f (by omega)]
      · rw [y, bI_t (by omega)]
end
