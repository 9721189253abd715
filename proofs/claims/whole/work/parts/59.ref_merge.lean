/-! the reference: addLines, areLike, addSpan, findKept -/
theorem upI_w (X : AI) (c : Nat) (i v x : Int) : upI X c i v c x = if x = i then v else X c x := by
  by_cases z : x = i
  · rw [z, upI_s, if_pos rfl]
  · rw [upI_i z, if_neg z]
section
variable {L : Nat} {b : Bool} {I : AI} {J : AJ}
theorem c179 {t p q : Int} (hp' : 0 ≤ p ∧ p ≤ q ∧ q ≤ 24) (ht : p < q → 0 ≤ t ∧ t < 120) (h0 : 0 ≤ I 115 35 ∧ I 115 35 + (q - p) ≤ 128) : (fun r => ∃ I' : AI, r = some (vi 0, hp L b I' J) ∧ Sm [142, 143] [35] I I' ∧ I' 115 35 = I 115 35 + (q - p) ∧ (∀ x, 0 ≤ x → x < q - p → I' 142 (I 115 35 + x) = tl I t (p + x) ∧ I' 143 (I 115 35 + x) = -1) ∧ ∀ y, y < I 115 35 → I' 142 y = I 142 y ∧ I' 143 y = I 143 y) (evc 179 [vr 115, vi t, vi p, vi q] (hp L b I J)) := by
  rw [n179, s179_0]
  refine lp (lo := p) (hi := q) (F := fun i (Y : AI) => ev 179 3 [some (vr 115), some (vi t), none, some (vi q), some (vi i)] [] (hp L b Y J)) (Q := fun r => ∃ I' : AI, r = some (vi 0, hp L b I' J) ∧ Sm [142, 143] [35] I I' ∧ I' 115 35 = I 115 35 + (q - p) ∧ (∀ x, 0 ≤ x → x < q - p → I' 142 (I 115 35 + x) = tl I t (p + x) ∧ I' 143 (I 115 35 + x) = -1) ∧ ∀ y, y < I 115 35 → I' 142 y = I 142 y ∧ I' 143 y = I 143 y) (fun i Y => Sm [142, 143] [35] I Y ∧ Y 115 35 = I 115 35 + (i - p) ∧ (∀ x, 0 ≤ x → x < i - p → Y 142 (I 115 35 + x) = tl I t (p + x) ∧ Y 143 (I 115 35 + x) = -1) ∧ ∀ y, y < I 115 35 → Y 142 y = I 142 y ∧ Y 143 y = I 143 y) ?_ ?_ p I (Int.le_refl _) hp'.2.1 ⟨Sm.rf, by omega, fun x a c => by omega, fun y _ => ⟨rfl, rfl⟩⟩
  · intro i Y g1 g2 ⟨v1, v2, v3, v4⟩
    right
    have ht' := ht (by omega)
    have a1 : ∀ y, (upI (upI (upI Y 142 (Y 115 35) (Y 116 (24 * t + i))) 143 (Y 115 35) (-1)) 115 35 (Y 115 35 + 1)) 142 y = if y = Y 115 35 then Y 116 (24 * t + i) else Y 142 y := fun y => by rw [upI_c (by decide), upI_c (by decide), upI_w]
    have a2 : ∀ y, (upI (upI (upI Y 142 (Y 115 35) (Y 116 (24 * t + i))) 143 (Y 115 35) (-1)) 115 35 (Y 115 35 + 1)) 143 y = if y = Y 115 35 then -1 else Y 143 y := fun y => by rw [upI_c (by decide), upI_w, upI_c (by decide)]
    refine ⟨upI (upI (upI Y 142 (Y 115 35) (Y 116 (24 * t + i))) 143 (Y 115 35) (-1)) 115 35 (Y 115 35 + 1), ?_, ?_, ?_, ?_, ?_⟩
    · try dsimp only
      rw [s179_3, if_neg (by omega), gd_t (by omega), gd_t (by omega), gd_t (by omega), gd_t (by omega)]
      have e1 : (upI Y 142 (Y 115 35) (Y 116 (24 * t + i))) 115 35 = Y 115 35 := by rw [upI_c (by decide)]
      have e2 : (upI (upI Y 142 (Y 115 35) (Y 116 (24 * t + i))) 143 (Y 115 35) (-1)) 115 35 = Y 115 35 := by rw [upI_c (by decide), upI_c (by decide)]
      rw [e1, e2, gd_t (by omega), gd_t (by omega), gd_t (by omega)]
    · exact ((v1.up (by simp) (by decide)).up (by simp) (by decide)).fld (by simp)
    · rw [upI_s]; omega
    · intro x a c
      rw [a1, a2]
      by_cases z : x = i - p
      · subst z
        rw [if_pos (by omega), if_pos (by omega), v1.1 116 (by decide) (by decide), show p + (i - p) = i by omega]
        exact ⟨rfl, rfl⟩
      · rw [if_neg (by omega), if_neg (by omega)]
        exact v3 x a (by omega)
    · intro y hy
      rw [a1, a2, if_neg (by omega), if_neg (by omega)]
      exact v4 y hy
  · intro Y ⟨v1, v2, v3, v4⟩
    refine ⟨Y, ?_, v1, v2, v3, v4⟩
    try dsimp only
    rw [s179_3, if_pos (Int.le_refl _)]
theorem c180 {t p n u q m : Int} (h1 : 0 ≤ p ∧ 0 ≤ n ∧ p + n ≤ 24) (h2 : 0 ≤ q ∧ 0 ≤ m ∧ q + m ≤ 24) (ht : 0 < n → 0 ≤ t ∧ t < 120) (hu : 0 < m → 0 ≤ u ∧ u < 120) : evc 180 [vr 115, vi t, vi p, vi n, vi u, vi q, vi m] (hp L b I J) = some (vi (bI (n = m ∧ ∀ x, 0 ≤ x → x < n → tl I t (p + x) = tl I u (q + x))), hp L b I J) := by
  have st : evc 180 [vr 115, vi t, vi p, vi n, vi u, vi q, vi m] (hp L b I J) = ev 180 16 [some (vr 115), some (vi t), some (vi p), some (vi n), some (vi u), some (vi q), none, some (vi (bI (n = m))), some (vi 0)] [] (hp L b I J) := by
    rw [n180, s180_0]
    by_cases c : n = m
    · rw [if_neg (fun z => z c), s180_11, bI_t c]
    · rw [if_pos c, s180_11, bI_f c]
  rw [st]
  refine lp (lo := 0) (hi := n) (F := fun i (v : Int) => ev 180 16 [some (vr 115), some (vi t), some (vi p), some (vi n), some (vi u), some (vi q), none, some (vi v), some (vi i)] [] (hp L b I J)) (Q := fun r => r = some (vi (bI (n = m ∧ ∀ x, 0 ≤ x → x < n → tl I t (p + x) = tl I u (q + x))), hp L b I J)) (fun i v => v = bI (n = m ∧ ∀ x, 0 ≤ x → x < i → tl I t (p + x) = tl I u (q + x))) ?_ ?_ 0 _ (Int.le_refl _) h1.2.1 (bI_cg ⟨fun z => ⟨z, fun x a c => by omega⟩, fun z => z.1⟩)
  · intro i v g1 g2 hv
    by_cases c : n = m ∧ ∀ x, 0 ≤ x → x < i → tl I t (p + x) = tl I u (q + x)
    · right
      rw [bI_t c] at hv
      refine ⟨_, ?_, rfl⟩
      try dsimp only
      have ht' := ht (by omega)
      have hu' := hu (by omega)
      rw [s180_16, if_neg (by omega), if_neg (by omega), gd_t (by omega), gd_t (by omega), c173 ht' hu' (by omega) (by omega)]
      simp only [Option.bind_some]
      rw [s180_43, gd_t (by omega), bI_cg (q := n = m ∧ ∀ x, 0 ≤ x → x < i + 1 → tl I t (p + x) = tl I u (q + x))]
      exact ⟨fun z => ⟨c.1, fun x a d => by by_cases y : x = i; rw [y]; exact z; exact c.2 x a (by omega)⟩, fun z => z.2 i g1 (by omega)⟩
    · left
      rw [bI_f c] at hv
      try dsimp only
      rw [s180_16, if_neg (by omega), if_pos hv, s180_51, hv, gd_t (by omega), bI_f (fun z => c ⟨z.1, fun x a d => z.2 x a (by omega)⟩)]
  · intro v hv
    try dsimp only
    have := bI_o (n = m ∧ ∀ x, 0 ≤ x → x < n → tl I t (p + x) = tl I u (q + x))
    rw [s180_16, if_pos (Int.le_refl _), s180_51, hv, gd_t (by omega)]
theorem c181 {d t p q : Int} (hp' : 0 ≤ p ∧ p ≤ q ∧ q ≤ 24) (ht : p < q → 0 ≤ t ∧ t < 120) (hd : 0 ≤ d ∧ d ≤ 2) (h0 : 0 ≤ I 115 38 ∧ I 115 38 ≤ 24) : (fun r => ∃ I' : AI, r = some (vi 0, hp L b I' J) ∧ Sm [144, 145] [] I I' ∧ (∀ y, I' 145 y = if y = 4 * I 115 38 + d then q - p else I 145 y) ∧ (∀ x, 0 ≤ x → x < q - p → I' 144 (24 * (4 * I 115 38 + d) + x) = tl I t (p + x)) ∧ ∀ y, (y < 24 * (4 * I 115 38 + d) ∨ 24 * (4 * I 115 38 + d) + 24 ≤ y) → I' 144 y = I 144 y) (evc 181 [vr 115, vi d, vi t, vi p, vi q] (hp L b I J)) := by
  rw [n181, s181_0, gd_t (by omega), gd_t (by omega), gd_t (by omega), gd_t (by omega)]
  refine lp (lo := p) (hi := q) (F := fun i (Y : AI) => ev 181 24 [some (vr 115), none, some (vi t), some (vi p), some (vi q), some (vi (4 * I 115 38 + d)), some (vi i)] [] (hp L b Y J)) (Q := fun r => ∃ I' : AI, r = some (vi 0, hp L b I' J) ∧ Sm [144, 145] [] I I' ∧ (∀ y, I' 145 y = if y = 4 * I 115 38 + d then q - p else I 145 y) ∧ (∀ x, 0 ≤ x → x < q - p → I' 144 (24 * (4 * I 115 38 + d) + x) = tl I t (p + x)) ∧ ∀ y, (y < 24 * (4 * I 115 38 + d) ∨ 24 * (4 * I 115 38 + d) + 24 ≤ y) → I' 144 y = I 144 y) (fun i Y => Sm [144, 145] [] I Y ∧ (∀ y, Y 145 y = if y = 4 * I 115 38 + d then q - p else I 145 y) ∧ (∀ x, 0 ≤ x → x < i - p → Y 144 (24 * (4 * I 115 38 + d) + x) = tl I t (p + x)) ∧ ∀ y, (y < 24 * (4 * I 115 38 + d) ∨ 24 * (4 * I 115 38 + d) + 24 ≤ y) → Y 144 y = I 144 y) ?_ ?_ p _ (Int.le_refl _) hp'.2.1 ⟨Sm.rf.up (by simp) (by decide), fun y => ?_, fun x a c => by omega, fun y _ => by rw [upI_c (by decide)]⟩
  · intro i Y g1 g2 ⟨v1, v2, v3, v4⟩
    right
    have ht' := ht (by omega)
    refine ⟨upI Y 144 (24 * (4 * I 115 38 + d) + i - p) (Y 116 (24 * t + i)), ?_, v1.up (by simp) (by decide), fun y => ?_, fun x a c => ?_, fun y hy => ?_⟩
    · try dsimp only
      rw [s181_24, if_neg (by omega), gd_t (by omega), gd_t (by omega), gd_t (by omega), gd_t (by omega), gd_t (by omega), gd_t (by omega), gd_t (by omega), gd_t (by omega)]
    · rw [upI_c (by decide)]; exact v2 y
    · by_cases z : x = i - p
      · subst z
        rw [show 24 * (4 * I 115 38 + d) + (i - p) = 24 * (4 * I 115 38 + d) + i - p by omega, upI_s, v1.1 116 (by decide) (by decide), show p + (i - p) = i by omega]
        rfl
      · rw [upI_i (by omega)]; exact v3 x a (by omega)
    · rw [upI_i (by omega)]; exact v4 y hy
  · intro Y ⟨v1, v2, v3, v4⟩
    refine ⟨Y, ?_, v1, v2, v3, v4⟩
    try dsimp only
    rw [s181_24, if_pos (Int.le_refl _)]
  · by_cases z : y = 4 * I 115 38 + d
    · rw [z, upI_s, if_pos rfl]
    · rw [upI_i z, if_neg z]
theorem c178 {k : Nat} (hk' : k = 140 ∨ k = 141) {o a : Int} (ho : o < 120) (ha : a < 120) (bo : 0 ≤ ts I o ∧ ts I o ≤ 24) (ba : 0 ≤ ts I a ∧ ts I a ≤ 24) : (fun r => ∃ I' : AI, r = some (vi 0, hp L b I' J) ∧ Sm [k, 135, 136, 137] [27] I I' ∧ POm I o a ∧ ∀ i, 0 ≤ i → i < 24 → I' k i = mo I o a i) (evc 178 [vr 115, vi o, vi a, vr k] (hp L b I J)) := by
  have kk : (hk L b)[k]? = some (0, 24) := by rcases hk' with e | e <;> subst e <;> rfl
  have k0 : 0 < k := by omega
  obtain ⟨I1, p1, q1, w1, z1⟩ := c175 (L := L) (b := b) (I := I) (J := J) ho ha (f := tl I o) (g := tl I a) (n := ts I o) (m := ts I a) rfl rfl rfl rfl bo ba
  have pr := Pr_of z1 w1
  have po : POm I o a := Pr.po w1 z1
  have cb := pc_bd (f := tl I o) (g := tl I a) bo.1 ba.1
  have st : evc 178 [vr 115, vi o, vi a, vr k] (hp L b I J) = ev 178 9 [some (vr 115), none, none, some (vr k), some (vi 0)] [] (hp L b I1 J) := by
    rw [n178, s178_0, p1]
    simp only [Option.bind_some]
    rw [s178_6]
  rw [st]
  refine lp (lo := 0) (hi := 24) (F := fun i (Y : AI) => ev 178 9 [some (vr 115), none, none, some (vr k), some (vi i)] [] (hp L b Y J)) (Q := fun r => ∃ I' : AI, r = some (vi 0, hp L b I' J) ∧ Sm [k, 135, 136, 137] [27] I I' ∧ POm I o a ∧ ∀ i, 0 ≤ i → i < 24 → I' k i = mo I o a i) (fun i Y => Sm [k] [] I1 Y ∧ ∀ j, 0 ≤ j → j < i → Y k j = -1) ?_ ?_ 0 I1 (Int.le_refl _) (by decide) ⟨Sm.rf, fun j a c => by omega⟩
  · intro i Y g1 g2 ⟨v1, v2⟩
    right
    refine ⟨upI Y k i (-1), ?_, v1.up (by simp) (by omega), fun j a c => ?_⟩
    · try dsimp only
      rw [s178_9 _ _ kk k0, if_neg (by omega), gd_t (by omega), gd_t (by omega)]
    · by_cases z : j = i
      · rw [z, upI_s]
      · rw [upI_i z]; exact v2 j a (by omega)
  · intro Y ⟨v1, v2⟩
    try dsimp only
    rw [s178_9 _ _ kk k0, if_pos (Int.le_refl _)]
    refine lp (lo := 0) (hi := pc (tl I o) (tl I a) (ts I o) (ts I a)) (F := fun i (Y : AI) => ev 178 30 [some (vr 115), none, none, some (vr k), some (vi i)] [] (hp L b Y J)) (Q := fun r => ∃ I' : AI, r = some (vi 0, hp L b I' J) ∧ Sm [k, 135, 136, 137] [27] I I' ∧ POm I o a ∧ ∀ i, 0 ≤ i → i < 24 → I' k i = mo I o a i) (fun n Y => Sm [k] [] I1 Y ∧ ∀ j, 0 ≤ j → j < 24 → ((∀ l, 0 ≤ l → l < n → pI (tl I o) (tl I a) (ts I o) (ts I a) l ≠ j) → Y k j = -1) ∧ ∀ l, 0 ≤ l → l < n → pI (tl I o) (tl I a) (ts I o) (ts I a) l = j → Y k j = pJ (tl I o) (tl I a) (ts I o) (ts I a) l) ?_ ?_ 0 Y (Int.le_refl _) cb.1 ⟨v1, fun j a c => ⟨fun _ => v2 j a c, fun l d e => by omega⟩⟩
    · intro n Y g1 g2 ⟨v1, v2⟩
      right
      have e27 : Y 115 27 = pc (tl I o) (tl I a) (ts I o) (ts I a) := by rw [v1.2 27 (by simp), pr.1]
      have prn := pr.2 n g1 (by rw [pr.1]; exact g2)
      have e136 : Y 136 n = pI (tl I o) (tl I a) (ts I o) (ts I a) n := by rw [v1.1 136 (by simp; omega) (by decide)]; exact prn.1
      have e137 : Y 137 n = pJ (tl I o) (tl I a) (ts I o) (ts I a) n := by rw [v1.1 137 (by simp; omega) (by decide)]; exact prn.2
      have pn := po n g1 g2
      have nn := PO_nn po _ n rfl g1 g2
      have b1 := pn.1.2
      have r0 : 0 ≤ pI (tl I o) (tl I a) (ts I o) (ts I a) n ∧ pI (tl I o) (tl I a) (ts I o) (ts I a) n < 24 := ⟨nn.1, by omega⟩
      refine ⟨upI Y k (pI (tl I o) (tl I a) (ts I o) (ts I a) n) (pJ (tl I o) (tl I a) (ts I o) (ts I a) n), ?_, v1.up (by simp) (by omega), fun j a c => ⟨fun z => ?_, fun l d e f => ?_⟩⟩
      · try dsimp only
        rw [s178_30 _ _ kk k0, e27, if_neg (by omega), e136, e137, gd_t (by omega), gd_t (by omega), gd_t r0, gd_t (by omega)]
      · rw [upI_i (fun e => z n g1 (by omega) e.symm)]
        exact (v2 j a c).1 (fun l d e => z l d (by omega))
      · by_cases y : l = n
        · rw [y] at f ⊢
          rw [← f, upI_s]
        · have := (PO_ris po _ l n rfl d (by omega) g2).1
          rw [upI_i (by omega)]
          exact (v2 j a c).2 l d (by omega) f
    · intro Y ⟨v1, v2⟩
      have e27 : Y 115 27 = pc (tl I o) (tl I a) (ts I o) (ts I a) := by rw [v1.2 27 (by simp), pr.1]
      refine ⟨Y, ?_, Sm.tr (I' := I1) (q1.mono (fun c z => by simp at z ⊢; omega) (fun c z => z)) (v1.mono (fun c z => by simp at z ⊢; omega) (fun c z => by simp at z)), po, fun i i0 i1 => ?_⟩
      · try dsimp only
        rw [s178_30 _ _ kk k0, e27, if_pos (Int.le_refl _)]
      · rcases mt_s (pI (tl I o) (tl I a) (ts I o) (ts I a)) (pJ (tl I o) (tl I a) (ts I o) (ts I a)) (pc (tl I o) (tl I a) (ts I o) (ts I a)) i with ⟨e, e'⟩ | ⟨l, l1, l2, e⟩
        · unfold mo; rw [e]; exact (v2 i i0 i1).1 e'
        · unfold mo; rw [e]; exact (v2 i i0 i1).2 l l1.1 l1.2 l2
end
