/-! the texts of a plan are kept, one behind another -/
noncomputable def gs (G : AI) (v : Int → Int) (w : Int → Int × (Int → Int)) : Nat → AI
  | 0 => G
  | j + 1 => if v j = -4 then mkT (gs G v w j) (w j).1 (w j).2 else gs G v w j
noncomputable def oS (G : AI) (v : Int → Int) (w : Int → Int × (Int → Int)) (j : Int) : Int := if v j = -4 then mkN (gs G v w j.toNat) (w j).1 (w j).2 else v j
section
variable {L : Nat} {b : Bool} {I G : AI} {J : AJ} {v : Int → Int} {w : Int → Int × (Int → Int)} {n m : Int} {f g : Int → Int}
theorem gs_s {i : Int} (h : 0 ≤ i) : gs G v w (i + 1).toNat = if v i = -4 then mkT (gs G v w i.toNat) (w i).1 (w i).2 else gs G v w i.toNat := by
  rw [show (i + 1).toNat = i.toNat + 1 by omega]
  show (if v (i.toNat : Int) = -4 then mkT (gs G v w i.toNat) (w (i.toNat : Int)).1 (w (i.toNat : Int)).2 else gs G v w i.toNat) = _
  rw [show ((i.toNat : Nat) : Int) = i by omega]
theorem TxR_mk (hT : TxR G) (hn : 0 ≤ n ∧ n ≤ 24) (hr : 0 ≤ fdR G n f ∨ G 115 5 < 120) : TxR (mkT G n f) := by
  have h0 := hT.1
  unfold mkT
  by_cases c : 0 ≤ fdR G n f
  · rw [if_pos c]
    by_cases c2 : 0 ≤ flR G (fdR G n f)
    · rw [if_pos c2]
      have fb : fdR G n f < G 115 5 := by
        rcases fdR_bd hT (n := n) (f := f) with z | z
        · omega
        · exact z.1.2
      refine ⟨?_, fun u a b => ?_, fun u a b => ?_, fun u a b => ?_⟩
      · rw [upI_c (by decide), upI_c (by decide)]; exact hT.1
      · rw [upI_c (by decide), upI_c (by decide)] at b
        by_cases e : u = fdR G n f
        · rw [e, upI_s]; omega
        · rw [upI_i e, upI_c (by decide)]; exact hT.2.1 u a b
      · rw [upI_c (by decide), upI_c (by decide)] at b ⊢
        exact hT.2.2.1 u a b
      · rw [upI_c (by decide), upI_c (by decide)] at b
        rw [upI_c (show 118 ≠ 120 by decide), upI_c (show 119 ≠ 120 by decide), upI_c (show 119 ≠ 118 by decide)]
        by_cases e : u = fdR G n f
        · rw [e, upI_s]; exact ⟨Or.inl rfl, (hT.2.2.2 _ c fb).2⟩
        · rw [upI_i e]; exact hT.2.2.2 u a b
    · rw [if_neg c2]; exact hT
  · rw [if_neg c]
    refine ⟨?_, fun u a b => ?_, fun u a b => ?_, fun u a b => ?_⟩
    · rw [newT_5]; omega
    · rw [newT_5] at b
      rw [newT_120]
      by_cases z : u = G 115 5
      · rw [if_pos z]; omega
      · rw [if_neg z]; exact hT.2.1 u a (by omega)
    · rw [newT_5] at b
      rw [newT_117]
      by_cases z : u = G 115 5
      · rw [if_pos z]; exact hn
      · rw [if_neg z]; exact hT.2.2.1 u a (by omega)
    · rw [newT_5] at b
      rw [newT_118, newT_119]
      by_cases z : u = G 115 5
      · rw [if_pos z, if_pos z]; exact ⟨Or.inl rfl, Or.inl rfl⟩
      · rw [if_neg z, if_neg z]; exact hT.2.2.2 u a (by omega)
theorem fd_up (hT : TxR G) (hT' : TxR (mkT G m g)) (h : 0 ≤ fdR G n f) : 0 ≤ fdR (mkT G m g) n f := by
  rcases fdR_bd hT (n := n) (f := f) with z | z
  · omega
  · rcases fdR_bd hT' (n := n) (f := f) with y | y
    · exfalso
      have o := mkT_old (n := m) (f := g) hT z.1
      have m5 := mkT_5 (G := G) (n := m) (f := g)
      have z2 := z.2
      unfold hl at z2
      refine y.2 (fdR G n f) z.1.1 (by omega) ⟨by rw [o.2.1]; exact z2.1, by rw [o.1]; exact z2.2.1, fun i a c => ?_⟩
      rw [o.2.2.2 i a (by rw [z2.2.1]; exact c)]
      exact z2.2.2 i a c
    · exact y.1.1
theorem fd_nw (hT : TxR G) (hT' : TxR (mkT G n f)) : 0 ≤ fdR (mkT G n f) n f := by
  by_cases c : 0 ≤ fdR G n f
  · exact fd_up hT hT' c
  · rcases fdR_bd hT' (n := n) (f := f) with y | y
    · exfalso
      have h0 := hT.1
      have e : mkT G n f = newT G n f := by unfold mkT; rw [if_neg c]
      rw [e] at y
      refine y.2 (G 115 5) h0.1 (by rw [newT_5]; omega) ⟨by rw [newT_119, if_pos rfl], by rw [newT_117, if_pos rfl], fun i a d => ?_⟩
      rw [newT_116, if_pos (by omega), show 24 * G 115 5 + i - 24 * G 115 5 = i by omega]
    · exact y.1.1
/-- there is room for each -/
def GOK (G : AI) (v : Int → Int) (w : Int → Int × (Int → Int)) (j : Nat) : Prop := TxR (gs G v w j) ∧ gs G v w j 115 5 ≤ G 115 5 + ct (nw G v w) j ∧ (∀ n f, 0 ≤ fdR G n f → 0 ≤ fdR (gs G v w j) n f) ∧ ∀ i : Int, 0 ≤ i → i < j → v i = -4 → 0 ≤ fdR (gs G v w j) (w i).1 (w i).2
theorem g_rm (hT : TxR G) {j : Int} (hj : 0 ≤ j ∧ j < 16) (hN : G 115 5 + ct (nw G v w) 16 ≤ 120) (h : GOK G v w j.toNat) (d : v j = -4) : 0 ≤ fdR (gs G v w j.toNat) (w j).1 (w j).2 ∨ (gs G v w j.toNat 115 5 < 120 ∧ nw G v w j) := by
  obtain ⟨-, h2, h3, h4⟩ := h
  by_cases c : nw G v w j
  · right
    have a1 := ct_s (p := nw G v w) hj.1
    rw [bI_t c] at a1
    have a2 := ct_mono (p := nw G v w) (n := (j + 1).toNat) (m := 16) (by omega)
    exact ⟨by omega, c⟩
  · left
    by_cases e : fdR G (w j).1 (w j).2 = -1
    · by_cases k : bef v w j j
      · obtain ⟨i, i1, i2, i3⟩ := k
        have q := h4 i i1.1 (by omega) i2
        have e2 : fdR (gs G v w j.toNat) (w i).1 (w i).2 = fdR (gs G v w j.toNat) (w j).1 (w j).2 := by
          rw [fdR_cg (f := (w i).2) (f' := (w j).2) i3.2, i3.1]
        rw [← e2]; exact q
      · exact absurd ⟨d, e, k⟩ c
    · refine h3 _ _ ?_
      rcases fdR_bd hT (n := (w j).1) (f := (w j).2) with z | z
      · exact absurd z.1 e
      · exact z.1.1
theorem g_ok (hT : TxR G) (hw : wBd v w) (hN : G 115 5 + ct (nw G v w) 16 ≤ 120) : ∀ j : Nat, j ≤ 16 → GOK G v w j
  | 0, _ => ⟨hT, by show G 115 5 ≤ G 115 5 + 0; omega, fun _ _ z => z, fun i a c => by omega⟩
  | j + 1, hj => by
    have ih := g_ok hT hw hN j (by omega)
    have e := gs_s (G := G) (v := v) (w := w) (i := j) (by omega)
    have a1 := ct_s (p := nw G v w) (i := j) (by omega)
    rw [show ((j : Int) + 1).toNat = j + 1 by omega, show ((j : Nat) : Int).toNat = j by omega] at e a1
    by_cases d : v j = -4
    · rw [if_pos d] at e
      have rm := g_rm hT (j := j) (by omega) hN (by rw [show ((j : Nat) : Int).toNat = j by omega]; exact ih) d
      rw [show ((j : Nat) : Int).toNat = j by omega] at rm
      have bw := hw j (by omega) (by omega) d
      have T' : TxR (mkT (gs G v w j) (w j).1 (w j).2) := TxR_mk ih.1 bw (by rcases rm with z | z; exact Or.inl z; exact Or.inr z.1)
      refine ⟨by rw [e]; exact T', ?_, fun n f z => by rw [e]; exact fd_up ih.1 T' (ih.2.2.1 n f z), fun i i0 i1 i2 => ?_⟩
      · rw [e, a1]
        have m := mkT_5 (G := gs G v w j) (n := (w j).1) (f := (w j).2)
        have h2 := ih.2.1
        have bb := bI_bd (nw G v w j)
        rcases rm with z | z
        · have : mkT (gs G v w j) (w j).1 (w j).2 115 5 = gs G v w j 115 5 := by
            unfold mkT
            rw [if_pos z]
            split
            · rw [upI_c (by decide), upI_c (by decide)]
            · rfl
          omega
        · rw [bI_t z.2]; omega
      · rw [e]
        by_cases q : i = j
        · rw [q]; exact fd_nw ih.1 T'
        · exact fd_up ih.1 T' (ih.2.2.2 i i0 (by omega) i2)
    · rw [if_neg d] at e
      have bb := bI_bd (nw G v w j)
      have h2 := ih.2.1
      refine ⟨by rw [e]; exact ih.1, by rw [e, a1]; omega, by rw [e]; exact ih.2.2.1, fun i i0 i1 i2 => ?_⟩
      rw [e]
      by_cases q : i = j
      · exact absurd (q ▸ i2) d
      · exact ih.2.2.2 i i0 (by omega) i2
theorem gs_o {c : Nat} (hc : c ∉ [115, 116, 117, 118, 119, 120]) : ∀ j : Nat, gs G v w j c = G c
  | 0 => rfl
  | j + 1 => by
    show (if v j = -4 then mkT (gs G v w j) (w j).1 (w j).2 else gs G v w j) c = G c
    split
    · rw [mkT_o hc, gs_o hc j]
    · exact gs_o hc j
theorem gs_f {x : Int} (hx : x ≠ 5) : ∀ j : Nat, gs G v w j 115 x = G 115 x
  | 0 => rfl
  | j + 1 => by
    show (if v j = -4 then mkT (gs G v w j) (w j).1 (w j).2 else gs G v w j) 115 x = G 115 x
    split
    · rw [mkT_f hx, gs_f hx j]
    · exact gs_f hx j
theorem gs_5 (j : Nat) : gs G v w j 115 5 ≤ gs G v w (j + 1) 115 5 := by
  show _ ≤ (if v j = -4 then mkT (gs G v w j) (w j).1 (w j).2 else gs G v w j) 115 5
  split
  · exact mkT_5.1
  · exact Int.le_refl _
theorem gs_m (i : Nat) : ∀ d : Nat, gs G v w i 115 5 ≤ gs G v w (i + d) 115 5
  | 0 => Int.le_refl _
  | d + 1 => Int.le_trans (gs_m i d) (gs_5 (i + d))
theorem gs_rel (hT : TxR G) (hw : wBd v w) (hN : G 115 5 + ct (nw G v w) 16 ≤ 120) (hC : RC I G) (hU : RU I G) (hB : RB I G) (hS : RS I G) : ∀ j : Nat, j ≤ 16 → RC I (gs G v w j) ∧ RU I (gs G v w j) ∧ RB I (gs G v w j) ∧ RS I (gs G v w j)
  | 0, _ => ⟨hC, hU, hB, hS⟩
  | j + 1, hj => by
    obtain ⟨a, c, d, e⟩ := gs_rel hT hw hN hC hU hB hS j (by omega)
    have t := (g_ok hT hw hN j (by omega)).1
    show RC I (if v j = -4 then mkT (gs G v w j) (w j).1 (w j).2 else gs G v w j) ∧ RU I (if v j = -4 then mkT (gs G v w j) (w j).1 (w j).2 else gs G v w j) ∧ RB I (if v j = -4 then mkT (gs G v w j) (w j).1 (w j).2 else gs G v w j) ∧ RS I (if v j = -4 then mkT (gs G v w j) (w j).1 (w j).2 else gs G v w j)
    by_cases q : v j = -4
    · rw [if_pos q]; exact ⟨RC_mk t a, RU_mk t c, RB_mk d, RS_mk t e⟩
    · rw [if_neg q]; exact ⟨a, c, d, e⟩
theorem oS_bd (hT : TxR G) (hw : wBd v w) (hN : G 115 5 + ct (nw G v w) 16 ≤ 120) {j : Int} (hj : 0 ≤ j ∧ j < 16) (hv : v j = -4 ∨ v j = -3 ∨ (-1 ≤ v j ∧ v j < G 115 5)) : oS G v w j = -3 ∨ (-1 ≤ oS G v w j ∧ oS G v w j < gs G v w 16 115 5) := by
  unfold oS
  have ok := g_ok hT hw hN j.toNat (by omega)
  by_cases d : v j = -4
  · rw [if_pos d]
    right
    have rm := g_rm hT hj hN ok d
    have nb := mkN_bd (n := (w j).1) (f := (w j).2) ok.1 (by rcases rm with z | z; exact Or.inl z; exact Or.inr z.1)
    have e := gs_s (G := G) (v := v) (w := w) hj.1
    rw [if_pos d] at e
    rw [← e] at nb
    have m := gs_m (G := G) (v := v) (w := w) (j + 1).toNat (16 - (j + 1).toNat)
    rw [show (j + 1).toNat + (16 - (j + 1).toNat) = 16 by omega] at m
    omega
  · rw [if_neg d]
    rcases hv with z | z | z
    · exact absurd z d
    · exact Or.inl z
    · right
      have m := gs_m (G := G) (v := v) (w := w) 0 16
      rw [show 0 + 16 = 16 by omega] at m
      have : gs G v w 0 115 5 = G 115 5 := rfl
      omega
/-- the class: carryOut -/
theorem c26R (hT : RT I G) (hC : PC I v w) (hw : wBd v w) (hN : G 115 5 + ct (nw G v w) 16 ≤ 120) (x s t : Int) : (fun r => ∃ I' : AI, r = some (vi 0, hp L b I' J) ∧ Same [6, 7, 8, 9, 10, 51, 55] I I' ∧ RT I' (gs G v w 16) ∧ (I' 51 8 = 1 ∧ I' 51 9 = x ∧ I' 51 10 = s ∧ I' 51 11 = t) ∧ ∀ j, 0 ≤ j → j < 16 → I' 55 j = oS G v w j) (evc 26 [vr 51, vi x, vi s, vi t] (hp L b I J)) := by
  rw [n26, s26_0]
  refine lp (lo := 0) (hi := 16) (F := fun i (Y : AI) => ev 26 3 [some (vr 51), some (vi x), some (vi s), some (vi t), some (vi i)] [] (hp L b Y J)) (Q := fun r => ∃ I' : AI, r = some (vi 0, hp L b I' J) ∧ Same [6, 7, 8, 9, 10, 51, 55] I I' ∧ RT I' (gs G v w 16) ∧ (I' 51 8 = 1 ∧ I' 51 9 = x ∧ I' 51 10 = s ∧ I' 51 11 = t) ∧ ∀ j, 0 ≤ j → j < 16 → I' 55 j = oS G v w j) (fun i Y => Same [6, 7, 8, 9, 10, 55] I Y ∧ RT Y (gs G v w i.toNat) ∧ ∀ j, 0 ≤ j → j < i → Y 55 j = oS G v w j) ?_ ?_ 0 I (Int.le_refl _) (by decide) ⟨fun _ _ => rfl, hT, fun j a c => by omega⟩
  · intro i Y g1 g2 ⟨v1, v2, v3⟩
    right
    have oz : ∀ c, c ∉ [6, 7, 8, 9, 10, 55] → Y c = I c := v1
    have ci := hC i g1 g2
    have e53 : Y 53 i = v i := by rw [oz 53 (by decide)]; exact ci.1
    have ok := g_ok hT.1 hw hN i.toNat (by omega)
    have e := gs_s (G := G) (v := v) (w := w) g1
    by_cases d : v i = -4
    · rw [if_pos d] at e
      have rm := g_rm hT.1 ⟨g1, g2⟩ hN ok d
      have cw := ci.2 d
      have bw := hw i g1 g2 d
      have cw' : RwC Y (72 + 2 * i.toNat) (w i).1 (w i).2 := cw.cg (oz _ (by simp; omega)) (oz _ (by simp; omega))
      obtain ⟨Z, q1, q2, q3⟩ := c74R (L := L) (b := b) (J := J) v2 (isRow_j ⟨g1, g2⟩) cw' bw (by rcases rm with z | z; exact Or.inl z; exact Or.inr z.1)
      refine ⟨upI Z 55 i (oS G v w i), ?_, ?_, ?_, fun j a c => ?_⟩
      · try dsimp only
        rw [s26_3, if_neg (by omega), gd_t ⟨g1, g2⟩, e53, if_neg (fun z => z d), gd_t ⟨g1, g2⟩, q1]
        simp only [Option.bind_some]
        rw [s26_42, s26_52, gd_t ⟨g1, g2⟩, gd_t (by omega)]
        unfold oS
        rw [if_pos d]
      · intro c hc
        rw [upI_c (fun z => hc (by rw [z]; decide)), q2 c (fun z => hc (by simp at z ⊢; omega)), v1 c hc]
      · rw [e]
        exact q3.cg (fun c z => upI_c (by revert c; decide) _ _ _) (fun _ _ => rfl) rfl
      · by_cases k : j = i
        · rw [k, upI_s]
        · rw [upI_i k, q2 55 (by decide)]; exact v3 j a (by omega)
    · rw [if_neg d] at e
      refine ⟨upI Y 55 i (oS G v w i), ?_, ?_, ?_, fun j a c => ?_⟩
      · try dsimp only
        rw [s26_3, if_neg (by omega), gd_t ⟨g1, g2⟩, e53, if_pos d, gd_t ⟨g1, g2⟩, s26_52, gd_t ⟨g1, g2⟩, gd_t (by omega)]
        unfold oS
        rw [if_neg d]
      · intro c hc
        rw [upI_c (fun z => hc (by rw [z]; decide)), v1 c hc]
      · rw [e]
        exact v2.cg (fun c z => upI_c (by revert c; decide) _ _ _) (fun _ _ => rfl) rfl
      · by_cases k : j = i
        · rw [k, upI_s]
        · rw [upI_i k]; exact v3 j a (by omega)
  · intro Y ⟨v1, v2, v3⟩
    refine ⟨upI (upI (upI (upI Y 51 9 x) 51 10 s) 51 11 t) 51 8 1, ?_, ?_, ?_, ⟨?_, ?_, ?_, ?_⟩, fun j a c => ?_⟩
    · try dsimp only
      rw [s26_3, if_pos (Int.le_refl _), gd_t (by decide)]
    · intro c hc
      have : c ≠ 51 := fun z => hc (by rw [z]; decide)
      rw [upI_c this, upI_c this, upI_c this, upI_c this, v1 c (fun z => hc (by simp at z ⊢; omega))]
    · exact RT.cg v2 (fun c z => by
        have : c ≠ 51 := by revert c; decide
        rw [upI_c this, upI_c this, upI_c this, upI_c this]) (fun _ _ => rfl) rfl
    · rw [upI_s]
    · rw [upI_i (by decide), upI_i (by decide), upI_i (by decide), upI_s]
    · rw [upI_i (by decide), upI_i (by decide), upI_s]
    · rw [upI_i (by decide), upI_s]
    · rw [upI_c (by decide), upI_c (by decide), upI_c (by decide), upI_c (by decide)]; exact v3 j a c
/-- the reference keeps them -/
theorem l198 (hT : TxR G) (hR : PR I v w) (hw : wBd v w) (hN : G 115 5 + ct (nw G v w) 16 ≤ 120) (hg : ∀ c ∈ [116, 117, 118, 119, 120], I c = G c) (h5 : I 115 5 = G 115 5) (y : Int) : (fun r => ∃ I' : AI, r = some (vi y, hp L b I' J) ∧ Sm [116, 117, 118, 119, 120, 155] [5] I I' ∧ (∀ c ∈ [116, 117, 118, 119, 120], I' c = gs G v w 16 c) ∧ I' 115 5 = gs G v w 16 115 5 ∧ ∀ j, 0 ≤ j → j < 16 → I' 155 j = oS G v w j) (ev 198 196 [some (vr 115), none, none, none, none, some (vi y), some (vi 0)] [] (hp L b I J)) := by
  refine lp (lo := 0) (hi := 16) (F := fun i (Y : AI) => ev 198 196 [some (vr 115), none, none, none, none, some (vi y), some (vi i)] [] (hp L b Y J)) (Q := fun r => ∃ I' : AI, r = some (vi y, hp L b I' J) ∧ Sm [116, 117, 118, 119, 120, 155] [5] I I' ∧ (∀ c ∈ [116, 117, 118, 119, 120], I' c = gs G v w 16 c) ∧ I' 115 5 = gs G v w 16 115 5 ∧ ∀ j, 0 ≤ j → j < 16 → I' 155 j = oS G v w j) (fun i Y => Sm [116, 117, 118, 119, 120, 155] [5] I Y ∧ (∀ c ∈ [116, 117, 118, 119, 120], Y c = gs G v w i.toNat c) ∧ Y 115 5 = gs G v w i.toNat 115 5 ∧ ∀ j, 0 ≤ j → j < i → Y 155 j = oS G v w j) ?_ ?_ 0 I (Int.le_refl _) (by decide) ⟨Sm.rf, hg, h5, fun j a c => by omega⟩
  · intro i Y g1 g2 ⟨v1, v2, v3, v4⟩
    right
    have ri := hR i g1 g2
    have e152 : Y 152 i = v i := by rw [v1.1 152 (by decide) (by decide)]; exact ri.1
    have ok := g_ok hT hw hN i.toNat (by omega)
    have e := gs_s (G := G) (v := v) (w := w) g1
    by_cases d : v i = -4
    · rw [if_pos d] at e
      have rm := g_rm hT ⟨g1, g2⟩ hN ok d
      have rm' : 0 ≤ fdR (gs G v w i.toNat) (w i).1 (w i).2 ∨ gs G v w i.toNat 115 5 < 120 := by rcases rm with z | z; exact Or.inl z; exact Or.inr z.1
      have r2 := ri.2 d
      have bw := hw i g1 g2 d
      have hT' : TxR Y := ok.1.cg (fun c z => v2 c (by revert c; decide)) v3
      have e154 : Y 154 i = (w i).1 := by rw [v1.1 154 (by decide) (by decide)]; exact r2.1
      have e153 : ∀ x, 0 ≤ x → x < (w i).1 → (fun x => Y 153 (24 * i + x)) x = (w i).2 x := fun x a c => by
        show Y 153 (24 * i + x) = _
        rw [v1.1 153 (by decide) (by decide)]; exact r2.2 x a c
      obtain ⟨x1, x2, x3⟩ := mkT_x (G := gs G v w i.toNat) (G' := Y) (n := (w i).1) (f := (w i).2) v2 v3
      have fd : fdR Y (w i).1 (w i).2 = fdR (gs G v w i.toNat) (w i).1 (w i).2 := by unfold fdR hl; rw [v2 116 (by decide), v2 117 (by decide), v2 119 (by decide), v3]
      have q := c142R (L := L) (b := b) (J := J) (k := 153) (n := (w i).1) (from_ := 24 * i) hT' (by decide) bw ⟨by omega, by show 24 * i + (w i).1 ≤ 384; omega⟩ (by omega) (by rw [fdR_cg e153, fd, v3]; exact rm')
      rw [mkT_cg e153, mkN_cg e153, x3] at q
      refine ⟨upI (mkT Y (w i).1 (w i).2) 155 i (oS G v w i), ?_, ⟨fun c h1 h2 => ?_, fun j hj => ?_⟩, fun c hc => ?_, ?_, fun j a c => ?_⟩
      · try dsimp only
        rw [s198_196, if_neg (by omega), gd_t ⟨g1, g2⟩, e152, if_neg (fun z => z d), gd_t (by omega), gd_t ⟨g1, g2⟩, e154, q]
        simp only [Option.bind_some]
        rw [s198_241, s198_251, gd_t ⟨g1, g2⟩, gd_t (by omega)]
        unfold oS
        rw [if_pos d]
      · rw [upI_c (fun z => h1 (by rw [z]; decide)), mkT_o (fun z => h1 (by simp at z ⊢; omega)), v1.1 c h1 h2]
      · rw [upI_c (by decide), mkT_f (fun z => hj (by rw [z]; decide)), v1.2 j hj]
      · rw [upI_c (by revert c; decide), e]; exact x1 c hc
      · rw [upI_c (by decide), e]; exact x2
      · by_cases k : j = i
        · rw [k, upI_s]
        · rw [upI_i k, mkT_o (by decide)]; exact v4 j a (by omega)
    · rw [if_neg d] at e
      refine ⟨upI Y 155 i (oS G v w i), ?_, v1.up (by simp) (by decide), fun c hc => ?_, ?_, fun j a c => ?_⟩
      · try dsimp only
        rw [s198_196, if_neg (by omega), gd_t ⟨g1, g2⟩, e152, if_pos d, gd_t ⟨g1, g2⟩, s198_251, gd_t ⟨g1, g2⟩, gd_t (by omega)]
        unfold oS
        rw [if_neg d]
      · rw [upI_c (by revert c; decide), e]; exact v2 c hc
      · rw [upI_c (by decide), e]; exact v3
      · by_cases k : j = i
        · rw [k, upI_s]
        · rw [upI_i k]; exact v4 j a (by omega)
  · intro Y ⟨v1, v2, v3, v4⟩
    refine ⟨Y, ?_, v1, v2, v3, v4⟩
    try dsimp only
    rw [s198_196, if_pos (Int.le_refl _)]
end
