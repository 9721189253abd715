/-! a plan: what is like in it, its new texts -/
def lik (w : Int → Int × (Int → Int)) (i j : Int) : Prop := (w i).1 = (w j).1 ∧ ∀ y, 0 ≤ y → y < (w i).1 → (w i).2 y = (w j).2 y
def bef (v : Int → Int) (w : Int → Int × (Int → Int)) (j k : Int) : Prop := ∃ i, (0 ≤ i ∧ i < k) ∧ v i = -4 ∧ lik w i j
def nw (G : AI) (v : Int → Int) (w : Int → Int × (Int → Int)) (j : Int) : Prop := v j = -4 ∧ fdR G (w j).1 (w j).2 = -1 ∧ ¬ bef v w j j
def wBd (v : Int → Int) (w : Int → Int × (Int → Int)) : Prop := ∀ j, 0 ≤ j → j < 16 → v j = -4 → 0 ≤ (w j).1 ∧ (w j).1 ≤ 24
def PC (I : AI) (v : Int → Int) (w : Int → Int × (Int → Int)) : Prop := ∀ j, 0 ≤ j → j < 16 → I 53 j = v j ∧ (v j = -4 → RwC I (72 + 2 * j.toNat) (w j).1 (w j).2)
def PR (I : AI) (v : Int → Int) (w : Int → Int × (Int → Int)) : Prop := ∀ j, 0 ≤ j → j < 16 → I 152 j = v j ∧ (v j = -4 → I 154 j = (w j).1 ∧ ∀ x, 0 ≤ x → x < (w j).1 → I 153 (24 * j + x) = (w j).2 x)
theorem spn_nn (S : MS) (d i : Int) (z : Int × (Int → Int)) : z.1 ≤ (spn S d i z).1 := by unfold spn; rw [pus_1]; omega
theorem slx_nn (S : MS) (o i : Int) (z : Int × (Int → Int)) : z.1 ≤ (slx S o i z).1 := by
  have h0 : ∀ z, z.1 ≤ (sl0 S o i z).1 := fun z => by
    unfold sl0
    split
    · exact spn_nn _ _ _ _
    · exact Int.le_refl _
  have h1 : ∀ z, z.1 ≤ (sl1 S o i z).1 := fun z => by
    unfold sl1
    split
    · exact spn_nn _ _ _ _
    · exact Int.le_refl _
  have h2 : ∀ z, z.1 ≤ (sl2 S o i z).1 := fun z => by
    unfold sl2
    split
    · exact spn_nn _ _ _ _
    · exact Int.le_refl _
  exact Int.le_trans (h0 z) (Int.le_trans (h1 _) (h2 _))
theorem Wz_nn (S : MS) (st : Int → Int) : ∀ n : Nat, 0 ≤ (Wz S st n).1
  | 0 => Int.le_refl _
  | n + 1 => by
    have ih := Wz_nn S st n
    have q := slx_nn S (oc S st n) n (Wz S st n)
    show 0 ≤ (if bI (mA S n) = 1 then pu (slx S (oc S st n) n (Wz S st n)) (S.2.1 0 n) else Wz S st n).1
    split
    · show 0 ≤ (slx S (oc S st n) n (Wz S st n)).1 + 1
      omega
    · exact ih
theorem We_nn (S : MS) (st : Int → Int) : 0 ≤ (We S st).1 := Int.le_trans (Wz_nn S st _) (slx_nn S _ _ _)
section
variable {L : Nat} {b : Bool} {I : AI} {J : AJ} {v : Int → Int} {w : Int → Int × (Int → Int)}
theorem nw_cg {G G' : AI} (hg : ∀ c ∈ [116, 117, 119], G' c = G c) (h5 : G' 115 5 = G 115 5) : nw G' v w = nw G v w := by
  unfold nw fdR hl
  rw [hg 116 (by decide), hg 117 (by decide), hg 119 (by decide), h5]
theorem c25R (hC : PC I v w) (hw : wBd v w) {j : Int} (hj : 0 ≤ j ∧ j < 16) (e : v j = -4) : evc 25 [vr 51, vi j] (hp L b I J) = some (vi (bI (bef v w j j)), hp L b I J) := by
  have cj := (hC j hj.1 hj.2).2 e
  rw [n25, s25_0]
  refine lp (lo := 0) (hi := j) (F := fun i (_ : Unit) => ev 25 2 [some (vr 51), some (vi j), some (vi i)] [] (hp L b I J)) (Q := fun r => r = some (vi (bI (bef v w j j)), hp L b I J)) (fun k _ => ¬ bef v w j k) ?_ ?_ 0 () (Int.le_refl _) hj.1 (fun ⟨i, z, _⟩ => by omega)
  · intro i _ g1 g2 n
    have ci := hC i g1 (by omega)
    have hi := isRow_j (j := i) ⟨g1, by omega⟩
    by_cases d : v i = -4
    · have cw := ci.2 d
      have bw := hw i g1 (by omega) d
      have q := c40 (L := L) (b := b) (I := I) (J := J) (k := 72 + 2 * i.toNat) (m := 72 + 2 * j.toNat) hi (isRow_j hj) (by rw [cw.1]; exact bw.2)
      have el : (I (72 + 2 * i.toNat) 1 = I (72 + 2 * j.toNat) 1 ∧ ∀ y, 0 ≤ y → y < I (72 + 2 * i.toNat) 1 → I (72 + 2 * i.toNat + 1) y = I (72 + 2 * j.toNat + 1) y) ↔ lik w i j := by
        unfold lik
        rw [cw.1, cj.1]
        constructor
        · rintro ⟨z1, z2⟩
          exact ⟨z1, fun y y0 y1 => by rw [← cw.2 y y0 y1, ← cj.2 y y0 (by omega)]; exact z2 y y0 y1⟩
        · rintro ⟨z1, z2⟩
          exact ⟨z1, fun y y0 y1 => by rw [cw.2 y y0 y1, cj.2 y y0 (by omega)]; exact z2 y y0 y1⟩
      rw [bI_cg el] at q
      by_cases k : lik w i j
      · left
        try dsimp only
        rw [s25_2 _ _ hi, if_neg (by omega), gd_t (by omega), ci.1, if_neg (fun z => z d), gd_t (by omega), gd_t hj, q, bI_t k]
        simp only [Option.bind_some]
        rw [s25_33, if_neg (by decide), gd_t (by decide), bI_t (show bef v w j j from ⟨i, ⟨g1, g2⟩, d, k⟩)]
      · right
        refine ⟨(), ?_, fun ⟨x, x1, x2, x3⟩ => ?_⟩
        · try dsimp only
          rw [s25_2 _ _ hi, if_neg (by omega), gd_t (by omega), ci.1, if_neg (fun z => z d), gd_t (by omega), gd_t hj, q, bI_f k]
          simp only [Option.bind_some]
          rw [s25_33, if_pos rfl, s25_38, gd_t (by omega)]
        · by_cases y : x = i
          · exact k (y ▸ x3)
          · exact n ⟨x, ⟨x1.1, by omega⟩, x2, x3⟩
    · right
      refine ⟨(), ?_, fun ⟨x, x1, x2, x3⟩ => ?_⟩
      · try dsimp only
        rw [s25_2 _ _ hi, if_neg (by omega), gd_t (by omega), ci.1, if_pos d, s25_38, gd_t (by omega)]
      · by_cases y : x = i
        · exact d (y ▸ x2)
        · exact n ⟨x, ⟨x1.1, by omega⟩, x2, x3⟩
  · intro _ n
    try dsimp only
    rw [s25_2 _ _ (isRow_j hj), if_pos (Int.le_refl _), gd_t (by decide), bI_f n]
theorem c24R {G : AI} (hT : RT I G) (hC : PC I v w) (hw : wBd v w) : evc 24 [vr 51] (hp L b I J) = some (vi (ct (nw G v w) 16), hp L b I J) := by
  rw [n24, s24_0]
  refine lp (lo := 0) (hi := 16) (F := fun i (y : Int) => ev 24 4 [some (vr 51), some (vi y), some (vi i)] [] (hp L b I J)) (Q := fun r => r = some (vi (ct (nw G v w) 16), hp L b I J)) (fun i y => y = ct (nw G v w) i.toNat) ?_ ?_ 0 0 (Int.le_refl _) (by decide) rfl
  · intro i y g1 g2 v1
    right
    have cb := ct_bd (p := nw G v w) i.toNat
    have ci := hC i g1 g2
    have yb : 0 ≤ y ∧ y ≤ 16 := by omega
    refine ⟨ct (nw G v w) (i + 1).toNat, ?_, rfl⟩
    try dsimp only
    rw [ct_s g1, ← v1]
    clear v1 cb
    have no : ¬ nw G v w i → ev 24 49 [some (vr 51), some (vi y), some (vi i)] [] (hp L b I J) = ev 24 4 [some (vr 51), some (vi (y + bI (nw G v w i))), some (vi (i + 1))] [] (hp L b I J) := fun z => by rw [s24_49, gd_t (by omega), bI_f z, Int.add_zero]
    by_cases d : v i = -4
    · have cw := ci.2 d
      have bw := hw i g1 g2 d
      rw [s24_4, if_neg (by omega), gd_t (by omega), ci.1, if_neg (fun z => z d), gd_t (by omega), c72 (RT_txc hT) (isRow_j ⟨g1, g2⟩) (by rw [cw.1]; exact bw.2), RT_fd hT (isRow_j ⟨g1, g2⟩) cw]
      simp only [Option.bind_some]
      rw [s24_34]
      by_cases k : fdR G (w i).1 (w i).2 = -1
      · rw [if_neg (fun z => z k), c25R hC hw ⟨g1, g2⟩ d]
        simp only [Option.bind_some]
        rw [s24_43]
        by_cases e : bef v w i i
        · rw [bI_t e, if_pos (by decide), no (fun z => z.2.2 e)]
        · rw [bI_f e, if_neg (by decide), gd_t (by omega), s24_49, gd_t (by omega), bI_t (show nw G v w i from ⟨d, k, e⟩)]
      · rw [if_pos k, no (fun z => k z.2.1)]
    · rw [s24_4, if_neg (by omega), gd_t (by omega), ci.1, if_pos d, no (fun z => d z.1)]
  · intro y v1
    try dsimp only
    rw [s24_4, if_pos (Int.le_refl _), v1]
    rfl
theorem c196R (hR : PR I v w) (hw : wBd v w) {i j : Int} (hi : 0 ≤ i ∧ i < 16) (hj : 0 ≤ j ∧ j < 16) (di : v i = -4) (dj : v j = -4) : evc 196 [vr 115, vi i, vi j] (hp L b I J) = some (vi (bI (lik w i j)), hp L b I J) := by
  have ri := (hR i hi.1 hi.2).2 di
  have rj := (hR j hj.1 hj.2).2 dj
  have bi := hw i hi.1 hi.2 di
  have st : evc 196 [vr 115, vi i, vi j] (hp L b I J) = ev 196 24 [some (vr 115), some (vi i), some (vi j), some (vi (bI ((w i).1 = (w j).1))), some (vi 0)] [] (hp L b I J) := by
    rw [n196, s196_0, gd_t hi, gd_t hj, ri.1, rj.1]
    by_cases c : (w i).1 = (w j).1
    · rw [if_neg (fun z => z c), s196_20, bI_t c]
    · rw [if_pos c, s196_20, bI_f c]
  rw [st]
  refine lp (lo := 0) (hi := (w i).1) (F := fun k (y : Int) => ev 196 24 [some (vr 115), some (vi i), some (vi j), some (vi y), some (vi k)] [] (hp L b I J)) (Q := fun r => r = some (vi (bI (lik w i j)), hp L b I J)) (fun k y => y = bI ((w i).1 = (w j).1 ∧ ∀ x, 0 ≤ x → x < k → (w i).2 x = (w j).2 x)) ?_ ?_ 0 _ (Int.le_refl _) bi.1 (bI_cg ⟨fun z => ⟨z, fun x a c => by omega⟩, fun z => z.1⟩)
  · intro k y g1 g2 hv
    by_cases d : (w i).1 = (w j).1 ∧ ∀ x, 0 ≤ x → x < k → (w i).2 x = (w j).2 x
    · right
      have d1 := d.1
      rw [bI_t d] at hv
      refine ⟨_, ?_, rfl⟩
      try dsimp only
      rw [s196_24, gd_t hi, ri.1, if_neg (by omega), if_neg (by omega), gd_t (by omega), gd_t (by omega), gd_t (by omega), gd_t (by omega), gd_t (by omega), gd_t (by omega), ri.2 k g1 g2, rj.2 k g1 (by omega)]
      by_cases e : (w i).2 k = (w j).2 k
      · rw [if_neg (fun z => z e), s196_71, gd_t (by omega), bI_t ⟨d.1, fun x a c => by by_cases h : x = k; rw [h]; exact e; exact d.2 x a (by omega)⟩]
      · rw [if_pos e, s196_71, gd_t (by omega), bI_f (fun z => e (z.2 k g1 (by omega)))]
    · left
      rw [bI_f d] at hv
      try dsimp only
      rw [s196_24, gd_t hi, ri.1, if_neg (by omega), if_pos hv, s196_78, hv, gd_t (by decide), bI_f (fun z => d ⟨z.1, fun x a c => z.2 x a (by omega)⟩)]
  · intro y hv
    have o := bI_o ((w i).1 = (w j).1 ∧ ∀ x, 0 ≤ x → x < (w i).1 → (w i).2 x = (w j).2 x)
    rw [← hv] at o
    try dsimp only
    rw [s196_24, gd_t hi, ri.1, if_pos (Int.le_refl _), s196_78, gd_t o, hv]
    rfl
theorem c195R (hT : TxR I) (hR : PR I v w) (hw : wBd v w) : evc 195 [vr 115] (hp L b I J) = some (vi (ct (nw I v w) 16), hp L b I J) := by
  rw [n195, s195_0]
  refine lp (lo := 0) (hi := 16) (F := fun i (y : Int) => ev 195 4 [some (vr 115), some (vi y), some (vi i), none, none] [] (hp L b I J)) (Q := fun r => r = some (vi (ct (nw I v w) 16), hp L b I J)) (fun i y => y = ct (nw I v w) i.toNat) ?_ ?_ 0 0 (Int.le_refl _) (by decide) rfl
  · intro i y g1 g2 v1
    right
    have cb := ct_bd (p := nw I v w) i.toNat
    have ri := hR i g1 g2
    have yb : 0 ≤ y ∧ y ≤ 16 := by omega
    refine ⟨ct (nw I v w) (i + 1).toNat, ?_, rfl⟩
    try dsimp only
    rw [ct_s g1, ← v1]
    clear v1 cb
    have inner : ev 195 51 [some (vr 115), some (vi y), some (vi i), some (vi (bI (v i = -4 ∧ fdR I (w i).1 (w i).2 = -1))), some (vi 0)] [] (hp L b I J) = ev 195 95 [some (vr 115), some (vi y), some (vi i), some (vi (bI (nw I v w i))), none] [] (hp L b I J) := by
      refine lp (lo := 0) (hi := i) (F := fun k (z : Int) => ev 195 51 [some (vr 115), some (vi y), some (vi i), some (vi z), some (vi k)] [] (hp L b I J)) (Q := fun r => r = ev 195 95 [some (vr 115), some (vi y), some (vi i), some (vi (bI (nw I v w i))), none] [] (hp L b I J)) (fun k z => z = bI (v i = -4 ∧ fdR I (w i).1 (w i).2 = -1 ∧ ¬ bef v w i k)) ?_ ?_ 0 _ (Int.le_refl _) g1 (bI_cg ⟨fun z => ⟨z.1, z.2, fun ⟨x, x1, _⟩ => by omega⟩, fun z => ⟨z.1, z.2.1⟩⟩)
      · intro k z a1 a2 hz
        by_cases d : v i = -4 ∧ fdR I (w i).1 (w i).2 = -1 ∧ ¬ bef v w i k
        · right
          rw [bI_t d] at hz
          have rk := hR k a1 (by omega)
          refine ⟨_, ?_, rfl⟩
          try dsimp only
          have pre : ev 195 51 [some (vr 115), some (vi y), some (vi i), some (vi z), some (vi k)] [] (hp L b I J) = ev 195 88 [some (vr 115), some (vi y), some (vi i), none, some (vi k)] [vi (bI (¬ (v k = -4 ∧ lik w k i)))] (hp L b I J) := by
            by_cases e : v k = -4
            · rw [s195_51, if_neg (by omega), if_neg (by omega), gd_t (by omega), rk.1, if_neg (fun q => q e), c196R hR hw ⟨a1, by omega⟩ ⟨g1, g2⟩ e d.1]
              simp only [Option.bind_some]
              by_cases f : lik w k i
              · rw [bI_t f, s195_80, if_pos (by decide), bI_f (fun q => q ⟨e, f⟩)]
              · rw [bI_f f, s195_80, if_neg (by decide), s195_83, bI_t (fun q => f q.2)]
            · rw [s195_51, if_neg (by omega), if_neg (by omega), gd_t (by omega), rk.1, if_pos e, s195_83, bI_t (fun q => e q.1)]
          rw [pre, s195_88, gd_t (by omega), bI_cg (show (¬ (v k = -4 ∧ lik w k i)) ↔ (v i = -4 ∧ fdR I (w i).1 (w i).2 = -1 ∧ ¬ bef v w i (k + 1)) from ⟨fun q => ⟨d.1, d.2.1, fun ⟨x, x1, x2, x3⟩ => by
            by_cases h : x = k
            · exact q ⟨h ▸ x2, h ▸ x3⟩
            · exact d.2.2 ⟨x, ⟨x1.1, by omega⟩, x2, x3⟩⟩, fun q r => q.2.2 ⟨k, ⟨a1, by omega⟩, r⟩⟩)]
        · left
          have no : ¬ nw I v w i := fun q => d ⟨q.1, q.2.1, fun ⟨x, x1, x2⟩ => q.2.2 ⟨x, ⟨x1.1, by omega⟩, x2⟩⟩
          rw [bI_f d] at hz
          try dsimp only
          rw [s195_51, if_neg (by omega), if_pos hz, hz, bI_f no]
      · intro z hz
        try dsimp only
        rw [s195_51, if_pos (Int.le_refl _), hz]
        rfl
    have fb := fdR_bd hT (n := (w i).1) (f := (w i).2)
    have head : ev 195 4 [some (vr 115), some (vi y), some (vi i), none, none] [] (hp L b I J) = ev 195 51 [some (vr 115), some (vi y), some (vi i), some (vi (bI (v i = -4 ∧ fdR I (w i).1 (w i).2 = -1))), some (vi 0)] [] (hp L b I J) := by
      rw [s195_4, if_neg (by omega), gd_t ⟨g1, g2⟩, ri.1]
      by_cases d : v i = -4
      · have r2 := ri.2 d
        have bw := hw i g1 g2 d
        have q := c141 (L := L) (b := b) (J := J) (k := 153) (n := (w i).1) (from_ := 24 * i) hT (by decide) bw ⟨by omega, by show 24 * i + (w i).1 ≤ 384; omega⟩ (by omega)
        rw [fdR_cg (f' := (w i).2) (fun x a c => r2.2 x a c)] at q
        rw [if_neg (fun z => z d), gd_t (by omega), gd_t ⟨g1, g2⟩, r2.1, q]
        simp only [Option.bind_some]
        rw [s195_39]
        by_cases e : fdR I (w i).1 (w i).2 = -1
        · rw [if_neg (by omega), s195_47, bI_t ⟨d, e⟩]
        · rw [if_pos (by omega), s195_46, s195_47, bI_f (fun z => e z.2)]
      · rw [if_pos d, s195_46, s195_47, bI_f (fun z => d z.1)]
    rw [head, inner, s195_95]
    by_cases n : nw I v w i
    · rw [bI_t n, if_neg (by decide), s195_105, gd_t (by omega), gd_t (by omega)]
    · rw [bI_f n, if_pos rfl, s195_105, gd_t (by omega), gd_t (by omega)]
  · intro y v1
    try dsimp only
    rw [s195_4, if_pos (Int.le_refl _), v1]
    rfl
end
