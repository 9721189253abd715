/-! renamed -/
theorem am_skip {ok : Int → Prop} {v : Int → Int} {A : Int} : ∀ (n : Nat) (a : Int), 0 ≤ a → (∀ i, a ≤ i → i < a + n → ¬ ok i) → am ok v A (a + n).toNat = am ok v A a.toNat
  | 0, a, _, _ => by rw [show a + ((0 : Nat) : Int) = a by omega]
  | n + 1, a, h0, h => by
    have e := am_f (ok := ok) (v := v) (A := A) (i := a + n) (by omega) (fun z => h (a + n) (by omega) (by omega) z.1)
    rw [show a + ((n + 1 : Nat) : Int) = a + n + 1 by omega, e]
    exact am_skip n a h0 (fun i a1 a2 => h i a1 (by omega))
/-- the names that went, or came -/
def oN (G : AI) (u w k : Int) : Prop := 0 ≤ G 122 (16 * u + k) ∧ G 122 (16 * w + k) < 0
noncomputable def alk (G : AI) (t u : Int) : Int := if 2 * lcs G t u < (if G 117 t < G 117 u then G 117 u else G 117 t) then 0 else lcs G t u
/-- the best pair of those that are left -/
noncomputable def bp (o w : Int → Prop) (al : Int → Int → Int) (n : Nat) : Int × Int := am (fun z => o (z / 16) ∧ w (z % 16)) (fun z => -(al (z / 16) (z % 16))) 0 n
noncomputable def rn (al : Int → Int → Int) (x : Int) : Nat → (Int → Prop) → (Int → Prop) → Int
  | 0, _, _ => -1
  | n + 1, o, w => if (bp o w al 256).1 < 0 then -1 else if (bp o w al 256).1 % 16 = x then (bp o w al 256).1 / 16 else rn al x n (fun k => o k ∧ k ≠ (bp o w al 256).1 / 16) (fun k => w k ∧ k ≠ (bp o w al 256).1 % 16)
theorem bp_cg {o w o' w' : Int → Prop} {al : Int → Int → Int} (n : Nat) (hn : n ≤ 256) (h1 : ∀ k, 0 ≤ k → k < 16 → (o k ↔ o' k)) (h2 : ∀ k, 0 ≤ k → k < 16 → (w k ↔ w' k)) : bp o w al n = bp o' w' al n := by
  have z := am_cg (ok := fun z => o (z / 16) ∧ w (z % 16)) (ok' := fun z => o' (z / 16) ∧ w' (z % 16)) (v := fun z => -(al (z / 16) (z % 16))) (v' := fun z => -(al (z / 16) (z % 16))) (A := 0) (B := 0) n (fun i a c => by rw [h1 (i / 16) (by omega) (by omega), h2 (i % 16) (by omega) (by omega)]) (fun i _ _ _ => Or.inr ⟨rfl, rfl⟩)
  refine Prod.ext z.1 ?_
  rcases z.2 with y | y
  · exact y
  · exact y.1.trans y.2.symm
theorem rn_cg {al : Int → Int → Int} {x : Int} : ∀ (n : Nat) (o w o' w' : Int → Prop), (∀ k, 0 ≤ k → k < 16 → (o k ↔ o' k)) → (∀ k, 0 ≤ k → k < 16 → (w k ↔ w' k)) → rn al x n o w = rn al x n o' w'
  | 0, _, _, _, _, _, _ => rfl
  | n + 1, o, w, o', w', h1, h2 => by
    unfold rn
    rw [bp_cg 256 (Nat.le_refl _) h1 h2]
    rw [rn_cg n _ _ (fun k => o' k ∧ k ≠ (bp o' w' al 256).1 / 16) (fun k => w' k ∧ k ≠ (bp o' w' al 256).1 % 16) (fun k a c => by rw [h1 k a c]) (fun k a c => by rw [h2 k a c])]
theorem bp_bd (o w : Int → Prop) (al : Int → Int → Int) : (bp o w al 256).1 = -1 ∧ (bp o w al 256).2 = 0 ∨ ((0 ≤ (bp o w al 256).1 ∧ (bp o w al 256).1 < 256) ∧ (o ((bp o w al 256).1 / 16) ∧ w ((bp o w al 256).1 % 16)) ∧ (bp o w al 256).2 < 0) := by
  rcases am_bd (fun z => o (z / 16) ∧ w (z % 16)) (fun z => -(al (z / 16) (z % 16))) 0 256 with ⟨z1, z2, -⟩ | ⟨z1, z2, -, z4⟩
  · exact Or.inl ⟨z1, z2⟩
  · exact Or.inr ⟨z1, z2, z4⟩
section
variable {L : Nat} {b : Bool} {I G : AI} {J : AJ}
def rdA (G : AI) (u w n : Int) : Prop := ∀ k, 0 ≤ k → k < n → (oN G u w k → rdR G (G 122 (16 * u + k))) ∧ (oN G w u k → rdR G (G 122 (16 * w + k)))
theorem c86R (hT : RT I G) (hS : RS I G) {u w : Int} (hu : 0 ≤ u ∧ u < G 115 10) (hw : 0 ≤ w ∧ w < G 115 10) : (fun r => ∃ I', r = some (vi (bI (rdA G u w 16)), hp L b I' J) ∧ Same [105, 106] I I' ∧ ∀ k, 0 ≤ k → k < 16 → I' 105 k = bI (oN G u w k) ∧ I' 106 k = bI (oN G w u k)) (evc 86 [vr 104, vi u, vi w] (hp L b I J)) := by
  rw [n86, s86_0]
  refine lp (lo := 0) (hi := 16) (F := fun i (z : Int × AI) => ev 86 5 [some (vr 104), some (vi u), some (vi w), some (vi z.1), some (vi i), none, none] [] (hp L b z.2 J)) (Q := fun r => ∃ I', r = some (vi (bI (rdA G u w 16)), hp L b I' J) ∧ Same [105, 106] I I' ∧ ∀ k, 0 ≤ k → k < 16 → I' 105 k = bI (oN G u w k) ∧ I' 106 k = bI (oN G w u k)) (fun i z => z.1 = bI (rdA G u w i) ∧ Same [105, 106] I z.2 ∧ ∀ k, 0 ≤ k → k < i → z.2 105 k = bI (oN G u w k) ∧ z.2 106 k = bI (oN G w u k)) ?_ ?_ 0 (1, I) (Int.le_refl _) (by decide) ⟨(bI_t (show rdA G u w 0 from fun k a c => by omega)).symm, Same.rf, fun k a c => by omega⟩
  · rintro i ⟨y, X⟩ g1 g2 ⟨v1, v2, v3⟩
    dsimp only at v1 v2 v3
    right
    have hSX : RS X G := hS.cg (fun c z => v2 c (by revert c; decide)) (fun _ _ => rfl) rfl rfl
    have ru := ((hS.2.2.1 u hu.1 hu.2).2 i g1 g2).2.1
    have rw' := ((hS.2.2.1 w hw.1 hw.2).2 i g1 g2).2.1
    generalize hY : upI (upI X 105 i (bI (oN G u w i))) 106 i (bI (oN G w u i)) = Y
    have y105 : Y 105 i = bI (oN G u w i) := by rw [← hY, upI_c (by decide), upI_s]
    have y106 : Y 106 i = bI (oN G w u i) := by rw [← hY, upI_s]
    have sY : Same [105, 106] I Y := by rw [← hY]; exact (v2.up (by simp)).up (by simp)
    have hTY : RT Y G := hT.cg (fun c z => sY c (by revert c; decide)) (fun _ _ => rfl) rfl
    have up : rdA G u w (i + 1) ↔ rdA G u w i ∧ ((oN G u w i → rdR G (G 122 (16 * u + i))) ∧ (oN G w u i → rdR G (G 122 (16 * w + i)))) := by
      constructor
      · intro h; exact ⟨fun k a c => h k a (by omega), h i g1 (by omega)⟩
      · rintro ⟨h, h'⟩ k a c
        by_cases e : k = i
        · rw [e]; exact h'
        · exact h k a (by omega)
    have rows : ∀ k, 0 ≤ k → k < i + 1 → Y 105 k = bI (oN G u w k) ∧ Y 106 k = bI (oN G w u k) := fun k a c => by
      by_cases e : k = i
      · rw [e]; exact ⟨y105, y106⟩
      · rw [← hY, upI_c (show 105 ≠ 106 by decide), upI_i e, upI_i e, upI_c (show 106 ≠ 105 by decide)]; exact v3 k a (by omega)
    have nxt : ∀ (z : Int), ev 86 130 [some (vr 104), some (vi u), some (vi w), some (vi z), some (vi i), none, none] [] (hp L b Y J) = ev 86 5 [some (vr 104), some (vi u), some (vi w), some (vi z), some (vi (i + 1)), none, none] [] (hp L b Y J) := fun z => by
      rw [s86_130]
      simp (disch := first | assumption | omega) only [↓gd_t, ↓if_pos, ↓if_neg, Option.bind_some, true_or, true_and, gd_t]
    have st0 : ev 86 5 [some (vr 104), some (vi u), some (vi w), some (vi y), some (vi i), none, none] [] (hp L b X J) = ev 86 34 [some (vr 104), some (vi u), some (vi w), some (vi y), some (vi i), some (vi (G 122 (16 * u + i))), none] [vi (G 122 (16 * w + i))] (hp L b X J) := by
      rw [s86_5, if_neg (by omega), c43R hSX hu ⟨g1, g2⟩]
      simp only [Option.bind_some]
      rw [s86_22, c43R hSX hw ⟨g1, g2⟩]
      simp only [Option.bind_some]
    have bd2 := bI_o (rdA G u w i)
    by_cases co : oN G u w i
    · have nn : ¬ oN G w u i := fun z => by unfold oN at co z; omega
      have co1 := co.1
      have co2 := co.2
      rw [bI_t co] at y105
      rw [bI_f nn] at y106
      rw [bI_t co, bI_f nn] at hY
      have st1 : ev 86 5 [some (vr 104), some (vi u), some (vi w), some (vi y), some (vi i), none, none] [] (hp L b X J) = ev 86 103 [some (vr 104), some (vi u), some (vi w), some (vi y), some (vi i), none, some (vi (G 122 (16 * w + i)))] [vi (bI (rdR G (G 122 (16 * u + i))))] (hp L b Y J) := by
        rw [st0, s86_34, if_neg (by omega), if_neg (by omega), s86_59, gd_t (by omega), if_pos (by omega), s86_82, s86_83, gd_t (by omega), hY, gd_t (by omega), y105, if_neg (by decide), c66R hTY]
        simp only [Option.bind_some]
      by_cases r : rdR G (G 122 (16 * u + i))
      · refine ⟨(y, Y), ?_, ?_, sY, rows⟩
        · try dsimp only
          rw [st1, bI_t r, s86_103, if_neg (by decide), s86_106, y106]
          simp (disch := first | assumption | omega) only [↓gd_t, ↓if_pos, ↓if_neg, Option.bind_some, true_or, true_and, gd_t]
          exact nxt y
        · show y = _
          rw [v1]
          exact bI_cg ⟨fun z => up.mpr ⟨z, fun _ => r, fun z => absurd z nn⟩, fun z => (up.mp z).1⟩
      · refine ⟨(0, Y), ?_, ?_, sY, rows⟩
        · try dsimp only
          rw [st1, bI_f r, s86_103, if_pos rfl, s86_128]
          exact nxt 0
        · show (0 : Int) = _
          rw [bI_f (fun z => r ((up.mp z).2.1 co))]
    · by_cases cn : oN G w u i
      · have cn1 := cn.1
        have cn2 := cn.2
        rw [bI_f co] at y105
        rw [bI_t cn] at y106
        rw [bI_f co, bI_t cn] at hY
        have st1 : ev 86 5 [some (vr 104), some (vi u), some (vi w), some (vi y), some (vi i), none, none] [] (hp L b X J) = ev 86 125 [some (vr 104), some (vi u), some (vi w), some (vi y), some (vi i), none, none] [vi (bI (rdR G (G 122 (16 * w + i))))] (hp L b Y J) := by
          rw [st0, s86_34, if_pos (by omega), s86_58, s86_59, gd_t (by omega), if_neg (by omega), if_neg (by omega), s86_83, gd_t (by omega), hY, gd_t (by omega), y105, if_pos rfl, s86_106, gd_t (by omega), y106, if_neg (by decide), c66R hTY]
          simp only [Option.bind_some]
        by_cases r : rdR G (G 122 (16 * w + i))
        · refine ⟨(y, Y), ?_, ?_, sY, rows⟩
          · try dsimp only
            rw [st1, bI_t r, s86_125, if_pos (by decide)]
            exact nxt y
          · show y = _
            rw [v1]
            exact bI_cg ⟨fun z => up.mpr ⟨z, fun z => absurd z co, fun _ => r⟩, fun z => (up.mp z).1⟩
        · refine ⟨(0, Y), ?_, ?_, sY, rows⟩
          · try dsimp only
            rw [st1, bI_f r, s86_125, if_neg (by decide), s86_128]
            exact nxt 0
          · show (0 : Int) = _
            rw [bI_f (fun z => r ((up.mp z).2.2 cn))]
      · rw [bI_f co] at y105
        rw [bI_f cn] at y106
        rw [bI_f co, bI_f cn] at hY
        refine ⟨(y, Y), ?_, ?_, sY, rows⟩
        · try dsimp only
          have st1 : ev 86 83 [some (vr 104), some (vi u), some (vi w), some (vi y), some (vi i), some (vi (G 122 (16 * u + i))), some (vi (G 122 (16 * w + i)))] [vi 0, vi i, vr 106] (hp L b (upI X 105 i 0) J) = ev 86 5 [some (vr 104), some (vi u), some (vi w), some (vi y), some (vi (i + 1)), none, none] [] (hp L b Y J) := by
            rw [s86_83, gd_t (by omega), hY, gd_t (by omega), y105, if_pos rfl, s86_106, gd_t (by omega), y106, if_pos rfl]
            exact nxt y
          unfold oN at co cn
          rw [st0, s86_34]
          by_cases z : G 122 (16 * u + i) = -1
          · rw [if_pos z, s86_58, s86_59, gd_t (by omega), if_neg (by omega), if_pos (by omega), s86_82]
            exact st1
          · rw [if_neg z, if_pos (by omega), s86_58, s86_59, gd_t (by omega), if_pos z, s86_82]
            exact st1
        · show y = _
          rw [v1]
          exact bI_cg ⟨fun z => up.mpr ⟨z, fun z => absurd z co, fun z => absurd z cn⟩, fun z => (up.mp z).1⟩
  · rintro ⟨y, X⟩ ⟨v1, v2, v3⟩
    dsimp only at v1 v2 v3
    refine ⟨X, ?_, v2, v3⟩
    try dsimp only
    rw [s86_5, v1, bI_g]
    simp (disch := first | assumption | omega) only [↓gd_t, ↓if_pos, ↓if_neg, Option.bind_some, true_or, true_and, gd_t]
/-- the class's best pair -/
theorem c87R (hT : RT I G) (hC : RC I G) (hS : RS I G) {u w : Int} (hu : 0 ≤ u ∧ u < G 115 10) (hw : 0 ≤ w ∧ w < G 115 10) {o n : Int → Prop} (h1 : ∀ k, 0 ≤ k → k < 16 → I 105 k = bI (o k) ∧ (o k → oN G u w k)) (h2 : ∀ k, 0 ≤ k → k < 16 → I 106 k = bI (n k) ∧ (n k → oN G w u k)) : (fun r => ∃ (b' : Bool) (I' : AI), r = some (vi (bp o n (fun k l => alk G (G 122 (16 * u + k)) (G 122 (16 * w + l))) 256).1, hp L b' I' J) ∧ Same [2, 13, 14, 15, 16, 161] I I' ∧ RC I' G) (evc 87 [vr 104, vi u, vi w] (hp L b I J)) := by
  have t0 := hT.1.1
  rw [n87, s87_0]
  have divmod : ∀ k l : Int, 0 ≤ l → l < 16 → (16 * k + l) / 16 = k ∧ (16 * k + l) % 16 = l := fun k l a c => by omega
  refine lp (lo := 0) (hi := 16) (F := fun k (z : (Int × Int) × Bool × AI) => ev 87 8 [some (vr 104), some (vi u), some (vi w), some (vi z.1.1), some (vi (-z.1.2)), some (vi k), none, none, none, none] [] (hp L z.2.1 z.2.2 J)) (Q := fun r => ∃ (b' : Bool) (I' : AI), r = some (vi (bp o n (fun k l => alk G (G 122 (16 * u + k)) (G 122 (16 * w + l))) 256).1, hp L b' I' J) ∧ Same [2, 13, 14, 15, 16, 161] I I' ∧ RC I' G) (fun k z => z.1 = bp o n (fun k l => alk G (G 122 (16 * u + k)) (G 122 (16 * w + l))) (16 * k).toNat ∧ Same [2, 13, 14, 15, 16, 161] I z.2.2 ∧ RC z.2.2 G) ?_ ?_ 0 ((-1, 0), b, I) (Int.le_refl _) (by decide) ⟨rfl, Same.rf, hC⟩
  · rintro k ⟨⟨be, mo⟩, b2, X⟩ k1 k2 ⟨v1, v2, v3⟩
    dsimp only at v1 v2 v3
    right
    have key : (fun r => ∃ (z : (Int × Int) × Bool × AI), r = ev 87 138 [some (vr 104), some (vi u), some (vi w), some (vi z.1.1), some (vi (-z.1.2)), some (vi k), none, none, none, none] [] (hp L z.2.1 z.2.2 J) ∧ z.1 = bp o n (fun k l => alk G (G 122 (16 * u + k)) (G 122 (16 * w + l))) (16 * (k + 1)).toNat ∧ Same [2, 13, 14, 15, 16, 161] I z.2.2 ∧ RC z.2.2 G) (ev 87 18 [some (vr 104), some (vi u), some (vi w), some (vi be), some (vi (-mo)), some (vi k), some (vi 0), none, none, none] [] (hp L b2 X J)) := by
      by_cases ko : o k
      · refine lp (lo := 0) (hi := 16) (F := fun l (z : (Int × Int) × Bool × AI) => ev 87 18 [some (vr 104), some (vi u), some (vi w), some (vi z.1.1), some (vi (-z.1.2)), some (vi k), some (vi l), none, none, none] [] (hp L z.2.1 z.2.2 J)) (Q := fun r => ∃ (z : (Int × Int) × Bool × AI), r = ev 87 138 [some (vr 104), some (vi u), some (vi w), some (vi z.1.1), some (vi (-z.1.2)), some (vi k), none, none, none, none] [] (hp L z.2.1 z.2.2 J) ∧ z.1 = bp o n (fun k l => alk G (G 122 (16 * u + k)) (G 122 (16 * w + l))) (16 * (k + 1)).toNat ∧ Same [2, 13, 14, 15, 16, 161] I z.2.2 ∧ RC z.2.2 G) (fun l z => z.1 = bp o n (fun k l => alk G (G 122 (16 * u + k)) (G 122 (16 * w + l))) (16 * k + l).toNat ∧ Same [2, 13, 14, 15, 16, 161] I z.2.2 ∧ RC z.2.2 G) ?_ ?_ 0 ((be, mo), b2, X) (Int.le_refl _) (by decide) ⟨by rw [Int.add_zero]; exact v1, v2, v3⟩
        · rintro l ⟨⟨be, mo⟩, b3, Y⟩ l1 l2 ⟨w1, w2, w3⟩
          dsimp only at w1 w2 w3
          right
          have hTY : RT Y G := hT.cg (fun c z => w2 c (by revert c; decide)) (fun _ _ => rfl) rfl
          have hSY : RS Y G := hS.cg (fun c z => w2 c (by revert c; decide)) (fun _ _ => rfl) rfl rfl
          have y105 : Y 105 k = 1 := by rw [w2 105 (by decide), (h1 k k1 k2).1, bI_t ko]
          have y106 : Y 106 l = bI (n l) := by rw [w2 106 (by decide)]; exact (h2 l l1 l2).1
          have dm := divmod k l l1 l2
          have nxt : ∀ (r : Int × Int) (b4 : Bool) (Z : AI), ev 87 132 [some (vr 104), some (vi u), some (vi w), some (vi r.1), some (vi (-r.2)), some (vi k), some (vi l), none, none, none] [] (hp L b4 Z J) = ev 87 18 [some (vr 104), some (vi u), some (vi w), some (vi r.1), some (vi (-r.2)), some (vi k), some (vi (l + 1)), none, none, none] [] (hp L b4 Z J) := fun r b4 Z => by
            rw [s87_132]
            simp (disch := first | assumption | omega) only [↓gd_t, ↓if_pos, ↓if_neg, Option.bind_some, true_or, true_and, gd_t]
          have mb := am_bd (fun z => o (z / 16) ∧ n (z % 16)) (fun z => -((fun k l => alk G (G 122 (16 * u + k)) (G 122 (16 * w + l))) (z / 16) (z % 16))) 0 (16 * k + l).toNat
          by_cases nl : n l
          · have ok := (h1 k k1 k2).2 ko
            have on := (h2 l l1 l2).2 nl
            have ru := ((hS.2.2.1 u hu.1 hu.2).2 k k1 k2).2.1
            have rw' := ((hS.2.2.1 w hw.1 hw.2).2 l l1 l2).2.1
            have ht : 0 ≤ G 122 (16 * u + k) ∧ G 122 (16 * u + k) < G 115 5 := ⟨ok.1, ru.2⟩
            have hv : 0 ≤ G 122 (16 * w + l) ∧ G 122 (16 * w + l) < G 115 5 := ⟨on.1, rw'.2⟩
            obtain ⟨b4, Z, q1, q2, q3⟩ := c77 (L := L) (b := b3) (J := J) hTY.rl w3 ht hv
            have lb := lcs_bd hT.rl ht hv
            have z1 := rl1 hT.rl ht.1 ht.2
            have z2 := rl1 hT.rl hv.1 hv.2
            have e8 : Z 8 = I 8 := by rw [q2 8 (by decide), w2 8 (by decide)]
            have st : ev 87 18 [some (vr 104), some (vi u), some (vi w), some (vi be), some (vi (-mo)), some (vi k), some (vi l), none, none, none] [] (hp L b3 Y J) = ev 87 80 [some (vr 104), some (vi u), some (vi w), some (vi be), some (vi (-mo)), some (vi k), some (vi l), some (vi (G 122 (16 * u + k))), some (vi (G 122 (16 * w + l))), none] [vi (lcs G (G 122 (16 * u + k)) (G 122 (16 * w + l)))] (hp L b4 Z J) := by
              rw [s87_18, if_neg (by omega), gd_t (by omega), y105, if_neg (by decide), gd_t (by omega), y106, bI_t nl, if_neg (by decide), c43R hSY hu ⟨k1, k2⟩]
              simp only [Option.bind_some]
              rw [s87_55, c43R hSY hw ⟨l1, l2⟩]
              simp only [Option.bind_some]
              rw [s87_67, q1]
              simp only [Option.bind_some]
            have e5 : bp o n (fun k l => alk G (G 122 (16 * u + k)) (G 122 (16 * w + l))) (16 * k + l).toNat = (be, mo) := w1.symm
            have mo0 : mo ≤ 0 ∧ -24 ≤ mo := by
              have e6 : am (fun z => o (z / 16) ∧ n (z % 16)) (fun z => -((fun k l => alk G (G 122 (16 * u + k)) (G 122 (16 * w + l))) (z / 16) (z % 16))) 0 (16 * k + l).toNat = (be, mo) := e5
              rw [e6] at mb
              rcases mb with ⟨-, m2, -⟩ | ⟨m1, m2, m3, m4⟩
              · have m2 : mo = 0 := m2
                omega
              · have m4 : mo < 0 := m4
                have m1 : 0 ≤ be ∧ be < (16 * k + l).toNat := m1
                have m3 : mo = -(alk G (G 122 (16 * u + be / 16)) (G 122 (16 * w + be % 16))) := m3
                have m2 : o (be / 16) ∧ n (be % 16) := m2
                have a1 := (h1 (be / 16) (by omega) (by omega)).2 m2.1
                have a2 := (h2 (be % 16) (by omega) (by omega)).2 m2.2
                have r1 := ((hS.2.2.1 u hu.1 hu.2).2 (be / 16) (by omega) (by omega)).2.1
                have r2 := ((hS.2.2.1 w hw.1 hw.2).2 (be % 16) (by omega) (by omega)).2.1
                have lb' := lcs_bd hT.rl (t := G 122 (16 * u + be / 16)) (u := G 122 (16 * w + be % 16)) ⟨a1.1, r1.2⟩ ⟨a2.1, r2.2⟩
                have z3 := rl1 hT.rl (t := G 122 (16 * u + be / 16)) a1.1 r1.2
                have : alk G (G 122 (16 * u + be / 16)) (G 122 (16 * w + be % 16)) ≤ 24 := by
                  unfold alk
                  split <;> omega
                omega
            have okz : (fun z => o (z / 16) ∧ n (z % 16)) (16 * k + l) := by show o _ ∧ n _; rw [dm.1, dm.2]; exact ⟨ko, nl⟩
            by_cases c : -(alk G (G 122 (16 * u + k)) (G 122 (16 * w + l))) < mo
            · refine ⟨((k * 16 + l, -(alk G (G 122 (16 * u + k)) (G 122 (16 * w + l)))), b4, Z), ?_, ?_, w2.tr q2, q3⟩
              · try dsimp only
                unfold alk at c ⊢
                have hh : ¬ 2 * lcs G (G 122 (16 * u + k)) (G 122 (16 * w + l)) < (if G 117 (G 122 (16 * u + k)) < G 117 (G 122 (16 * w + l)) then G 117 (G 122 (16 * w + l)) else G 117 (G 122 (16 * u + k))) := fun z => by rw [if_pos z] at c; omega
                rw [if_neg hh] at c ⊢
                rw [st, s87_80, if_neg (by omega), gd_t (by omega), gd_t (by omega), gd_t (by omega), e8, (hT.2.2 _ ht.1 ht.2).1, (hT.2.2 _ hv.1 hv.2).1, if_neg hh, gd_t (by omega), gd_t (by omega)]
                have := nxt (k * 16 + l, -(lcs G (G 122 (16 * u + k)) (G 122 (16 * w + l)))) b4 Z
                simp only [Int.neg_neg] at this ⊢
                exact this
              · show (k * 16 + l, _) = bp o n (fun k l => alk G (G 122 (16 * u + k)) (G 122 (16 * w + l))) (16 * k + (l + 1)).toNat
                rw [show 16 * k + (l + 1) = 16 * k + l + 1 by omega]
                have := am_t (ok := fun z => o (z / 16) ∧ n (z % 16)) (v := fun z => -((fun k l => alk G (G 122 (16 * u + k)) (G 122 (16 * w + l))) (z / 16) (z % 16))) (A := 0) (i := 16 * k + l) (by omega) okz (by show -(alk G (G 122 (16 * u + (16 * k + l) / 16)) (G 122 (16 * w + (16 * k + l) % 16))) < (bp o n (fun k l => alk G (G 122 (16 * u + k)) (G 122 (16 * w + l))) (16 * k + l).toNat).2; rw [dm.1, dm.2, e5]; exact c)
                have this : bp o n (fun k l => alk G (G 122 (16 * u + k)) (G 122 (16 * w + l))) (16 * k + l + 1).toNat = (16 * k + l, -(alk G (G 122 (16 * u + (16 * k + l) / 16)) (G 122 (16 * w + (16 * k + l) % 16)))) := this
                rw [dm.1, dm.2] at this
                rw [show k * 16 + l = 16 * k + l by omega]
                exact this.symm
            · refine ⟨((be, mo), b4, Z), ?_, ?_, w2.tr q2, q3⟩
              · try dsimp only
                rw [st, s87_80]
                by_cases d : lcs G (G 122 (16 * u + k)) (G 122 (16 * w + l)) ≤ -mo
                · rw [if_pos d]; exact nxt (be, mo) b4 Z
                · have hh : 2 * lcs G (G 122 (16 * u + k)) (G 122 (16 * w + l)) < (if G 117 (G 122 (16 * u + k)) < G 117 (G 122 (16 * w + l)) then G 117 (G 122 (16 * w + l)) else G 117 (G 122 (16 * u + k))) := Classical.byContradiction (fun z => by unfold alk at c; rw [if_neg z] at c; omega)
                  rw [if_neg d, gd_t (by omega), gd_t (by omega), gd_t (by omega), e8, (hT.2.2 _ ht.1 ht.2).1, (hT.2.2 _ hv.1 hv.2).1, if_pos hh]
                  exact nxt (be, mo) b4 Z
              · show (be, mo) = bp o n (fun k l => alk G (G 122 (16 * u + k)) (G 122 (16 * w + l))) (16 * k + (l + 1)).toNat
                rw [show 16 * k + (l + 1) = 16 * k + l + 1 by omega, w1]
                refine (am_f (by omega) (fun z => c ?_)).symm
                have z2 : -(alk G (G 122 (16 * u + (16 * k + l) / 16)) (G 122 (16 * w + (16 * k + l) % 16))) < (bp o n (fun k l => alk G (G 122 (16 * u + k)) (G 122 (16 * w + l))) (16 * k + l).toNat).2 := z.2
                rw [dm.1, dm.2, e5] at z2; exact z2
          · refine ⟨((be, mo), b3, Y), ?_, ?_, w2, w3⟩
            · try dsimp only
              rw [s87_18, if_neg (by omega), gd_t (by omega), y105, if_neg (by decide), gd_t (by omega), y106, bI_f nl, if_pos rfl]
              exact nxt (be, mo) b3 Y
            · show (be, mo) = bp o n (fun k l => alk G (G 122 (16 * u + k)) (G 122 (16 * w + l))) (16 * k + (l + 1)).toNat
              rw [show 16 * k + (l + 1) = 16 * k + l + 1 by omega, w1]
              exact (am_f (by omega) (fun z => nl (by have := z.1.2; rw [dm.2] at this; exact this))).symm
        · rintro ⟨⟨be, mo⟩, b3, Y⟩ ⟨w1, w2, w3⟩
          dsimp only at w1 w2 w3
          refine ⟨((be, mo), b3, Y), ?_, by rw [show 16 * (k + 1) = 16 * k + 16 by omega]; exact w1, w2, w3⟩
          try dsimp only
          rw [s87_18, if_pos (Int.le_refl _)]
      · refine ⟨((be, mo), b2, X), ?_, ?_, v2, v3⟩
        · rw [s87_18, if_neg (by decide), gd_t (by omega), v2 105 (by decide), (h1 k k1 k2).1, bI_f ko, if_pos rfl]
        · show (be, mo) = bp o n (fun k l => alk G (G 122 (16 * u + k)) (G 122 (16 * w + l))) (16 * (k + 1)).toNat
          rw [v1]
          have := am_skip (ok := fun z => o (z / 16) ∧ n (z % 16)) (v := fun z => -((fun k l => alk G (G 122 (16 * u + k)) (G 122 (16 * w + l))) (z / 16) (z % 16))) (A := 0) 16 (16 * k) (by omega) (fun i a c z => ko (by have := z.1; rw [show i / 16 = k by omega] at this; exact this))
          rw [show 16 * (k + 1) = 16 * k + ((16 : Nat) : Int) by omega]
          exact this.symm
    obtain ⟨z, y1, y2, y3, y4⟩ := key
    refine ⟨z, ?_, y2, y3, y4⟩
    try dsimp only
    rw [s87_8, if_neg (by omega), y1, s87_138]
    simp (disch := first | assumption | omega) only [↓gd_t, ↓if_pos, ↓if_neg, Option.bind_some, true_or, true_and, gd_t]
  · rintro ⟨⟨be, mo⟩, b2, X⟩ ⟨v1, v2, v3⟩
    dsimp only at v1 v2 v3
    refine ⟨b2, X, ?_, v2, v3⟩
    try dsimp only
    rw [s87_8, if_pos (Int.le_refl _)]
    have v1 : (be, mo) = bp o n (fun k l => alk G (G 122 (16 * u + k)) (G 122 (16 * w + l))) 256 := v1
    rw [← v1]
end
