/-! renamed: the rounds, and the call -/
theorem ct_del {p : Int → Prop} {c : Int} : ∀ n : Nat, 0 ≤ c → p c → ct (fun k => p k ∧ k ≠ c) n = ct p n - (if c < n then 1 else 0)
  | 0, h0, _ => by rw [if_neg (by omega)]; rfl
  | n + 1, h0, hc => by
    have ih := ct_del n h0 hc
    show ct _ n + bI (p (n : Int) ∧ (n : Int) ≠ c) = ct p n + bI (p (n : Int)) - _
    rw [ih]
    by_cases e : (n : Int) = c
    · rw [if_neg (by omega), if_pos (by omega), bI_f (fun z => z.2 e), bI_t (show p (n : Int) by rw [e]; exact hc)]; omega
    · rw [bI_cg (show (p (n : Int) ∧ (n : Int) ≠ c) ↔ p (n : Int) from ⟨fun z => z.1, fun z => ⟨z, e⟩⟩)]
      by_cases l : c < n
      · rw [if_pos l, if_pos (by omega)]; omega
      · rw [if_neg l, if_neg (by omega)]; omega
section
variable {L : Nat} {b : Bool} {I G : AI} {J : AJ}
theorem l209 {s x : Int} (h : RnR G s) (hx : 0 ≤ x ∧ x < 16) : ∀ (n : Nat) (U : Int → Int) (X : AI), Sm [135, 136, 137, 156, 157] [27] G X → (∀ k, 0 ≤ k → k < 16 → X 157 k = U k) → ct (fun k => oN G (G 125 (G 126 s)) (G 125 s) k ∧ U k = 0) 16 ≤ n → (X 156 x = -1 ∨ (0 ≤ X 156 x ∧ ¬ (fun k => oN G (G 125 s) (G 125 (G 126 s)) k ∧ U k = 0) x)) → ∃ Y, ev 209 142 [some (vr 115), some (vi s), some (vi x), some (vi 1)] [] (hp L b X J) = some (vi (if 0 ≤ X 156 x then X 156 x else rn (fun k l => alk G (G 122 (16 * G 125 (G 126 s) + k)) (G 122 (16 * G 125 s + l))) x n (fun k => oN G (G 125 (G 126 s)) (G 125 s) k ∧ U k = 0) (fun k => oN G (G 125 s) (G 125 (G 126 s)) k ∧ U k = 0)), hp L b Y J) ∧ Sm [135, 136, 137, 156, 157] [27] G Y := by
  intro n
  induction n with
  | zero =>
    intro U X sX hU hct hm
    obtain ⟨Y, q1, q2⟩ := c210 (L := L) (b := b) (J := J) h sX hU
    rcases q2 with ⟨a1, a2, a3, a4⟩ | ⟨a1, a2, a3, a4⟩
    · refine ⟨Y, ?_, q1⟩
      rw [s209_142, if_neg (by decide), a2]
      simp only [Option.bind_some]
      rw [s209_151, s209_142, if_pos rfl, gd_t hx, a3]
      rcases hm with z | z
      · rw [z]; rfl
      · rw [if_pos z.1]
    · rcases bp_bd (fun k => oN G (G 125 (G 126 s)) (G 125 s) k ∧ U k = 0) (fun k => oN G (G 125 s) (G 125 (G 126 s)) k ∧ U k = 0) (fun k l => alk G (G 122 (16 * G 125 (G 126 s) + k)) (G 122 (16 * G 125 s + l))) with z | ⟨z1, z2, -⟩
      · omega
      · have := ct_pos (p := (fun k => oN G (G 125 (G 126 s)) (G 125 s) k ∧ U k = 0)) (n := 16) (i := (bp (fun k => oN G (G 125 (G 126 s)) (G 125 s) k ∧ U k = 0) (fun k => oN G (G 125 s) (G 125 (G 126 s)) k ∧ U k = 0) (fun k l => alk G (G 122 (16 * G 125 (G 126 s) + k)) (G 122 (16 * G 125 s + l))) 256).1 / 16) (by omega) (by omega) z2.1
        omega
  | succ n ih =>
    intro U X sX hU hct hm
    obtain ⟨Y, q1, q2⟩ := c210 (L := L) (b := b) (J := J) h sX hU
    rcases q2 with ⟨a1, a2, a3, a4⟩ | ⟨a1, a2, a3, a4⟩
    · refine ⟨Y, ?_, q1⟩
      rw [s209_142, if_neg (by decide), a2]
      simp only [Option.bind_some]
      rw [s209_151, s209_142, if_pos rfl, gd_t hx, a3]
      rcases hm with z | z
      · rw [z, if_neg (by decide)]
        unfold rn
        rw [if_pos a1]
      · rw [if_pos z.1]
    · obtain ⟨z1, z2, -⟩ : (0 ≤ (bp (fun k => oN G (G 125 (G 126 s)) (G 125 s) k ∧ U k = 0) (fun k => oN G (G 125 s) (G 125 (G 126 s)) k ∧ U k = 0) (fun k l => alk G (G 122 (16 * G 125 (G 126 s) + k)) (G 122 (16 * G 125 s + l))) 256).1 ∧ (bp (fun k => oN G (G 125 (G 126 s)) (G 125 s) k ∧ U k = 0) (fun k => oN G (G 125 s) (G 125 (G 126 s)) k ∧ U k = 0) (fun k l => alk G (G 122 (16 * G 125 (G 126 s) + k)) (G 122 (16 * G 125 s + l))) 256).1 < 256) ∧ ((fun k => oN G (G 125 (G 126 s)) (G 125 s) k ∧ U k = 0) ((bp (fun k => oN G (G 125 (G 126 s)) (G 125 s) k ∧ U k = 0) (fun k => oN G (G 125 s) (G 125 (G 126 s)) k ∧ U k = 0) (fun k l => alk G (G 122 (16 * G 125 (G 126 s) + k)) (G 122 (16 * G 125 s + l))) 256).1 / 16) ∧ (fun k => oN G (G 125 s) (G 125 (G 126 s)) k ∧ U k = 0) ((bp (fun k => oN G (G 125 (G 126 s)) (G 125 s) k ∧ U k = 0) (fun k => oN G (G 125 s) (G 125 (G 126 s)) k ∧ U k = 0) (fun k l => alk G (G 122 (16 * G 125 (G 126 s) + k)) (G 122 (16 * G 125 s + l))) 256).1 % 16)) ∧ (bp (fun k => oN G (G 125 (G 126 s)) (G 125 s) k ∧ U k = 0) (fun k => oN G (G 125 s) (G 125 (G 126 s)) k ∧ U k = 0) (fun k l => alk G (G 122 (16 * G 125 (G 126 s) + k)) (G 122 (16 * G 125 s + l))) 256).2 < 0 := by
        rcases bp_bd (fun k => oN G (G 125 (G 126 s)) (G 125 s) k ∧ U k = 0) (fun k => oN G (G 125 s) (G 125 (G 126 s)) k ∧ U k = 0) (fun k l => alk G (G 122 (16 * G 125 (G 126 s) + k)) (G 122 (16 * G 125 s + l))) with z | z
        · omega
        · exact z
      have hrn : rn (fun k l => alk G (G 122 (16 * G 125 (G 126 s) + k)) (G 122 (16 * G 125 s + l))) x (n + 1) (fun k => oN G (G 125 (G 126 s)) (G 125 s) k ∧ U k = 0) (fun k => oN G (G 125 s) (G 125 (G 126 s)) k ∧ U k = 0) = if (bp (fun k => oN G (G 125 (G 126 s)) (G 125 s) k ∧ U k = 0) (fun k => oN G (G 125 s) (G 125 (G 126 s)) k ∧ U k = 0) (fun k l => alk G (G 122 (16 * G 125 (G 126 s) + k)) (G 122 (16 * G 125 s + l))) 256).1 % 16 = x then (bp (fun k => oN G (G 125 (G 126 s)) (G 125 s) k ∧ U k = 0) (fun k => oN G (G 125 s) (G 125 (G 126 s)) k ∧ U k = 0) (fun k l => alk G (G 122 (16 * G 125 (G 126 s) + k)) (G 122 (16 * G 125 s + l))) 256).1 / 16 else rn (fun k l => alk G (G 122 (16 * G 125 (G 126 s) + k)) (G 122 (16 * G 125 s + l))) x n (fun k => (fun k => oN G (G 125 (G 126 s)) (G 125 s) k ∧ U k = 0) k ∧ k ≠ (bp (fun k => oN G (G 125 (G 126 s)) (G 125 s) k ∧ U k = 0) (fun k => oN G (G 125 s) (G 125 (G 126 s)) k ∧ U k = 0) (fun k l => alk G (G 122 (16 * G 125 (G 126 s) + k)) (G 122 (16 * G 125 s + l))) 256).1 / 16) (fun k => (fun k => oN G (G 125 s) (G 125 (G 126 s)) k ∧ U k = 0) k ∧ k ≠ (bp (fun k => oN G (G 125 (G 126 s)) (G 125 s) k ∧ U k = 0) (fun k => oN G (G 125 s) (G 125 (G 126 s)) k ∧ U k = 0) (fun k l => alk G (G 122 (16 * G 125 (G 126 s) + k)) (G 122 (16 * G 125 s + l))) 256).1 % 16) := by
        show (if (bp (fun k => oN G (G 125 (G 126 s)) (G 125 s) k ∧ U k = 0) (fun k => oN G (G 125 s) (G 125 (G 126 s)) k ∧ U k = 0) (fun k l => alk G (G 122 (16 * G 125 (G 126 s) + k)) (G 122 (16 * G 125 s + l))) 256).1 < 0 then -1 else _) = _
        rw [if_neg (by omega)]
      rw [hrn]
      generalize (bp (fun k => oN G (G 125 (G 126 s)) (G 125 s) k ∧ U k = 0) (fun k => oN G (G 125 s) (G 125 (G 126 s)) k ∧ U k = 0) (fun k l => alk G (G 122 (16 * G 125 (G 126 s) + k)) (G 122 (16 * G 125 s + l))) 256).1 = be at *
      have dis : be / 16 ≠ be % 16 := fun e => by
        have y1 := z2.1.1
        have y2 := z2.2.1
        rw [e] at y1
        unfold oN at y1 y2; omega
      have u' : ∀ k, 0 ≤ k → k < 16 → Y 157 k = (fun k => if k = be / 16 ∨ k = be % 16 then 1 else U k) k := fun k a c => by
        show _ = if k = be / 16 ∨ k = be % 16 then 1 else U k
        rw [a4 k, hU k a c]
      have eo : ∀ k, (oN G (G 125 (G 126 s)) (G 125 s) k ∧ (if k = be / 16 ∨ k = be % 16 then 1 else U k) = 0) ↔ ((fun k => oN G (G 125 (G 126 s)) (G 125 s) k ∧ U k = 0) k ∧ k ≠ be / 16) := fun k => by
        constructor
        · rintro ⟨y1, y2⟩
          by_cases e : k = be / 16 ∨ k = be % 16
          · rw [if_pos e] at y2; omega
          · rw [if_neg e] at y2; exact ⟨⟨y1, y2⟩, fun w => e (Or.inl w)⟩
        · rintro ⟨⟨y1, y2⟩, y3⟩
          have y4 : k ≠ be % 16 := fun w => by
            have y5 := z2.2.1
            rw [← w] at y5
            unfold oN at y1 y5; omega
          exact ⟨y1, by rw [if_neg (fun w => by rcases w with w | w; exact y3 w; exact y4 w)]; exact y2⟩
      have en : ∀ k, (oN G (G 125 s) (G 125 (G 126 s)) k ∧ (if k = be / 16 ∨ k = be % 16 then 1 else U k) = 0) ↔ ((fun k => oN G (G 125 s) (G 125 (G 126 s)) k ∧ U k = 0) k ∧ k ≠ be % 16) := fun k => by
        constructor
        · rintro ⟨y1, y2⟩
          by_cases e : k = be / 16 ∨ k = be % 16
          · rw [if_pos e] at y2; omega
          · rw [if_neg e] at y2; exact ⟨⟨y1, y2⟩, fun w => e (Or.inr w)⟩
        · rintro ⟨⟨y1, y2⟩, y3⟩
          have y4 : k ≠ be / 16 := fun w => by
            have y5 := z2.1.1
            rw [← w] at y5
            unfold oN at y1 y5; omega
          exact ⟨y1, by rw [if_neg (fun w => by rcases w with w | w; exact y4 w; exact y3 w)]; exact y2⟩
      have c' : ct (fun k => oN G (G 125 (G 126 s)) (G 125 s) k ∧ (fun k => if k = be / 16 ∨ k = be % 16 then 1 else U k) k = 0) 16 ≤ n := by
        rw [ct_cg 16 (q := fun k => (fun k => oN G (G 125 (G 126 s)) (G 125 s) k ∧ U k = 0) k ∧ k ≠ be / 16) (fun k _ _ => eo k), ct_del (p := (fun k => oN G (G 125 (G 126 s)) (G 125 s) k ∧ U k = 0)) 16 (by omega) z2.1, if_pos (by omega)]
        omega
      have hm' : Y 156 x = -1 ∨ (0 ≤ Y 156 x ∧ ¬ (fun k => oN G (G 125 s) (G 125 (G 126 s)) k ∧ (fun k => if k = be / 16 ∨ k = be % 16 then 1 else U k) k = 0) x) := by
        rw [a3 x]
        by_cases e : x = be % 16
        · rw [if_pos e]
          exact Or.inr ⟨by omega, fun w => ((en x).mp w).2 e⟩
        · rw [if_neg e]
          rcases hm with w | w
          · exact Or.inl w
          · exact Or.inr ⟨w.1, fun y => w.2 ((en x).mp y).1⟩
      obtain ⟨Z, w1, w2⟩ := ih (fun k => if k = be / 16 ∨ k = be % 16 then 1 else U k) Y q1 u' c' hm'
      refine ⟨Z, ?_, w2⟩
      rw [s209_142, if_neg (by decide), a2]
      simp only [Option.bind_some]
      rw [s209_151, w1, a3 x]
      by_cases e : x = be % 16
      · rw [if_pos e, if_pos (by omega), if_pos e.symm]
        rcases hm with w | w
        · rw [w]; rfl
        · exact absurd (by rw [e]; exact z2.2) w.2
      · rw [if_neg e, if_neg (show ¬ be % 16 = x from fun w => e w.symm)]
        by_cases f : 0 ≤ X 156 x
        · rw [if_pos f, if_pos f]
        · rw [if_neg f, if_neg f, rn_cg n _ _ (fun k => (fun k => oN G (G 125 (G 126 s)) (G 125 s) k ∧ U k = 0) k ∧ k ≠ be / 16) (fun k => (fun k => oN G (G 125 s) (G 125 (G 126 s)) k ∧ U k = 0) k ∧ k ≠ be % 16) (fun k _ _ => eo k) (fun k _ _ => en k)]
theorem l85 (hT : RT I G) (hS : RS I G) {u w x : Int} (hu : 0 ≤ u ∧ u < G 115 10) (hw : 0 ≤ w ∧ w < G 115 10) (hx : 0 ≤ x ∧ x < 16) : ∀ (n : Nat) (i : Int) (o v : Int → Prop) (b : Bool) (X : AI), (16 - i).toNat = n → 0 ≤ i → Same [2, 13, 14, 15, 16, 161, 105, 106] I X → RC X G → (∀ k, 0 ≤ k → k < 16 → X 105 k = bI (o k) ∧ (o k → oN G u w k)) → (∀ k, 0 ≤ k → k < 16 → X 106 k = bI (v k) ∧ (v k → oN G w u k)) → ∃ (b' : Bool) (Y : AI), ev 85 87 [some (vr 104), none, some (vi x), none, some (vi w), some (vi u), some (vi i), none] [] (hp L b X J) = some (vi (rn (fun k l => alk G (G 122 (16 * u + k)) (G 122 (16 * w + l))) x n o v), hp L b' Y J) ∧ Same [2, 13, 14, 15, 16, 161, 105, 106] I Y ∧ RC Y G := by
  intro n
  induction n with
  | zero =>
    intro i o v b X h0 h1 hX hC k1 k2
    exact ⟨b, X, by rw [s85_87, if_pos (by omega)]; rfl, hX, hC⟩
  | succ n ih =>
    intro i o v b X h0 h1 hX hC k1 k2
    have hTX : RT X G := hT.cg (fun c z => hX c (by revert c; decide)) (fun _ _ => rfl) rfl
    have hSX : RS X G := hS.cg (fun c z => hX c (by revert c; decide)) (fun _ _ => rfl) rfl rfl
    obtain ⟨b2, Y, q1, q2, q3⟩ := c87R (L := L) (b := b) (J := J) hTX hC hSX hu hw k1 k2
    have sY : Same [2, 13, 14, 15, 16, 161, 105, 106] I Y := hX.tr (q2.mono (by simp))
    have st : ev 85 87 [some (vr 104), none, some (vi x), none, some (vi w), some (vi u), some (vi i), none] [] (hp L b X J) = ev 85 102 [some (vr 104), none, some (vi x), none, some (vi w), some (vi u), some (vi i), none] [vi (bp o v (fun k l => alk G (G 122 (16 * u + k)) (G 122 (16 * w + l))) 256).1] (hp L b2 Y J) := by
      rw [s85_87, if_neg (by omega), q1]
      simp only [Option.bind_some]
    have bb := bp_bd o v (fun k l => alk G (G 122 (16 * u + k)) (G 122 (16 * w + l)))
    rw [st]
    unfold rn
    generalize (bp o v (fun k l => alk G (G 122 (16 * u + k)) (G 122 (16 * w + l))) 256) = p at *
    obtain ⟨be, mo⟩ := p
    dsimp only at bb ⊢
    rcases bb with ⟨z1, -⟩ | ⟨z1, z2, -⟩
    · refine ⟨b2, Y, ?_, sY, q3⟩
      rw [if_pos (by omega), s85_102]
      simp (disch := first | assumption | omega) only [↓gd_t, ↓if_pos, ↓if_neg, Option.bind_some, true_or, true_and, gd_t]
    · rw [if_neg (by omega), s85_102, if_pos (by omega), gd_t (by omega)]
      by_cases e : be % 16 = x
      · refine ⟨b2, Y, ?_, sY, q3⟩
        rw [if_pos e, if_neg (fun z => z e), gd_t (by omega)]
      · rw [if_neg e, if_pos e, gd_t (by omega), gd_t (by omega), gd_t (by omega), gd_t (by omega), gd_t (by omega)]
        refine ih (i + 1) (fun k => o k ∧ k ≠ be / 16) (fun k => v k ∧ k ≠ be % 16) b2 _ (by omega) (by omega) ((sY.up (by simp)).up (by simp)) (q3.cg (by rw [upI_c (by decide), upI_c (by decide)]) (fun _ _ => rfl) rfl) (fun k a c => ?_) (fun k a c => ?_)
        · refine ⟨?_, fun z => (k1 k a c).2 z.1⟩
          rw [upI_c (by decide)]
          by_cases f : k = be / 16
          · rw [f, upI_s, bI_f (fun z => z.2 rfl)]
          · rw [upI_i f, q2 105 (by decide), (k1 k a c).1]
            exact bI_cg ⟨fun z => ⟨z, f⟩, fun z => z.1⟩
        · refine ⟨?_, fun z => (k2 k a c).2 z.1⟩
          by_cases f : k = be % 16
          · rw [f, upI_s, bI_f (fun z => z.2 rfl)]
          · rw [upI_i f, upI_c (by decide), q2 106 (by decide), (k2 k a c).1]
            exact bI_cg ⟨fun z => ⟨z, f⟩, fun z => z.1⟩
end
theorem op_renamed (s x : Int) : Op 120 209 [vi s, vi x] := by
  intro L b I J h
  obtain ⟨hT, hC, hU, hD, hB, hS, hP, hH, hF, hM, hJ⟩ := id h
  have p0 := hP.1.1
  have t0 := hT.1.1
  have s0 := hS.1.1
  have hBl : BlR I := ⟨hT.1, hS.shr, hP.spr hH⟩
  by_cases c : (0 ≤ s ∧ s < I 115 16) ∧ 0 ≤ x ∧ x < 16
  · obtain ⟨hs, hx⟩ := c
    have r := hP.2.2.1 s hs.1 hs.2
    have hq := hP.1.2 s hs.1 hs.2
    have cst : evc 120 [vr 1, vi s, vi x] (hp L b I J) = (evc 85 [vr 104, vi s, vi x] (hp L b I J)).bind (fun q => ev 120 27 [none, none, none] (q.1 :: []) q.2) := by
      rw [n120, s120_0, c54R hP, bI_t hs]
      simp only [Option.bind_some]
      rw [s120_8, if_neg (by decide), c131, bI_t hx]
      simp only [Option.bind_some]
      rw [s120_15, if_neg (by decide)]
    have rst : ∀ (b' : Bool) (X : AI), X 115 = I 115 → evc 209 [vr 115, vi s, vi x] (hp L b' X J) = ev 209 12 [some (vr 115), some (vi s), some (vi x), none] [vi 1] (hp L b' X J) := fun b' X e => by
      rw [n209, s209_0, c160, e, bI_t hs]
      simp only [Option.bind_some]
      rw [s209_5, if_neg (by decide), c149, bI_t hx]
      simp only [Option.bind_some]
    by_cases c1 : I 126 s < 0
    · refine ⟨-2, b, I, J, I, ?_, ?_, h, rfl⟩
      · rw [cst, n85, s85_0, gd_t (by omega), r.2.2.1, c54R hP, bI_f (by omega)]
        simp (disch := first | assumption | omega) only [↓gd_t, ↓if_pos, ↓if_neg, Option.bind_some, true_or, true_and, gd_t, s85_18, s120_27]
      · rw [rst b I rfl, s209_12]
        simp (disch := first | assumption | omega) only [↓gd_t, ↓if_pos, ↓if_neg, Option.bind_some, true_or, true_and, gd_t, s209_57]
    · have hp' : 0 ≤ I 126 s ∧ I 126 s < I 115 16 := by omega
      have rp := hP.2.2.1 _ hp'.1 hp'.2
      have hRn : RnR I s := ⟨hBl, hs, by omega⟩
      have c85 : evc 85 [vr 104, vi s, vi x] (hp L b I J) = ev 85 55 [some (vr 104), none, some (vi x), none, some (vi (I 125 s)), some (vi (I 125 (I 126 s))), none, none] [vi (bI (shR I (I 125 s)))] (hp L b I J) := by
        rw [n85, s85_0, gd_t (by omega), r.2.2.1, c54R hP, bI_t hp']
        simp only [Option.bind_some]
        rw [s85_18, if_pos (by decide), gd_t (by omega), gd_t (by omega), r.1, rp.1, c42R hS]
        simp only [Option.bind_some]
      by_cases c2 : I 123 (I 125 s) = 0
      · by_cases c3 : I 123 (I 125 (I 126 s)) = 0
        · obtain ⟨I1, q1, q2, q3⟩ := c86R (L := L) (b := b) (J := J) hT hS rp.2.1 r.2.1
          have c85b : evc 85 [vr 104, vi s, vi x] (hp L b I J) = ev 85 78 [some (vr 104), none, some (vi x), none, some (vi (I 125 s)), some (vi (I 125 (I 126 s))), none, none] [vi (bI (rdA I (I 125 (I 126 s)) (I 125 s) 16))] (hp L b I1 J) := by
            rw [c85, bI_t (show shR I (I 125 s) from ⟨r.2.1, c2⟩), s85_55, if_neg (by decide), c42R hS, bI_t (show shR I (I 125 (I 126 s)) from ⟨rp.2.1, c3⟩)]
            simp only [Option.bind_some]
            rw [s85_67, if_neg (by decide), q1]
            simp only [Option.bind_some]
          -- the reference's look at the names
          have look : ∀ (b' : Bool) (X : AI), (∀ c ∈ [116, 117, 118, 119, 120, 122, 123, 125, 126, 127, 129], X c = I c) → X 115 = I 115 → ∃ Y, Sm [156, 157] [] X Y ∧ (rdA I (I 125 (I 126 s)) (I 125 s) 16 → evc 209 [vr 115, vi s, vi x] (hp L b' X J) = ev 209 142 [some (vr 115), some (vi s), some (vi x), some (vi 1)] [] (hp L b' Y J) ∧ ∀ k, 0 ≤ k → k < 16 → Y 156 k = -1 ∧ Y 157 k = 0) ∧ (¬ rdA I (I 125 (I 126 s)) (I 125 s) 16 → evc 209 [vr 115, vi s, vi x] (hp L b' X J) = some (vi (-2), hp L b' Y J)) := fun b' X e1 e2 => by
            have e0 : evc 209 [vr 115, vi s, vi x] (hp L b' X J) = ev 209 62 [some (vr 115), some (vi s), some (vi x), some (vi 0)] [] (hp L b' X J) := by
              rw [rst b' X e2, s209_12, e1 126 (by decide), e1 125 (by decide), e1 123 (by decide)]
              have s1 := r.2.1
              have s2 := rp.2.1
              simp (disch := first | assumption | omega) only [↓gd_t, ↓if_pos, ↓if_neg, Option.bind_some, true_or, true_and, gd_t]
            rw [e0]
            have hTX : TxR X := hT.1.cg (fun c z => e1 c (by revert c; decide)) (by rw [e2])
            refine lp (lo := 0) (hi := 16) (F := fun k (Z : AI) => ev 209 62 [some (vr 115), some (vi s), some (vi x), some (vi k)] [] (hp L b' Z J)) (Q := fun q => ∃ Y, Sm [156, 157] [] X Y ∧ (rdA I (I 125 (I 126 s)) (I 125 s) 16 → q = ev 209 142 [some (vr 115), some (vi s), some (vi x), some (vi 1)] [] (hp L b' Y J) ∧ ∀ k, 0 ≤ k → k < 16 → Y 156 k = -1 ∧ Y 157 k = 0) ∧ (¬ rdA I (I 125 (I 126 s)) (I 125 s) 16 → q = some (vi (-2), hp L b' Y J))) (fun k Z => Sm [156, 157] [] X Z ∧ rdA I (I 125 (I 126 s)) (I 125 s) k ∧ ∀ j, 0 ≤ j → j < k → Z 156 j = -1 ∧ Z 157 j = 0) ?_ ?_ 0 X (Int.le_refl _) (by decide) ⟨Sm.rf, fun k a d => by omega, fun j a d => by omega⟩
            · intro k Z k1 k2 ⟨v1, v2, v3⟩
              have m : ∀ c ∈ [116, 117, 118, 119, 120, 122, 123, 125, 126, 127, 129], Z c = I c := fun c z => by rw [v1.1 c (by revert c; decide) (by revert c; decide)]; exact e1 c z
              have z5 : Z 115 = I 115 := by funext j; rw [v1.2 j (by simp), e2]
              have hTZ : TxR Z := hT.1.cg (fun c z => m c (by revert c; decide)) (by rw [z5])
              have rd : ∀ t, rdR Z t ↔ rdR I t := rdR_cg (fun c z => m c (by revert c; decide)) (by rw [z5])
              have o := c206 (L := L) (b := b') (J := J) hRn (k := k) ⟨k1, k2⟩ (X := Z) (fun c z => m c (by revert c; decide))
              have a1 := c192R (L := L) (b := b') (J := J) hS.1 (hP.spr hH) (s := I 126 s) (x := k) ⟨by omega, hp'.2⟩ ⟨k1, k2⟩ (X := Z) (fun c z => m c (by revert c; decide))
              have a2 := c192R (L := L) (b := b') (J := J) hS.1 (hP.spr hH) (s := s) (x := k) ⟨by omega, hs.2⟩ ⟨k1, k2⟩ (X := Z) (fun c z => m c (by revert c; decide))
              rw [if_neg (by omega)] at a1 a2
              have s74 : ev 209 62 [some (vr 115), some (vi s), some (vi x), some (vi k)] [] (hp L b' Z J) = ev 209 74 [some (vr 115), some (vi s), some (vi x), some (vi k)] [vi (bI (oN I (I 125 (I 126 s)) (I 125 s) k))] (hp L b' Z J) := by
                rw [s209_62, if_neg (by omega), o.1]
                simp only [Option.bind_some]
              have s101 : ev 209 95 [some (vr 115), some (vi s), some (vi x), some (vi k)] [] (hp L b' Z J) = ev 209 101 [some (vr 115), some (vi s), some (vi x), some (vi k)] [vi (bI (oN I (I 125 s) (I 125 (I 126 s)) k))] (hp L b' Z J) := by
                rw [s209_95, o.2]
                simp only [Option.bind_some]
              have nxt : ev 209 120 [some (vr 115), some (vi s), some (vi x), some (vi k)] [] (hp L b' Z J) = ev 209 62 [some (vr 115), some (vi s), some (vi x), some (vi (k + 1))] [] (hp L b' (upI (upI Z 157 k 0) 156 k (-1)) J) := by
                rw [s209_120]
                simp (disch := first | assumption | omega) only [↓gd_t, ↓if_pos, ↓if_neg, Option.bind_some, true_or, true_and, gd_t]
              have bad : ∀ q, ¬ ((oN I (I 125 (I 126 s)) (I 125 s) k → rdR I (I 122 (16 * I 125 (I 126 s) + k))) ∧ (oN I (I 125 s) (I 125 (I 126 s)) k → rdR I (I 122 (16 * I 125 s + k)))) → q = some (vi (-2), hp L b' Z J) → ∃ Y, Sm [156, 157] [] X Y ∧ (rdA I (I 125 (I 126 s)) (I 125 s) 16 → q = ev 209 142 [some (vr 115), some (vi s), some (vi x), some (vi 1)] [] (hp L b' Y J) ∧ ∀ k, 0 ≤ k → k < 16 → Y 156 k = -1 ∧ Y 157 k = 0) ∧ (¬ rdA I (I 125 (I 126 s)) (I 125 s) 16 → q = some (vi (-2), hp L b' Y J)) := fun q hn hq => ⟨Z, v1, fun z => absurd (z k k1 k2) hn, fun _ => hq⟩
              have good : ((oN I (I 125 (I 126 s)) (I 125 s) k → rdR I (I 122 (16 * I 125 (I 126 s) + k))) ∧ (oN I (I 125 s) (I 125 (I 126 s)) k → rdR I (I 122 (16 * I 125 s + k)))) → Sm [156, 157] [] X (upI (upI Z 157 k 0) 156 k (-1)) ∧ rdA I (I 125 (I 126 s)) (I 125 s) (k + 1) ∧ ∀ j, 0 ≤ j → j < k + 1 → (upI (upI Z 157 k 0) 156 k (-1)) 156 j = -1 ∧ (upI (upI Z 157 k 0) 156 k (-1)) 157 j = 0 := fun hn => by
                refine ⟨(v1.up (by simp) (by decide)).up (by simp) (by decide), fun j a d => ?_, fun j a d => ?_⟩
                · by_cases e : j = k
                  · rw [e]; exact hn
                  · exact v2 j a (by omega)
                · rw [upI_c (show 157 ≠ 156 by decide)]
                  by_cases e : j = k
                  · rw [e, upI_s, upI_s]; exact ⟨rfl, rfl⟩
                  · rw [upI_i e, upI_i e, upI_c (show 156 ≠ 157 by decide)]; exact v3 j a (by omega)
              by_cases d1 : oN I (I 125 (I 126 s)) (I 125 s) k
              · have d2 : ¬ oN I (I 125 s) (I 125 (I 126 s)) k := fun z => by unfold oN at d1 z; omega
                have s92 : ev 209 62 [some (vr 115), some (vi s), some (vi x), some (vi k)] [] (hp L b' Z J) = ev 209 92 [some (vr 115), some (vi s), some (vi x), some (vi k)] [vi (bI (rdR I (I 122 (16 * I 125 (I 126 s) + k))))] (hp L b' Z J) := by
                  rw [s74, bI_t d1, s209_74, if_neg (by decide), gd_t (by omega), m 126 (by decide), a1]
                  simp only [Option.bind_some]
                  rw [s209_89, c137 hTZ, bI_cg (rd _)]
                  simp only [Option.bind_some]
                by_cases d3 : rdR I (I 122 (16 * I 125 (I 126 s) + k))
                · right
                  refine ⟨_, ?_, good ⟨fun _ => d3, fun z => absurd z d2⟩⟩
                  try dsimp only
                  rw [s92, bI_t d3, s209_92, if_neg (by decide), s101, bI_f d2, s209_101, if_pos rfl, nxt]
                · left
                  refine bad _ (fun z => d3 (z.1 d1)) ?_
                  try dsimp only
                  rw [s92, bI_f d3, s209_92, if_pos rfl, s209_117]
              · by_cases d2 : oN I (I 125 s) (I 125 (I 126 s)) k
                · have s114 : ev 209 62 [some (vr 115), some (vi s), some (vi x), some (vi k)] [] (hp L b' Z J) = ev 209 114 [some (vr 115), some (vi s), some (vi x), some (vi k)] [vi (bI (rdR I (I 122 (16 * I 125 s + k))))] (hp L b' Z J) := by
                    rw [s74, bI_f d1, s209_74, if_pos rfl, s101, bI_t d2, s209_101, if_neg (by decide), a2]
                    simp only [Option.bind_some]
                    rw [s209_111, c137 hTZ, bI_cg (rd _)]
                    simp only [Option.bind_some]
                  by_cases d3 : rdR I (I 122 (16 * I 125 s + k))
                  · right
                    refine ⟨_, ?_, good ⟨fun z => absurd z d1, fun _ => d3⟩⟩
                    try dsimp only
                    rw [s114, bI_t d3, s209_114, if_pos (by decide), nxt]
                  · left
                    refine bad _ (fun z => d3 (z.2 d2)) ?_
                    try dsimp only
                    rw [s114, bI_f d3, s209_114, if_neg (by decide), s209_117]
                · right
                  refine ⟨_, ?_, good ⟨fun z => absurd z d1, fun z => absurd z d2⟩⟩
                  try dsimp only
                  rw [s74, bI_f d1, s209_74, if_pos rfl, s101, bI_f d2, s209_101, if_pos rfl, nxt]
            · intro Z ⟨v1, v2, v3⟩
              refine ⟨Z, v1, fun _ => ⟨?_, v3⟩, fun z => absurd v2 z⟩
              try dsimp only
              rw [s209_62, if_pos (Int.le_refl _)]
          by_cases c4 : rdA I (I 125 (I 126 s)) (I 125 s) 16
          · have hT1 : RT I1 I := hT.cg (fun c z => q2 c (by revert c; decide)) (fun _ _ => rfl) rfl
            have hS1 : RS I1 I := hS.cg (fun c z => q2 c (by revert c; decide)) (fun _ _ => rfl) rfl rfl
            have hC1 : RC I1 I := hC.cg (q2 161 (by decide)) (fun _ _ => rfl) rfl
            obtain ⟨b2, I2, w1, w2, w3⟩ := l85 (L := L) (J := J) (x := x) hT1 hS1 rp.2.1 r.2.1 hx 16 0 (fun k => oN I (I 125 (I 126 s)) (I 125 s) k) (fun k => oN I (I 125 s) (I 125 (I 126 s)) k) b I1 rfl (Int.le_refl _) Same.rf hC1 (fun k a d => ⟨(q3 k a d).1, id⟩) (fun k a d => ⟨(q3 k a d).2, id⟩)
            have sI2 : Same [2, 13, 14, 15, 16, 161, 105, 106] I I2 := (q2.mono (by simp)).tr w2
            obtain ⟨Y, y1, y2, -⟩ := look b2 I2 (fun c z => sI2 c (by revert c; decide)) (sI2 115 (by decide))
            obtain ⟨y3, y4⟩ := y2 c4
            -- over what the reference sees
            have sY : Sm [135, 136, 137, 156, 157] [27] (fun c => if c < 115 ∨ c = 161 then Y c else I c) Y := by
              refine ⟨fun c hc hd => ?_, fun j hj => ?_⟩
              · show Y c = if c < 115 ∨ c = 161 then Y c else I c
                by_cases e : c < 115 ∨ c = 161
                · rw [if_pos e]
                · rw [if_neg e, y1.1 c (by simp at hc ⊢; omega) hd]
                  exact sI2 c (by simp; omega)
              · show Y 115 j = (if (115 : Nat) < 115 ∨ (115 : Nat) = 161 then Y 115 else I 115) j
                rw [if_neg (by decide), y1.2 j (by simp), sI2 115 (by decide)]
            have hRn' : RnR (fun c => if c < 115 ∨ c = 161 then Y c else I c) s := hRn
            obtain ⟨Z, z1, z2⟩ := l209 (L := L) (b := b2) (J := J) (x := x) hRn' hx 16 (fun _ => 0) Y sY (fun k a d => (y4 k a d).2) (ct_bd (p := fun k => oN (fun c => if c < 115 ∨ c = 161 then Y c else I c) ((fun c => if c < 115 ∨ c = 161 then Y c else I c) 125 ((fun c => if c < 115 ∨ c = 161 then Y c else I c) 126 s)) ((fun c => if c < 115 ∨ c = 161 then Y c else I c) 125 s) k ∧ (0 : Int) = 0) 16).2 (Or.inl (y4 x hx.1 hx.2).1)
            rw [(y4 x hx.1 hx.2).1, if_neg (by decide)] at z1
            have z1 : ev 209 142 [some (vr 115), some (vi s), some (vi x), some (vi 1)] [] (hp L b2 Y J) = some (vi (rn (fun k l => alk I (I 122 (16 * I 125 (I 126 s) + k)) (I 122 (16 * I 125 s + l))) x 16 (fun k => oN I (I 125 (I 126 s)) (I 125 s) k ∧ (0 : Int) = 0) (fun k => oN I (I 125 s) (I 125 (I 126 s)) k ∧ (0 : Int) = 0)), hp L b2 Z J) := z1
            rw [rn_cg 16 _ _ (fun k => oN I (I 125 (I 126 s)) (I 125 s) k) (fun k => oN I (I 125 s) (I 125 (I 126 s)) k) (fun k _ _ => ⟨fun z => z.1, fun z => ⟨z, rfl⟩⟩) (fun k _ _ => ⟨fun z => z.1, fun z => ⟨z, rfl⟩⟩)] at z1
            have hA : Sm [2, 13, 14, 15, 16, 161, 105, 106, 135, 136, 137, 156, 157] [27] I Z := by
              refine ⟨fun c hc hd => ?_, fun j hj => ?_⟩
              · rw [z2.1 c (by simp at hc ⊢; omega) hd]
                show (if c < 115 ∨ c = 161 then Y c else I c) = I c
                by_cases e : c < 115 ∨ c = 161
                · rw [if_pos e, y1.1 c (by simp at hc ⊢; omega) hd]; exact sI2 c (by simp at hc ⊢; omega)
                · rw [if_neg e]
              · exact z2.2 j hj
            refine ⟨_, b2, I2, J, Z, ?_, y3.trans z1, ?_⟩
            · rw [cst, c85b, bI_t c4, s85_78, if_pos (by decide), w1]
              simp only [Option.bind_some]
              rw [s120_27]
            · have zc : Z 161 = I2 161 := by
                rw [z2.1 161 (by decide) (by decide)]
                show (if (161 : Nat) < 115 ∨ (161 : Nat) = 161 then Y 161 else I 161) = I2 161
                rw [if_pos (by decide), y1.1 161 (by decide) (by decide)]
              exact ⟨⟨RT.cg (h.1) (fun c z => hA.1 c (by revert c; decide) (by revert c; decide)) (fun c z => hA.1 c (by revert c; decide) (by revert c; decide)) (hA.2 5 (by decide)), w3.cg zc (fun c z => hA.1 c (by revert c; decide) (by revert c; decide)) (hA.2 5 (by decide)), RU.cg (h.2.2.1) (hA.1 11 (by decide) (by decide)) (fun c z => hA.1 c (by revert c; decide) (by revert c; decide)) (hA.2 5 (by decide)), RD.cg (h.2.2.2.1) (fun c z => hA.1 c (by revert c; decide) (by revert c; decide)) (hA.1 121 (by decide) (by decide)) (hA.2 7 (by decide)), RB.cg (h.2.2.2.2.1) (hA.1 5 (by decide) (by decide)) (hA.1 124 (by decide) (by decide)) (hA.2 5 (by decide)), RS.cg (h.2.2.2.2.2.1) (fun c z => hA.1 c (by revert c; decide) (by revert c; decide)) (fun c z => hA.1 c (by revert c; decide) (by revert c; decide)) (hA.2 5 (by decide)) (hA.2 10 (by decide)), RP.cg (h.2.2.2.2.2.2.1) (fun c z => hA.1 c (by revert c; decide) (by revert c; decide)) (fun _ _ => rfl) (fun c z => hA.1 c (by revert c; decide) (by revert c; decide)) (hA.2 10 (by decide)) (hA.2 16 (by decide)), RH.cg (h.2.2.2.2.2.2.2.1) (hA.1 30 (by decide) (by decide)) (fun c z => hA.1 c (by revert c; decide) (by revert c; decide)) (hA.2 16 (by decide)), RF.cg (h.2.2.2.2.2.2.2.2.1) (fun c z => hA.1 c (by revert c; decide) (by revert c; decide)) (fun c z => hA.1 c (by revert c; decide) (by revert c; decide)) (hA.2 30 (by decide)), RM.cg (h.2.2.2.2.2.2.2.2.2.1) (fun c z => hA.1 c (by revert c; decide) (by revert c; decide)) (fun c z => hA.1 c (by revert c; decide) (by revert c; decide)) (fun j z => hA.2 j (by revert j; decide)), RJ.cg (h.2.2.2.2.2.2.2.2.2.2) (fun c z => hA.1 c (by revert c; decide) (by revert c; decide)) (hA.1 155 (by decide) (by decide)) (fun j z => hA.2 j (by revert j; decide))⟩, hA.1 0 (by decide) (by decide)⟩
          · obtain ⟨Y, y1, -, y2⟩ := look b I1 (fun c z => q2 c (by revert c; decide)) (q2 115 (by decide))
            refine ⟨-2, b, I1, J, Y, ?_, y2 c4, rel_ro h (Sm.of2 (es := [105, 106, 156, 157]) q2 y1 (by decide) (by simp) (by simp)) (fun _ _ => rfl) (by decide)⟩
            rw [cst, c85b, bI_f c4]
            simp (disch := first | assumption | omega) only [↓gd_t, ↓if_pos, ↓if_neg, Option.bind_some, true_or, true_and, gd_t, s85_78, s85_81, s120_27]
        · refine ⟨-2, b, I, J, I, ?_, ?_, h, rfl⟩
          · rw [cst, c85, bI_t (show shR I (I 125 s) from ⟨r.2.1, c2⟩), s85_55, if_neg (by decide), c42R hS, bI_f (fun z => c3 z.2)]
            simp (disch := first | assumption | omega) only [↓gd_t, ↓if_pos, ↓if_neg, Option.bind_some, true_or, true_and, gd_t, s85_67, s85_81, s120_27]
          · have s1 := r.2.1
            have s2 := rp.2.1
            rw [rst b I rfl, s209_12]
            simp (disch := first | assumption | omega) only [↓gd_t, ↓if_pos, ↓if_neg, Option.bind_some, true_or, true_and, gd_t, s209_57]
      · refine ⟨-2, b, I, J, I, ?_, ?_, h, rfl⟩
        · rw [cst, c85, bI_f (fun z => c2 z.2)]
          simp (disch := first | assumption | omega) only [↓gd_t, ↓if_pos, ↓if_neg, Option.bind_some, true_or, true_and, gd_t, s85_55, s85_81, s120_27]
        · have s1 := r.2.1
          rw [rst b I rfl, s209_12]
          simp (disch := first | assumption | omega) only [↓gd_t, ↓if_pos, ↓if_neg, Option.bind_some, true_or, true_and, gd_t, s209_57]
  · refine ⟨-2, b, I, J, I, ?_, ?_, h, rfl⟩
    · rw [n120, s120_0, c54R hP]
      by_cases d : 0 ≤ s ∧ s < I 115 16
      · rw [bI_t d]
        simp only [Option.bind_some]
        rw [s120_8, if_neg (by decide), c131, bI_f (fun z => c ⟨d, z⟩)]
        simp (disch := first | assumption | omega) only [↓gd_t, ↓if_pos, ↓if_neg, Option.bind_some, true_or, true_and, gd_t, s120_15, s120_30]
      · rw [bI_f d]
        simp (disch := first | assumption | omega) only [↓gd_t, ↓if_pos, ↓if_neg, Option.bind_some, true_or, true_and, gd_t, s120_8, s120_30]
    · rw [n209, s209_0, c160]
      by_cases d : 0 ≤ s ∧ s < I 115 16
      · rw [bI_t d]
        simp only [Option.bind_some]
        rw [s209_5, if_neg (by decide), c149, bI_f (fun z => c ⟨d, z⟩)]
        simp (disch := first | assumption | omega) only [↓gd_t, ↓if_pos, ↓if_neg, Option.bind_some, true_or, true_and, gd_t, s209_12, s209_57]
      · rw [bI_f d]
        simp (disch := first | assumption | omega) only [↓gd_t, ↓if_pos, ↓if_neg, Option.bind_some, true_or, true_and, gd_t, s209_5, s209_57]
