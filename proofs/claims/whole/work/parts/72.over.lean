/-! the plan over a base: planOver, joinOver -/
noncomputable def pvj (G : AI) (x s t j : Int) : Int := pv G (onS G x j) (onS G s j) (onS G t j)
noncomputable def pvS (G : AI) (x s t j : Int) : MS := mgS G (onS G x j) (onS G s j) (onS G t j)
noncomputable def pvW (G : AI) (x s t j : Int) : Int × (Int → Int) := We (pvS G x s t j) (fun _ => -1)
/-- a text of the plan is gone -/
def gone (G : AI) (x s t : Int) : Prop := ∃ j, (0 ≤ j ∧ j < 16) ∧ pvj G x s t j = -2
noncomputable def clsh (G : AI) (x s t : Int) (n : Nat) : Int := ct (fun j => pvj G x s t j = -3) n
section
variable {L : Nat} {b : Bool} {I : AI} {J : AJ}
def PlC1 (I : AI) (G : AI) (x s t j : Int) : Prop := I 53 j = pvj G x s t j ∧ (pvj G x s t j = -4 → (pvW G x s t j).1 ≤ 24 ∧ RwC I (72 + 2 * j.toNat) (pvW G x s t j).1 (pvW G x s t j).2)
def PlR1 (I : AI) (G : AI) (x s t j : Int) : Prop := PlR I G (onS G x j) (onS G s j) (onS G t j) j
theorem c194R {G : AI} (hG : ∀ c ∈ [116, 117, 118, 119, 120, 122, 125], I c = G c) (h5 : I 115 5 = G 115 5) (hT : TxR I) {x s t : Int} (hx : x < 80 ∧ s < 80 ∧ t < 80) (h1 : ∀ y, 0 ≤ y → (y = x ∨ y = s ∨ y = t) → 0 ≤ G 125 y ∧ G 125 y < 100) (ho : ∀ y j, (y = x ∨ y = s ∨ y = t) → 0 ≤ j → j < 16 → -1 ≤ onS G y j ∧ onS G y j < G 115 5) : (fun r => ∃ I' : AI, r = some (vi (if bI (gone G x s t) = 1 then -1 else clsh G x s t 16), hp L b I' J) ∧ Sm [135, 136, 137, 140, 141, 142, 143, 144, 145, 152, 153, 154] [27, 35, 38] I I' ∧ (¬ gone G x s t → ∀ j, 0 ≤ j → j < 16 → PlR1 I' G x s t j)) (evc 194 [vr 115, vi x, vi s, vi t] (hp L b I J)) := by
  rw [n194, s194_0]
  refine lp (lo := 0) (hi := 16) (F := fun i (z : Int × AI) => ev 194 6 [some (vr 115), some (vi x), some (vi s), some (vi t), some (vi z.1), some (vi i)] [] (hp L b z.2 J)) (Q := fun r => ∃ I' : AI, r = some (vi (if bI (gone G x s t) = 1 then -1 else clsh G x s t 16), hp L b I' J) ∧ Sm [135, 136, 137, 140, 141, 142, 143, 144, 145, 152, 153, 154] [27, 35, 38] I I' ∧ (¬ gone G x s t → ∀ j, 0 ≤ j → j < 16 → PlR1 I' G x s t j)) (fun i z => z.1 = clsh G x s t i.toNat ∧ Sm [135, 136, 137, 140, 141, 142, 143, 144, 145, 152, 153, 154] [27, 35, 38] I z.2 ∧ ∀ j, 0 ≤ j → j < i → pvj G x s t j ≠ -2 ∧ PlR1 z.2 G x s t j) ?_ ?_ 0 (0, I) (Int.le_refl _) (by decide) ⟨rfl, Sm.rf, fun j a c => by omega⟩
  · intro i z g1 g2 ⟨v1, v2, v3⟩
    have hG' : ∀ c ∈ [116, 117, 118, 119, 120, 122, 125], z.2 c = G c := fun c hc => (v2.1 c (by revert c; decide) (by revert c; decide)).trans (hG c hc)
    have h5' : z.2 115 5 = G 115 5 := (v2.2 5 (by decide)).trans h5
    have hT' : TxR z.2 := hT.cg (fun c hc => v2.1 c (by revert c; decide) (by revert c; decide)) (v2.2 5 (by decide))
    have on' : ∀ y, onS z.2 y i = onS G y i := fun y => by unfold onS; rw [hG' 122 (by decide), hG' 125 (by decide)]
    have pv' : pv z.2 (onS G x i) (onS G s i) (onS G t i) = pvj G x s t i := by
      have rd : ∀ y, rdR z.2 y ↔ rdR G y := rdR_cg (fun c hc => hG' c (by revert c; decide)) h5'
      unfold pvj pv
      rw [mgS_cg (hG' 116 (by decide)) (hG' 117 (by decide)), bI_cg (show (rdR z.2 (onS G s i) ∧ rdR z.2 (onS G t i) ∧ (onS G x i = -1 ∨ rdR z.2 (onS G x i))) ↔ (rdR G (onS G s i) ∧ rdR G (onS G t i) ∧ (onS G x i = -1 ∨ rdR G (onS G x i))) by rw [rd, rd, rd])]
    obtain ⟨Y, w1, w2, w3, w4⟩ := c193R (L := L) (b := b) (I := z.2) (J := J) hT' (x := x) (s := s) (t := t) (j := i) ⟨g1, g2⟩ hx (by rw [hG' 125 (by decide)]; exact h1) (on' x) (on' s) (on' t) (by rw [h5']; exact ho x i (Or.inl rfl) g1 g2) (by rw [h5']; exact ho s i (Or.inr (Or.inl rfl)) g1 g2) (by rw [h5']; exact ho t i (Or.inr (Or.inr rfl)) g1 g2)
    unfold PlR at w3
    rw [pv', mgS_cg (hG' 116 (by decide)) (hG' 117 (by decide))] at w3
    rw [pv'] at w1
    by_cases k : pvj G x s t i = -2
    · left
      refine ⟨Y, ?_, v2.tr w2, fun z => absurd ⟨i, ⟨g1, g2⟩, k⟩ z⟩
      try dsimp only
      rw [s194_6, if_neg (by omega), w1, bI_f (fun z => z k)]
      simp only [Option.bind_some]
      rw [s194_22, if_neg (by decide), if_pos (bI_t ⟨i, ⟨g1, g2⟩, k⟩)]
    · right
      have cb := ct_bd (p := fun j => pvj G x s t j = -3) i.toNat
      have cs := ct_s (p := fun j => pvj G x s t j = -3) g1
      unfold clsh at v1
      refine ⟨(clsh G x s t (i + 1).toNat, Y), ?_, rfl, v2.tr w2, fun j a c => ?_⟩
      · try dsimp only
        unfold clsh
        rw [s194_6, if_neg (by omega), w1, bI_t k]
        simp only [Option.bind_some]
        rw [s194_22, if_pos (by decide), gd_t ⟨g1, g2⟩, (w3 k).1, cs]
        by_cases e : pvj G x s t i = -3
        · rw [if_neg (fun z => z e), s194_46, v1, gd_t (by omega), gd_t (by omega), bI_t e]
        · rw [if_pos e, s194_46, v1, gd_t (by omega), gd_t (by omega), bI_f e]
      · by_cases e : j = i
        · rw [e]; exact ⟨k, w3 k⟩
        · have old := v3 j a (by omega)
          have q := w4 j a e
          refine ⟨old.1, ?_, fun y => ?_⟩
          · exact q.1.trans old.2.1
          · have o2 := old.2.2 y
            refine ⟨q.2.1.trans o2.1, fun x' z1 z2 => ?_⟩
            have le : (We (mgS G (onS G x j) (onS G s j) (onS G t j)) (fun _ => -1)).1 ≤ 24 := by
              have y' := y
              unfold pv at y'
              by_cases p1 : bI (onS G s j = onS G t j ∨ onS G t j = onS G x j) = 1
              · rw [if_pos p1] at y'; have := ho s j (Or.inr (Or.inl rfl)) a (by omega); omega
              · rw [if_neg p1] at y'
                by_cases p2 : onS G s j = onS G x j
                · rw [if_pos p2] at y'; have := ho t j (Or.inr (Or.inr rfl)) a (by omega); omega
                · rw [if_neg p2] at y'
                  by_cases p3 : bI (onS G s j = -1 ∨ onS G t j = -1) = 1
                  · rw [if_pos p3] at y'; omega
                  · rw [if_neg p3] at y'
                    by_cases p4 : bI (rdR G (onS G s j) ∧ rdR G (onS G t j) ∧ (onS G x j = -1 ∨ rdR G (onS G x j))) = 1
                    · rw [if_pos p4] at y'
                      by_cases p5 : bI (ct (mC (mgS G (onS G x j) (onS G s j) (onS G t j))) (mN (mgS G (onS G x j) (onS G s j) (onS G t j))) = 0 ∧ (We (mgS G (onS G x j) (onS G s j) (onS G t j)) (fun _ => -1)).1 ≤ 24) = 1
                      · exact (bI_1.mp p5).2
                      · rw [if_neg p5] at y'; omega
                    · rw [if_neg p4] at y'; omega
            exact (q.2.2 x' z1 (by omega)).trans (o2.2 x' z1 z2)
  · intro z ⟨v1, v2, v3⟩
    have ng : ¬ gone G x s t := fun ⟨j, j0, j1⟩ => (v3 j j0.1 j0.2).1 j1
    refine ⟨z.2, ?_, v2, fun _ j j0 j1 => (v3 j j0 j1).2⟩
    try dsimp only
    rw [s194_6, if_pos (Int.le_refl _), if_neg (fun y => ng (bI_1.mp y)), v1]
    rfl
end
