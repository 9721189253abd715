/-! calls on both sides: join -/
section
variable {L : Nat} {b : Bool} {I : AI} {J : AJ} {G : AI} {s t : Int}
theorem baG_cg {G G' : AI} (hg : ∀ c ∈ [126, 127], G' c = G c) (h16 : G' 115 16 = G 115 16) : baG G' = baG G := by
  unfold baG anR
  rw [hg 126 (by decide), hg 127 (by decide), h16]
theorem pv_v {N o a c : Int} (ha : -1 ≤ a ∧ a < N) (hc : -1 ≤ c ∧ c < N) : pv G o a c = -4 ∨ pv G o a c = -3 ∨ pv G o a c = -2 ∨ (-1 ≤ pv G o a c ∧ pv G o a c < N) := by
  unfold pv
  split
  · omega
  · split
    · omega
    · split
      · omega
      · split
        · split
          · omega
          · omega
        · omega
theorem pr19 (hP : RP I J G) (hs : 0 ≤ s ∧ s < G 115 16) (ht : 0 ≤ t ∧ t < G 115 16) : ∃ J1 : AJ, (∀ c, c ≠ 31 → J1 c = J c) ∧ ((anR G s t ∨ anR G t s) → evc 19 [vr 51, vi s, vi t] (hp L b I J) = some (vi (-2), hp L b I J1)) ∧ (¬ (anR G s t ∨ anR G t s) → evc 19 [vr 51, vi s, vi t] (hp L b I J) = (evc 59 [vr 23, vi s, vi t, vr 52] (hp L b I J1)).bind (fun q => ev 19 62 [some (vr 51), some (vi s), some (vi t), none, none] ([]) q.2)) := by
  have p0 := hP.1.1
  have an : ∀ (J' : AJ) (x y : Int), (∀ c, c ≠ 31 → J' c = J c) → (0 ≤ x ∧ x < G 115 16) → (0 ≤ y ∧ y < G 115 16) → ∃ J2 : AJ, evc 58 [vr 23, vi x, vi y] (hp L b I J') = some (vi (bI (anR G x y)), hp L b I J2) ∧ ∀ c, c ≠ 31 → J2 c = J c := fun J' x y hJ hx hy => by
    obtain ⟨J2, q1, q2⟩ := c58 (L := L) (b := b) (I := I) (J := J') (RP_n hP).2 x y
    have hP' : RP I J' G := hP.cg (fun _ _ => rfl) (fun c z => hJ c (by revert c; decide)) (fun _ _ => rfl) rfl rfl
    refine ⟨J2, ?_, fun c hc => (q2 c hc).trans (hJ c hc)⟩
    rw [q1, bI_cg (show (y < 80 ∧ (0 ≤ x ∧ x < I 23 8) ∧ ab J' x y) ↔ anR G x y from ⟨fun z => (ab_an hP' hx y).mp z.2.2, fun z => ⟨by omega, by rw [hP.2.1]; exact hx, (ab_an hP' hx y).mpr z⟩⟩)]
  obtain ⟨Ja, a1, a2⟩ := an J s t (fun _ _ => rfl) hs ht
  have st : evc 19 [vr 51, vi s, vi t] (hp L b I J) = ev 19 31 [some (vr 51), some (vi s), some (vi t), none, none] [vi (bI (anR G s t))] (hp L b I Ja) := by
    rw [n19, s19_0, c54R hP, bI_t hs]
    simp only [Option.bind_some]
    rw [s19_8, if_neg (by decide), c54R hP, bI_t ht]
    simp only [Option.bind_some]
    rw [s19_19, if_neg (by decide), a1]
    simp only [Option.bind_some]
  by_cases c1 : anR G s t
  · refine ⟨Ja, a2, fun _ => ?_, fun z => absurd (Or.inl c1) z⟩
    rw [st, bI_t c1, s19_31, if_pos (by decide), s19_46]
  · obtain ⟨Jb, b1, b2⟩ := an Ja t s a2 ht hs
    refine ⟨Jb, b2, fun z => ?_, fun z => ?_⟩
    · rw [st, bI_f c1, s19_31, if_neg (by decide), b1, bI_t (z.resolve_left c1)]
      simp only [Option.bind_some]
      rw [s19_43, if_neg (by decide), s19_46]
    · rw [st, bI_f c1, s19_31, if_neg (by decide), b1, bI_f (fun y => z (Or.inr y))]
      simp only [Option.bind_some]
      rw [s19_43, if_pos rfl]
theorem pr198 (hG : ∀ c ∈ [126, 127], I c = G c) (h16 : I 115 16 = G 115 16) (hS : StR G) (hs : 0 ≤ s ∧ s < G 115 16) (ht : 0 ≤ t ∧ t < G 115 16) : ∃ Y : AI, Sm [130, 133] [] I Y ∧ ((anR G s t ∨ anR G t s) → evc 198 [vr 115, vi s, vi t] (hp L b I J) = some (vi (-2), hp L b Y J)) ∧ (¬ (anR G s t ∨ anR G t s) → evc 198 [vr 115, vi s, vi t] (hp L b I J) = (evc 169 [vr 115, vi s, vi t] (hp L b Y J)).bind (fun q => ev 198 43 [some (vr 115), some (vi s), some (vi t), none, none, none, none] ([]) q.2)) := by
  have p0 := hS.1
  have an : ∀ (X : AI) (x y : Int), Sm [130, 133] [] I X → (0 ≤ x ∧ x < G 115 16) → (0 ≤ y ∧ y < G 115 16) → ∃ Z : AI, evc 165 [vr 115, vi y, vi x] (hp L b X J) = some (vi (bI (anR G x y)), hp L b Z J) ∧ Sm [130, 133] [] I Z := fun X x y hX hx hy => by
    have e16 : X 115 16 = G 115 16 := (hX.2 16 (by decide)).trans h16
    have eg : ∀ c ∈ [126, 127], X c = G c := fun c z => (hX.1 c (by revert c; decide) (by revert c; decide)).trans (hG c z)
    obtain ⟨Z, q1, q2⟩ := c165 (L := L) (b := b) (I := X) (J := J) (hS.cg eg e16) (s := x) (t := y) (by rw [e16]; exact hx) (by omega)
    refine ⟨Z, ?_, hX.tr q2⟩
    rw [q1, anR_cg eg]
  obtain ⟨Ya, a1, a2⟩ := an I t s Sm.rf ht hs
  have st : evc 198 [vr 115, vi s, vi t] (hp L b I J) = ev 198 22 [some (vr 115), some (vi s), some (vi t), none, none, none, none] [vi (bI (anR G t s))] (hp L b Ya J) := by
    rw [n198, s198_0, c160, h16, bI_t hs]
    simp only [Option.bind_some]
    rw [s198_5, if_neg (by decide), c160, h16, bI_t ht]
    simp only [Option.bind_some]
    rw [s198_13, if_neg (by decide), a1]
    simp only [Option.bind_some]
  by_cases c1 : anR G t s
  · refine ⟨Ya, a2, fun _ => ?_, fun z => absurd (Or.inr c1) z⟩
    rw [st, bI_t c1, s198_22, if_pos (by decide), s198_34]
  · obtain ⟨Yb, b1, b2⟩ := an Ya s t a2 hs ht
    refine ⟨Yb, b2, fun z => ?_, fun z => ?_⟩
    · rw [st, bI_f c1, s198_22, if_neg (by decide), b1, bI_t (z.resolve_right c1)]
      simp only [Option.bind_some]
      rw [s198_31, if_neg (by decide), s198_34]
    · rw [st, bI_f c1, s198_22, if_neg (by decide), b1, bI_f (fun y => z (Or.inl y))]
      simp only [Option.bind_some]
      rw [s198_31, if_pos rfl]
end
def cJn : List Nat := cOv ++ [6, 7, 8, 9, 10, 51, 55] ++ [130, 131, 132, 133, 134] ++ cRv ++ [116, 117, 118, 119, 120, 155]
def cJm : List Nat := cOv ++ [130, 131, 132, 133, 134] ++ cRv
theorem op_join (s t : Int) : Op 114 198 [vi s, vi t] := by
  intro L b I J h
  obtain ⟨hT, hC, hU, hD, hB, hS, hP, hH, hF, hM, hJ⟩ := id h
  have p0 := hP.1.1
  have t0 := hT.1.1
  have cl : ∀ {v : Int} {I1 : AI} {J1 : AJ}, evc 19 [vr 51, vi s, vi t] (hp L b I J) = some (vi v, hp L b I1 J1) → evc 114 [vr 1, vi s, vi t] (hp L b I J) = some (vi v, hp L b I1 J1) := fun {v I1 J1} e => by
    rw [n114, s114_0, e]
    simp only [Option.bind_some]
    rw [s114_9]
  by_cases hs : 0 ≤ s ∧ s < I 115 16
  · by_cases ht : 0 ≤ t ∧ t < I 115 16
    · obtain ⟨J1, j1, j2, j3⟩ := pr19 (L := L) (b := b) hP hs ht
      by_cases c1 : anR I s t ∨ anR I t s
      · obtain ⟨Y, y1, y2, -⟩ := pr198 (L := L) (b := b) (I := I) (J := J1) (G := I) (fun _ _ => rfl) rfl hP.1 hs ht
        refine ⟨-2, b, I, J1, Y, cl (j2 c1), y2 c1, ⟨⟨RT.cg (h.1) (fun c z => y1.1 c (by revert c; decide) (by revert c; decide)) (fun c z => y1.1 c (by revert c; decide) (by revert c; decide)) (y1.2 5 (by decide)), RC.cg (h.2.1) (y1.1 161 (by decide) (by decide)) (fun c z => y1.1 c (by revert c; decide) (by revert c; decide)) (y1.2 5 (by decide)), RU.cg (h.2.2.1) (y1.1 11 (by decide) (by decide)) (fun c z => y1.1 c (by revert c; decide) (by revert c; decide)) (y1.2 5 (by decide)), RD.cg (h.2.2.2.1) (fun c z => y1.1 c (by revert c; decide) (by revert c; decide)) (y1.1 121 (by decide) (by decide)) (y1.2 7 (by decide)), RB.cg (h.2.2.2.2.1) (y1.1 5 (by decide) (by decide)) (y1.1 124 (by decide) (by decide)) (y1.2 5 (by decide)), RS.cg (h.2.2.2.2.2.1) (fun c z => y1.1 c (by revert c; decide) (by revert c; decide)) (fun c z => y1.1 c (by revert c; decide) (by revert c; decide)) (y1.2 5 (by decide)) (y1.2 10 (by decide)), RP.cg (h.2.2.2.2.2.2.1) (fun c z => y1.1 c (by revert c; decide) (by revert c; decide)) (fun c z => j1 c (by revert c; decide)) (fun c z => y1.1 c (by revert c; decide) (by revert c; decide)) (y1.2 10 (by decide)) (y1.2 16 (by decide)), RH.cg (h.2.2.2.2.2.2.2.1) (y1.1 30 (by decide) (by decide)) (fun c z => y1.1 c (by revert c; decide) (by revert c; decide)) (y1.2 16 (by decide)), RF.cg (h.2.2.2.2.2.2.2.2.1) (fun c z => y1.1 c (by revert c; decide) (by revert c; decide)) (fun c z => y1.1 c (by revert c; decide) (by revert c; decide)) (y1.2 30 (by decide)), RM.cg (h.2.2.2.2.2.2.2.2.2.1) (fun c z => y1.1 c (by revert c; decide) (by revert c; decide)) (fun c z => y1.1 c (by revert c; decide) (by revert c; decide)) (fun j z => y1.2 j (by revert j; decide)), RJ.cg (h.2.2.2.2.2.2.2.2.2.2) (fun c z => y1.1 c (by revert c; decide) (by revert c; decide)) (y1.1 155 (by decide) (by decide)) (fun j z => y1.2 j (by revert j; decide))⟩, y1.1 0 (by decide) (by decide)⟩⟩
      · have hP1 : RP I J1 I := hP.cg (fun _ _ => rfl) (fun c z => j1 c (by revert c; decide)) (fun _ _ => rfl) rfl rfl
        obtain ⟨J2, k1, k2, k3⟩ := c59R (L := L) (b := b) (k := 52) (by decide) (by decide) hP1 hs ht
        have jj : ∀ c ∈ [28, 29], J2 c = J c := fun c z => (k2 c (by revert c; decide) (by revert c; decide)).trans (j1 c (by revert c; decide))
        have hP2 : RP I J2 I := hP.cg (fun _ _ => rfl) jj (fun _ _ => rfl) rfl rfl
        have cls : evc 19 [vr 51, vi s, vi t] (hp L b I J) = ev 19 68 [some (vr 51), some (vi s), some (vi t), none, none] [vi (bI (gn I s t))] (hp L b I J2) := by
          rw [j3 c1, k1]
          simp only [Option.bind_some]
          rw [s19_62, c21R hS hP2 hs ht k3]
          simp only [Option.bind_some]
        -- the reference, behind whatever the class left in its own cells
        have ref : ∀ I1 : AI, (∀ c, 115 ≤ c → c < 161 → I1 c = I c) → ∃ Z : AI, evc 198 [vr 115, vi s, vi t] (hp L b I1 J2) = ev 198 49 [some (vr 115), some (vi s), some (vi t), none, none, none, none] [vi (bI (gn I s t))] (hp L b Z J2) ∧ Sm [130, 131, 132, 133, 134] [23] I1 Z ∧ Z 115 23 = ct (baG I s t) (I 115 16).toNat ∧ ∀ c, 0 ≤ c → c < I 115 16 → baG I s t c → Z 134 (ct (baG I s t) c.toNat) = c := fun I1 o1 => by
          have o115 := o1 115 (by decide) (by decide)
          obtain ⟨Y, y1, -, y3⟩ := pr198 (L := L) (b := b) (I := I1) (J := J2) (G := I) (fun c z => o1 c (by revert c; decide) (by revert c; decide)) (by rw [o115]) hP.1 hs ht
          have e16 : Y 115 16 = I 115 16 := by rw [y1.2 16 (by decide), o115]
          have eg : ∀ c ∈ [126, 127], Y c = I c := fun c z => (y1.1 c (by revert c; decide) (by revert c; decide)).trans (o1 c (by revert c; decide) (by revert c; decide))
          obtain ⟨Z, w1, w2, w3, w4⟩ := c169 (L := L) (b := b) (J := J2) (hP.1.cg eg e16) (s := s) (t := t) (by rw [e16]; exact hs) (by rw [e16]; exact ht)
          rw [baG_cg eg e16, e16] at w3 w4
          refine ⟨Z, ?_, (y1.mono (by decide) (by decide)).tr w2, w3, w4⟩
          rw [y3 c1, w1]
          simp only [Option.bind_some]
          rw [s198_43, c197R hP (fun c z => by
            rw [w2.1 c (by revert c; decide) (by revert c; decide), y1.1 c (by revert c; decide) (by revert c; decide), o1 c (by revert c; decide) (by revert c; decide)]) hs ht (by have := hS.1.1; omega) w3 w4]
          simp only [Option.bind_some]
        by_cases g : gn I s t
        · obtain ⟨Z, z1, z2, -⟩ := ref I (fun _ _ _ => rfl)
          rw [bI_t g] at cls z1
          refine ⟨-2, b, I, J2, Z, cl ?_, ?_, ⟨⟨RT.cg (h.1) (fun c z => z2.1 c (by revert c; decide) (by revert c; decide)) (fun c z => z2.1 c (by revert c; decide) (by revert c; decide)) (z2.2 5 (by decide)), RC.cg (h.2.1) (z2.1 161 (by decide) (by decide)) (fun c z => z2.1 c (by revert c; decide) (by revert c; decide)) (z2.2 5 (by decide)), RU.cg (h.2.2.1) (z2.1 11 (by decide) (by decide)) (fun c z => z2.1 c (by revert c; decide) (by revert c; decide)) (z2.2 5 (by decide)), RD.cg (h.2.2.2.1) (fun c z => z2.1 c (by revert c; decide) (by revert c; decide)) (z2.1 121 (by decide) (by decide)) (z2.2 7 (by decide)), RB.cg (h.2.2.2.2.1) (z2.1 5 (by decide) (by decide)) (z2.1 124 (by decide) (by decide)) (z2.2 5 (by decide)), RS.cg (h.2.2.2.2.2.1) (fun c z => z2.1 c (by revert c; decide) (by revert c; decide)) (fun c z => z2.1 c (by revert c; decide) (by revert c; decide)) (z2.2 5 (by decide)) (z2.2 10 (by decide)), RP.cg (h.2.2.2.2.2.2.1) (fun c z => z2.1 c (by revert c; decide) (by revert c; decide)) jj (fun c z => z2.1 c (by revert c; decide) (by revert c; decide)) (z2.2 10 (by decide)) (z2.2 16 (by decide)), RH.cg (h.2.2.2.2.2.2.2.1) (z2.1 30 (by decide) (by decide)) (fun c z => z2.1 c (by revert c; decide) (by revert c; decide)) (z2.2 16 (by decide)), RF.cg (h.2.2.2.2.2.2.2.2.1) (fun c z => z2.1 c (by revert c; decide) (by revert c; decide)) (fun c z => z2.1 c (by revert c; decide) (by revert c; decide)) (z2.2 30 (by decide)), RM.cg (h.2.2.2.2.2.2.2.2.2.1) (fun c z => z2.1 c (by revert c; decide) (by revert c; decide)) (fun c z => z2.1 c (by revert c; decide) (by revert c; decide)) (fun j z => z2.2 j (by revert j; decide)), RJ.cg (h.2.2.2.2.2.2.2.2.2.2) (fun c z => z2.1 c (by revert c; decide) (by revert c; decide)) (z2.1 155 (by decide) (by decide)) (fun j z => z2.2 j (by revert j; decide))⟩, z2.1 0 (by decide) (by decide)⟩⟩
          · rw [cls, s19_68, if_neg (by decide)]
          · rw [z1, s198_49, if_neg (by decide)]
        · rw [bI_f g] at cls
          have sub : ∀ c, 115 ≤ c → c < 161 → c ∉ cOv := fun c a d => by unfold cOv; simp; omega
          rcases c19m (L := L) (b := b) hT hS hP2 hs ht k3 with ⟨bd, I1, w1, w2⟩ | ⟨bd, I1, w1, w2, w3⟩
          · obtain ⟨Z, z1, z2, z3, z4⟩ := ref I1 (fun c a d => w2 c (sub c a d))
            have z15 := w2 115 (by decide)
            rw [bI_f g] at z1
            rcases c198m (L := L) (b := b) (I := Z) (J := J2) (G := I) hT.1 hS hP hs ht (fun c z => by rw [z2.1 c (by revert c; decide) (by revert c; decide)]; exact w2 c (by revert c; decide)) (by rw [z2.2 5 (by decide), z15]) z3 z4 with ⟨-, I2, u1, u2⟩ | ⟨nb, -⟩
            · have hA : Sm cJm [23, 27, 35, 38] I I2 := ((Same.sm w2 (by decide)).mono (by decide) (by decide)).tr ((z2.mono (by decide) (by decide)).tr (u2.mono (by decide) (by decide)))
              refine ⟨-2, b, I1, J2, I2, cl (by rw [cls]; exact w1), by rw [z1]; exact u1, ⟨⟨RT.cg (h.1) (fun c z => hA.1 c (by revert c; decide) (by revert c; decide)) (fun c z => hA.1 c (by revert c; decide) (by revert c; decide)) (hA.2 5 (by decide)), RC.cg (h.2.1) (hA.1 161 (by decide) (by decide)) (fun c z => hA.1 c (by revert c; decide) (by revert c; decide)) (hA.2 5 (by decide)), RU.cg (h.2.2.1) (hA.1 11 (by decide) (by decide)) (fun c z => hA.1 c (by revert c; decide) (by revert c; decide)) (hA.2 5 (by decide)), RD.cg (h.2.2.2.1) (fun c z => hA.1 c (by revert c; decide) (by revert c; decide)) (hA.1 121 (by decide) (by decide)) (hA.2 7 (by decide)), RB.cg (h.2.2.2.2.1) (hA.1 5 (by decide) (by decide)) (hA.1 124 (by decide) (by decide)) (hA.2 5 (by decide)), RS.cg (h.2.2.2.2.2.1) (fun c z => hA.1 c (by revert c; decide) (by revert c; decide)) (fun c z => hA.1 c (by revert c; decide) (by revert c; decide)) (hA.2 5 (by decide)) (hA.2 10 (by decide)), RP.cg (h.2.2.2.2.2.2.1) (fun c z => hA.1 c (by revert c; decide) (by revert c; decide)) jj (fun c z => hA.1 c (by revert c; decide) (by revert c; decide)) (hA.2 10 (by decide)) (hA.2 16 (by decide)), RH.cg (h.2.2.2.2.2.2.2.1) (hA.1 30 (by decide) (by decide)) (fun c z => hA.1 c (by revert c; decide) (by revert c; decide)) (hA.2 16 (by decide)), RF.cg (h.2.2.2.2.2.2.2.2.1) (fun c z => hA.1 c (by revert c; decide) (by revert c; decide)) (fun c z => hA.1 c (by revert c; decide) (by revert c; decide)) (hA.2 30 (by decide)), RM.cg (h.2.2.2.2.2.2.2.2.2.1) (fun c z => hA.1 c (by revert c; decide) (by revert c; decide)) (fun c z => hA.1 c (by revert c; decide) (by revert c; decide)) (fun j z => hA.2 j (by revert j; decide)), RJ.cg (h.2.2.2.2.2.2.2.2.2.2) (fun c z => hA.1 c (by revert c; decide) (by revert c; decide)) (hA.1 155 (by decide) (by decide)) (fun j z => hA.2 j (by revert j; decide))⟩, hA.1 0 (by decide) (by decide)⟩⟩
            · exact absurd bd nb
          · -- a plan
            obtain ⟨X, hX⟩ : ∃ X, X = (bb I s t 17 80).1 := ⟨_, rfl⟩
            rw [← hX] at w1 w3
            have xb := bb_ge (t := t) hP.1 hs
            rw [← hX] at xb
            have hw : wBd (pvj I X s t) (pvW I X s t) := fun j a c d => ⟨We_nn _ _, ((w3 j a c).2 d).1⟩
            have pc1 : PC I1 (pvj I X s t) (pvW I X s t) := fun j a c => ⟨(w3 j a c).1, fun d => ((w3 j a c).2 d).2⟩
            have ob : ∀ c, c ∉ cOv → I1 c = I c := w2
            have hT1 : RT I1 I := hT.cg (fun c hc => ob c (by revert c; decide)) (fun _ _ => rfl) rfl
            have clb := clsh_bd I X s t
            have nb := ct_bd (p := nw I (pvj I X s t) (pvW I X s t)) 16
            have e69 : I1 6 9 = I 115 5 := hT1.2.1
            have cls2 : evc 19 [vr 51, vi s, vi t] (hp L b I J) = if I 115 5 + ct (nw I (pvj I X s t) (pvW I X s t)) 16 ≤ 120 then (evc 26 [vr 51, vi X, vi s, vi t] (hp L b I1 J2)).bind (fun q => ev 19 135 [none, none, none, none, some (vi (clsh I X s t 16))] ([]) q.2) else some (vi (-2), hp L b I1 J2) := by
              rw [cls]
              refine w1.trans ?_
              rw [s19_99, if_neg (by omega), e69, c24R hT1 pc1 hw]
              simp only [Option.bind_some]
              rw [s19_119, gd_t (by omega), s19_125]
            -- the reference
            have rf : ∀ I1' : AI, (∀ c, 115 ≤ c → c < 161 → I1' c = I c) → ∃ Z : AI, evc 198 [vr 115, vi s, vi t] (hp L b I1' J2) = ev 198 154 [some (vr 115), some (vi s), some (vi t), some (vi X), none, none, none] [vi (clsh I X s t 16)] (hp L b Z J2) ∧ Sm ([130, 131, 132, 133, 134] ++ cRv) [23, 27, 35, 38] I1' Z ∧ PR Z (pvj I X s t) (pvW I X s t) := fun I1' o1 => by
              obtain ⟨Z, z1, z2, z3, z4⟩ := ref I1' o1
              have z15 := o1 115 (by decide) (by decide)
              rw [bI_f g] at z1
              rcases c198m (L := L) (b := b) (I := Z) (J := J2) (G := I) hT.1 hS hP hs ht (fun c z => by rw [z2.1 c (by revert c; decide) (by revert c; decide)]; exact o1 c (by revert c; decide) (by revert c; decide)) (by rw [z2.2 5 (by decide), z15]) z3 z4 with ⟨nb, -⟩ | ⟨-, I2, u1, u2, u3⟩
              · exact absurd nb bd
              · rw [← hX] at u1 u3
                exact ⟨I2, by rw [z1]; exact u1, (z2.mono (by decide) (by decide)).tr (u2.mono (by decide) (by decide)), fun j a c => u3 j a c⟩
            have rf2 : ∀ Z : AI, (∀ c ∈ [116, 117, 118, 119, 120], Z c = I c) → Z 115 5 = I 115 5 → PR Z (pvj I X s t) (pvW I X s t) → ev 198 154 [some (vr 115), some (vi s), some (vi t), some (vi X), none, none, none] [vi (clsh I X s t 16)] (hp L b Z J2) = if I 115 5 + ct (nw I (pvj I X s t) (pvW I X s t)) 16 ≤ 120 then ev 198 196 [some (vr 115), none, none, none, none, some (vi (clsh I X s t 16)), some (vi 0)] [] (hp L b (upI (upI (upI (upI Z 115 52 1) 115 54 X) 115 55 s) 115 56 t) J2) else some (vi (-2), hp L b Z J2) := fun Z g1 g5 g3 => by
              have hTz : TxR Z := hT.1.cg (fun c z => g1 c (by revert c; decide)) g5
              rw [s198_154, c195R hTz g3 hw, g5, nw_cg (fun c z => g1 c (by revert c; decide)) g5]
              simp only [Option.bind_some]
              rw [s198_164, gd_t (by omega), gd_t (by decide)]
            by_cases hN : I 115 5 + ct (nw I (pvj I X s t) (pvW I X s t)) 16 ≤ 120
            · obtain ⟨I3, q1, q2, q3, ⟨q4, q5, q6, q7⟩, q8⟩ := c26R (L := L) (b := b) (J := J2) hT1 pc1 hw hN X s t
              have o3 : ∀ c, 115 ≤ c → c < 161 → I3 c = I c := fun c a d => (q2 c (by simp; omega)).trans (w2 c (sub c a d))
              obtain ⟨Z, z1, z2, z3⟩ := rf I3 o3
              have zg : ∀ c ∈ [116, 117, 118, 119, 120], Z c = I c := fun c z => (z2.1 c (by revert c; decide) (by revert c; decide)).trans (o3 c (by revert c; decide) (by revert c; decide))
              have z5 : Z 115 5 = I 115 5 := by rw [z2.2 5 (by decide), o3 115 (by decide) (by decide)]
              obtain ⟨Y, hY⟩ : ∃ Y, Y = upI (upI (upI (upI Z 115 52 1) 115 54 X) 115 55 s) 115 56 t := ⟨_, rfl⟩
              have yo : ∀ c, c ≠ 115 → Y c = Z c := fun c hc => by rw [hY, upI_c hc, upI_c hc, upI_c hc, upI_c hc]
              have y52 : Y 115 52 = 1 := by rw [hY, upI_i (by decide), upI_i (by decide), upI_i (by decide), upI_s]
              have y54 : Y 115 54 = X := by rw [hY, upI_i (by decide), upI_i (by decide), upI_s]
              have y55 : Y 115 55 = s := by rw [hY, upI_i (by decide), upI_s]
              have y56 : Y 115 56 = t := by rw [hY, upI_s]
              have yS : Sm [] [52, 54, 55, 56] Z Y := by
                rw [hY]
                exact (((Sm.rf.fld (by simp)).fld (by simp)).fld (by simp)).fld (by simp)
              obtain ⟨I4, r1, r2, r3, r4, r5⟩ := l198 (L := L) (b := b) (I := Y) (J := J2) (G := I) (v := pvj I X s t) (w := pvW I X s t) hT.1 (fun j a c => by rw [yo 152 (by decide), yo 153 (by decide), yo 154 (by decide)]; exact z3 j a c) hw hN (fun c z => (yo c (by revert c; decide)).trans (zg c z)) (by rw [yS.2 5 (by decide), z5]) (clsh I X s t 16)
              have hB1 : Sm ([130, 131, 132, 133, 134, 155] ++ cRv ++ [116, 117, 118, 119, 120]) [5, 23, 27, 35, 38, 52, 54, 55, 56] I3 I4 := (z2.mono (by decide) (by decide)).tr ((yS.mono (by decide) (by decide)).tr (r2.mono (by decide) (by decide)))
              have hA : Sm cJn [5, 23, 27, 35, 38, 52, 54, 55, 56] I I4 := ((Same.sm w2 (by decide)).mono (by decide) (by decide)).tr (((Same.sm q2 (by decide)).mono (by decide) (by decide)).tr (hB1.mono (by decide) (by decide)))
              obtain ⟨gC, gU, gB, gS⟩ := gs_rel (v := pvj I X s t) (w := pvW I X s t) hT.1 hw hN hC hU hB hS 16 (Nat.le_refl _)
              have c4 : ∀ c ∈ [6, 7, 8, 9, 10, 51, 55], I4 c = I3 c := fun c z => hB1.1 c (by revert c; decide) (by revert c; decide)
              have ng : ∀ j, 0 ≤ j → j < 16 → pvj I X s t j ≠ -2 := fun j a c e => by
                have hng : ∀ c, baG I s t c → ¬ gone I c s t := fun c z1 z2 => bd (Or.inl ⟨c, z1, z2⟩)
                have z := bad_x hP.1 hs hng
                rw [← hX] at z
                exact bd (z.mp ⟨j, ⟨a, c⟩, e⟩)
              have e4 : ∀ x, x = 52 ∨ x = 54 ∨ x = 55 ∨ x = 56 → I4 115 x = Y 115 x := fun x hx => r2.2 x (by simp; omega)
              have hj4 : RJ I4 I4 := by
                unfold RJ
                rw [c4 51 (by decide), c4 55 (by decide), e4 52 (by decide), e4 54 (by decide), e4 55 (by decide), e4 56 (by decide), y52, y54, y55, y56, hA.2 16 (by decide), r4]
                refine ⟨q4, Or.inr ⟨rfl, ⟨q5, q6, q7⟩, ⟨hs, ht⟩, fun j a c => ?_⟩⟩
                rw [q8 j a c, r5 j a c]
                refine ⟨rfl, oS_bd hT.1 hw hN ⟨a, c⟩ ?_⟩
                have v := pv_v (G := I) (N := I 115 5) (o := onS I X j) (on_bd hS hP t0.1 hs.2 ⟨a, c⟩) (on_bd hS hP t0.1 ht.2 ⟨a, c⟩)
                have n := ng j a c
                unfold pvj at n ⊢
                omega
              have gS4 : RS I4 I4 := gS.cg (fun c z => hA.1 c (by revert c; decide) (by revert c; decide)) (fun c z => by
                by_cases e : c = 119
                · rw [e]; exact r3 119 (by decide)
                · have z' : c = 122 ∨ c = 123 := by simp at z; omega
                  rw [gs_o (by simp; omega) 16]
                  rcases z' with y | y
                  · rw [y]; exact hA.1 122 (by decide) (by decide)
                  · rw [y]; exact hA.1 123 (by decide) (by decide)) r4 ((hA.2 10 (by decide)).trans (gs_f (by decide) 16).symm)
              refine ⟨clsh I X s t 16, b, I3, J2, I4, cl ?_, ?_, ⟨⟨q3.cg (fun c z => c4 c (by revert c; decide)) r3 r4, gC.cg (hA.1 161 (by decide) (by decide)) (fun c z => r3 c (by revert c; decide)) r4, gU.cg (hA.1 11 (by decide) (by decide)) (fun c z => r3 c (by revert c; decide)) r4, RD.cg (h.2.2.2.1) (fun c z => hA.1 c (by revert c; decide) (by revert c; decide)) (hA.1 121 (by decide) (by decide)) (hA.2 7 (by decide)), gB.cg (hA.1 5 (by decide) (by decide)) ((hA.1 124 (by decide) (by decide)).trans (gs_o (by decide) 16).symm) r4, gS4, RP.cg (h.2.2.2.2.2.2.1) (fun c z => hA.1 c (by revert c; decide) (by revert c; decide)) jj (fun c z => hA.1 c (by revert c; decide) (by revert c; decide)) (hA.2 10 (by decide)) (hA.2 16 (by decide)), RH.cg (h.2.2.2.2.2.2.2.1) (hA.1 30 (by decide) (by decide)) (fun c z => hA.1 c (by revert c; decide) (by revert c; decide)) (hA.2 16 (by decide)), RF.cg (h.2.2.2.2.2.2.2.2.1) (fun c z => hA.1 c (by revert c; decide) (by revert c; decide)) (fun c z => hA.1 c (by revert c; decide) (by revert c; decide)) (hA.2 30 (by decide)), RM.cg (h.2.2.2.2.2.2.2.2.2.1) (fun c z => hA.1 c (by revert c; decide) (by revert c; decide)) (fun c z => hA.1 c (by revert c; decide) (by revert c; decide)) (fun j z => hA.2 j (by revert j; decide)), hj4⟩, hA.1 0 (by decide) (by decide)⟩⟩
              · rw [cls2, if_pos hN, q1]
                simp only [Option.bind_some]
                rw [s19_135]
              · rw [z1, rf2 Z zg z5 z3, if_pos hN, ← hY]
                exact r1
            · obtain ⟨Z, z1, z2, z3⟩ := rf I1 (fun c a d => w2 c (sub c a d))
              have zg : ∀ c ∈ [116, 117, 118, 119, 120], Z c = I c := fun c z => (z2.1 c (by revert c; decide) (by revert c; decide)).trans (w2 c (by revert c; decide))
              have z5 : Z 115 5 = I 115 5 := by rw [z2.2 5 (by decide), w2 115 (by decide)]
              have hA : Sm cJm [23, 27, 35, 38] I Z := ((Same.sm w2 (by decide)).mono (by decide) (by decide)).tr (z2.mono (by decide) (by decide))
              refine ⟨-2, b, I1, J2, Z, cl ?_, ?_, ⟨⟨RT.cg (h.1) (fun c z => hA.1 c (by revert c; decide) (by revert c; decide)) (fun c z => hA.1 c (by revert c; decide) (by revert c; decide)) (hA.2 5 (by decide)), RC.cg (h.2.1) (hA.1 161 (by decide) (by decide)) (fun c z => hA.1 c (by revert c; decide) (by revert c; decide)) (hA.2 5 (by decide)), RU.cg (h.2.2.1) (hA.1 11 (by decide) (by decide)) (fun c z => hA.1 c (by revert c; decide) (by revert c; decide)) (hA.2 5 (by decide)), RD.cg (h.2.2.2.1) (fun c z => hA.1 c (by revert c; decide) (by revert c; decide)) (hA.1 121 (by decide) (by decide)) (hA.2 7 (by decide)), RB.cg (h.2.2.2.2.1) (hA.1 5 (by decide) (by decide)) (hA.1 124 (by decide) (by decide)) (hA.2 5 (by decide)), RS.cg (h.2.2.2.2.2.1) (fun c z => hA.1 c (by revert c; decide) (by revert c; decide)) (fun c z => hA.1 c (by revert c; decide) (by revert c; decide)) (hA.2 5 (by decide)) (hA.2 10 (by decide)), RP.cg (h.2.2.2.2.2.2.1) (fun c z => hA.1 c (by revert c; decide) (by revert c; decide)) jj (fun c z => hA.1 c (by revert c; decide) (by revert c; decide)) (hA.2 10 (by decide)) (hA.2 16 (by decide)), RH.cg (h.2.2.2.2.2.2.2.1) (hA.1 30 (by decide) (by decide)) (fun c z => hA.1 c (by revert c; decide) (by revert c; decide)) (hA.2 16 (by decide)), RF.cg (h.2.2.2.2.2.2.2.2.1) (fun c z => hA.1 c (by revert c; decide) (by revert c; decide)) (fun c z => hA.1 c (by revert c; decide) (by revert c; decide)) (hA.2 30 (by decide)), RM.cg (h.2.2.2.2.2.2.2.2.2.1) (fun c z => hA.1 c (by revert c; decide) (by revert c; decide)) (fun c z => hA.1 c (by revert c; decide) (by revert c; decide)) (fun j z => hA.2 j (by revert j; decide)), RJ.cg (h.2.2.2.2.2.2.2.2.2.2) (fun c z => hA.1 c (by revert c; decide) (by revert c; decide)) (hA.1 155 (by decide) (by decide)) (fun j z => hA.2 j (by revert j; decide))⟩, hA.1 0 (by decide) (by decide)⟩⟩
              · rw [cls2, if_neg hN]
              · rw [z1, rf2 Z zg z5 z3, if_neg hN]
    · refine ⟨-2, b, I, J, I, cl ?_, ?_, h, rfl⟩
      · rw [n19, s19_0, c54R hP, bI_t hs]
        simp only [Option.bind_some]
        rw [s19_8, if_neg (by decide), c54R hP, bI_f ht]
        simp only [Option.bind_some]
        rw [s19_19, if_pos rfl, s19_46]
      · rw [n198, s198_0, c160, bI_t hs]
        simp only [Option.bind_some]
        rw [s198_5, if_neg (by decide), c160, bI_f ht]
        simp only [Option.bind_some]
        rw [s198_13, if_pos rfl, s198_34]
  · refine ⟨-2, b, I, J, I, cl ?_, ?_, h, rfl⟩
    · rw [n19, s19_0, c54R hP, bI_f hs]
      simp only [Option.bind_some]
      rw [s19_8, if_pos rfl, s19_46]
    · rw [n198, s198_0, c160, bI_f hs]
      simp only [Option.bind_some]
      rw [s198_5, if_pos rfl, s198_34]
