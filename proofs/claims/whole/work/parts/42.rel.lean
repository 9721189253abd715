/-! shelves, steps, heads: how the class holds what the reference holds -/
def RS (I G : AI) : Prop := SvR G ∧ I 20 2 = G 115 10 ∧ (∀ s, 0 ≤ s → s < G 115 10 → I 22 s = G 123 s ∧ ∀ j, 0 ≤ j → j < 16 → I 21 (s * 16 + j) = G 122 (16 * s + j) ∧ (-1 ≤ G 122 (16 * s + j) ∧ G 122 (16 * s + j) < G 115 5) ∧ (G 123 s = 0 → 0 ≤ G 122 (16 * s + j) → G 119 (G 122 (16 * s + j)) = 0)) ∧ ∀ s, G 115 10 ≤ s → s < 100 → I 22 s = 0
def RP (I : AI) (J : AJ) (G : AI) : Prop := StR G ∧ I 23 8 = G 115 16 ∧ (∀ s, 0 ≤ s → s < G 115 16 → I 24 s = G 125 s ∧ (0 ≤ G 125 s ∧ G 125 s < G 115 10) ∧ I 25 s = G 126 s ∧ I 26 s = G 127 s ∧ I 27 s = G 128 s ∧ (0 ≤ G 128 s ∧ G 128 s ≤ 2) ∧ ∀ t, ab J s t ↔ anR G s t) ∧ ∀ s, G 115 16 ≤ s → s < 80 → I 27 s = 0
def RH (I G : AI) : Prop := ∀ h, 0 ≤ h → h < 8 → I 30 h = G 129 h ∧ (-1 ≤ G 129 h ∧ G 129 h < G 115 16) ∧ (0 ≤ G 129 h → ∀ s, anR G (G 129 h) s → G 123 (G 125 s) = 0)
theorem RS.cg {I G I' G' : AI} (h : RS I G) (hs : ∀ c ∈ [20, 21, 22], I' c = I c) (hg : ∀ c ∈ [119, 122, 123], G' c = G c) (h5 : G' 115 5 = G 115 5) (h10 : G' 115 10 = G 115 10) : RS I' G' := by
  unfold RS SvR at *
  rw [hs 20 (by decide), hs 21 (by decide), hs 22 (by decide), hg 119 (by decide), hg 122 (by decide), hg 123 (by decide), h5, h10]
  exact h
theorem StR.cg {G G' : AI} (h : StR G) (hg : ∀ c ∈ [126, 127], G' c = G c) (h16 : G' 115 16 = G 115 16) : StR G' := by
  unfold StR at *
  rw [hg 126 (by decide), hg 127 (by decide), h16]; exact h
theorem anR_cg {G G' : AI} (hg : ∀ c ∈ [126, 127], G' c = G c) : anR G' = anR G := by unfold anR; rw [hg 126 (by decide), hg 127 (by decide)]
theorem RP.cg {I G I' G' : AI} {J J' : AJ} (h : RP I J G) (hs : ∀ c ∈ [23, 24, 25, 26, 27], I' c = I c) (hj : ∀ c ∈ [28, 29], J' c = J c) (hg : ∀ c ∈ [125, 126, 127, 128], G' c = G c) (h10 : G' 115 10 = G 115 10) (h16 : G' 115 16 = G 115 16) : RP I' J' G' := by
  unfold RP StR ab anR at *
  rw [hs 23 (by decide), hs 24 (by decide), hs 25 (by decide), hs 26 (by decide), hs 27 (by decide), hj 28 (by decide), hj 29 (by decide), hg 125 (by decide), hg 126 (by decide), hg 127 (by decide), hg 128 (by decide), h10, h16]
  exact h
theorem RH.cg {I G I' G' : AI} (h : RH I G) (hs : I' 30 = I 30) (hg : ∀ c ∈ [123, 125, 126, 127, 129], G' c = G c) (h16 : G' 115 16 = G 115 16) : RH I' G' := by
  unfold RH anR at *
  rw [hs, hg 123 (by decide), hg 125 (by decide), hg 126 (by decide), hg 127 (by decide), hg 129 (by decide), h16]
  exact h
section
variable {L : Nat} {b : Bool} {I G : AI} {J : AJ} {k : Nat}
theorem RS_svc (h : RS I G) : SvC I := by unfold SvC; rw [h.2.1]; exact h.1.1
theorem RS_sh (h : RS I G) (s : Int) : shC I s ↔ shR G s := by
  unfold shC shR
  rw [h.2.1]
  constructor
  · rintro ⟨a, c⟩; exact ⟨a, by rw [← (h.2.2.1 s a.1 a.2).1]; exact c⟩
  · rintro ⟨a, c⟩; exact ⟨a, by rw [(h.2.2.1 s a.1 a.2).1]; exact c⟩
theorem c42R (h : RS I G) (s : Int) : evc 42 [vr 20, vi s] (hp L b I J) = some (vi (bI (shR G s)), hp L b I J) := by
  rw [c42 (RS_svc h).2, bI_cg (RS_sh h s)]
theorem c43R (h : RS I G) {s x : Int} (hs : 0 ≤ s ∧ s < G 115 10) (hx : 0 ≤ x ∧ x < 16) : evc 43 [vr 20, vi s, vi x] (hp L b I J) = some (vi (G 122 (16 * s + x)), hp L b I J) := by
  rw [c43 (RS_svc h).2 (by rw [h.2.1]; exact hs) hx, ((h.2.2.1 s hs.1 hs.2).2 x hx.1 hx.2).1]
theorem RS_fs (h : RS I G) (f : Int → Int) : fsC I f = fsR G f := by
  have h0 := h.1.1
  unfold fsC fsR
  rw [h.2.1]
  refine lst_cg _ _ (fun s a c => ?_)
  have r := h.2.2.1 s a (by omega)
  unfold lkC lk
  rw [r.1]
  exact ⟨fun z => ⟨z.1, fun j a c => by rw [← (r.2 j a c).1]; exact z.2 j a c⟩, fun z => ⟨z.1, fun j a c => by rw [(r.2 j a c).1]; exact z.2 j a c⟩⟩
theorem c54R (h : RP I J G) (s : Int) : evc 54 [vr 23, vi s] (hp L b I J) = some (vi (bI (0 ≤ s ∧ s < G 115 16)), hp L b I J) := by rw [c54, h.2.1]
theorem RP_n (h : RP I J G) : 0 ≤ I 23 8 ∧ I 23 8 ≤ 80 := by rw [h.2.1]; exact h.1.1
theorem c192 (hS : RS I G) (hP : RP I J G) {X : AI} {s x : Int} (hs : -1 ≤ s ∧ s < G 115 16) (hx : 0 ≤ x ∧ x < 16) (hg : ∀ c ∈ [122, 125], X c = G c) : evc 192 [vr 115, vi s, vi x] (hp L b X J) = some (vi (if s < 0 then -1 else G 122 (16 * G 125 s + x)), hp L b X J) := by
  have h0 := hP.1.1
  have h1 := hS.1.1
  rw [n192, s192_0, hg 122 (by decide), hg 125 (by decide)]
  by_cases c : 0 ≤ s
  · have r := (hP.2.2.1 s c hs.2).2.1
    simp (disch := first | assumption | omega) only [↓gd_t, ↓if_pos, ↓if_neg, Option.bind_some, true_or, true_and, gd_t]
  · simp (disch := first | assumption | omega) only [↓gd_t, ↓if_pos, ↓if_neg, Option.bind_some, true_or, true_and, gd_t]
end
/-! what heads reach -/
def rsG (G : AI) (s : Int) : Prop := ∃ h, (0 ≤ h ∧ h < 8) ∧ 0 ≤ G 129 h ∧ anR G (G 129 h) s
def sxG (G : AI) (x : Int) : Prop := ∃ s, (0 ≤ s ∧ s < G 115 16) ∧ rsG G s ∧ G 125 s = x
/-- the stems of a text, from it on -/
def chG (G : AI) (u t : Int) : Prop := 0 ≤ u ∧ An (G 120) (fun _ => -1) u t
def txG (G : AI) (t : Int) : Prop := ∃ s j, (0 ≤ s ∧ s < G 115 16) ∧ rsG G s ∧ (0 ≤ j ∧ j < 16) ∧ chG G (G 122 (16 * G 125 s + j)) t
theorem chG_iff {G : AI} {u t : Int} (h : 0 ≤ u) : chG G u t ↔ u = t ∨ chG G (G 120 u) t := by
  unfold chG
  rw [An_iff]
  constructor
  · rintro ⟨-, z | z | z⟩
    · exact Or.inl z
    · exact Or.inr z
    · exact absurd z.1 (by decide)
  · rintro (z | z)
    · exact ⟨h, Or.inl z⟩
    · exact ⟨h, Or.inr (Or.inl z)⟩
theorem chG_st {G : AI} {u t : Int} (h : chG G u t) (h0 : 0 ≤ G 120 t) : chG G u (G 120 t) := ⟨h.1, h.2.p1 h0⟩
theorem txG_st {G : AI} {t : Int} (h : txG G t) (h0 : 0 ≤ G 120 t) : txG G (G 120 t) := by
  obtain ⟨s, j, a, c, d, e⟩ := h
  exact ⟨s, j, a, c, d, chG_st e h0⟩
theorem rsG_cg {G G' : AI} (hg : ∀ c ∈ [126, 127, 129], G' c = G c) : rsG G' = rsG G := by unfold rsG anR; rw [hg 126 (by decide), hg 127 (by decide), hg 129 (by decide)]
theorem sxG_cg {G G' : AI} (hg : ∀ c ∈ [125, 126, 127, 129], G' c = G c) (h16 : G' 115 16 = G 115 16) : sxG G' = sxG G := by
  unfold sxG; rw [rsG_cg (fun c z => hg c (by revert c; decide)), hg 125 (by decide), h16]
theorem txG_cg {G G' : AI} (hg : ∀ c ∈ [120, 122, 125, 126, 127, 129], G' c = G c) (h16 : G' 115 16 = G 115 16) : txG G' = txG G := by
  unfold txG chG; rw [rsG_cg (fun c z => hg c (by revert c; decide)), hg 120 (by decide), hg 122 (by decide), hg 125 (by decide), h16]
section
variable {L : Nat} {b : Bool} {I : AI} {J : AJ} {k : Nat}
/-- the reference's reach -/
theorem l224 (hT : TxR I) : ∀ (n : Nat) (u : Int) (I1 : AI), (-1 ≤ u ∧ u < I 115 5) → u < n → Sm [159] [] I I1 → ∃ I', ev 224 2 [some (vr 115), none, some (vi u)] [] (hp L b I1 J) = some (vi 0, hp L b I' J) ∧ Sm [159] [] I1 I' ∧ ∀ j, I' 159 j = if bI (chG I u j) = 1 then 1 else I1 159 j := by
  have h0 := hT.1
  intro n
  induction n with
  | zero =>
    intro u I1 h1 h2 h3
    refine ⟨I1, ?_, Sm.rf, fun j => ?_⟩
    · rw [s224_2]; simp (disch := first | assumption | omega) only [↓gd_t, ↓if_pos, ↓if_neg, Option.bind_some, true_or, true_and, gd_t]
    · rw [if_neg (fun z => by have := (bI_1.mp z).1; omega)]
  | succ n ih =>
    intro u I1 h1 h2 h3
    by_cases c : u < 0
    · refine ⟨I1, ?_, Sm.rf, fun j => ?_⟩
      · rw [s224_2]; simp (disch := first | assumption | omega) only [↓gd_t, ↓if_pos, ↓if_neg, Option.bind_some, true_or, true_and, gd_t]
      · rw [if_neg (fun z => by have := (bI_1.mp z).1; omega)]
    · have hs := hT.2.1 u (by omega) h1.2
      have e120 : (upI I1 159 u 1) 120 = I 120 := by rw [upI_c (by decide), h3.1 120 (by decide) (by decide)]
      obtain ⟨I', q1, q2, q3⟩ := ih (I 120 u) (upI I1 159 u 1) ⟨hs.1, by omega⟩ (by omega) (h3.up (by simp) (by decide))
      refine ⟨I', ?_, (Sm.rf.up (by simp) (by decide)).tr q2, fun j => ?_⟩
      · rw [s224_2, e120]
        simp (disch := first | assumption | omega) only [↓gd_t, ↓if_pos, ↓if_neg, Option.bind_some, true_or, true_and, gd_t]
        exact q1
      · rw [q3, bI_cg (chG_iff (G := I) (u := u) (t := j) (by omega))]
        by_cases d : chG I (I 120 u) j
        · rw [if_pos (bI_t d), if_pos (bI_t (Or.inr d))]
        · rw [if_neg (fun z => d (bI_1.mp z))]
          by_cases e : u = j
          · rw [if_pos (bI_t (Or.inl e)), e, upI_s]
          · rw [if_neg (fun z => by rcases bI_1.mp z with z | z; exact e z; exact d z), upI_i (fun z => e z.symm)]
theorem c224 (hT : TxR I) {I1 : AI} (h3 : Sm [159] [] I I1) {u : Int} (hu : -1 ≤ u ∧ u < I 115 5) : ∃ I', evc 224 [vr 115, vi u] (hp L b I1 J) = some (vi 0, hp L b I' J) ∧ Sm [159] [] I1 I' ∧ ∀ j, I' 159 j = if bI (chG I u j) = 1 then 1 else I1 159 j := by
  have h0 := hT.1
  obtain ⟨I', q1, q2, q3⟩ := l224 (L := L) (b := b) (J := J) hT 120 u I1 hu (by omega) h3
  exact ⟨I', by rw [n224, s224_0, q1], q2, q3⟩
end
