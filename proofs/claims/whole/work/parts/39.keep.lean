/-! a row as a text: keep (the class), makeText (the reference) -/
def newT (G : AI) (n : Int) (f : Int → Int) : AI := fun c x =>
  if c = 115 ∧ x = 5 then G 115 5 + 1
  else if c = 116 ∧ (24 * G 115 5 ≤ x ∧ x < 24 * G 115 5 + n) then f (x - 24 * G 115 5)
  else if c = 117 ∧ x = G 115 5 then n
  else if c = 118 ∧ x = G 115 5 then 0
  else if c = 119 ∧ x = G 115 5 then 0
  else if c = 120 ∧ x = G 115 5 then -1
  else G c x
noncomputable def mkT (G : AI) (n : Int) (f : Int → Int) : AI := if 0 ≤ fdR G n f then (if 0 ≤ flR G (fdR G n f) then upI (upI G 118 (fdR G n f) 0) 120 (fdR G n f) (-1) else G) else newT G n f
noncomputable def mkN (G : AI) (n : Int) (f : Int → Int) : Int := if 0 ≤ fdR G n f then fdR G n f else G 115 5
section
variable {f g f' g' : Int → Int} {n m : Int}
theorem lc_cg (hf : ∀ i, 0 ≤ i → i < n → f i = f' i) (hg : ∀ i, 0 ≤ i → i < m → g i = g' i) : ∀ p q : Nat, (p : Int) ≤ n → (q : Int) ≤ m → lc f g n m p q = lc f' g' n m p q := by
  intro p
  induction p with
  | zero => intro q _ _; rfl
  | succ p ih =>
    intro q hp
    induction q with
    | zero => intro _; rfl
    | succ q ihq =>
      intro hq
      have e1 : lc f g n m (p + 1) (q + 1) = if f (n - (p + 1)) = g (m - (q + 1)) then lc f g n m p q + 1 else if lc f g n m (p + 1) q < lc f g n m p (q + 1) then lc f g n m p (q + 1) else lc f g n m (p + 1) q := rfl
      have e2 : lc f' g' n m (p + 1) (q + 1) = if f' (n - (p + 1)) = g' (m - (q + 1)) then lc f' g' n m p q + 1 else if lc f' g' n m (p + 1) q < lc f' g' n m p (q + 1) then lc f' g' n m p (q + 1) else lc f' g' n m (p + 1) q := rfl
      rw [e1, e2, ih q (by omega) (by omega), ih (q + 1) (by omega) (by omega), ihq (by omega), hf _ (by omega) (by omega), hg _ (by omega) (by omega)]
theorem pc_cg (hf : ∀ i, 0 ≤ i → i < n → f i = f' i) (hg : ∀ i, 0 ≤ i → i < m → g i = g' i) (hn : 0 ≤ n) (hm : 0 ≤ m) : pc f g n m = pc f' g' n m := lc_cg hf hg _ _ (by omega) (by omega)
end
section
variable {L : Nat} {b : Bool} {I G : AI} {J : AJ} {k : Nat} {n : Int} {f f' : Int → Int}
theorem fdR_cg (hf : ∀ i, 0 ≤ i → i < n → f i = f' i) : fdR G n f = fdR G n f' := by
  unfold fdR
  refine lst_cg _ _ (fun t _ _ => ?_)
  unfold hl
  exact ⟨fun h => ⟨h.1, h.2.1, fun i a b => (h.2.2 i a b).trans (hf i a b)⟩, fun h => ⟨h.1, h.2.1, fun i a b => (h.2.2 i a b).trans (hf i a b).symm⟩⟩
theorem newT_cg (hf : ∀ i, 0 ≤ i → i < n → f i = f' i) : newT G n f = newT G n f' := by
  funext c x
  unfold newT
  by_cases h : c = 116 ∧ (24 * G 115 5 ≤ x ∧ x < 24 * G 115 5 + n)
  · rw [if_pos h, if_pos h, hf _ (by omega) (by omega)]
  · rw [if_neg h, if_neg h]
theorem mkT_cg (hf : ∀ i, 0 ≤ i → i < n → f i = f' i) : mkT G n f = mkT G n f' := by unfold mkT; rw [fdR_cg hf, newT_cg hf]
theorem mkN_cg (hf : ∀ i, 0 ≤ i → i < n → f i = f' i) : mkN G n f = mkN G n f' := by unfold mkN; rw [fdR_cg hf]
theorem newT_o {c : Nat} (hc : c ∉ [115, 116, 117, 118, 119, 120]) : newT G n f c = G c := by
  simp at hc
  funext x
  unfold newT
  rw [if_neg (by omega), if_neg (by omega), if_neg (by omega), if_neg (by omega), if_neg (by omega), if_neg (by omega)]
theorem newT_f {x : Int} (hx : x ≠ 5) : newT G n f 115 x = G 115 x := by
  unfold newT
  rw [if_neg (by omega), if_neg (by omega), if_neg (by omega), if_neg (by omega), if_neg (by omega), if_neg (by omega)]
theorem mkT_o {c : Nat} (hc : c ∉ [115, 116, 117, 118, 119, 120]) : mkT G n f c = G c := by
  unfold mkT
  have h1 : c ≠ 118 := fun z => hc (by rw [z]; decide)
  have h2 : c ≠ 120 := fun z => hc (by rw [z]; decide)
  split
  · split
    · rw [upI_c h2, upI_c h1]
    · rfl
  · exact newT_o hc
theorem mkT_f {x : Int} (hx : x ≠ 5) : mkT G n f 115 x = G 115 x := by
  unfold mkT
  split
  · split
    · rw [upI_c (by decide), upI_c (by decide)]
    · rfl
  · exact newT_f hx
/-- the texts alone count -/
theorem mkT_x {G' : AI} (hg : ∀ c ∈ [116, 117, 118, 119, 120], G' c = G c) (h5 : G' 115 5 = G 115 5) : (∀ c ∈ [116, 117, 118, 119, 120], mkT G' n f c = mkT G n f c) ∧ mkT G' n f 115 5 = mkT G n f 115 5 ∧ mkN G' n f = mkN G n f := by
  have e1 : fdR G' n f = fdR G n f := by unfold fdR hl; rw [hg 116 (by decide), hg 117 (by decide), hg 119 (by decide), h5]
  have e2 : ∀ t, flR G' t = flR G t := fun t => by unfold flR; rw [hg 118 (by decide), hg 120 (by decide)]
  refine ⟨fun c hc => ?_, ?_, by unfold mkN; rw [e1, h5]⟩
  · unfold mkT
    rw [e1, e2]
    split
    · split
      · funext x; rw [upI_e, upI_e, upI_e, upI_e, hg c hc]
      · exact hg c hc
    · funext x
      unfold newT
      rw [h5, hg c hc]
  · unfold mkT
    rw [e1, e2]
    split
    · split
      · rw [upI_c (by decide), upI_c (by decide), upI_c (by decide), upI_c (by decide)]; exact h5
      · exact h5
    · unfold newT
      rw [if_pos ⟨rfl, rfl⟩, if_pos ⟨rfl, rfl⟩, h5]
theorem newT_5 : newT G n f 115 5 = G 115 5 + 1 := if_pos ⟨rfl, rfl⟩
theorem newT_116 (x : Int) : newT G n f 116 x = if 24 * G 115 5 ≤ x ∧ x < 24 * G 115 5 + n then f (x - 24 * G 115 5) else G 116 x := by
  unfold newT
  rw [if_neg (by omega)]
  by_cases h : 24 * G 115 5 ≤ x ∧ x < 24 * G 115 5 + n
  · rw [if_pos ⟨rfl, h⟩, if_pos h]
  · rw [if_neg (fun z => h z.2), if_neg h, if_neg (by omega), if_neg (by omega), if_neg (by omega), if_neg (by omega)]
theorem newT_117 (x : Int) : newT G n f 117 x = if x = G 115 5 then n else G 117 x := by
  unfold newT
  rw [if_neg (by omega), if_neg (by omega)]
  by_cases h : x = G 115 5
  · rw [if_pos ⟨rfl, h⟩, if_pos h]
  · rw [if_neg (fun z => h z.2), if_neg h, if_neg (by omega), if_neg (by omega), if_neg (by omega)]
theorem newT_118 (x : Int) : newT G n f 118 x = if x = G 115 5 then 0 else G 118 x := by
  unfold newT
  rw [if_neg (by omega), if_neg (by omega), if_neg (by omega)]
  by_cases h : x = G 115 5
  · rw [if_pos ⟨rfl, h⟩, if_pos h]
  · rw [if_neg (fun z => h z.2), if_neg h, if_neg (by omega), if_neg (by omega)]
theorem newT_119 (x : Int) : newT G n f 119 x = if x = G 115 5 then 0 else G 119 x := by
  unfold newT
  rw [if_neg (by omega), if_neg (by omega), if_neg (by omega), if_neg (by omega)]
  by_cases h : x = G 115 5
  · rw [if_pos ⟨rfl, h⟩, if_pos h]
  · rw [if_neg (fun z => h z.2), if_neg h, if_neg (by omega)]
theorem newT_120 (x : Int) : newT G n f 120 x = if x = G 115 5 then -1 else G 120 x := by
  unfold newT
  rw [if_neg (by omega), if_neg (by omega), if_neg (by omega), if_neg (by omega), if_neg (by omega)]
  by_cases h : x = G 115 5
  · rw [if_pos ⟨rfl, h⟩, if_pos h]
  · rw [if_neg (fun z => h z.2), if_neg h]
theorem c142R (hT : TxR I) (ht : isT k = true) {from_ : Int} (hn : 0 ≤ n ∧ n ≤ 24) (hf : 0 ≤ from_ ∧ from_ + n ≤ (aL k : Nat)) (h3 : from_ ≤ 1000) (hr : 0 ≤ fdR I n (fun i => I k (from_ + i)) ∨ I 115 5 < 120) : evc 142 [vr 115, vr k, vi from_, vi n] (hp L b I J) = some (vi (mkN I n (fun i => I k (from_ + i))), hp L b (mkT I n (fun i => I k (from_ + i))) J) := by
  unfold mkN mkT
  by_cases c : 0 ≤ fdR I n (fun i => I k (from_ + i))
  · rw [if_pos c, if_pos c, c142a hT ht hn hf h3 rfl c]
  · rw [if_neg c, if_neg c]
    have d : fdR I n (fun i => I k (from_ + i)) = -1 := by
      rcases fdR_bd hT (n := n) (f := fun i => I k (from_ + i)) with z | z
      · exact z.1
      · exact absurd z.1.1 c
    obtain ⟨I', q1, q2, q3, q4, q5, q6⟩ := c142b (L := L) (b := b) (J := J) hT ht hn hf h3 d (by omega)
    rw [q1]
    congr 2
    show hp L b I' J = hp L b _ J
    congr 1
    funext c' x
    by_cases h : c' ∈ [115, 116, 117, 118, 119, 120]
    · simp at h
      rcases h with h | h | h | h | h | h <;> subst h
      · by_cases z : x = 5
        · rw [z, q3, newT_5]
        · rw [q2.2 x (by simpa using z), newT_f z]
      · rw [q6, newT_116]
      · rw [newT_117]
        by_cases z : x = I 115 5
        · rw [if_pos z, z]; exact q4.1
        · rw [if_neg z]; exact (q5 x z).1
      · rw [newT_118]
        by_cases z : x = I 115 5
        · rw [if_pos z, z]; exact q4.2.1
        · rw [if_neg z]; exact (q5 x z).2.1
      · rw [newT_119]
        by_cases z : x = I 115 5
        · rw [if_pos z, z]; exact q4.2.2.1
        · rw [if_neg z]; exact (q5 x z).2.2.1
      · rw [newT_120]
        by_cases z : x = I 115 5
        · rw [if_pos z, z]; exact q4.2.2.2
        · rw [if_neg z]; exact (q5 x z).2.2.2
    · rw [newT_o h, q2.1 c' (fun z => h (by simp at z ⊢; omega)) (fun z => h (by rw [z]; decide))]
theorem RT_fd (h : RT I G) (hk : isRow k = true) (hw : RwC I k n f) : fdC I k = fdR G n f := by
  have h0 := h.1.1
  unfold fdC fdR
  rw [h.2.1]
  refine lst_cg _ _ (fun t a b => ?_)
  have a1 := h.2.2 t a (by omega)
  have a2 := (h.1.2.2.2 t a (by omega)).2
  have e3 : I 9 t ≠ 3 ↔ G 119 t = 0 := by
    rw [a1.2.2.1]
    by_cases c : G 119 t = 1
    · rw [if_pos c]; omega
    · rw [if_neg c]
      constructor
      · intro _; omega
      · intro _; split
        · decide
        · split <;> decide
  unfold hlC hl
  rw [hw.1, a1.1]
  constructor
  · rintro ⟨z1, z2, z3⟩
    refine ⟨e3.mp z1, z2, fun i a c => ?_⟩
    rw [← a1.2.1 i a (by omega), z3 i a c, hw.2 i a c]
  · rintro ⟨z1, z2, z3⟩
    refine ⟨e3.mpr z1, z2, fun i a c => ?_⟩
    rw [a1.2.1 i a (by omega), z3 i a c, hw.2 i a c]
theorem c74f (h : RT I G) (hk : isRow k = true) (hw : RwC I k n f) (hn : 0 ≤ n ∧ n ≤ 24) (h1 : fdR G n f = -1) (h2 : G 115 5 = 120) : evc 74 [vr 6, vr k] (hp L b I J) = some (vi (-2), hp L b I J) := by
  have h6 := h.2.1
  rw [n74, s74_0, c72 (RT_txc h) hk (by rw [hw.1]; exact hn.2), RT_fd h hk hw, h1]
  simp only [Option.bind_some]
  rw [s74_5, if_neg (by decide), n75, s75_0, if_neg (by omega)]
  simp (disch := first | assumption | omega) only [↓gd_t, ↓if_pos, ↓if_neg, Option.bind_some, true_or, true_and, gd_t, s74_16]
theorem RT_fx (h : RT I G) {t : Int} (ht : thR G t) : RT (upI (upI I 9 t 0) 10 t (-1)) (upI (upI G 118 t 0) 120 t (-1)) := by
  have ht1 := ht.1
  have ht2 := ht.2
  refine ⟨⟨?_, fun u a b => ?_, fun u a b => ?_, fun u a b => ?_⟩, ?_, fun u a b => ?_⟩
  · rw [upI_c (by decide), upI_c (by decide)]; exact h.1.1
  · rw [upI_c (by decide), upI_c (by decide)] at b
    by_cases c : u = t
    · rw [c, upI_s]; omega
    · rw [upI_i c, upI_c (by decide)]; exact h.1.2.1 u a b
  · rw [upI_c (by decide), upI_c (by decide)] at b ⊢
    exact h.1.2.2.1 u a b
  · rw [upI_c (by decide), upI_c (by decide)] at b
    rw [upI_c (show 118 ≠ 120 by decide), upI_c (show 119 ≠ 120 by decide), upI_c (show 119 ≠ 118 by decide)]
    by_cases c : u = t
    · rw [c, upI_s]; exact ⟨Or.inl rfl, (h.1.2.2.2 t ht1.1 ht1.2).2⟩
    · rw [upI_i c]; exact h.1.2.2.2 u a b
  · rw [upI_c (by decide), upI_c (by decide), upI_c (by decide), upI_c (by decide)]; exact h.2.1
  · rw [upI_c (by decide), upI_c (by decide)] at b
    have r := h.2.2 u a b
    unfold RT1 at r ⊢
    rw [upI_c (show 8 ≠ 10 by decide), upI_c (show 8 ≠ 9 by decide), upI_c (show 117 ≠ 120 by decide), upI_c (show 117 ≠ 118 by decide), upI_c (show 7 ≠ 10 by decide), upI_c (show 7 ≠ 9 by decide), upI_c (show 116 ≠ 120 by decide), upI_c (show 116 ≠ 118 by decide), upI_c (show 9 ≠ 10 by decide), upI_c (show 119 ≠ 120 by decide), upI_c (show 119 ≠ 118 by decide), upI_c (show 118 ≠ 120 by decide)]
    refine ⟨r.1, r.2.1, ?_⟩
    by_cases c : u = t
    · rw [c, upI_s, upI_s, upI_s, upI_s, ht2]
      exact ⟨by decide, by decide, fun _ z => absurd z (by decide), fun z => absurd z (by decide)⟩
    · rw [upI_i c, upI_i c, upI_i c, upI_i c, upI_c (show 10 ≠ 9 by decide), upI_c (show 120 ≠ 118 by decide)]
      exact r.2.2
theorem c74R (h : RT I G) (hk : isRow k = true) (hw : RwC I k n f) (hn : 0 ≤ n ∧ n ≤ 24) (hr : 0 ≤ fdR G n f ∨ G 115 5 < 120) : ∃ I' : AI, evc 74 [vr 6, vr k] (hp L b I J) = some (vi (mkN G n f), hp L b I' J) ∧ Same [6, 7, 8, 9, 10] I I' ∧ RT I' (mkT G n f) := by
  have h6 := h.2.1
  have h0 := h.1.1
  have hd := fdR_bd h.1 (n := n) (f := f)
  have e0 : evc 74 [vr 6, vr k] (hp L b I J) = ev 74 5 [some (vr 6), some (vr k), none] [vi (fdR G n f)] (hp L b I J) := by
    rw [n74, s74_0, c72 (RT_txc h) hk (by rw [hw.1]; exact hn.2), RT_fd h hk hw]
    simp only [Option.bind_some]
  rw [e0, s74_5]
  unfold mkN mkT
  by_cases c : 0 ≤ fdR G n f
  · rw [if_pos c, if_pos c, if_pos (by omega)]
    have th : thR G (fdR G n f) := by
      rcases hd with z | z
      · omega
      · exact ⟨z.1, z.2.1⟩
    have th1 := th.1
    have fb := flR_bd h.1 (t := fdR G n f) th.1.2
    rw [c68R h th]
    simp only [Option.bind_some]
    rw [s74_22]
    by_cases c2 : 0 ≤ flR G (fdR G n f)
    · refine ⟨upI (upI I 9 (fdR G n f) 0) 10 (fdR G n f) (-1), ?_, (Same.rf.up (by simp)).up (by simp), by rw [if_pos c2]; exact RT_fx h th⟩
      simp (disch := first | assumption | omega) only [↓gd_t, ↓if_pos, ↓if_neg, Option.bind_some, true_or, true_and, gd_t, s74_40]
    · refine ⟨I, ?_, Same.rf, by rw [if_neg c2]; exact h⟩
      rw [if_pos (by omega), s74_40]
  · rw [if_neg c, if_neg c, if_neg (by omega)]
    obtain ⟨I', q1, q2, q3, q4, q5, q6, q7⟩ := c75 (L := L) (b := b) (J := J) (RT_txc h) hk (by rw [hw.1]; exact hn) (by omega)
    rw [h6] at q1 q3 q4 q5 q6 q7
    rw [hw.1] at q4 q7
    have up : ∀ (X : AI) (c : Nat) (i v x : Int), upI X c i v c x = if x = i then v else X c x := fun X c i v x => by
      by_cases z : x = i
      · rw [z, upI_s, if_pos rfl]
      · rw [upI_i z, if_neg z]
    refine ⟨I', ?_, q2, ⟨⟨?_, fun u a b => ?_, fun u a b => ?_, fun u a b => ?_⟩, ?_, fun u a b => ?_⟩⟩
    · rw [q1]
      simp only [Option.bind_some]
      rw [s74_16]
    · rw [newT_5]; omega
    · rw [newT_5] at b
      rw [newT_120]
      by_cases z : u = G 115 5
      · rw [if_pos z]; omega
      · rw [if_neg z]; exact h.1.2.1 u a (by omega)
    · rw [newT_5] at b
      rw [newT_117]
      by_cases z : u = G 115 5
      · rw [if_pos z]; exact hn
      · rw [if_neg z]; exact h.1.2.2.1 u a (by omega)
    · rw [newT_5] at b
      rw [newT_118, newT_119]
      by_cases z : u = G 115 5
      · rw [if_pos z, if_pos z]; exact ⟨Or.inl rfl, Or.inl rfl⟩
      · rw [if_neg z, if_neg z]; exact h.1.2.2.2 u a (by omega)
    · rw [newT_5, q3, upI_s]
    · rw [newT_5] at b
      unfold RT1
      rw [q4, q5, q6, up, up, up, newT_117, newT_118, newT_119, newT_120]
      by_cases z : u = G 115 5
      · rw [if_pos z, if_pos z, if_pos z, if_pos z, if_pos z, if_pos z, if_pos z]
        refine ⟨rfl, fun i a b => ?_, by decide, by decide, fun _ y => absurd y (by decide), fun y => absurd y (by decide)⟩
        rw [q7, newT_116, if_pos (by omega), if_pos (by omega), z, hw.2 _ (by omega) (by omega), show 24 * G 115 5 + i - 24 * G 115 5 = G 115 5 * 24 + i - G 115 5 * 24 by omega]
      · rw [if_neg z, if_neg z, if_neg z, if_neg z, if_neg z, if_neg z, if_neg z]
        have r := h.2.2 u a (by omega)
        have s := h.1.2.2.1 u a (by omega)
        have s2 := h.1.2.1 u a (by omega)
        refine ⟨r.1, fun i a b => ?_, r.2.2.1, r.2.2.2.1, fun y1 y2 => ?_, r.2.2.2.2.2⟩
        · rw [q7, newT_116, if_neg (by omega), if_neg (by omega)]; exact r.2.1 i a b
        · rw [newT_119, if_neg (by omega)]; exact r.2.2.2.2.1 y1 y2
end
