/-! a merge without conflicts; the plan of a name; planName -/
theorem pus_2 (z : Int × (Int → Int)) (f : Int → Int) : ∀ (n : Nat) (y : Int), (pus z f n).2 y = if z.1 ≤ y ∧ y < z.1 + n then f (y - z.1) else z.2 y
  | 0, y => by rw [if_neg (by omega)]; rfl
  | n + 1, y => by
    show (if y = (pus z f n).1 then f n else (pus z f n).2 y) = _
    rw [pus_1, pus_2 z f n y]
    by_cases c : y = z.1 + n
    · rw [if_pos c, if_pos (by omega), show y - z.1 = n by omega]
    · rw [if_neg c]
      by_cases d : z.1 ≤ y ∧ y < z.1 + n
      · rw [if_pos d, if_pos (by omega)]
      · rw [if_neg d, if_neg (by omega)]
theorem slx_k {S : MS} {st : Int → Int} {i : Int} (k : mK S i ≠ -1) (z : Int × (Int → Int)) : slx S (oc S st i) i z = spn S (mK S i) i z := by
  rw [show oc S st i = mK S i from if_neg k]
  unfold slx sl2 sl1 sl0
  rcases mK_v S i with e | e | e
  · exact absurd e k
  · rw [e, if_neg (by decide), if_pos (by decide), if_neg (by decide)]
  · rw [e, if_pos (by decide), if_neg (by decide), if_neg (by decide)]
theorem pc_sl {S : MS} (hV : MV S) {pl pq sp sz : Int → Int} {np : Int} (h : PcR pl pq np sp sz 0 S) (st : Int → Int) {i : Int} (h0 : 0 ≤ i) (h1 : i ≤ S.1 0) (hP : mP S i) {z : Int × (Int → Int)} (z1 : z.1 = mO S i.toNat) (z2 : ∀ y, 0 ≤ y → y < z.1 → pl y = z.2 y) : (slx S (oc S st i) i z).1 = mO S i.toNat + mQ S i ∧ ∀ y, 0 ≤ y → y < mO S i.toNat + mQ S i → pl y = (slx S (oc S st i) i z).2 y := by
  have k : mK S i ≠ -1 := fun e => by
    have a := nC_lt hV h0 h1 ⟨hP, e⟩
    have c := (mC_ct S i.toNat).1
    have d := h.1
    omega
  have q := (h.2.2 i h0 h1 hP).2.1 k
  have kv := mK_v S i
  have lb := mL_bd hV (d := mK S i) (by omega) h0 hP
  have qk := mQ_k k
  rw [slx_k k]
  unfold spn
  rw [pus_1]
  refine ⟨by omega, fun y y0 y1 => ?_⟩
  rw [pus_2]
  by_cases c : z.1 ≤ y ∧ y < z.1 + ((mL S (mK S i) i).toNat : Int)
  · rw [if_pos c]
    have r := (q (y - z.1) (by omega) (by omega)).2
    rw [show mO S i.toNat + (y - z.1) = y by omega] at r
    exact r
  · rw [if_neg c]
    exact z2 y y0 (by omega)
/-- without conflicts the pieces are the merged text -/
theorem pc_We {S : MS} (hV : MV S) {pl pq sp sz : Int → Int} {np : Int} (h : PcR pl pq np sp sz 0 S) (st : Int → Int) : (We S st).1 = np ∧ ∀ y, 0 ≤ y → y < np → pl y = (We S st).2 y := by
  have nb0 := hV.1 0 (by decide) (by decide)
  have A : ∀ n : Nat, (n : Int) ≤ S.1 0 → (Wz S st n).1 = mO S n ∧ ∀ y, 0 ≤ y → y < mO S n → pl y = (Wz S st n).2 y := by
    intro n
    induction n with
    | zero => exact fun _ => ⟨rfl, fun y a c => by have c' : y < 0 := c; omega⟩
    | succ n ih =>
      intro hn
      obtain ⟨i1, i2⟩ := ih (by omega)
      have e := Wz_s S st (i := n) (by omega)
      have e' := mO_s S (i := n) (by omega)
      rw [show ((n : Int) + 1).toNat = n + 1 by omega, show ((n : Nat) : Int).toNat = n by omega] at e e'
      rw [e, e']
      by_cases m : mA S n
      · rw [if_pos (bI_t m), if_pos (bI_t m)]
        have s := pc_sl hV h st (i := n) (by omega) (by omega) (Or.inl m) (z := Wz S st n) (by rw [show ((n : Nat) : Int).toNat = n by omega]; exact i1) (fun y a c => i2 y a (by omega))
        have an := (h.2.2 n (by omega) (by omega) (Or.inl m)).2.2 m.1
        rw [show ((n : Nat) : Int).toNat = n by omega] at s an
        refine ⟨?_, fun y a c => ?_⟩
        · show (slx S (oc S st n) n (Wz S st n)).1 + 1 = _
          rw [s.1]
        · show pl y = if y = (slx S (oc S st n) n (Wz S st n)).1 then S.2.1 0 n else (slx S (oc S st n) n (Wz S st n)).2 y
          rw [s.1]
          by_cases d : y = mO S n + mQ S n
          · rw [if_pos d, d]; exact an.2
          · rw [if_neg d]; exact s.2 y a (by omega)
      · rw [if_neg (fun z => m (bI_1.mp z)), if_neg (fun z => m (bI_1.mp z))]
        exact ⟨i1, i2⟩
  have a := A (S.1 0).toNat (by omega)
  have s := pc_sl hV h st nb0.1 (Int.le_refl _) (Or.inr rfl) (z := Wz S st (S.1 0).toNat) a.1 (fun y y0 y1 => a.2 y y0 (by omega))
  rw [h.2.1]
  exact s
/-- what becomes of a name: a text, -4 a merged text, -3 a clash, -2 a text is gone -/
noncomputable def pv (G : AI) (o a c : Int) : Int := if bI (a = c ∨ c = o) = 1 then a else if a = o then c else if bI (a = -1 ∨ c = -1) = 1 then -3 else if bI (rdR G a ∧ rdR G c ∧ (o = -1 ∨ rdR G o)) = 1 then (if bI (ct (mC (mgS G o a c)) (mN (mgS G o a c)) = 0 ∧ (We (mgS G o a c) (fun _ => -1)).1 ≤ 24) = 1 then -4 else -3) else -2
theorem isRow_j {j : Int} (h : 0 ≤ j ∧ j < 16) : isRow (72 + 2 * j.toNat) = true := by
  have e : j.toNat < 16 := by omega
  obtain ⟨n, hn⟩ : ∃ n, n = j.toNat := ⟨_, rfl⟩
  rw [← hn] at e ⊢
  clear hn h
  revert n
  decide
section
variable {L : Nat} {b : Bool} {I : AI} {J : AJ}
def cPl (j : Int) : List Nat := [2, 56, 57, 58, 59, 60, 61, 62, 63, 64, 65, 66, 67, 68, 69, 70, 71, 72 + 2 * j.toNat, 72 + 2 * j.toNat + 1]
theorem c23R {G : AI} (hT : RT I G) {j o a c : Int} (hj : 0 ≤ j ∧ j < 16) (ho : -1 ≤ o ∧ o < G 115 5) (ha : -1 ≤ a ∧ a < G 115 5) (hc : -1 ≤ c ∧ c < G 115 5) : (fun r => ∃ I' : AI, r = some (vi (pv G o a c), hp L b I' J) ∧ Same (cPl j) I I' ∧ (pv G o a c = -4 → (We (mgS G o a c) (fun _ => -1)).1 ≤ 24 ∧ RwC I' (72 + 2 * j.toNat) (We (mgS G o a c) (fun _ => -1)).1 (We (mgS G o a c) (fun _ => -1)).2)) (evc 23 [vr 51, vi j, vi o, vi a, vi c] (hp L b I J)) := by
  have plain : ∀ v, pv G o a c = v → v ≠ -4 → evc 23 [vr 51, vi j, vi o, vi a, vi c] (hp L b I J) = some (vi v, hp L b I J) → (fun r => ∃ I' : AI, r = some (vi (pv G o a c), hp L b I' J) ∧ Same (cPl j) I I' ∧ (pv G o a c = -4 → (We (mgS G o a c) (fun _ => -1)).1 ≤ 24 ∧ RwC I' (72 + 2 * j.toNat) (We (mgS G o a c) (fun _ => -1)).1 (We (mgS G o a c) (fun _ => -1)).2)) (evc 23 [vr 51, vi j, vi o, vi a, vi c] (hp L b I J)) := fun v h1 h2 h3 => ⟨I, by rw [h1]; exact h3, fun _ _ => rfl, fun z => absurd (h1.symm.trans z) h2⟩
  by_cases k1 : a = c ∨ c = o
  · refine plain a (by unfold pv; rw [if_pos (bI_t k1)]) (by omega) ?_
    rw [n23, s23_0]
    by_cases e : a = c
    · rw [if_pos e, s23_12]
    · rw [if_neg e, if_neg (fun z => z (k1.resolve_left e)), s23_12]
  · have k1' : ¬ bI (a = c ∨ c = o) = 1 := fun z => k1 (bI_1.mp z)
    by_cases k2 : a = o
    · refine plain c (by unfold pv; rw [if_neg k1', if_pos k2]) (by omega) ?_
      rw [n23, s23_0, if_neg (by omega), if_pos (by omega), if_neg (fun z => z k2)]
    · by_cases k3 : a = -1 ∨ c = -1
      · refine plain (-3) (by unfold pv; rw [if_neg k1', if_neg k2, if_pos (bI_t k3)]) (by decide) ?_
        rw [n23, s23_0, if_neg (by omega), if_pos (by omega), if_pos k2]
        by_cases e : a = -1
        · rw [if_pos e, s23_33]
        · rw [if_neg e, if_neg (fun z => z (k3.resolve_left e)), s23_33]
      · have k3' : ¬ bI (a = -1 ∨ c = -1) = 1 := fun z => k3 (bI_1.mp z)
        have st : evc 23 [vr 51, vi j, vi o, vi a, vi c] (hp L b I J) = ev 23 44 [some (vr 51), some (vi j), some (vi o), some (vi a), some (vi c)] [vi (bI (rdR G a))] (hp L b I J) := by
          rw [n23, s23_0, if_neg (by omega), if_pos (by omega), if_pos k2, if_neg (by omega), if_pos (by omega), c66R hT]
          simp only [Option.bind_some]
        by_cases k4 : rdR G a ∧ rdR G c ∧ (o = -1 ∨ rdR G o)
        · obtain ⟨r1, r2, r3⟩ := k4
          have hb : isBl 56 = true := by decide
          obtain ⟨I1, q1, q2, V, q3⟩ := c1R (L := L) (b := b) (I := I) (J := J) (x := 56) hb hT.rl ho ha hc
          obtain ⟨S, hS⟩ : ∃ S, S = mgS G o a c := ⟨_, rfl⟩
          rw [← hS] at V q3
          have nc := nc_bd V
          have q8 := c8 (L := L) (b := b) (J := J) hb V q3 (fun _ _ _ => by decide)
          have q2 : Same [2, 56, 57, 58, 59, 60, 61, 62, 63, 64, 65, 66, 67, 68, 69, 70, 71] I I1 := q2
          have st2 : evc 23 [vr 51, vi j, vi o, vi a, vi c] (hp L b I J) = ev 23 100 [some (vr 51), some (vi j), none, none, none] [vi (bI ((∀ c, 0 ≤ c → c < ct (mC S) (mN S) → (fun _ => -1 : Int → Int) c ≠ -1) ∧ (We S (fun _ => -1)).1 ≤ 24))] (hp L b I1 J) := by
            have st3 : ev 23 56 [some (vr 51), some (vi j), some (vi o), some (vi a), some (vi c)] [vi 1] (hp L b I J) = ev 23 78 [some (vr 51), some (vi j), some (vi o), some (vi a), some (vi c)] [] (hp L b I J) := by
              rw [s23_56, if_neg (by decide)]
              by_cases e : o = -1
              · rw [if_pos e]
              · rw [if_neg e, c66R hT, bI_t (r3.resolve_left e)]
                simp only [Option.bind_some]
                rw [s23_72, if_pos (by decide)]
            rw [st, bI_t r1, s23_44, if_neg (by decide), c66R hT, bI_t r2]
            simp only [Option.bind_some]
            rw [st3, s23_78, q1]
            simp only [Option.bind_some]
            rw [s23_93, q8]
            simp only [Option.bind_some]
          by_cases k5 : ct (mC S) (mN S) = 0 ∧ (We S (fun _ => -1)).1 ≤ 24
          · have pe : pv G o a c = -4 := by unfold pv; rw [if_neg k1', if_neg k2, if_neg k3', if_pos (bI_t ⟨r1, r2, r3⟩), ← hS, if_pos (bI_t k5)]
            have jr := isRow_j hj
            obtain ⟨I2, w1, w2, w3⟩ := c10 (L := L) (b := b) (J := J) (x := 56) (k := 72 + 2 * j.toNat) hb jr (by omega) V q3 k5.2
            refine ⟨I2, ?_, ?_, fun _ => ?_⟩
            · rw [st2, bI_t ⟨fun c z1 z2 => by omega, k5.2⟩, s23_100, if_pos (by decide), gd_t hj, w1]
              simp only [Option.bind_some]
              rw [s23_119, pe]
            · exact Same.tr (q2.mono (by unfold cPl; simp)) (w2.mono (by unfold cPl; simp))
            · rw [← hS]; exact ⟨k5.2, w3⟩
          · have pe : pv G o a c = -3 := by unfold pv; rw [if_neg k1', if_neg k2, if_neg k3', if_pos (bI_t ⟨r1, r2, r3⟩), ← hS, if_neg (fun z => k5 (bI_1.mp z))]
            refine ⟨I1, ?_, q2.mono (by unfold cPl; simp), fun z => absurd (pe.symm.trans z) (by decide)⟩
            rw [st2, bI_f, s23_100, if_neg (by decide), pe]
            intro z
            by_cases e : ct (mC S) (mN S) = 0
            · exact k5 ⟨e, z.2⟩
            · exact z.1 0 (Int.le_refl _) (by omega) rfl
        · refine plain (-2) (by unfold pv; rw [if_neg k1', if_neg k2, if_neg k3', if_neg (fun z => k4 (bI_1.mp z))]) (by decide) ?_
          rw [st]
          by_cases r1 : rdR G a
          · rw [bI_t r1, s23_44, if_neg (by decide), c66R hT]
            simp only [Option.bind_some]
            by_cases r2 : rdR G c
            · rw [bI_t r2, s23_56, if_neg (by decide), if_neg (fun z => k4 ⟨r1, r2, Or.inl z⟩), c66R hT, bI_f (fun z => k4 ⟨r1, r2, Or.inr z⟩)]
              simp only [Option.bind_some]
              rw [s23_72, if_neg (by decide), s23_75]
            · rw [bI_f r2, s23_56, if_pos rfl, s23_75]
          · rw [bI_f r1, s23_44, if_pos rfl, s23_75]
end
