/-! the reference: addPlace, findMerge -/
def PcS (pl pq sp sz : Int → Int) (S : MS) (i : Int) : Prop := (mK S i = -1 → pq (mO S i.toNat) = ct (mC S) i.toNat ∧ ∀ d, 0 ≤ d → d ≤ 2 → sz (4 * ct (mC S) i.toNat + d) = mL S d i ∧ ∀ x, 0 ≤ x → x < mL S d i → sp (24 * (4 * ct (mC S) i.toNat + d) + x) = S.2.1 d (mF S d i.toNat + x)) ∧ (mK S i ≠ -1 → ∀ x, 0 ≤ x → x < mL S (mK S i) i → pq (mO S i.toNat + x) = -1 ∧ pl (mO S i.toNat + x) = S.2.1 (mK S i) (mF S (mK S i) i.toNat + x))
def PcA (pl pq : Int → Int) (S : MS) (i : Int) : Prop := i < S.1 0 → pq (mO S i.toNat + mQ S i) = -1 ∧ pl (mO S i.toNat + mQ S i) = S.2.1 0 i
def PcP (I : AI) (S : MS) (n : Int) : Prop := I 115 38 = ct (mC S) n.toNat ∧ I 115 35 = mO S n.toNat ∧ ∀ i, 0 ≤ i → i < n → mP S i → PcS (I 142) (I 143) (I 144) (I 145) S i ∧ PcA (I 142) (I 143) S i
def PcQ (I : AI) (S : MS) (n : Int) : Prop := I 115 38 = ct (mC S) (n + 1).toNat ∧ I 115 35 = mO S n.toNat + mQ S n ∧ (∀ i, 0 ≤ i → i < n → mP S i → PcS (I 142) (I 143) (I 144) (I 145) S i ∧ PcA (I 142) (I 143) S i) ∧ PcS (I 142) (I 143) (I 144) (I 145) S n
section
variable {S : MS}
theorem mO_mono (hV : MV S) : ∀ m n : Nat, n ≤ m → (m : Int) ≤ S.1 0 → mO S n ≤ mO S m
  | 0, n, h, _ => by rw [show n = 0 by omega]; exact Int.le_refl _
  | m + 1, n, h, h' => by
    by_cases c : n = m + 1
    · rw [c]; exact Int.le_refl _
    · have ih := mO_mono hV m n (by omega) (by omega)
      have e := mO_s S (i := m) (by omega)
      rw [show ((m : Int) + 1).toNat = m + 1 by omega, show ((m : Nat) : Int).toNat = m by omega] at e
      rw [e]
      by_cases d : mA S m
      · rw [if_pos (bI_t d)]
        have q := mQ_bd hV (i := m) (by omega) (Or.inl d)
        omega
      · rw [if_neg (fun z => d (bI_1.mp z))]; exact ih
theorem mO_le (hV : MV S) {i j : Int} (h0 : 0 ≤ j) (h1 : j < i) (h2 : i ≤ S.1 0) (h : mP S j) : mO S j.toNat + mQ S j + 1 ≤ mO S i.toNat := by
  have e := mO_s S h0
  rw [if_pos (bI_t (show mA S j by rcases h with y | y; exact y; omega))] at e
  have := mO_mono hV i.toNat (j + 1).toNat (by omega) (by omega)
  omega
theorem mC_lt {i j : Int} (h0 : 0 ≤ j) (h1 : j < i) (h : mC S j) : ct (mC S) j.toNat < ct (mC S) i.toNat := by
  have a1 := ct_s (p := mC S) h0
  rw [bI_t h] at a1
  have a2 := ct_mono (p := mC S) (n := (j + 1).toNat) (m := i.toNat) (by omega)
  omega
theorem mQ_k {i : Int} (h : mK S i ≠ -1) : mQ S i = mL S (mK S i) i := if_neg h
theorem mQ_c {i : Int} (h : mK S i = -1) : mQ S i = 1 := if_pos h
theorem PcS.cg (hV : MV S) {pl pq sp sz pl' pq' sp' sz' : Int → Int} {j M N : Int} (h0 : 0 ≤ j) (hP : mP S j) (h : PcS pl pq sp sz S j) (hp' : ∀ y, y < M → pl' y = pl y ∧ pq' y = pq y) (hM : mO S j.toNat + mQ S j ≤ M) (hs : ∀ y, y < 4 * N → sz' y = sz y) (hs2 : ∀ y, y < 24 * (4 * N) → sp' y = sp y) (hN : mC S j → ct (mC S) j.toNat < N) : PcS pl' pq' sp' sz' S j := by
  refine ⟨fun k => ?_, fun k x a c => ?_⟩
  · have n1' := hN ⟨hP, k⟩
    have q := mQ_c k
    obtain ⟨z1, z2⟩ := h.1 k
    refine ⟨by rw [(hp' _ (by omega)).2]; exact z1, fun d a c => ⟨by rw [hs _ (by omega)]; exact (z2 d a c).1, fun x e f => ?_⟩⟩
    have l := mL_bd hV (d := d) ⟨a, c⟩ h0 hP
    rw [hs2 _ (by omega)]
    exact (z2 d a c).2 x e f
  · have q := mQ_k k
    rw [(hp' _ (by omega)).1, (hp' _ (by omega)).2]
    exact h.2 k x a c
theorem PcA.cg {pl pq pl' pq' : Int → Int} {j M : Int} (h : PcA pl pq S j) (hp' : ∀ y, y < M → pl' y = pl y ∧ pq' y = pq y) (hM : j < S.1 0 → mO S j.toNat + mQ S j + 1 ≤ M) : PcA pl' pq' S j := fun k => by
  have := hM k
  rw [(hp' _ (by omega)).1, (hp' _ (by omega)).2]
  exact h k
end
section
variable {L : Nat} {b : Bool} {I : AI} {J : AJ}
theorem c182 {S : MS} (hV : MV S) {o a c : Int} (e0 : S.2.1 0 = tl I o) (e1 : S.2.1 1 = tl I a) (e2 : S.2.1 2 = tl I c) (v0 : 0 < S.1 0 → 0 ≤ o ∧ o < 120) (v1 : 0 < S.1 1 → 0 ≤ a ∧ a < 120) (v2 : 0 < S.1 2 → 0 ≤ c ∧ c < 120) {i : Int} (hi : 0 ≤ i ∧ i ≤ S.1 0) (hP : mP S i) (hB : PcP I S i) : (fun r => ∃ I' : AI, r = some (vi 0, hp L b I' J) ∧ Sm [142, 143, 144, 145] [35, 38] I I' ∧ PcQ I' S i) (evc 182 [vr 115, vi o, vi (mF S 0 i.toNat), vi (mT S 0 i), vi a, vi (mF S 1 i.toNat), vi (mT S 1 i), vi c, vi (mF S 2 i.toNat), vi (mT S 2 i)] (hp L b I J)) := by
  have nb0 := hV.1 0 (by decide) (by decide)
  have nb1 := hV.1 1 (by decide) (by decide)
  have nb2 := hV.1 2 (by decide) (by decide)
  have t0 := mT_bd hV (d := 0) (by decide) hi.1 hP
  have t1 := mT_bd hV (d := 1) (by decide) hi.1 hP
  have t2 := mT_bd hV (d := 2) (by decide) hi.1 hP
  have l0 : mL S 0 i = mT S 0 i - mF S 0 i.toNat := rfl
  have l1 : mL S 1 i = mT S 1 i - mF S 1 i.toNat := rfl
  have l2 : mL S 2 i = mT S 2 i - mF S 2 i.toNat := rfl
  have pb := mP_ct S hi.1
  have cb := mC_ct S i.toNat
  have ob := mO_bd hV i.toNat (by omega)
  have e38 := hB.1
  have e35 := hB.2.1
  have q1 : evc 180 [vr 115, vi a, vi (mF S 1 i.toNat), vi (mT S 1 i - mF S 1 i.toNat), vi o, vi (mF S 0 i.toNat), vi (mT S 0 i - mF S 0 i.toNat)] (hp L b I J) = some (vi (bI (mEq S 1 0 i)), hp L b I J) := by
    have q := c180 (L := L) (b := b) (I := I) (J := J) (t := a) (p := mF S 1 i.toNat) (n := mT S 1 i - mF S 1 i.toNat) (u := o) (q := mF S 0 i.toNat) (m := mT S 0 i - mF S 0 i.toNat) (by omega) (by omega) (fun z => v1 (by omega)) (fun z => v0 (by omega))
    rw [← e1, ← e0] at q
    exact q
  have q2 : evc 180 [vr 115, vi c, vi (mF S 2 i.toNat), vi (mT S 2 i - mF S 2 i.toNat), vi o, vi (mF S 0 i.toNat), vi (mT S 0 i - mF S 0 i.toNat)] (hp L b I J) = some (vi (bI (mEq S 2 0 i)), hp L b I J) := by
    have q := c180 (L := L) (b := b) (I := I) (J := J) (t := c) (p := mF S 2 i.toNat) (n := mT S 2 i - mF S 2 i.toNat) (u := o) (q := mF S 0 i.toNat) (m := mT S 0 i - mF S 0 i.toNat) (by omega) (by omega) (fun z => v2 (by omega)) (fun z => v0 (by omega))
    rw [← e2, ← e0] at q
    exact q
  have q3 : evc 180 [vr 115, vi a, vi (mF S 1 i.toNat), vi (mT S 1 i - mF S 1 i.toNat), vi c, vi (mF S 2 i.toNat), vi (mT S 2 i - mF S 2 i.toNat)] (hp L b I J) = some (vi (bI (mEq S 1 2 i)), hp L b I J) := by
    have q := c180 (L := L) (b := b) (I := I) (J := J) (t := a) (p := mF S 1 i.toNat) (n := mT S 1 i - mF S 1 i.toNat) (u := c) (q := mF S 2 i.toNat) (m := mT S 2 i - mF S 2 i.toNat) (by omega) (by omega) (fun z => v1 (by omega)) (fun z => v2 (by omega))
    rw [← e1, ← e2] at q
    exact q
  have cs := ct_s (p := mC S) hi.1
  -- a span is added
  have took : ∀ (d t : Int) (I' : AI), mK S i = d → d ≠ -1 → S.2.1 d = tl I t → Sm [142, 143] [35] I I' → I' 115 35 = I 115 35 + (mT S d i - mF S d i.toNat) → (∀ x, 0 ≤ x → x < mT S d i - mF S d i.toNat → I' 142 (I 115 35 + x) = tl I t (mF S d i.toNat + x) ∧ I' 143 (I 115 35 + x) = -1) → (∀ y, y < I 115 35 → I' 142 y = I 142 y ∧ I' 143 y = I 143 y) → Sm [142, 143, 144, 145] [35, 38] I I' ∧ PcQ I' S i := by
    intro d t I' hd hn ht s1 s2 s3 s4
    have q := mQ_k (S := S) (i := i) (by rw [hd]; exact hn)
    rw [hd] at q
    have ld : mL S d i = mT S d i - mF S d i.toNat := rfl
    have nc : ¬ mC S i := fun z => hn (by rw [← hd]; exact z.2)
    refine ⟨s1.mono (by simp) (by simp), ?_, by omega, fun j a1 a2 a3 => ?_, fun z => absurd (hd.symm.trans z) hn, fun _ x x0 x1 => ?_⟩
    · rw [s1.2 38 (by decide), cs, bI_f nc, e38]; omega
    · have z := hB.2.2 j a1 a2 a3
      have le := mO_le hV a1 a2 hi.2 a3
      rw [e35] at s4
      refine ⟨z.1.cg hV (M := mO S i.toNat) (N := 25) a1 a3 s4 (by omega) (fun y _ => by rw [s1.1 145 (by decide) (by decide)]) (fun y _ => by rw [s1.1 144 (by decide) (by decide)]) (fun y => ?_), z.2.cg (M := mO S i.toNat) s4 (fun _ => le)⟩
      have := mC_lt a1 a2 y
      omega
    · rw [hd] at x1 ⊢
      rw [← e35, (s3 x x0 (by omega)).1, (s3 x x0 (by omega)).2, ht]
      exact ⟨rfl, rfl⟩
  rw [n182, s182_0, gd_t (by omega), gd_t (by omega), q1]
  simp only [Option.bind_some]
  rw [s182_18]
  by_cases m1 : mEq S 1 0 i
  · have k : mK S i = 2 := by unfold mK; rw [if_pos (bI_t m1)]
    have lb := mQ_bd hV hi.1 hP
    obtain ⟨I', p1, p2, p3, p4, p5⟩ := c179 (L := L) (b := b) (I := I) (J := J) (t := c) (p := mF S 2 i.toNat) (q := mT S 2 i) (by omega) (fun z => v2 (by omega)) (by omega)
    refine ⟨I', ?_, took 2 c I' k (by decide) e2 p2 p3 p4 p5⟩
    rw [bI_t m1, if_neg (by decide), p1]
    simp only [Option.bind_some]
    rw [s182_31]
  · have one : (mEq S 2 0 i ∨ mEq S 1 2 i) → (fun r => ∃ I' : AI, r = some (vi 0, hp L b I' J) ∧ Sm [142, 143, 144, 145] [35, 38] I I' ∧ PcQ I' S i) (ev 182 80 [some (vr 115), none, none, none, some (vi a), some (vi (mF S 1 i.toNat)), some (vi (mT S 1 i)), none, none, none] [] (hp L b I J)) := fun m2 => by
      have k : mK S i = 1 := by unfold mK; rw [if_neg (fun z => m1 (bI_1.mp z)), if_pos (bI_t m2)]
      obtain ⟨I', p1, p2, p3, p4, p5⟩ := c179 (L := L) (b := b) (I := I) (J := J) (t := a) (p := mF S 1 i.toNat) (q := mT S 1 i) (by omega) (fun z => v1 (by omega)) (by omega)
      refine ⟨I', ?_, took 1 a I' k (by decide) e1 p2 p3 p4 p5⟩
      rw [s182_80, p1]
      simp only [Option.bind_some]
      rw [s182_90]
    rw [bI_f m1, if_pos rfl, gd_t (by omega), gd_t (by omega), q2]
    simp only [Option.bind_some]
    rw [s182_52]
    by_cases m2 : mEq S 2 0 i
    · rw [bI_t m2, if_pos (by decide)]; exact one (Or.inl m2)
    · rw [bI_f m2, if_neg (by decide), gd_t (by omega), gd_t (by omega), q3]
      simp only [Option.bind_some]
      rw [s182_77]
      by_cases m3 : mEq S 1 2 i
      · rw [bI_t m3, if_neg (by decide)]; exact one (Or.inr m3)
      · have k : mK S i = -1 := by
          unfold mK
          rw [if_neg (fun z => m1 (bI_1.mp z)), if_neg (fun z => by rcases bI_1.mp z with y | y; exact m2 y; exact m3 y)]
        have hc : mC S i := ⟨hP, k⟩
        rw [bI_f m3, if_pos rfl]
        obtain ⟨I1, p1, f1, w1, x1, y1⟩ := c181 (L := L) (b := b) (I := I) (J := J) (d := 0) (t := o) (p := mF S 0 i.toNat) (q := mT S 0 i) (by omega) (fun z => v0 (by omega)) (by decide) (by omega)
        have g1 : I1 115 38 = I 115 38 := f1.2 _ (by simp)
        obtain ⟨I2, p2, f2, w2, x2, y2⟩ := c181 (L := L) (b := b) (I := I1) (J := J) (d := 1) (t := a) (p := mF S 1 i.toNat) (q := mT S 1 i) (by omega) (fun z => v1 (by omega)) (by decide) (by omega)
        have g2 : I2 115 38 = I 115 38 := (f2.2 _ (by simp)).trans g1
        obtain ⟨I3, p3, f3, w3, x3, y3⟩ := c181 (L := L) (b := b) (I := I2) (J := J) (d := 2) (t := c) (p := mF S 2 i.toNat) (q := mT S 2 i) (by omega) (fun z => v2 (by omega)) (by decide) (by omega)
        have g3 : I3 115 38 = I 115 38 := (f3.2 _ (by simp)).trans g2
        have tl1 : tl I1 = tl I := by unfold tl; rw [f1.1 116 (by decide) (by decide)]
        have tl2 : tl I2 = tl I := by rw [← tl1]; unfold tl; rw [f2.1 116 (by decide) (by decide)]
        rw [g1, tl1, ← e1] at x2
        rw [g1] at w2 y2
        rw [g2, tl2, ← e2] at x3
        rw [g2] at w3 y3
        rw [← e0] at x1
        have F : Sm [144, 145] [] I I3 := Sm.tr (Sm.tr f1 f2) f3
        have h35 : I3 115 35 = I 115 35 := F.2 _ (by simp)
        refine ⟨upI (upI (upI (upI I3 142 (I3 115 35) 0) 143 (I3 115 35) (I3 115 38)) 115 35 (I3 115 35 + 1)) 115 38 (I3 115 38 + 1), ?_, ?_, ?_, ?_, fun j a1 a2 a3 => ?_, fun _ => ⟨?_, fun d d0 d1 => ?_⟩, fun z => absurd k z⟩
        · rw [p1]
          simp only [Option.bind_some]
          rw [s182_101, p2]
          simp only [Option.bind_some]
          rw [s182_112, p3]
          simp only [Option.bind_some]
          rw [s182_123]
          have u1 : (upI I3 142 (I3 115 35) 0) 115 35 = I3 115 35 := by rw [upI_c (by decide)]
          have u1' : (upI I3 142 (I3 115 35) 0) 115 38 = I3 115 38 := by rw [upI_c (by decide)]
          have u2 : (upI (upI I3 142 (I3 115 35) 0) 143 (I3 115 35) (I3 115 38)) 115 35 = I3 115 35 := by rw [upI_c (by decide), upI_c (by decide)]
          have u3 : (upI (upI (upI I3 142 (I3 115 35) 0) 143 (I3 115 35) (I3 115 38)) 115 35 (I3 115 35 + 1)) 115 38 = I3 115 38 := by rw [upI_i (by decide), upI_c (by decide), upI_c (by decide)]
          rw [u1, u1', u2, u3, gd_t (by omega), gd_t (by omega), gd_t (by omega), gd_t (by omega)]
        · exact ((((F.mono (by simp) (by simp)).up (by simp) (by decide)).up (by simp) (by decide)).fld (by simp)).fld (by simp)
        · rw [upI_s, cs, bI_t hc, g3, e38]
        · rw [upI_i (by decide), upI_s, h35, e35, mQ_c k]
        · have z := hB.2.2 j a1 a2 a3
          have le := mO_le hV a1 a2 hi.2 a3
          have s4 : ∀ y, y < mO S i.toNat → (upI (upI (upI (upI I3 142 (I3 115 35) 0) 143 (I3 115 35) (I3 115 38)) 115 35 (I3 115 35 + 1)) 115 38 (I3 115 38 + 1)) 142 y = I 142 y ∧ (upI (upI (upI (upI I3 142 (I3 115 35) 0) 143 (I3 115 35) (I3 115 38)) 115 35 (I3 115 35 + 1)) 115 38 (I3 115 38 + 1)) 143 y = I 143 y := fun y hy => by
            refine ⟨?_, ?_⟩
            · rw [upI_c (by decide), upI_c (by decide), upI_c (by decide), upI_i (by omega), F.1 142 (by decide) (by decide)]
            · rw [upI_c (by decide), upI_c (by decide), upI_i (by omega), upI_c (by decide), F.1 143 (by decide) (by decide)]
          refine ⟨z.1.cg hV (M := mO S i.toNat) (N := ct (mC S) i.toNat) a1 a3 s4 (by omega) (fun y hy => ?_) (fun y hy => ?_) (fun y => mC_lt a1 a2 y), z.2.cg (M := mO S i.toNat) s4 (fun _ => le)⟩
          · rw [upI_c (by decide), upI_c (by decide), upI_c (by decide), upI_c (by decide), w3, if_neg (by omega), w2, if_neg (by omega), w1, if_neg (by omega)]
          · rw [upI_c (by decide), upI_c (by decide), upI_c (by decide), upI_c (by decide), y3 _ (by omega), y2 _ (by omega), y1 _ (by omega)]
        · rw [upI_c (by decide), upI_c (by decide), ← e35, ← h35, upI_s, g3, e38]
        · rw [upI_c (by decide), upI_c (by decide), upI_c (by decide), upI_c (by decide), upI_c (by decide), upI_c (by decide), upI_c (by decide), upI_c (by decide), ← e38]
          rcases (show d = 0 ∨ d = 1 ∨ d = 2 by omega) with e | e | e <;> subst e
          · exact ⟨by rw [w3, if_neg (by omega), w2, if_neg (by omega), w1, if_pos rfl]; rfl, fun x z1 z2 => by rw [y3 _ (by omega), y2 _ (by omega)]; exact x1 x z1 z2⟩
          · exact ⟨by rw [w3, if_neg (by omega), w2, if_pos rfl]; rfl, fun x z1 z2 => by rw [y3 _ (by omega)]; exact x2 x z1 z2⟩
          · exact ⟨by rw [w3, if_pos rfl]; rfl, x3⟩
theorem c183 {o a c : Int} (ho : o < 120) (ha : a < 120) (hc : c < 120) (bo : 0 ≤ ts I o ∧ ts I o ≤ 24) (ba : 0 ≤ ts I a ∧ ts I a ≤ 24) (bc : 0 ≤ ts I c ∧ ts I c ≤ 24) : (fun r => ∃ I' : AI, r = some (vi 0, hp L b I' J) ∧ Sm [135, 136, 137, 140, 141, 142, 143, 144, 145] [27, 35, 38] I I' ∧ MV (mgS I o a c) ∧ PcR (I' 142) (I' 143) (I' 115 35) (I' 144) (I' 145) (I' 115 38) (mgS I o a c)) (evc 183 [vr 115, vi o, vi a, vi c] (hp L b I J)) := by
  obtain ⟨I1, p1, f1, w1, x1⟩ := c178 (L := L) (b := b) (I := I) (J := J) (k := 140) (Or.inl rfl) ho ha bo ba
  have ts1 : ts I1 = ts I := by unfold ts; rw [f1.1 117 (by decide) (by decide)]
  have tl1 : tl I1 = tl I := by unfold tl; rw [f1.1 116 (by decide) (by decide)]
  obtain ⟨I2, p2, f2, w2, x2⟩ := c178 (L := L) (b := b) (I := I1) (J := J) (k := 141) (Or.inr rfl) ho hc (by rw [ts1]; exact bo) (by rw [ts1]; exact bc)
  have w2' : POm I o c := by unfold POm at w2 ⊢; rw [← ts1, ← tl1]; exact w2
  have x2' : ∀ i, 0 ≤ i → i < 24 → I2 141 i = mo I o c i := fun i z1 z2 => by rw [x2 i z1 z2]; unfold mo; rw [ts1, tl1]
  have x1' : ∀ i, 0 ≤ i → i < 24 → I2 140 i = mo I o a i := fun i z1 z2 => by rw [f2.1 140 (by decide) (by decide)]; exact x1 i z1 z2
  have V : MV (mgS I o a c) := MV_mg bo ba bc w1 w2'
  have F2 : Sm [135, 136, 137, 140, 141] [27] I I2 := Sm.tr (f1.mono (by simp) (by simp)) (f2.mono (by simp) (by simp))
  have ts2 : ts I2 = ts I := by unfold ts; rw [F2.1 117 (by decide) (by decide)]
  have tl2 : tl I2 = tl I := by unfold tl; rw [F2.1 116 (by decide) (by decide)]
  have st : evc 183 [vr 115, vi o, vi a, vi c] (hp L b I J) = ev 183 42 [some (vr 115), some (vi o), some (vi a), some (vi c), some (vi 0), some (vi 0), some (vi 0), some (vi 0)] [] (hp L b (upI (upI I2 115 35 0) 115 38 0) J) := by
    rw [n183, s183_0, p1]
    simp only [Option.bind_some]
    rw [s183_10, p2]
    simp only [Option.bind_some]
    rw [s183_20]
  obtain ⟨S, hS⟩ : ∃ S, S = mgS I o a c := ⟨_, rfl⟩
  have S0 : S.1 0 = ts I o := by rw [hS]; rfl
  have S1 : S.1 1 = ts I a := by rw [hS]; rfl
  have S2 : S.1 2 = ts I c := by rw [hS]; rfl
  have T0 : S.2.1 0 = tl I o := by rw [hS]; rfl
  have T1 : S.2.1 1 = tl I a := by rw [hS]; rfl
  have T2 : S.2.1 2 = tl I c := by rw [hS]; rfl
  have K0 : ∀ i, S.2.2 0 i = i := fun i => by rw [hS]; rfl
  have K1 : ∀ i, S.2.2 1 i = mo I o a i := fun i => by rw [hS]; rfl
  have K2 : ∀ i, S.2.2 2 i = mo I o c i := fun i => by rw [hS]; rfl
  have tsp : ∀ t, t < 120 → 0 < ts I t → 0 ≤ t ∧ t < 120 := fun t h1 h2 => ⟨by by_cases z : 0 ≤ t; exact z; unfold ts at h2; rw [if_neg z] at h2; omega, h1⟩
  have v0 : 0 < S.1 0 → 0 ≤ o ∧ o < 120 := fun z => tsp o ho (by rw [← S0]; exact z)
  have v1 : 0 < S.1 1 → 0 ≤ a ∧ a < 120 := fun z => tsp a ha (by rw [← S1]; exact z)
  have v2 : 0 < S.1 2 → 0 ≤ c ∧ c < 120 := fun z => tsp c hc (by rw [← S2]; exact z)
  rw [← hS] at V
  rw [st, ← hS]
  clear w1 w2 w2' x1 x2
  have nb0 := V.1 0 (by decide) (by decide)
  have nb1 := V.1 1 (by decide) (by decide)
  have nb2 := V.1 2 (by decide) (by decide)
  refine lp (lo := 0) (hi := S.1 0) (F := fun i (Y : AI) => ev 183 42 [some (vr 115), some (vi o), some (vi a), some (vi c), some (vi (mF S 0 i.toNat)), some (vi (mF S 1 i.toNat)), some (vi (mF S 2 i.toNat)), some (vi i)] [] (hp L b Y J)) (Q := fun r => ∃ I' : AI, r = some (vi 0, hp L b I' J) ∧ Sm [135, 136, 137, 140, 141, 142, 143, 144, 145] [27, 35, 38] I I' ∧ MV S ∧ PcR (I' 142) (I' 143) (I' 115 35) (I' 144) (I' 145) (I' 115 38) S) (fun i Y => Sm [142, 143, 144, 145] [35, 38] I2 Y ∧ PcP Y S i) ?_ ?_ 0 _ (Int.le_refl _) nb0.1 ⟨(Sm.rf.fld (by simp)).fld (by simp), by rw [upI_s]; rfl, by rw [upI_i (by decide), upI_s]; rfl, fun i z1 z2 => by omega⟩
  · intro i Y g1 g2 ⟨u1, u2⟩
    right
    have tsY : ts Y = ts I := by rw [← ts2]; unfold ts; rw [u1.1 117 (by decide) (by decide)]
    have tlY : tl Y = tl I := by rw [← tl2]; unfold tl; rw [u1.1 116 (by decide) (by decide)]
    have k1 : Y 140 i = S.2.2 1 i := by rw [u1.1 140 (by decide) (by decide), x1' i g1 (by omega), K1]
    have k2 : Y 141 i = S.2.2 2 i := by rw [u1.1 141 (by decide) (by decide), x2' i g1 (by omega), K2]
    by_cases m : mA S i
    · obtain ⟨Y1, s1, s2, s3⟩ := c182 (L := L) (b := b) (I := Y) (J := J) V (by rw [T0, tlY]) (by rw [T1, tlY]) (by rw [T2, tlY]) v0 v1 v2 (i := i) ⟨g1, by omega⟩ (Or.inl m) u2
      have t0 : ∀ d, mT S d i = S.2.2 d i := fun d => if_neg (by omega)
      rw [t0, t0, t0, K0] at s1
      have lt1 := V.2.2.1 1 i (by decide) (by decide) g1 m
      have lt2 := V.2.2.1 2 i (by decide) (by decide) g1 m
      have m1 := m.2.1
      have m2 := m.2.2
      have ob := mO_bd V i.toNat (by omega)
      have qb := mQ_bd V g1 (Or.inl m)
      have ml1 := mL_bd V (d := 1) (by decide) g1 (Or.inl m)
      have ml2 := mL_bd V (d := 2) (by decide) g1 (Or.inl m)
      have fb1 := mF_bd V (d := 1) (by decide) i.toNat
      have fb2 := mF_bd V (d := 2) (by decide) i.toNat
      have s35 := s3.2.1
      have ho' := v0 (by omega)
      obtain ⟨Y2, r1, r2, r3, r4, r5⟩ := c179 (L := L) (b := b) (I := Y1) (J := J) (t := o) (p := i) (q := i + 1) (by omega) (fun z => v0 (by omega)) (by omega)
      rw [s35] at r3 r4 r5
      have e1 : Y1 140 i = S.2.2 1 i := by rw [s2.1 140 (by decide) (by decide)]; exact k1
      have e2 : Y1 141 i = S.2.2 2 i := by rw [s2.1 141 (by decide) (by decide)]; exact k2
      have e1' : Y2 140 i = S.2.2 1 i := by rw [r2.1 140 (by decide) (by decide)]; exact e1
      have e2' : Y2 141 i = S.2.2 2 i := by rw [r2.1 141 (by decide) (by decide)]; exact e2
      have tlY1 : tl Y1 = tl I := by rw [← tlY]; unfold tl; rw [s2.1 116 (by decide) (by decide)]
      refine ⟨Y2, ?_, Sm.tr (Sm.tr u1 s2) (r2.mono (by simp) (by simp)), ?_, ?_, fun j a1 a2 a3 => ?_⟩
      · try dsimp only
        rw [mF_s S 0 g1, mF_s S 1 g1, mF_s S 2 g1, if_pos (bI_t m), if_pos (bI_t m), if_pos (bI_t m), K0]
        rw [s183_42, c172 ho, tsY, ← S0]
        simp only [Option.bind_some]
        rw [s183_49, if_neg (by omega), k1, k2, gd_t (by omega), if_neg (by omega), gd_t (by omega), if_neg (by omega), gd_t (by omega), gd_t (by omega), s1]
        simp only [Option.bind_some]
        rw [s183_101, gd_t (by omega), r1]
        simp only [Option.bind_some]
        rw [s183_112, e1', e2', gd_t (by omega), gd_t (by omega), gd_t (by omega), gd_t (by omega), gd_t (by omega), s183_140, gd_t (by omega)]
      · rw [r2.2 38 (by decide)]; exact s3.1
      · rw [r3, mO_s S g1, if_pos (bI_t m)]; omega
      · have fa : PcA (Y2 142) (Y2 143) S i := fun _ => by
          have z := r4 0 (by omega) (by omega)
          rw [Int.add_zero, Int.add_zero, tlY1, ← T0] at z
          exact ⟨z.2, z.1⟩
        have keep : ∀ (hj : mP S j), mO S j.toNat + mQ S j ≤ mO S i.toNat + mQ S i → PcS (Y1 142) (Y1 143) (Y1 144) (Y1 145) S j → PcS (Y2 142) (Y2 143) (Y2 144) (Y2 145) S j := fun hj le z => by
          have cb := mC_ct S j.toNat
          have pb := mP_ct S a1
          exact z.cg V (M := mO S i.toNat + mQ S i) (N := 26) a1 hj r5 le (fun y _ => by rw [r2.1 145 (by decide) (by decide)]) (fun y _ => by rw [r2.1 144 (by decide) (by decide)]) (fun _ => by omega)
        by_cases z : j = i
        · rw [z] at keep ⊢
          exact ⟨keep (Or.inl m) (Int.le_refl _) s3.2.2.2, fa⟩
        · have old := s3.2.2.1 j a1 (by omega) a3
          have le := mO_le V a1 (show j < i by omega) (by omega) a3
          exact ⟨keep a3 (by omega) old.1, old.2.cg r5 (fun _ => by omega)⟩
    · refine ⟨Y, ?_, u1, ?_⟩
      · try dsimp only
        rw [mF_s S 0 g1, mF_s S 1 g1, mF_s S 2 g1, if_neg (fun z => m (bI_1.mp z)), if_neg (fun z => m (bI_1.mp z)), if_neg (fun z => m (bI_1.mp z))]
        rw [s183_42, c172 ho, tsY, ← S0]
        simp only [Option.bind_some]
        rw [s183_49, if_neg (by omega), k1, k2, gd_t (by omega)]
        by_cases c1 : S.2.2 1 i < 0
        · rw [if_pos c1, s183_140, gd_t (by omega)]
        · rw [if_neg c1, gd_t (by omega), if_pos (by by_cases c2 : S.2.2 2 i < 0; exact c2; exact absurd ⟨g2, by omega, by omega⟩ m), s183_140, gd_t (by omega)]
      · have np : ¬ mP S i := fun z => by rcases z with y | y; exact m y; omega
        refine ⟨?_, ?_, fun j a1 a2 a3 => u2.2.2 j a1 (by by_cases z : j = i; exact absurd (z ▸ a3) np; omega) a3⟩
        · rw [ct_s g1, bI_f (fun z => np z.1), Int.add_zero]; exact u2.1
        · rw [mO_s S g1, if_neg (fun z => m (bI_1.mp z))]; exact u2.2.1
  · intro Y ⟨u1, u2⟩
    have tsY : ts Y = ts I := by rw [← ts2]; unfold ts; rw [u1.1 117 (by decide) (by decide)]
    have tlY : tl Y = tl I := by rw [← tl2]; unfold tl; rw [u1.1 116 (by decide) (by decide)]
    obtain ⟨Y1, s1, s2, s3⟩ := c182 (L := L) (b := b) (I := Y) (J := J) V (by rw [T0, tlY]) (by rw [T1, tlY]) (by rw [T2, tlY]) v0 v1 v2 (i := S.1 0) ⟨nb0.1, Int.le_refl _⟩ (Or.inr rfl) u2
    have t0 : ∀ d, mT S d (S.1 0) = S.1 d := fun d => if_pos rfl
    rw [t0, t0, t0] at s1
    refine ⟨Y1, ?_, Sm.tr (F2.mono (by simp) (by simp)) ((Sm.tr u1 s2).mono (by simp) (by simp)), V, s3.1, s3.2.1, fun j a1 a2 a3 => ?_⟩
    · try dsimp only
      rw [s183_42, c172 ho, tsY, ← S0]
      simp only [Option.bind_some]
      rw [s183_49, if_pos (Int.le_refl _), c172 ho, tsY, ← S0]
      simp only [Option.bind_some]
      rw [s183_155, c172 ha, tsY, ← S1]
      simp only [Option.bind_some]
      rw [s183_163, c172 hc, tsY, ← S2]
      simp only [Option.bind_some]
      rw [s183_171, s1]
      simp only [Option.bind_some]
      rw [s183_174]
    · by_cases z : j = S.1 0
      · rw [z]
        exact ⟨s3.2.2.2.1, s3.2.2.2.2, fun y => by omega⟩
      · have old := s3.2.2.1 j a1 (by omega) a3
        exact ⟨old.1.1, old.1.2, old.2⟩
end
