/-! the merged text; the class: outcomeLength, fits, pushSpan, weave -/
def pu (z : Int × (Int → Int)) (v : Int) : Int × (Int → Int) := (z.1 + 1, fun y => if y = z.1 then v else z.2 y)
def pus (z : Int × (Int → Int)) (f : Int → Int) : Nat → Int × (Int → Int)
  | 0 => z
  | n + 1 => pu (pus z f n) (f n)
theorem pus_1 (z : Int × (Int → Int)) (f : Int → Int) : ∀ n : Nat, (pus z f n).1 = z.1 + n
  | 0 => by show z.1 = z.1 + 0; omega
  | n + 1 => by
    have := pus_1 z f n
    show (pus z f n).1 + 1 = z.1 + ((n + 1 : Nat) : Int)
    omega
theorem pus_s (z : Int × (Int → Int)) (f : Int → Int) {i : Int} (h : 0 ≤ i) : pus z f (i + 1).toNat = pu (pus z f i.toNat) (f i) := by
  rw [show (i + 1).toNat = i.toNat + 1 by omega]
  show pu (pus z f i.toNat) (f (i.toNat : Int)) = _
  rw [show ((i.toNat : Nat) : Int) = i by omega]
theorem pus_cg {z : Int × (Int → Int)} {f g : Int → Int} : ∀ n : Nat, (∀ x : Int, 0 ≤ x → x < n → f x = g x) → pus z f n = pus z g n
  | 0, _ => rfl
  | n + 1, h => by
    show pu (pus z f n) (f n) = pu (pus z g n) (g n)
    rw [pus_cg n (fun x a c => h x a (by omega)), h n (by omega) (by omega)]
noncomputable def spn (S : MS) (d i : Int) (z : Int × (Int → Int)) : Int × (Int → Int) := pus z (fun x => S.2.1 d (mF S d i.toNat + x)) (mL S d i).toNat
/-- what a place gives, by its outcome -/
noncomputable def sl0 (S : MS) (o i : Int) (z : Int × (Int → Int)) : Int × (Int → Int) := if o = 0 then spn S 0 i z else z
noncomputable def sl1 (S : MS) (o i : Int) (z : Int × (Int → Int)) : Int × (Int → Int) := if o = 1 ∨ o = 3 then spn S 1 i z else z
noncomputable def sl2 (S : MS) (o i : Int) (z : Int × (Int → Int)) : Int × (Int → Int) := if o = 2 ∨ o = 3 then spn S 2 i z else z
noncomputable def slx (S : MS) (o i : Int) (z : Int × (Int → Int)) : Int × (Int → Int) := sl2 S o i (sl1 S o i (sl0 S o i z))
noncomputable def oc (S : MS) (st : Int → Int) (i : Int) : Int := if mK S i = -1 then st (ct (mC S) i.toNat) else mK S i
noncomputable def Wz (S : MS) (st : Int → Int) : Nat → Int × (Int → Int)
  | 0 => (0, fun _ => 0)
  | i + 1 => if bI (mA S i) = 1 then pu (slx S (oc S st i) i (Wz S st i)) (S.2.1 0 i) else Wz S st i
noncomputable def We (S : MS) (st : Int → Int) : Int × (Int → Int) := slx S (oc S st (S.1 0)) (S.1 0) (Wz S st (S.1 0).toNat)
theorem Wz_s (S : MS) (st : Int → Int) {i : Int} (h : 0 ≤ i) : Wz S st (i + 1).toNat = if bI (mA S i) = 1 then pu (slx S (oc S st i) i (Wz S st i.toNat)) (S.2.1 0 i) else Wz S st i.toNat := by
  rw [show (i + 1).toNat = i.toNat + 1 by omega]
  show (if bI (mA S (i.toNat : Int)) = 1 then pu (slx S (oc S st (i.toNat : Int)) (i.toNat : Int) (Wz S st i.toNat)) (S.2.1 0 (i.toNat : Int)) else _) = _
  rw [show ((i.toNat : Nat) : Int) = i by omega]
/-- how long what it gives is -/
noncomputable def oL (S : MS) (o i : Int) : Int := (if o = 0 then mL S 0 i else 0) + (if o = 1 ∨ o = 3 then mL S 1 i else 0) + (if o = 2 ∨ o = 3 then mL S 2 i else 0)
section
variable {S : MS}
theorem spn_1 (hV : MV S) {d i : Int} (hd : 0 ≤ d ∧ d ≤ 2) (h0 : 0 ≤ i) (hP : mP S i) (z : Int × (Int → Int)) : (spn S d i z).1 = z.1 + mL S d i := by
  have := mL_bd hV hd h0 hP
  unfold spn
  rw [pus_1]; omega
theorem oL_bd (hV : MV S) {o i : Int} (h0 : 0 ≤ i) (hP : mP S i) : 0 ≤ oL S o i ∧ oL S o i ≤ mL S 0 i + mL S 1 i + mL S 2 i := by
  have l0 := mL_bd hV (d := 0) (by decide) h0 hP
  have l1 := mL_bd hV (d := 1) (by decide) h0 hP
  have l2 := mL_bd hV (d := 2) (by decide) h0 hP
  unfold oL
  by_cases a : o = 0
  · rw [if_pos a, if_neg (by omega), if_neg (by omega)]; omega
  · rw [if_neg a]
    by_cases c : o = 1 ∨ o = 3
    · rw [if_pos c]
      by_cases d : o = 2 ∨ o = 3
      · rw [if_pos d]; omega
      · rw [if_neg d]; omega
    · rw [if_neg c]
      by_cases d : o = 2 ∨ o = 3
      · rw [if_pos d]; omega
      · rw [if_neg d]; omega
theorem sl_1 (hV : MV S) {o i : Int} (h0 : 0 ≤ i) (hP : mP S i) (z : Int × (Int → Int)) : (sl0 S o i z).1 = z.1 + (if o = 0 then mL S 0 i else 0) ∧ (sl1 S o i z).1 = z.1 + (if o = 1 ∨ o = 3 then mL S 1 i else 0) ∧ (sl2 S o i z).1 = z.1 + (if o = 2 ∨ o = 3 then mL S 2 i else 0) := by
  refine ⟨?_, ?_, ?_⟩
  · unfold sl0
    by_cases a : o = 0
    · rw [if_pos a, if_pos a, spn_1 hV (by decide) h0 hP]
    · rw [if_neg a, if_neg a, Int.add_zero]
  · unfold sl1
    by_cases a : o = 1 ∨ o = 3
    · rw [if_pos a, if_pos a, spn_1 hV (by decide) h0 hP]
    · rw [if_neg a, if_neg a, Int.add_zero]
  · unfold sl2
    by_cases a : o = 2 ∨ o = 3
    · rw [if_pos a, if_pos a, spn_1 hV (by decide) h0 hP]
    · rw [if_neg a, if_neg a, Int.add_zero]
theorem slx_1 (hV : MV S) {o i : Int} (h0 : 0 ≤ i) (hP : mP S i) (z : Int × (Int → Int)) : (slx S o i z).1 = z.1 + oL S o i := by
  unfold slx oL
  rw [(sl_1 hV h0 hP _).2.2, (sl_1 hV h0 hP _).2.1, (sl_1 hV h0 hP _).1]
  omega
theorem Wz_bd (hV : MV S) (st : Int → Int) : ∀ n : Nat, (n : Int) ≤ S.1 0 → 0 ≤ (Wz S st n).1 ∧ (Wz S st n).1 ≤ mF S 0 n + mF S 1 n + mF S 2 n ∧ ct (mP S) n ≤ (Wz S st n).1
  | 0, _ => ⟨Int.le_refl _, Int.le_refl _, Int.le_refl _⟩
  | n + 1, h => by
    have ih := Wz_bd hV st n (by omega)
    have e := Wz_s S st (i := n) (by omega)
    have e0 := mF_s S 0 (i := n) (by omega)
    have e1 := mF_s S 1 (i := n) (by omega)
    have e2 := mF_s S 2 (i := n) (by omega)
    have e3 := ct_s (p := mP S) (i := n) (by omega)
    rw [show ((n : Int) + 1).toNat = n + 1 by omega, show ((n : Nat) : Int).toNat = n by omega] at e e0 e1 e2 e3
    rw [e, e0, e1, e2, e3]
    by_cases c : mA S n
    · rw [if_pos (bI_t c), if_pos (bI_t c), if_pos (bI_t c), if_pos (bI_t c), bI_t (show mP S n from Or.inl c)]
      have q := oL_bd hV (o := oc S st n) (i := n) (by omega) (Or.inl c)
      have e4 := slx_1 hV (o := oc S st n) (i := n) (by omega) (Or.inl c) (Wz S st n)
      have l : ∀ d, mL S d n = S.2.2 d n - mF S d n := fun d => by unfold mL mT; rw [if_neg (by have := c.1; omega), show ((n : Nat) : Int).toNat = n by omega]
      rw [l, l, l] at q
      show 0 ≤ (slx S (oc S st n) n (Wz S st n)).1 + 1 ∧ (slx S (oc S st n) n (Wz S st n)).1 + 1 ≤ _ ∧ _ ≤ (slx S (oc S st n) n (Wz S st n)).1 + 1
      omega
    · rw [if_neg (fun z => c (bI_1.mp z)), if_neg (fun z => c (bI_1.mp z)), if_neg (fun z => c (bI_1.mp z)), if_neg (fun z => c (bI_1.mp z)), bI_f (show ¬ mP S n from fun z => by rcases z with y | y; exact c y; omega)]
      omega
theorem We_bd (hV : MV S) (st : Int → Int) : 0 ≤ (We S st).1 ∧ (We S st).1 ≤ 72 := by
  have nb0 := hV.1 0 (by decide) (by decide)
  have nb1 := hV.1 1 (by decide) (by decide)
  have nb2 := hV.1 2 (by decide) (by decide)
  have w := Wz_bd hV st (S.1 0).toNat (by omega)
  have q := oL_bd hV (o := oc S st (S.1 0)) nb0.1 (Or.inr rfl)
  have e := slx_1 hV (o := oc S st (S.1 0)) nb0.1 (Or.inr rfl) (Wz S st (S.1 0).toNat)
  have l : ∀ d, mL S d (S.1 0) = S.1 d - mF S d (S.1 0).toNat := fun d => by unfold mL mT; rw [if_pos rfl]
  rw [l, l, l] at q
  unfold We
  omega
theorem Wz_mono (hV : MV S) (st : Int → Int) : ∀ m n : Nat, n ≤ m → (m : Int) ≤ S.1 0 → (Wz S st n).1 ≤ (Wz S st m).1
  | 0, n, h, _ => by rw [show n = 0 by omega]; exact Int.le_refl _
  | m + 1, n, h, h' => by
    by_cases c : n = m + 1
    · rw [c]; exact Int.le_refl _
    · have ih := Wz_mono hV st m n (by omega) (by omega)
      have e := Wz_s S st (i := m) (by omega)
      rw [show ((m : Int) + 1).toNat = m + 1 by omega, show ((m : Nat) : Int).toNat = m by omega] at e
      rw [e]
      by_cases d : mA S m
      · rw [if_pos (bI_t d)]
        have q := oL_bd hV (o := oc S st m) (i := m) (by omega) (Or.inl d)
        have e4 := slx_1 hV (o := oc S st m) (i := m) (by omega) (Or.inl d) (Wz S st m)
        show _ ≤ (slx S (oc S st m) m (Wz S st m)).1 + 1
        omega
      · rw [if_neg (fun z => d (bI_1.mp z))]; exact ih
/-- a place and what comes behind it stay below the end -/
theorem Wz_le (hV : MV S) (st : Int → Int) {i : Int} (h0 : 0 ≤ i) (h1 : i ≤ S.1 0) (hP : mP S i) : (slx S (oc S st i) i (Wz S st i.toNat)).1 ≤ (We S st).1 ∧ (i < S.1 0 → (slx S (oc S st i) i (Wz S st i.toNat)).1 + 1 ≤ (We S st).1) := by
  by_cases c : i = S.1 0
  · rw [c]; exact ⟨Int.le_refl _, fun z => by omega⟩
  · have a : mA S i := by rcases hP with y | y; exact y; exact absurd y c
    have e := Wz_s S st h0
    rw [if_pos (bI_t a)] at e
    have m := Wz_mono hV st (S.1 0).toNat (i + 1).toNat (by omega) (by omega)
    rw [e] at m
    have m' : (slx S (oc S st i) i (Wz S st i.toNat)).1 + 1 ≤ (Wz S st (S.1 0).toNat).1 := m
    have nb0 := hV.1 0 (by decide) (by decide)
    have q := oL_bd hV (o := oc S st (S.1 0)) nb0.1 (Or.inr rfl)
    have e2 := slx_1 hV (o := oc S st (S.1 0)) nb0.1 (Or.inr rfl) (Wz S st (S.1 0).toNat)
    unfold We
    omega
theorem mP_N (hV : MV S) : ct (mP S) (mN S) = ct (mP S) (S.1 0).toNat + 1 := by
  have nb0 := hV.1 0 (by decide) (by decide)
  unfold mN
  rw [ct_s nb0.1, bI_t (show mP S (S.1 0) from Or.inr rfl)]
theorem mP_lt {i j : Int} (h0 : 0 ≤ j) (h1 : j < i) (h : mP S j) : ct (mP S) j.toNat < ct (mP S) i.toNat := by
  have a1 := ct_s (p := mP S) h0
  rw [bI_t h] at a1
  have a2 := ct_mono (p := mP S) (n := (j + 1).toNat) (m := i.toNat) (by omega)
  omega
end
section
variable {L : Nat} {b : Bool} {I : AI} {J : AJ}
theorem c9 {x : Nat} (hb : isBl x = true) {S : MS} (hV : MV S) {st : Int → Int} (h : BlC I x S st) {i : Int} (h0 : 0 ≤ i) (h1 : i ≤ S.1 0) (hP : mP S i) : evc 9 [vr x, vi (ct (mP S) i.toNat)] (hp L b I J) = some (vi (oL S (oc S st i) i), hp L b I J) := by
  have pb := mP_le hV h0 h1
  have e : I (x + 8) (ct (mP S) i.toNat) = oc S st i := (h.2.2.2 i h0 h1 hP).2.1
  have l1 := mL_bd hV (d := 1) (by decide) h0 hP
  have l2 := mL_bd hV (d := 2) (by decide) h0 hP
  obtain ⟨o, ho⟩ : ∃ o, o = oc S st i := ⟨_, rfl⟩
  rw [← ho] at e
  rw [n9, s9_0 _ _ hb, e, gd_t (by omega), ← ho]
  unfold oL
  by_cases o0 : o = 0
  · rw [if_pos o0, c4 hb hV h h0 h1 hP (by decide), if_pos o0, if_neg (by omega), if_neg (by omega)]
    simp only [Option.bind_some]
    rw [s9_42, Int.add_zero, Int.add_zero]
  · rw [if_neg o0, if_neg o0]
    by_cases o1 : o = 1
    · rw [if_pos o1, c4 hb hV h h0 h1 hP (by decide), if_pos (Or.inl o1), if_neg (by omega)]
      simp only [Option.bind_some]
      rw [s9_49, Int.zero_add, Int.add_zero]
    · rw [if_neg o1]
      by_cases o2 : o = 2
      · rw [if_pos o2, c4 hb hV h h0 h1 hP (by decide), if_neg (by omega), if_pos (Or.inl o2)]
        simp only [Option.bind_some]
        rw [s9_56, Int.zero_add, Int.zero_add]
      · rw [if_neg o2]
        by_cases o3 : o = 3
        · rw [if_pos o3, c4 hb hV h h0 h1 hP (by decide), if_pos (Or.inr o3), if_pos (Or.inr o3)]
          simp only [Option.bind_some]
          rw [s9_63 _ _ _ hb, c4 hb hV h h0 h1 hP (by decide)]
          simp only [Option.bind_some]
          rw [s9_69, gd_t (by omega), Int.zero_add]
        · rw [if_neg o3, if_neg (by omega), if_neg (by omega)]
          rfl
theorem c8 {x : Nat} (hb : isBl x = true) {S : MS} (hV : MV S) {st : Int → Int} (h : BlC I x S st) (hs : ∀ c, 0 ≤ c → c < ct (mC S) (mN S) → -1 ≤ st c ∧ st c ≤ 4) : evc 8 [vr x] (hp L b I J) = some (vi (bI ((∀ c, 0 ≤ c → c < ct (mC S) (mN S) → st c ≠ -1) ∧ (We S st).1 ≤ 24)), hp L b I J) := by
  have nb0 := hV.1 0 (by decide) (by decide)
  have pN := mP_N hV
  have pb := mP_le hV nb0.1 (Int.le_refl _)
  have e8 := h.2.1
  have neg : ∀ i, 0 ≤ i → i ≤ S.1 0 → mP S i → oc S st i = -1 → ¬ ((∀ c, 0 ≤ c → c < ct (mC S) (mN S) → st c ≠ -1) ∧ (We S st).1 ≤ 24) := fun i i0 i1 i2 i3 z => by
    unfold oc at i3
    by_cases k : mK S i = -1
    · rw [if_pos k] at i3
      exact z.1 _ (mC_ct S i.toNat).1 (nC_lt hV i0 i1 ⟨i2, k⟩) i3
    · rw [if_neg k] at i3
      exact k i3
  have w0 := We_bd hV st
  rw [n8, s8_0 _ hb, gd_t (by omega)]
  refine lp (lo := 0) (hi := S.1 0) (F := fun i (s : Int) => ev 8 9 [some (vr x), some (vi s), some (vi (ct (mP S) i.toNat))] [] (hp L b I J)) (Q := fun r => r = some (vi (bI ((∀ c, 0 ≤ c → c < ct (mC S) (mN S) → st c ≠ -1) ∧ (We S st).1 ≤ 24)), hp L b I J)) (fun i s => s = I x 8 - 1 + (Wz S st i.toNat).1 - ct (mP S) i.toNat ∧ ∀ j, 0 ≤ j → j < i → mP S j → oc S st j ≠ -1) ?_ ?_ 0 _ (Int.le_refl _) nb0.1 ⟨?_, fun j a c => by omega⟩
  · intro i s g1 g2 ⟨v1, v2⟩
    have pi := mP_le hV g1 (show i ≤ S.1 0 by omega)
    have wb := Wz_bd hV st i.toNat (by omega)
    by_cases m : mA S i
    · have hP : mP S i := Or.inl m
      have lt := mP_lt g1 g2 hP
      have e : I (x + 8) (ct (mP S) i.toNat) = oc S st i := (h.2.2.2 i g1 (by omega) hP).2.1
      by_cases k : oc S st i = -1
      · left
        try dsimp only
        rw [s8_9 _ _ _ hb, if_neg (by omega), e, gd_t (by omega), if_neg (fun z => z k), gd_t (by decide), bI_f (neg i g1 (by omega) hP k)]
      · right
        have ol := oL_bd hV (o := oc S st i) g1 hP
        have l0 := mL_bd hV (d := 0) (by decide) g1 hP
        have l1 := mL_bd hV (d := 1) (by decide) g1 hP
        have l2 := mL_bd hV (d := 2) (by decide) g1 hP
        have b0 := mF_bd hV (d := 0) (by decide) i.toNat
        have b1 := mF_bd hV (d := 1) (by decide) i.toNat
        have b2 := mF_bd hV (d := 2) (by decide) i.toNat
        have nb1 := hV.1 1 (by decide) (by decide)
        have nb2 := hV.1 2 (by decide) (by decide)
        refine ⟨s + oL S (oc S st i) i, ?_, ?_, fun j a c d => ?_⟩
        · try dsimp only
          rw [s8_9 _ _ _ hb, if_neg (by omega), e, gd_t (by omega), if_pos k, c9 hb hV h g1 (by omega) hP]
          simp only [Option.bind_some]
          rw [s8_35, gd_t (by omega), gd_t (by omega), ct_s g1, bI_t hP]
        · have e2 := slx_1 hV (o := oc S st i) g1 hP (Wz S st i.toNat)
          rw [Wz_s S st g1, if_pos (bI_t m), ct_s g1, bI_t hP]
          show _ = I x 8 - 1 + ((slx S (oc S st i) i (Wz S st i.toNat)).1 + 1) - _
          omega
        · by_cases e : j = i
          · rw [e]; exact k
          · exact v2 j a (by omega) d
    · right
      have np : ¬ mP S i := fun z => by rcases z with y | y; exact m y; omega
      refine ⟨s, ?_, ?_, fun j a c d => v2 j a (by by_cases z : j = i; exact absurd (z ▸ d) np; omega) d⟩
      · rw [ct_s g1, bI_f np, Int.add_zero]
      · rw [ct_s g1, bI_f np, Int.add_zero, Wz_s S st g1, if_neg (fun z => m (bI_1.mp z))]; exact v1
  · intro s ⟨v1, v2⟩
    have hP : mP S (S.1 0) := Or.inr rfl
    have e : I (x + 8) (ct (mP S) (S.1 0).toNat) = oc S st (S.1 0) := (h.2.2.2 (S.1 0) nb0.1 (Int.le_refl _) hP).2.1
    have e2 := slx_1 hV (o := oc S st (S.1 0)) nb0.1 hP (Wz S st (S.1 0).toNat)
    have e3 : (We S st).1 = (slx S (oc S st (S.1 0)) (S.1 0) (Wz S st (S.1 0).toNat)).1 := rfl
    have ol := oL_bd hV (o := oc S st (S.1 0)) nb0.1 hP
    try dsimp only
    rw [s8_9 _ _ _ hb, if_neg (by omega), e, gd_t (by omega)]
    by_cases k : oc S st (S.1 0) = -1
    · rw [if_neg (fun z => z k), gd_t (by decide), bI_f (neg _ nb0.1 (Int.le_refl _) hP k)]
    · rw [if_pos k, c9 hb hV h nb0.1 (Int.le_refl _) hP]
      simp only [Option.bind_some]
      rw [s8_35, gd_t (by omega), gd_t (by omega), s8_9 _ _ _ hb, if_pos (by omega), if_neg (by omega)]
      by_cases f : (We S st).1 ≤ 24
      · rw [if_neg (by omega), gd_t (by decide), bI_t]
        refine ⟨fun c c0 c1 z => ?_, f⟩
        obtain ⟨i, i1, i2, i3⟩ := ct_ex (p := mC S) (mN S) c c0 c1
        have eN : (mN S : Int) = S.1 0 + 1 := by unfold mN; omega
        have o1 : oc S st i = -1 := by unfold oc; rw [if_pos i2.2, i3]; exact z
        by_cases w : i = S.1 0
        · rw [w] at o1; exact k o1
        · exact v2 i i1.1 (by omega) i2.1 o1
      · rw [if_pos (by omega), s8_60, gd_t (by decide), bI_f (fun z => f z.2)]
  · rw [show ct (mP S) (0 : Int).toNat = 0 from rfl, show (Wz S st (0 : Int).toNat).1 = 0 from rfl]; omega
theorem c38z {k : Nat} (hk' : isRow k = true) {z : Int × (Int → Int)} (h : RwC I k z.1 z.2) (h0 : 0 ≤ z.1 ∧ z.1 < 24) (v : Int) : ∃ I' : AI, evc 38 [vr k, vi v] (hp L b I J) = some (vi 1, hp L b I' J) ∧ Same [k, k + 1] I I' ∧ RwC I' k (pu z v).1 (pu z v).2 := by
  refine ⟨_, c38t hk' (by rw [h.1]; exact h0.1) (by rw [h.1]; exact h0.2) v, fun c hc => ?_, ?_, fun j a c => ?_⟩
  · simp at hc
    rw [upI_c (by omega), upI_c (by omega)]
  · rw [upI_s, h.1]; rfl
  · rw [upI_c (by omega), upI_w, h.1]
    show _ = if j = z.1 then v else z.2 j
    by_cases e : j = z.1
    · rw [if_pos e, if_pos e]
    · rw [if_neg e, if_neg e]
      have c' : j < z.1 + 1 := c
      exact h.2 j a (by omega)
theorem c11 {x k : Nat} (hb : isBl x = true) (hk' : isRow k = true) (hx : k + 1 < x ∨ x + 15 < k) {S : MS} (hV : MV S) {st : Int → Int} (h : BlC I x S st) {i d : Int} (h0 : 0 ≤ i) (h1 : i ≤ S.1 0) (hP : mP S i) (hd : 0 ≤ d ∧ d ≤ 2) {z : Int × (Int → Int)} (hz : RwC I k z.1 z.2) (hn : 0 ≤ z.1 ∧ z.1 + mL S d i ≤ 24) : (fun r => ∃ I' : AI, r = some (vi 0, hp L b I' J) ∧ Same [k, k + 1] I I' ∧ RwC I' k (spn S d i z).1 (spn S d i z).2) (evc 11 [vr x, vi (ct (mP S) i.toNat), vi d, vr k] (hp L b I J)) := by
  have pb := mP_le hV h0 h1
  have w := (h.2.2.2 i h0 h1 hP).1 d hd.1 hd.2
  have tb := mT_bd hV hd h0 hP
  have nb := hV.1 d hd.1 hd.2
  have le : mL S d i = mT S d i - mF S d i.toNat := rfl
  obtain ⟨r1, r2⟩ := h.row hb hd
  have dn : d.toNat ≤ 2 := by omega
  have st' : evc 11 [vr x, vi (ct (mP S) i.toNat), vi d, vr k] (hp L b I J) = ev 11 26 [some (vr x), none, none, some (vr k), some (vr (x + 1 + 2 * d.toNat)), some (vi (ct (mP S) i.toNat * 6 + d * 2)), some (vi (mF S d i.toNat + 0))] [] (hp L b I J) := by
    rw [n11, s11_0 _ _ _ _ hb, c6 hb hd]
    simp only [Option.bind_some]
    rw [s11_5 _ _ _ _ _ hb, w.1, gd_t (by omega), gd_t (by omega), gd_t (by omega), gd_t (by omega), Int.add_zero]
  rw [st']
  refine lp (lo := 0) (hi := mL S d i) (F := fun j (Y : AI) => ev 11 26 [some (vr x), none, none, some (vr k), some (vr (x + 1 + 2 * d.toNat)), some (vi (ct (mP S) i.toNat * 6 + d * 2)), some (vi (mF S d i.toNat + j))] [] (hp L b Y J)) (Q := fun r => ∃ I' : AI, r = some (vi 0, hp L b I' J) ∧ Same [k, k + 1] I I' ∧ RwC I' k (spn S d i z).1 (spn S d i z).2) (fun j Y => Same [k, k + 1] I Y ∧ RwC Y k (pus z (fun x => S.2.1 d (mF S d i.toNat + x)) j.toNat).1 (pus z (fun x => S.2.1 d (mF S d i.toNat + x)) j.toNat).2) ?_ ?_ 0 I (Int.le_refl _) (by omega) ⟨fun _ _ => rfl, hz⟩
  · intro j Y g1 g2 ⟨v1, v2⟩
    right
    have p1 := pus_1 z (fun x => S.2.1 d (mF S d i.toNat + x)) j.toNat
    obtain ⟨Y', a1, a2, a3⟩ := c38z (L := L) (b := b) (J := J) hk' v2 (by omega) (S.2.1 d (mF S d i.toNat + j))
    refine ⟨Y', ?_, Same.tr v1 a2, ?_⟩
    · have r2' : RwC Y (x + 1 + 2 * d.toNat) (S.1 d) (S.2.1 d) := r2.cg (v1 _ (by simp; omega)) (v1 _ (by simp; omega))
      try dsimp only
      rw [s11_26 _ _ _ _ _ hb r1, v1 (x + 7) (by simp; omega), w.2, gd_t (by omega), gd_t (by omega), if_neg (by omega), c39 r1 (by rw [r2'.1]; omega), r2'.1, if_pos (by omega), r2'.2 _ (by omega) (by omega)]
      simp only [Option.bind_some]
      rw [s11_48 _ _ _ _ _ _ _ hk', a1]
      simp only [Option.bind_some]
      rw [s11_51, gd_t (by omega), Int.add_assoc]
    · rw [pus_s _ _ g1]; exact a3
  · intro Y ⟨v1, v2⟩
    refine ⟨Y, ?_, v1, v2⟩
    try dsimp only
    rw [s11_26 _ _ _ _ _ hb r1, v1 (x + 7) (by simp; omega), w.2, gd_t (by omega), gd_t (by omega), if_pos (by omega)]
end
