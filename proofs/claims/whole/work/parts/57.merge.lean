/-! a merge: bounds -/
section
variable {S : MS}
theorem mF_s (S : MS) (d : Int) {i : Int} (h : 0 ≤ i) : mF S d (i + 1).toNat = if bI (mA S i) = 1 then S.2.2 d i + 1 else mF S d i.toNat := by
  rw [show (i + 1).toNat = i.toNat + 1 by omega]
  show (if bI (mA S (i.toNat : Int)) = 1 then S.2.2 d (i.toNat : Int) + 1 else _) = _
  rw [show ((i.toNat : Nat) : Int) = i by omega]
theorem mO_s (S : MS) {i : Int} (h : 0 ≤ i) : mO S (i + 1).toNat = if bI (mA S i) = 1 then mO S i.toNat + mQ S i + 1 else mO S i.toNat := by
  rw [show (i + 1).toNat = i.toNat + 1 by omega]
  show (if bI (mA S (i.toNat : Int)) = 1 then mO S i.toNat + mQ S (i.toNat : Int) + 1 else _) = _
  rw [show ((i.toNat : Nat) : Int) = i by omega]
theorem kk_nn (hV : MV S) {d i : Int} (hd : 0 ≤ d ∧ d ≤ 2) (hi : 0 ≤ i) (h : mA S i) : 0 ≤ S.2.2 d i := by
  rcases (show d = 0 ∨ d = 1 ∨ d = 2 by omega) with e | e | e <;> subst e
  · rw [hV.2.1]; exact hi
  · exact h.2.1
  · exact h.2.2
theorem mF_bd (hV : MV S) {d : Int} (hd : 0 ≤ d ∧ d ≤ 2) : ∀ n : Nat, (0 ≤ mF S d n ∧ mF S d n ≤ S.1 d) ∧ ∀ j : Int, (n : Int) ≤ j → mA S j → mF S d n ≤ S.2.2 d j
  | 0 => ⟨⟨Int.le_refl _, (hV.1 d hd.1 hd.2).1⟩, fun j h1 h2 => kk_nn hV hd (by omega) h2⟩
  | n + 1 => by
    have ih := mF_bd hV hd n
    have e := mF_s S d (i := n) (by omega)
    rw [show ((n : Int) + 1).toNat = n + 1 by omega, show ((n : Nat) : Int).toNat = n by omega] at e
    rw [e]
    by_cases c : mA S n
    · rw [if_pos (bI_t c)]
      have h1 := kk_nn hV hd (i := n) (by omega) c
      have h2 := hV.2.2.1 d n hd.1 hd.2 (by omega) c
      exact ⟨⟨by omega, by omega⟩, fun j h3 h4 => by have := hV.2.2.2 d n j hd.1 hd.2 (by omega) (by omega) c h4; omega⟩
    · rw [if_neg (fun z => c (bI_1.mp z))]
      exact ⟨ih.1, fun j h3 h4 => ih.2 j (by omega) h4⟩
theorem mT_bd (hV : MV S) {d i : Int} (hd : 0 ≤ d ∧ d ≤ 2) (hi : 0 ≤ i) (h : mP S i) : (0 ≤ mF S d i.toNat ∧ mF S d i.toNat ≤ mT S d i) ∧ mT S d i ≤ S.1 d := by
  have b := mF_bd hV hd i.toNat
  unfold mT
  by_cases c : i = S.1 0
  · rw [if_pos c]; exact ⟨b.1, Int.le_refl _⟩
  · rw [if_neg c]
    have h' : mA S i := by rcases h with z | z; exact z; exact absurd z c
    exact ⟨⟨b.1.1, b.2 i (by omega) h'⟩, by have := hV.2.2.1 d i hd.1 hd.2 hi h'; omega⟩
theorem mL_bd (hV : MV S) {d i : Int} (hd : 0 ≤ d ∧ d ≤ 2) (hi : 0 ≤ i) (h : mP S i) : 0 ≤ mL S d i ∧ mL S d i ≤ 24 := by
  have := mT_bd hV hd hi h
  have := (hV.1 d hd.1 hd.2).2
  unfold mL; omega
theorem mK_v (S : MS) (i : Int) : mK S i = -1 ∨ mK S i = 1 ∨ mK S i = 2 := by
  unfold mK
  split
  · exact Or.inr (Or.inr rfl)
  · split
    · exact Or.inr (Or.inl rfl)
    · exact Or.inl rfl
theorem mQ_bd (hV : MV S) {i : Int} (hi : 0 ≤ i) (h : mP S i) : 0 ≤ mQ S i ∧ mQ S i ≤ mL S 1 i + mL S 2 i + 1 := by
  have h1 := mL_bd hV (d := 1) (by omega) hi h
  have h2 := mL_bd hV (d := 2) (by omega) hi h
  unfold mQ
  rcases mK_v S i with e | e | e <;> rw [e]
  · rw [if_pos rfl]; omega
  · rw [if_neg (by decide)]; omega
  · rw [if_neg (by decide)]; omega
theorem mO_bd (hV : MV S) : ∀ n : Nat, (n : Int) ≤ S.1 0 → 0 ≤ mO S n ∧ mO S n ≤ mF S 1 n + mF S 2 n
  | 0, _ => ⟨Int.le_refl _, Int.le_refl _⟩
  | n + 1, h => by
    have ih := mO_bd hV n (by omega)
    have e := mO_s S (i := n) (by omega)
    have e1 := mF_s S 1 (i := n) (by omega)
    have e2 := mF_s S 2 (i := n) (by omega)
    rw [show ((n : Int) + 1).toNat = n + 1 by omega, show ((n : Nat) : Int).toNat = n by omega] at e e1 e2
    rw [e, e1, e2]
    by_cases c : mA S n
    · rw [if_pos (bI_t c), if_pos (bI_t c), if_pos (bI_t c)]
      have q := mQ_bd hV (i := n) (by omega) (Or.inl c)
      unfold mL mT at q
      rw [if_neg (by have := c.1; omega), if_neg (by have := c.1; omega), show ((n : Nat) : Int).toNat = n by omega] at q
      omega
    · rw [if_neg (fun z => c (bI_1.mp z)), if_neg (fun z => c (bI_1.mp z)), if_neg (fun z => c (bI_1.mp z))]; exact ih
theorem mP_ct (S : MS) {i : Int} (h : 0 ≤ i) : 0 ≤ ct (mP S) i.toNat ∧ ct (mP S) i.toNat ≤ i := by have := ct_bd (p := mP S) i.toNat; omega
theorem mC_ct (S : MS) (n : Nat) : 0 ≤ ct (mC S) n ∧ ct (mC S) n ≤ ct (mP S) n := by
  refine ⟨(ct_bd n).1, ?_⟩
  induction n with
  | zero => exact Int.le_refl _
  | succ n ih =>
    show ct (mC S) n + bI (mC S n) ≤ ct (mP S) n + bI (mP S n)
    have : bI (mC S n) ≤ bI (mP S n) := by
      by_cases z : mP S n
      · rw [bI_t z]; exact (bI_bd _).2
      · rw [bI_f (fun y => z y.1), bI_f z]; exact Int.le_refl _
    omega
end
/-! the class: sameSpan, putPlace -/
theorem bl_all {x : Nat} (h : isBl x = true) : (isRow (x + 1) = true ∧ isRow (x + 3) = true ∧ isRow (x + 5) = true) ∧ (isDiff (x + 10) = true ∧ isDiff (x + 13) = true) ∧ (x = 35 ∨ x = 56) := by
  have := mem_ct h
  simp at this
  rcases this with e | e <;> subst e
  · exact ⟨by decide, by decide, Or.inl rfl⟩
  · exact ⟨by decide, by decide, Or.inr rfl⟩
section
variable {L : Nat} {b : Bool} {I : AI} {J : AJ}
theorem c3 {k m : Nat} (hk : isRow k = true) (hm : isRow m = true) {xf xt yf yt : Int} (hx : 0 ≤ xf ∧ xf ≤ xt ∧ xt ≤ 24) (hy : 0 ≤ yf ∧ yf ≤ yt ∧ yt ≤ 24) : evc 3 [vr k, vi xf, vi xt, vr m, vi yf, vi yt] (hp L b I J) = some (vi (bI (xt - xf = yt - yf ∧ ∀ i, 0 ≤ i → i < xt - xf → I (k + 1) (xf + i) = I (m + 1) (yf + i))), hp L b I J) := by
  rw [n3, s3_0, gd_t (by omega), gd_t (by omega)]
  by_cases c : xt - xf = yt - yf
  · rw [if_pos c]
    refine lp (lo := 0) (hi := xt - xf) (F := fun i (_ : Unit) => ev 3 16 [some (vr k), some (vi xf), some (vi xt), some (vr m), some (vi yf), none, some (vi i)] [] (hp L b I J)) (Q := fun r => r = some (vi (bI (xt - xf = yt - yf ∧ ∀ i, 0 ≤ i → i < xt - xf → I (k + 1) (xf + i) = I (m + 1) (yf + i))), hp L b I J)) (fun i _ => ∀ j, 0 ≤ j → j < i → I (k + 1) (xf + j) = I (m + 1) (yf + j)) ?_ ?_ 0 () (Int.le_refl _) (by omega) (fun j a d => by omega)
    · intro i _ g1 g2 v
      by_cases d : I (k + 1) (xf + i) = I (m + 1) (yf + i)
      · right
        refine ⟨(), ?_, fun j a e => ?_⟩
        · try dsimp only
          rw [s3_16 _ _ _ _ _ _ hk hm]
          simp (disch := first | assumption | omega) only [↓gd_t, ↓if_pos, ↓if_neg, Option.bind_some, true_or, true_and, gd_t]
        · by_cases f : j = i
          · rw [f]; exact d
          · exact v j a (by omega)
      · left
        try dsimp only
        rw [s3_16 _ _ _ _ _ _ hk hm, bI_f (fun z => d (z.2 i g1 g2))]
        simp (disch := first | assumption | omega) only [↓gd_t, ↓if_pos, ↓if_neg, Option.bind_some, true_or, true_and, gd_t]
    · intro _ v
      try dsimp only
      rw [s3_16 _ _ _ _ _ _ hk hm, bI_t ⟨c, v⟩]
      simp (disch := first | assumption | omega) only [↓gd_t, ↓if_pos, ↓if_neg, Option.bind_some, true_or, true_and, gd_t]
  · rw [if_neg c, g0, bI_f (fun z => c z.1)]
/-- n slots of a merge stand in the class's cells -/
def BlP (I : AI) (x : Nat) (S : MS) (n : Int) : Prop := I x 8 = ct (mP S) n.toNat ∧ I x 9 = ct (mC S) n.toNat ∧ ∀ i, 0 ≤ i → i < n → mP S i → (∀ d, 0 ≤ d → d ≤ 2 → I (x + 7) (ct (mP S) i.toNat * 6 + d * 2) = mF S d i.toNat ∧ I (x + 7) (ct (mP S) i.toNat * 6 + d * 2 + 1) = mT S d i) ∧ I (x + 8) (ct (mP S) i.toNat) = mK S i ∧ (mK S i = -1 → I (x + 9) (ct (mC S) i.toNat) = ct (mP S) i.toNat)
theorem c2 {x : Nat} (hb : isBl x = true) {S : MS} (hV : MV S) (h0 : RwC I (x + 1) (S.1 0) (S.2.1 0)) (h1 : RwC I (x + 3) (S.1 1) (S.2.1 1)) (h2 : RwC I (x + 5) (S.1 2) (S.2.1 2)) {i : Int} (hi : 0 ≤ i ∧ i ≤ S.1 0) (hp' : mP S i) (hB : BlP I x S i) : (fun r => ∃ I', r = some (vi 0, hp L b I' J) ∧ Same [x, x + 7, x + 8, x + 9] I I' ∧ BlP I' x S (i + 1)) (evc 2 [vr x, vi (mF S 0 i.toNat), vi (mT S 0 i), vi (mF S 1 i.toNat), vi (mT S 1 i), vi (mF S 2 i.toNat), vi (mT S 2 i)] (hp L b I J)) := by
  obtain ⟨⟨r1, r2, r3⟩, -, hx⟩ := bl_all hb
  have nb0 := hV.1 0 (by decide) (by decide)
  have nb1 := hV.1 1 (by decide) (by decide)
  have nb2 := hV.1 2 (by decide) (by decide)
  have t0 := mT_bd hV (d := 0) (by decide) hi.1 hp'
  have t1 := mT_bd hV (d := 1) (by decide) hi.1 hp'
  have t2 := mT_bd hV (d := 2) (by decide) hi.1 hp'
  have pb := mP_ct S hi.1
  have cb := mC_ct S i.toNat
  have e8 := hB.1
  have e9 := hB.2.1
  have ei : (i + 1).toNat = i.toNat + 1 := by omega
  -- after the ends are written
  obtain ⟨X, hX⟩ : ∃ X, X = upI (upI (upI (upI (upI (upI I (x + 7) (I x 8 * 6) (mF S 0 i.toNat)) (x + 7) (I x 8 * 6 + 1) (mT S 0 i)) (x + 7) (I x 8 * 6 + 2) (mF S 1 i.toNat)) (x + 7) (I x 8 * 6 + 3) (mT S 1 i)) (x + 7) (I x 8 * 6 + 4) (mF S 2 i.toNat)) (x + 7) (I x 8 * 6 + 5) (mT S 2 i) := ⟨_, rfl⟩
  have oX : ∀ c, c ≠ x + 7 → X c = I c := fun c hc => by rw [hX, upI_c hc, upI_c hc, upI_c hc, upI_c hc, upI_c hc, upI_c hc]
  have sX : Same [x, x + 7, x + 8, x + 9] I X := fun c hc => oX c (fun z => hc (by rw [z]; simp))
  have X7 : ∀ y, (y < I x 8 * 6 ∨ I x 8 * 6 + 5 < y) → X (x + 7) y = I (x + 7) y := fun y hy => by
    rw [hX, upI_i (by omega), upI_i (by omega), upI_i (by omega), upI_i (by omega), upI_i (by omega), upI_i (by omega)]
  have Xd : ∀ d, 0 ≤ d → d ≤ 2 → X (x + 7) (I x 8 * 6 + d * 2) = mF S d i.toNat ∧ X (x + 7) (I x 8 * 6 + d * 2 + 1) = mT S d i := fun d a c => by
    rcases (show d = 0 ∨ d = 1 ∨ d = 2 by omega) with e | e | e <;> subst e
    · rw [show I x 8 * 6 + 0 * 2 = I x 8 * 6 by omega, hX]
      exact ⟨by rw [upI_i (by omega), upI_i (by omega), upI_i (by omega), upI_i (by omega), upI_i (by omega), upI_s], by rw [upI_i (by omega), upI_i (by omega), upI_i (by omega), upI_i (by omega), upI_s]⟩
    · rw [show I x 8 * 6 + 1 * 2 = I x 8 * 6 + 2 by omega, show I x 8 * 6 + 2 + 1 = I x 8 * 6 + 3 by omega, hX]
      exact ⟨by rw [upI_i (by omega), upI_i (by omega), upI_i (by omega), upI_s], by rw [upI_i (by omega), upI_i (by omega), upI_s]⟩
    · rw [show I x 8 * 6 + 2 * 2 = I x 8 * 6 + 4 by omega, show I x 8 * 6 + 4 + 1 = I x 8 * 6 + 5 by omega, hX]
      exact ⟨by rw [upI_i (by omega), upI_s], by rw [upI_s]⟩
  have X8 : X x 8 = I x 8 := by rw [oX x (by omega)]
  have X9 : X x 9 = I x 9 := by rw [oX x (by omega)]
  have rX : ∀ {k n f}, k ≠ x + 7 → k + 1 ≠ x + 7 → RwC I k n f → RwC X k n f := fun a c z => z.cg (oX _ a) (oX _ c)
  have w0 := rX (by omega) (by omega) h0
  have w1 := rX (by omega) (by omega) h1
  have w2 := rX (by omega) (by omega) h2
  have q1 := c3 (L := L) (b := b) (I := X) (J := J) r2 r1 (xf := mF S 1 i.toNat) (xt := mT S 1 i) (yf := mF S 0 i.toNat) (yt := mT S 0 i) (by omega) (by omega)
  have q2 := c3 (L := L) (b := b) (I := X) (J := J) r3 r1 (xf := mF S 2 i.toNat) (xt := mT S 2 i) (yf := mF S 0 i.toNat) (yt := mT S 0 i) (by omega) (by omega)
  have q3 := c3 (L := L) (b := b) (I := X) (J := J) r2 r3 (xf := mF S 1 i.toNat) (xt := mT S 1 i) (yf := mF S 2 i.toNat) (yt := mT S 2 i) (by omega) (by omega)
  have eq1 : (mT S 1 i - mF S 1 i.toNat = mT S 0 i - mF S 0 i.toNat ∧ ∀ j, 0 ≤ j → j < mT S 1 i - mF S 1 i.toNat → X (x + 3 + 1) (mF S 1 i.toNat + j) = X (x + 1 + 1) (mF S 0 i.toNat + j)) ↔ mEq S 1 0 i := by
    unfold mEq mL
    exact ⟨fun z => ⟨z.1, fun j a c => by rw [← w1.2 _ (by omega) (by omega), ← w0.2 _ (by omega) (by omega)]; exact z.2 j a c⟩, fun z => ⟨z.1, fun j a c => by rw [w1.2 _ (by omega) (by omega), w0.2 _ (by omega) (by omega)]; exact z.2 j a c⟩⟩
  have eq2 : (mT S 2 i - mF S 2 i.toNat = mT S 0 i - mF S 0 i.toNat ∧ ∀ j, 0 ≤ j → j < mT S 2 i - mF S 2 i.toNat → X (x + 5 + 1) (mF S 2 i.toNat + j) = X (x + 1 + 1) (mF S 0 i.toNat + j)) ↔ mEq S 2 0 i := by
    unfold mEq mL
    exact ⟨fun z => ⟨z.1, fun j a c => by rw [← w2.2 _ (by omega) (by omega), ← w0.2 _ (by omega) (by omega)]; exact z.2 j a c⟩, fun z => ⟨z.1, fun j a c => by rw [w2.2 _ (by omega) (by omega), w0.2 _ (by omega) (by omega)]; exact z.2 j a c⟩⟩
  have eq3 : (mT S 1 i - mF S 1 i.toNat = mT S 2 i - mF S 2 i.toNat ∧ ∀ j, 0 ≤ j → j < mT S 1 i - mF S 1 i.toNat → X (x + 3 + 1) (mF S 1 i.toNat + j) = X (x + 5 + 1) (mF S 2 i.toNat + j)) ↔ mEq S 1 2 i := by
    unfold mEq mL
    exact ⟨fun z => ⟨z.1, fun j a c => by rw [← w1.2 _ (by omega) (by omega), ← w2.2 _ (by omega) (by omega)]; exact z.2 j a c⟩, fun z => ⟨z.1, fun j a c => by rw [w1.2 _ (by omega) (by omega), w2.2 _ (by omega) (by omega)]; exact z.2 j a c⟩⟩
  rw [bI_cg eq1] at q1
  rw [bI_cg eq2] at q2
  rw [bI_cg eq3] at q3
  have st : evc 2 [vr x, vi (mF S 0 i.toNat), vi (mT S 0 i), vi (mF S 1 i.toNat), vi (mT S 1 i), vi (mF S 2 i.toNat), vi (mT S 2 i)] (hp L b I J) = ev 2 96 [some (vr x), some (vi (mF S 0 i.toNat)), some (vi (mT S 0 i)), some (vi (mF S 1 i.toNat)), some (vi (mT S 1 i)), some (vi (mF S 2 i.toNat)), some (vi (mT S 2 i)), none] [vi (bI (mEq S 1 0 i))] (hp L b X J) := by
    rw [n2, s2_0 _ _ _ _ _ _ _ hb, ← hX, if_pos (by omega)]
    simp (disch := first | assumption | omega) only [↓gd_t, ↓if_pos, ↓if_neg, Option.bind_some, true_or, true_and, gd_t, q1]
  have ctp : ct (mP S) (i + 1).toNat = ct (mP S) i.toNat + 1 := by rw [ct_s hi.1, bI_t hp']
  -- the end, resolved or a conflict
  have fin : ∀ (v : Int) (Y : AI), (∀ c, c ≠ x → c ≠ x + 8 → c ≠ x + 9 → Y c = X c) → Y x 8 = I x 8 → (∀ y, Y (x + 8) y = if y = I x 8 then v else I (x + 8) y) → v = mK S i → (mK S i ≠ -1 → Y x 9 = I x 9 ∧ Y (x + 9) = I (x + 9)) → (mK S i = -1 → Y x 9 = I x 9 + 1 ∧ ∀ y, Y (x + 9) y = if y = I x 9 then I x 8 else I (x + 9) y) → (fun r => ∃ I', r = some (vi 0, hp L b I' J) ∧ Same [x, x + 7, x + 8, x + 9] I I' ∧ BlP I' x S (i + 1)) (ev 2 199 [some (vr x), none, none, none, none, none, none, none] [] (hp L b Y J)) := by
    intro v Y oY y8 yv hv hn hc
    refine ⟨upI Y x 8 (I x 8 + 1), ?_, ?_, ?_⟩
    · rw [s2_199 _ hb, y8, gd_t (by omega)]
    · intro c hc'
      simp at hc'
      rw [upI_c (by omega), oY c (by omega) (by omega) (by omega), oX c (by omega)]
    · have u8 : ∀ c, c ≠ x → (upI Y x 8 (I x 8 + 1)) c = Y c := fun c hc' => upI_c hc' _ _ _
      have y7 : (upI Y x 8 (I x 8 + 1)) (x + 7) = X (x + 7) := by rw [u8 _ (by omega), oY _ (by omega) (by omega) (by omega)]
      refine ⟨by rw [upI_s, e8, ctp], ?_, fun j a c d => ?_⟩
      · rw [upI_i (by decide), ct_s hi.1]
        by_cases z : mK S i = -1
        · rw [(hc z).1, e9, bI_t (show mC S i from ⟨hp', z⟩)]
        · rw [(hn z).1, e9, bI_f (show ¬ mC S i from fun y => z y.2), Int.add_zero]
      · rw [y7, u8 (x + 8) (by omega), u8 (x + 9) (by omega)]
        by_cases e : j = i
        · subst e
          refine ⟨by rw [← e8]; exact Xd, by rw [yv, ← e8, if_pos rfl, hv], fun z => ?_⟩
          rw [(hc z).2, ← e9, if_pos rfl, e8]
        · have old := hB.2.2 j a (by omega) d
          have lt : ct (mP S) j.toNat < ct (mP S) i.toNat := by
            have a1 := ct_s (p := mP S) a
            rw [bI_t d] at a1
            have a2 := ct_mono (p := mP S) (n := (j + 1).toNat) (m := i.toNat) (by omega)
            omega
          refine ⟨fun d' a' c' => ?_, ?_, fun z => ?_⟩
          · rw [X7 _ (by omega), X7 _ (by omega)]; exact old.1 d' a' c'
          · rw [yv, if_neg (by omega)]; exact old.2.1
          · have lt2 : ct (mC S) j.toNat < ct (mC S) i.toNat := by
              have a1 := ct_s (p := mC S) a
              rw [bI_t (show mC S j from ⟨d, z⟩)] at a1
              have a2 := ct_mono (p := mC S) (n := (j + 1).toNat) (m := i.toNat) (by omega)
              omega
            by_cases y : mK S i = -1
            · rw [(hc y).2, if_neg (by omega)]; exact old.2.2 z
            · rw [(hn y).2]; exact old.2.2 z
  have up : ∀ (X : AI) (c : Nat) (i v x : Int), upI X c i v c x = if x = i then v else X c x := fun X c i v x => by
    by_cases z : x = i
    · rw [z, upI_s, if_pos rfl]
    · rw [upI_i z, if_neg z]
  rw [st, s2_96 _ _ _ _ _ _ _ _ hb]
  by_cases m1 : mEq S 1 0 i
  · have k : mK S i = 2 := by unfold mK; rw [if_pos (bI_t m1)]
    rw [bI_t m1, if_neg (by decide), X8, gd_t (by omega)]
    exact fin 2 _ (fun c a d e => upI_c d _ _ _) (by rw [upI_c (by omega)]; exact X8) (fun y => by rw [up, oX _ (by omega)]) k.symm (fun _ => ⟨by rw [upI_c (by omega)]; exact X9, by rw [upI_c (by omega), oX _ (by omega)]⟩) (fun z => by omega)
  · have took : (mEq S 2 0 i ∨ mEq S 1 2 i) → (fun r => ∃ I', r = some (vi 0, hp L b I' J) ∧ Same [x, x + 7, x + 8, x + 9] I I' ∧ BlP I' x S (i + 1)) (ev 2 153 [some (vr x), none, none, none, none, none, none, none] [] (hp L b X J)) := fun m2 => by
      have k : mK S i = 1 := by unfold mK; rw [if_neg (fun z => m1 (bI_1.mp z)), if_pos (bI_t m2)]
      rw [s2_153 _ hb, X8, gd_t (by omega)]
      exact fin 1 _ (fun c a d e => upI_c d _ _ _) (by rw [upI_c (by omega)]; exact X8) (fun y => by rw [up, oX _ (by omega)]) k.symm (fun _ => ⟨by rw [upI_c (by omega)]; exact X9, by rw [upI_c (by omega), oX _ (by omega)]⟩) (fun z => by omega)
    rw [bI_f m1, if_pos rfl, q2]
    simp only [Option.bind_some]
    rw [s2_129 _ _ _ _ _ _ hb]
    by_cases m2 : mEq S 2 0 i
    · rw [bI_t m2, if_pos (by decide)]
      exact took (Or.inl m2)
    · rw [bI_f m2, if_neg (by decide), q3]
      simp only [Option.bind_some]
      rw [s2_150 _ _ hb]
      by_cases m3 : mEq S 1 2 i
      · rw [bI_t m3, if_neg (by decide)]
        exact took (Or.inr m3)
      · have k : mK S i = -1 := by
          unfold mK
          rw [if_neg (fun z => m1 (bI_1.mp z)), if_neg (fun z => by rcases bI_1.mp z with y | y; exact m2 y; exact m3 y)]
        rw [bI_f m3, if_pos rfl]
        have a1 : (upI X (x + 8) (X x 8) (-1)) x 9 = I x 9 := by rw [upI_c (by omega)]; exact X9
        have a2 : (upI X (x + 8) (X x 8) (-1)) x 8 = I x 8 := by rw [upI_c (by omega)]; exact X8
        have a3 : (upI (upI X (x + 8) (X x 8) (-1)) (x + 9) (I x 9) (I x 8)) x 9 = I x 9 := by rw [upI_c (by omega)]; exact a1
        rw [a1, a2, a3, X8, gd_t (by omega), gd_t (by omega), gd_t (by omega)]
        exact fin (-1) _ (fun c a d e => by rw [upI_c a, upI_c e, upI_c d]) (by rw [upI_i (by decide), upI_c (by omega), upI_c (by omega)]; exact X8) (fun y => by rw [upI_c (by omega), upI_c (by omega), up, oX _ (by omega)]) k.symm (fun z => absurd k z) (fun _ => ⟨by rw [upI_s], fun y => by rw [upI_c (by omega), up, upI_c (by omega), oX _ (by omega)]⟩)
end
