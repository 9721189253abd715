/-! the class's steps: make, bestAsk -/
section
variable {L : Nat} {b : Bool} {I : AI} {J : AJ} {k : Nat}
/-- how good a step is to ask -/
noncomputable def askV (S : Int → Prop) (A : Int → Int → Prop) (n s : Int) : Int := if ct (fun t => S t ∧ A s t) 128 < n - ct (fun t => S t ∧ A s t) 128 then n - ct (fun t => S t ∧ A s t) 128 else ct (fun t => S t ∧ A s t) 128
theorem c62 (hk : isSet k = true) (hN : 0 ≤ I 23 8 ∧ I 23 8 ≤ 80) : evc 62 [vr 23, vr k] (hp L b I J) = some (vi (am (fun s => s ≠ lbC I ∧ sb J k s) (askV (sb J k) (ab J) (ct (sb J k) 128)) (ct (sb J k) 128 + 1) (I 23 8).toNat).1, hp L b I J) := by
  have b0 := ct_bd (p := sb J k) 128
  have e0 : evc 62 [vr 23, vr k] (hp L b I J) = ev 62 21 [some (vr 23), some (vr k), some (vi (ct (sb J k) 128)), some (vi (lbC I)), some (vi (-1)), some (vi (ct (sb J k) 128 + 1)), some (vi 0), none, none] [] (hp L b I J) := by
    rw [n62]
    simp (disch := first | assumption | omega) only [↓gd_t, ↓if_pos, ↓if_neg, Option.bind_some, true_or, true_and, gd_t, s62_0, c51, s62_4]
    rw [c60 hN]
    simp only [Option.bind_some]
    rw [s62_9, show lst (fun s => I 27 s = 2) (I 23 8).toNat 0 = lbC I from rfl]
    simp (disch := first | assumption | omega) only [↓gd_t, ↓if_pos, ↓if_neg, Option.bind_some, true_or, true_and, gd_t]
  rw [e0]
  generalize hn : ct (sb J k) 128 = n at b0 ⊢
  refine lp (lo := 0) (hi := I 23 8) (F := fun i (s : Int × Int) => ev 62 21 [some (vr 23), some (vr k), some (vi n), some (vi (lbC I)), some (vi s.1), some (vi s.2), some (vi i), none, none] [] (hp L b I J)) (Q := fun r => r = some (vi (am (fun s => s ≠ lbC I ∧ sb J k s) (askV (sb J k) (ab J) n) (n + 1) (I 23 8).toNat).1, hp L b I J)) (fun i s => s = am (fun s => s ≠ lbC I ∧ sb J k s) (askV (sb J k) (ab J) n) (n + 1) i.toNat) ?_ ?_ 0 (-1, n + 1) (Int.le_refl _) hN.1 rfl
  · intro i s h1 h2 h3
    right
    have b1 := ct_bd (p := fun t => sb J k t ∧ ab J i t) 128
    have bz : ct (fun t => ((J k 0) &&& (J 28 i)).getLsbD t.toNat = true) 64 + ct (fun t => ((J k 1) &&& (J 29 i)).getLsbD t.toNat = true) 64 = ct (fun t => sb J k t ∧ ab J i t) 128 := by
      rw [ct_bs]; exact ct_cg 128 (fun j _ _ => bs_and)
    have b2 := ct_bd (p := fun t => ((J k 0) &&& (J 28 i)).getLsbD t.toNat = true) 64
    have b3 := ct_bd (p := fun t => ((J k 1) &&& (J 29 i)).getLsbD t.toNat = true) 64
    by_cases c : i ≠ lbC I ∧ sb J k i
    · have c1 := c.1
      have st : ev 62 21 [some (vr 23), some (vr k), some (vi n), some (vi (lbC I)), some (vi s.1), some (vi s.2), some (vi i), none, none] [] (hp L b I J) = ev 62 75 [some (vr 23), some (vr k), some (vi n), some (vi (lbC I)), some (vi s.1), some (vi s.2), some (vi i), none, none] [vi (ct (fun t => ((J k 1) &&& (J 29 i)).getLsbD t.toNat = true) 64), vi (ct (fun t => ((J k 0) &&& (J 28 i)).getLsbD t.toNat = true) 64)] (hp L b I J) := by
        rw [s62_21 _ _ _ _ _ _ hk, if_neg (by omega), if_neg c1, c50 hk, bI_t (show i < 80 ∧ sb J k i from ⟨by omega, c.2⟩)]
        simp only [Option.bind_some]
        rw [s62_42 _ _ _ _ _ _ _ hk]
        simp (disch := first | assumption | omega) only [↓gd_t, ↓if_pos, ↓if_neg, Option.bind_some, true_or, true_and, gd_t, c230]
        rw [s62_60 _ _ _ _ _ _ _ hk]
        simp (disch := first | assumption | omega) only [↓gd_t, ↓if_pos, ↓if_neg, Option.bind_some, true_or, true_and, gd_t, c230]
      by_cases c2 : askV (sb J k) (ab J) n i < s.2
      · refine ⟨(i, askV (sb J k) (ab J) n i), ?_, ?_⟩
        · try dsimp only
          rw [st, s62_75, bz]
          unfold askV at c2
          rw [if_neg (by omega)]
          simp (disch := first | assumption | omega) only [↓gd_t, ↓if_pos, ↓if_neg, Option.bind_some, true_or, true_and, gd_t, s62_104]
          rfl
        · rw [h3] at c2
          rw [am_t h1 c c2]
      · refine ⟨s, ?_, ?_⟩
        · try dsimp only
          rw [st, s62_75, bz]
          unfold askV at c2
          rw [if_pos (by omega)]
          simp (disch := first | assumption | omega) only [↓gd_t, ↓if_pos, ↓if_neg, Option.bind_some, true_or, true_and, gd_t, s62_104]
        · rw [h3] at c2 ⊢
          rw [am_f h1 (fun z => c2 z.2)]
    · refine ⟨s, ?_, ?_⟩
      · try dsimp only
        rw [s62_21 _ _ _ _ _ _ hk, if_neg (by omega)]
        by_cases c1 : i = lbC I
        · rw [if_pos c1]
          simp (disch := first | assumption | omega) only [↓gd_t, ↓if_pos, ↓if_neg, Option.bind_some, true_or, true_and, gd_t, s62_104]
        · rw [if_neg c1, c50 hk, bI_f (fun z => c ⟨c1, z.2⟩)]
          simp only [Option.bind_some]
          rw [s62_42 _ _ _ _ _ _ _ hk]
          simp (disch := first | assumption | omega) only [↓gd_t, ↓if_pos, ↓if_neg, Option.bind_some, true_or, true_and, gd_t, s62_104]
      · rw [h3, am_f h1 (fun z => c z.1)]
  · intro s h3
    try dsimp only
    rw [s62_21 _ _ _ _ _ _ hk, if_pos (Int.le_refl _), h3]
/-- a new step -/
theorem c56 (hN : 0 ≤ I 23 8 ∧ I 23 8 < 80) (x p q : Int) : ∃ J', evc 56 [vr 23, vi x, vi p, vi q] (hp L b I J) = some (vi (I 23 8), hp L b (upI (upI (upI (upI I 23 8 (I 23 8 + 1)) 24 (I 23 8) x) 25 (I 23 8) p) 26 (I 23 8) q) J') ∧ (∀ c, c ≠ 28 → c ≠ 29 → c ≠ 31 → J' c = J c) ∧ (∀ s, s ≠ I 23 8 → ab J' s = ab J s) ∧ ∀ t, ab J' (I 23 8) t ↔ t = I 23 8 ∨ ((0 ≤ p ∧ p < I 23 8) ∧ ab J p t) ∨ ((0 ≤ q ∧ q < I 23 8) ∧ ab J q t) := by
  obtain ⟨J1, q1, q2, q3⟩ := c49 (L := L) (b := b) (I := I) (J := J) (k := 31) (by decide)
  obtain ⟨J2, r1, r2, r3⟩ := c57 (L := L) (b := b) (I := I) (J := J1) (k := 31) (by decide) (by omega) p
  obtain ⟨J3, w1, w2, w3⟩ := c57 (L := L) (b := b) (I := I) (J := J2) (k := 31) (by decide) (by omega) q
  have ea1 : ∀ s, ab J1 s = ab J s := fun s => ab_cg (q2 28 (by decide)) (q2 29 (by decide))
  have ea2 : ∀ s, ab J2 s = ab J s := fun s => by rw [ab_cg (r2 28 (by decide)) (r2 29 (by decide)), ea1]
  have ea3 : ∀ s, ab J3 s = ab J s := fun s => by rw [ab_cg (w2 28 (by decide)) (w2 29 (by decide)), ea2]
  have fr : ∀ c, c ≠ 31 → J3 c = J c := fun c hc => by rw [w2 c hc, r2 c hc, q2 c hc]
  have key : ∀ y z : BitVec 64, (∀ t, bs y z t ↔ t = I 23 8) → (∀ c, c ≠ 28 → c ≠ 29 → c ≠ 31 → (upJ (upJ J3 28 (I 23 8) (J3 31 0 ||| y)) 29 (I 23 8) (J3 31 1 ||| z)) c = J c) ∧ (∀ s, s ≠ I 23 8 → ab (upJ (upJ J3 28 (I 23 8) (J3 31 0 ||| y)) 29 (I 23 8) (J3 31 1 ||| z)) s = ab J s) ∧ ∀ t, ab (upJ (upJ J3 28 (I 23 8) (J3 31 0 ||| y)) 29 (I 23 8) (J3 31 1 ||| z)) (I 23 8) t ↔ t = I 23 8 ∨ ((0 ≤ p ∧ p < I 23 8) ∧ ab J p t) ∨ ((0 ≤ q ∧ q < I 23 8) ∧ ab J q t) := by
    intro y z hyz
    refine ⟨fun c h1 h2 h3 => by rw [upJ_c h2, upJ_c h1, fr c h3], fun s hs => ?_, fun t => ?_⟩
    · rw [← ea3 s]
      unfold ab
      rw [upJ_i hs, upJ_c (by decide), upJ_i hs, upJ_c (by decide)]
    · unfold ab
      rw [upJ_s, upJ_c (by decide), upJ_s, bs_or, hyz]
      show sb J3 31 t ∨ _ ↔ _
      rw [w3, r3, ea1, ea2]
      constructor
      · rintro ((h | h) | h)
        · rcases h with h | h
          · exact absurd h (q3 t)
          · exact Or.inr (Or.inl h)
        · exact Or.inr (Or.inr h)
        · exact Or.inl h
      · rintro (h | h | h)
        · exact Or.inr h
        · exact Or.inl (Or.inl (Or.inr h))
        · exact Or.inl (Or.inr h)
  by_cases c : 64 ≤ I 23 8
  · obtain ⟨k1, k2, k3⟩ := key (BitVec.ofNat 64 0) ((BitVec.ofNat 64 1) <<< (I 23 8 - 64).toNat) (fun t => bs_hi c (by omega))
    refine ⟨_, ?_, k1, k2, k3⟩
    rw [n56]
    simp (disch := first | assumption | omega) only [↓gd_t, ↓if_pos, ↓if_neg, Option.bind_some, true_or, true_and, gd_t, s56_0, q1, s56_19, r1, s56_28, w1, s56_37, s56_105, s56_138, upJ_c]
  · obtain ⟨k1, k2, k3⟩ := key ((BitVec.ofNat 64 1) <<< (I 23 8).toNat) (BitVec.ofNat 64 0) (fun t => bs_lo (by omega) (by omega))
    refine ⟨_, ?_, k1, k2, k3⟩
    rw [n56]
    simp (disch := first | assumption | omega) only [↓gd_t, ↓if_pos, ↓if_neg, Option.bind_some, true_or, true_and, gd_t, s56_0, q1, s56_19, r1, s56_28, w1, s56_37, s56_105, s56_138, upJ_c]
theorem c56f (hN : ¬ I 23 8 < 80) (x p q : Int) : evc 56 [vr 23, vi x, vi p, vi q] (hp L b I J) = some (vi (-2), hp L b I J) := by
  rw [n56]
  simp (disch := first | assumption | omega) only [↓gd_t, ↓if_pos, ↓if_neg, Option.bind_some, true_or, true_and, gd_t, s56_0]
end
