/-! the class's sets of steps, and its steps -/
def bs (lo hi : BitVec 64) (t : Int) : Prop := (0 ≤ t ∧ t < 64 ∧ lo.getLsbD t.toNat = true) ∨ (64 ≤ t ∧ t < 128 ∧ hi.getLsbD (t - 64).toNat = true)
theorem bs_or {a b c d : BitVec 64} {t : Int} : bs (a ||| c) (b ||| d) t ↔ bs a b t ∨ bs c d t := by
  unfold bs
  rw [BitVec.getLsbD_or, BitVec.getLsbD_or, Bool.or_eq_true, Bool.or_eq_true]
  constructor
  · rintro (⟨h1, h2, h3 | h3⟩ | ⟨h1, h2, h3 | h3⟩)
    · exact Or.inl (Or.inl ⟨h1, h2, h3⟩)
    · exact Or.inr (Or.inl ⟨h1, h2, h3⟩)
    · exact Or.inl (Or.inr ⟨h1, h2, h3⟩)
    · exact Or.inr (Or.inr ⟨h1, h2, h3⟩)
  · rintro ((⟨h1, h2, h3⟩ | ⟨h1, h2, h3⟩) | (⟨h1, h2, h3⟩ | ⟨h1, h2, h3⟩))
    · exact Or.inl ⟨h1, h2, Or.inl h3⟩
    · exact Or.inr ⟨h1, h2, Or.inl h3⟩
    · exact Or.inl ⟨h1, h2, Or.inr h3⟩
    · exact Or.inr ⟨h1, h2, Or.inr h3⟩
theorem bs_and {a b c d : BitVec 64} {t : Int} : bs (a &&& c) (b &&& d) t ↔ bs a b t ∧ bs c d t := by
  unfold bs
  rw [BitVec.getLsbD_and, BitVec.getLsbD_and, Bool.and_eq_true, Bool.and_eq_true]
  constructor
  · rintro (⟨h1, h2, h3, h4⟩ | ⟨h1, h2, h3, h4⟩)
    · exact ⟨Or.inl ⟨h1, h2, h3⟩, Or.inl ⟨h1, h2, h4⟩⟩
    · exact ⟨Or.inr ⟨h1, h2, h3⟩, Or.inr ⟨h1, h2, h4⟩⟩
  · rintro ⟨(⟨h1, h2, h3⟩ | ⟨h1, h2, h3⟩), (⟨g1, g2, g3⟩ | ⟨g1, g2, g3⟩)⟩
    · exact Or.inl ⟨h1, h2, h3, g3⟩
    · omega
    · omega
    · exact Or.inr ⟨h1, h2, h3, g3⟩
theorem bs_rm {a b c d : BitVec 64} {t : Int} : bs (a &&& (c ^^^ BitVec.ofInt 64 (-1))) (b &&& (d ^^^ BitVec.ofInt 64 (-1))) t ↔ bs a b t ∧ ¬ bs c d t := by
  have e : BitVec.ofInt 64 (-1) = BitVec.allOnes 64 := by decide
  have n : ∀ (x : BitVec 64) (i : Nat), i < 64 → ((x ^^^ BitVec.ofInt 64 (-1)).getLsbD i = true ↔ ¬ x.getLsbD i = true) := fun x i h => by
    rw [e, BitVec.getLsbD_xor, BitVec.getLsbD_allOnes, decide_eq_true h]
    cases x.getLsbD i <;> decide
  unfold bs
  rw [BitVec.getLsbD_and, BitVec.getLsbD_and, Bool.and_eq_true, Bool.and_eq_true]
  constructor
  · rintro (⟨h1, h2, h3, h4⟩ | ⟨h1, h2, h3, h4⟩)
    · refine ⟨Or.inl ⟨h1, h2, h3⟩, ?_⟩
      rintro (⟨g1, g2, g3⟩ | ⟨g1, g2, g3⟩)
      · exact (n c t.toNat (by omega)).mp h4 g3
      · omega
    · refine ⟨Or.inr ⟨h1, h2, h3⟩, ?_⟩
      rintro (⟨g1, g2, g3⟩ | ⟨g1, g2, g3⟩)
      · omega
      · exact (n d (t - 64).toNat (by omega)).mp h4 g3
  · rintro ⟨(⟨h1, h2, h3⟩ | ⟨h1, h2, h3⟩), h4⟩
    · exact Or.inl ⟨h1, h2, h3, (n c t.toNat (by omega)).mpr (fun z => h4 (Or.inl ⟨h1, h2, z⟩))⟩
    · exact Or.inr ⟨h1, h2, h3, (n d (t - 64).toNat (by omega)).mpr (fun z => h4 (Or.inr ⟨h1, h2, z⟩))⟩
theorem bs_0 {t : Int} : ¬ bs (BitVec.ofNat 64 0) (BitVec.ofNat 64 0) t := by
  unfold bs
  rintro (⟨h1, h2, h3⟩ | ⟨h1, h2, h3⟩) <;> simp at h3
theorem bs_nn {a b : BitVec 64} {t : Int} (h : bs a b t) : 0 ≤ t ∧ t < 128 := by rcases h with h | h <;> omega
theorem bs_lo {s t : Int} (h0 : 0 ≤ s) (h1 : s < 64) : bs ((BitVec.ofNat 64 1) <<< s.toNat) (BitVec.ofNat 64 0) t ↔ t = s := by
  unfold bs
  constructor
  · rintro (⟨h2, h3, h4⟩ | ⟨h2, h3, h4⟩)
    · rw [BitVec.getLsbD_shiftLeft] at h4; simp at h4; omega
    · simp at h4
  · intro e
    refine Or.inl ⟨by omega, by omega, ?_⟩
    rw [e, BitVec.getLsbD_shiftLeft]; simp; omega
theorem bs_hi {s t : Int} (h0 : 64 ≤ s) (h1 : s < 128) : bs (BitVec.ofNat 64 0) ((BitVec.ofNat 64 1) <<< (s - 64).toNat) t ↔ t = s := by
  unfold bs
  constructor
  · rintro (⟨h2, h3, h4⟩ | ⟨h2, h3, h4⟩)
    · simp at h4
    · rw [BitVec.getLsbD_shiftLeft] at h4; simp at h4; omega
  · intro e
    refine Or.inr ⟨by omega, by omega, ?_⟩
    rw [e, BitVec.getLsbD_shiftLeft]; simp; omega
/-- of a set of steps; of the ancestors that are kept of a step -/
def sb (J : AJ) (k : Nat) (t : Int) : Prop := bs (J k 0) (J k 1) t
def ab (J : AJ) (s t : Int) : Prop := bs (J 28 s) (J 29 s) t
def stFree (c : Nat) : Bool := [31, 52, 111, 114].all (fun k => k != c)
theorem st_ne {k c : Nat} (hk : isSet k = true) (hc : stFree c = true) : c ≠ k := by
  have h := List.all_eq_true.mp hc k (mem_ct hk)
  simp at h
  exact fun e => h e.symm
section
variable {L : Nat} {b : Bool} {I : AI} {J : AJ} {k : Nat}
theorem c49 (hk : isSet k = true) : ∃ J', evc 49 [vr k] (hp L b I J) = some (vi 0, hp L b I J') ∧ (∀ c, c ≠ k → J' c = J c) ∧ ∀ t, ¬ sb J' k t := by
  refine ⟨upJ (upJ J k 0 (BitVec.ofNat 64 0)) k 1 (BitVec.ofNat 64 0), by rw [n49, s49_0 _ hk], fun c hc => by rw [upJ_c hc, upJ_c hc], fun t => ?_⟩
  unfold sb
  rw [upJ_s, upJ_i (by decide), upJ_s]
  exact bs_0
theorem and1 (y : BitVec 64) : y &&& BitVec.ofNat 64 1 = if y.getLsbD 0 then BitVec.ofNat 64 1 else BitVec.ofNat 64 0 := by
  rw [show BitVec.ofNat 64 1 = 1#64 from rfl, BitVec.and_one_eq_setWidth_ofBool_getLsbD]
  cases y.getLsbD 0 <;> rfl
theorem l50 (y : BitVec 64) : ev 50 36 [none, none] [vl y] (hp L b I J) = some (vi (bI (y.getLsbD 0 = true)), hp L b I J) := by
  rw [s50_36, and1]
  by_cases c : y.getLsbD 0 = true
  · rw [if_pos c, if_neg (by decide), g1, bI_t c]
  · rw [if_neg c, if_pos (by decide), g0, bI_f c]
theorem c50 (hk : isSet k = true) (t : Int) : evc 50 [vr k, vi t] (hp L b I J) = some (vi (bI (t < 80 ∧ sb J k t)), hp L b I J) := by
  rw [n50, s50_0 _ _ hk]
  unfold sb bs
  by_cases c1 : t < 0
  · rw [if_pos c1, s50_10, g0, bI_f (by omega)]
  rw [if_neg c1]
  by_cases c2 : t < 80
  · rw [if_pos c2]
    by_cases c3 : 64 ≤ t
    · rw [if_pos c3, gd_t (by omega), gd_t (by omega), l50, BitVec.getLsbD_ushiftRight, Nat.add_zero]
      congr 3
      refine bI_cg ⟨fun h => ⟨c2, Or.inr ⟨c3, by omega, h⟩⟩, fun h => ?_⟩
      rcases h.2 with h | h
      · omega
      · exact h.2.2
    · rw [if_neg c3, gd_t (by omega), l50, BitVec.getLsbD_ushiftRight, Nat.add_zero]
      congr 3
      refine bI_cg ⟨fun h => ⟨c2, Or.inl ⟨by omega, by omega, h⟩⟩, fun h => ?_⟩
      rcases h.2 with h | h
      · exact h.2.2
      · omega
  · rw [if_neg c2, s50_10, g0, bI_f (fun z => c2 z.1)]
theorem ct_bs (x y : BitVec 64) : ct (fun t => x.getLsbD t.toNat = true) 64 + ct (fun t => y.getLsbD t.toNat = true) 64 = ct (bs x y) 128 := by
  rw [show (128 : Nat) = 64 + 64 from rfl, ct_add]
  rw [ct_cg (p := fun t => x.getLsbD t.toNat = true) (q := bs x y) 64 (fun i h0 h1 => ⟨fun h => Or.inl ⟨h0, by omega, h⟩, fun h => by rcases h with h | h; exact h.2.2; omega⟩)]
  rw [ct_cg (p := fun t => y.getLsbD t.toNat = true) (q := fun i => bs x y (i + (64 : Nat))) 64 (fun i h0 h1 => ⟨fun h => Or.inr ⟨by omega, by omega, by rw [show i + ((64 : Nat) : Int) - 64 = i by omega]; exact h⟩, fun h => by
    rcases h with h | h
    · omega
    · have := h.2.2; rw [show i + ((64 : Nat) : Int) - 64 = i by omega] at this; exact this⟩)]
theorem c51 (hk : isSet k = true) : evc 51 [vr k] (hp L b I J) = some (vi (ct (sb J k) 128), hp L b I J) := by
  have h1 := ct_bd (p := fun t => (J k 0).getLsbD t.toNat = true) 64
  have h2 := ct_bd (p := fun t => (J k 1).getLsbD t.toNat = true) 64
  rw [n51]
  simp (disch := first | assumption | omega) only [↓gd_t, ↓if_pos, ↓if_neg, Option.bind_some, true_or, true_and, gd_t, s51_0, c230, s51_7, s51_14]
  rw [ct_bs]; rfl
theorem c52 {m : Nat} (hk : isSet k = true) (hm : isSet m = true) (hn : k ≠ m) : ∃ J', evc 52 [vr k, vr m] (hp L b I J) = some (vi 0, hp L b I J') ∧ (∀ c, c ≠ k → J' c = J c) ∧ ∀ t, sb J' k t ↔ sb J k t ∧ ¬ sb J m t := by
  refine ⟨_, by rw [n52, s52_0 _ _ hk hm], fun c hc => by rw [upJ_c hc, upJ_c hc], fun t => ?_⟩
  unfold sb
  rw [upJ_s, upJ_i (by decide), upJ_s, upJ_i (by decide), upJ_c (Ne.symm hn)]
  exact bs_rm
theorem c54 (s : Int) : evc 54 [vr 23, vi s] (hp L b I J) = some (vi (bI (0 ≤ s ∧ s < I 23 8)), hp L b I J) := by
  rw [n54, s54_0]
  by_cases c1 : s < 0
  · rw [if_pos c1, s54_16, g0, bI_f (by omega)]
  · rw [if_neg c1]
    by_cases c2 : I 23 8 ≤ s
    · rw [if_pos c2, s54_16, g0, bI_f (by omega)]
    · rw [if_neg c2, g1, bI_t (by omega)]
theorem c55 (s : Int) : evc 55 [vr 23, vi s] (hp L b I J) = some (vi (bI (s = -1 ∨ (0 ≤ s ∧ s < I 23 8))), hp L b I J) := by
  rw [n55, s55_0]
  by_cases c1 : s = -1
  · rw [if_pos c1, s55_13, g1, bI_t (Or.inl c1)]
  · rw [if_neg c1, c54]
    by_cases c2 : 0 ≤ s ∧ s < I 23 8
    · simp (disch := first | assumption | omega) only [↓gd_t, ↓if_pos, ↓if_neg, Option.bind_some, true_or, true_and, gd_t, bI_t c2, s55_10, s55_13]
      rw [bI_t (Or.inr c2)]
    · simp (disch := first | assumption | omega) only [↓gd_t, ↓if_pos, ↓if_neg, Option.bind_some, true_or, true_and, gd_t, bI_f c2, s55_10]
      rw [bI_f (by omega)]
/-- ancestors come into a set -/
theorem c57 (hk : isSet k = true) (hN : I 23 8 ≤ 80) (s : Int) : ∃ J', evc 57 [vr 23, vi s, vr k] (hp L b I J) = some (vi 0, hp L b I J') ∧ (∀ c, c ≠ k → J' c = J c) ∧ ∀ t, sb J' k t ↔ sb J k t ∨ ((0 ≤ s ∧ s < I 23 8) ∧ ab J s t) := by
  have r28 := st_ne hk (c := 28) (by decide)
  have r29 := st_ne hk (c := 29) (by decide)
  rw [n57, s57_0, c54]
  simp only [Option.bind_some]
  by_cases c : 0 ≤ s ∧ s < I 23 8
  · rw [bI_t c, s57_5 _ _ _ hk]
    simp (disch := first | assumption | omega) only [↓gd_t, ↓if_pos, ↓if_neg, Option.bind_some, true_or, true_and, gd_t]
    refine ⟨_, rfl, fun c hc => by rw [upJ_c hc, upJ_c hc], fun t => ?_⟩
    unfold sb ab
    rw [upJ_s, upJ_i (by decide), upJ_s, upJ_i (by decide), upJ_c r29]
    rw [bs_or]
    exact ⟨fun h => by rcases h with h | h; exact Or.inl h; exact Or.inr ⟨c, h⟩, fun h => by rcases h with h | h; exact Or.inl h; exact Or.inr h.2⟩
  · rw [bI_f c, s57_5 _ _ _ hk]
    simp (disch := first | assumption | omega) only [↓gd_t, ↓if_pos, ↓if_neg, Option.bind_some, true_or, true_and, gd_t]
    exact ⟨J, rfl, fun _ _ => rfl, fun t => ⟨Or.inl, fun h => by rcases h with h | h; exact h; exact absurd h.1 c⟩⟩
theorem c58 (hN : I 23 8 ≤ 80) (s t : Int) : ∃ J', evc 58 [vr 23, vi s, vi t] (hp L b I J) = some (vi (bI (t < 80 ∧ (0 ≤ s ∧ s < I 23 8) ∧ ab J s t)), hp L b I J') ∧ (∀ c, c ≠ 31 → J' c = J c) := by
  obtain ⟨J1, q1, q2, q3⟩ := c49 (L := L) (b := b) (I := I) (J := J) (k := 31) (by decide)
  obtain ⟨J2, r1, r2, r3⟩ := c57 (L := L) (b := b) (I := I) (J := J1) (k := 31) (by decide) hN s
  refine ⟨J2, ?_, fun c hc => (r2 c hc).trans (q2 c hc)⟩
  have e : bI (t < 80 ∧ sb J2 31 t) = bI (t < 80 ∧ (0 ≤ s ∧ s < I 23 8) ∧ ab J s t) := by
    refine bI_cg ?_
    rw [r3, show ab J1 s t = ab J s t by unfold ab; rw [q2 28 (by decide), q2 29 (by decide)]]
    exact ⟨fun h => ⟨h.1, by rcases h.2 with z | z; exact absurd z (q3 t); exact z⟩, fun h => ⟨h.1, Or.inr h.2⟩⟩
  rw [n58]
  simp (disch := first | assumption | omega) only [↓gd_t, ↓if_pos, ↓if_neg, Option.bind_some, true_or, true_and, gd_t, s58_0, q1, s58_7, r1, s58_16]
  rw [c50 (by decide), e]
  simp only [Option.bind_some]
  rw [s58_24, bI_g]
theorem ab_cg {J J' : AJ} {s : Int} (h1 : J' 28 = J 28) (h2 : J' 29 = J 29) : ab J' s = ab J s := by unfold ab; rw [h1, h2]
theorem sb_cg {J J' : AJ} {k : Nat} (h1 : J' k = J k) : sb J' k = sb J k := by unfold sb; rw [h1]
/-- the bases of two steps come into a set -/
theorem c59 (hk : isSet k = true) (hn : k ≠ 31) (hN : I 23 8 ≤ 80) {s t : Int} (hs : 0 ≤ s ∧ s < I 23 8) (ht : 0 ≤ t ∧ t < I 23 8) : (fun r => ∃ J', r = some (vi 0, hp L b I J') ∧ (∀ c, c ≠ k → c ≠ 31 → J' c = J c) ∧ ∀ c, sb J' k c ↔ (ab J s c ∧ ab J t c) ∧ ¬ ∃ d, (0 ≤ d ∧ d < I 23 8) ∧ (ab J s d ∧ ab J t d) ∧ (((0 ≤ I 25 d ∧ I 25 d < I 23 8) ∧ ab J (I 25 d) c) ∨ ((0 ≤ I 26 d ∧ I 26 d < I 23 8) ∧ ab J (I 26 d) c))) (evc 59 [vr 23, vi s, vi t, vr k] (hp L b I J)) := by
  have r28 := st_ne hk (c := 28) (by decide)
  have r29 := st_ne hk (c := 29) (by decide)
  obtain ⟨J1, q1, q2, q3⟩ := c49 (L := L) (b := b) (I := I) (J := J) (k := k) hk
  obtain ⟨J2, e2, p1, p2⟩ : ∃ J2, J2 = upJ (upJ J1 k 0 (J1 28 s &&& J1 28 t)) k 1 (J1 29 s &&& J1 29 t) ∧ (∀ c, c ≠ k → J2 c = J c) ∧ ∀ c, sb J2 k c ↔ ab J s c ∧ ab J t c := by
    refine ⟨_, rfl, fun c hc => by rw [upJ_c hc, upJ_c hc, q2 c hc], fun c => ?_⟩
    unfold sb ab
    rw [upJ_s, upJ_i (by decide), upJ_s, bs_and, q2 28 r28, q2 29 r29]
  obtain ⟨J3, w1, w2, w3⟩ := c49 (L := L) (b := b) (I := I) (J := J2) (k := 31) (by decide)
  have e0 : evc 59 [vr 23, vi s, vi t, vr k] (hp L b I J) = ev 59 65 [some (vr 23), none, none, some (vr k), some (vi 0)] [] (hp L b I J3) := by
    rw [n59]
    simp (disch := first | assumption | omega) only [↓gd_t, ↓if_pos, ↓if_neg, Option.bind_some, true_or, true_and, gd_t, s59_0, q1, s59_4, c54, bI_t hs, s59_9, bI_t ht]
    rw [s59_17 _ _ _ _ hk]
    simp only [upJ_c r29]
    rw [← e2]
    simp (disch := first | assumption | omega) only [↓gd_t, ↓if_pos, ↓if_neg, Option.bind_some, true_or, true_and, gd_t, w1, s59_62]
  rw [e0]
  refine lp (lo := 0) (hi := I 23 8) (F := fun i (J' : AJ) => ev 59 65 [some (vr 23), none, none, some (vr k), some (vi i)] [] (hp L b I J')) (Q := fun r => ∃ J', r = some (vi 0, hp L b I J') ∧ (∀ c, c ≠ k → c ≠ 31 → J' c = J c) ∧ ∀ c, sb J' k c ↔ (ab J s c ∧ ab J t c) ∧ ¬ ∃ d, (0 ≤ d ∧ d < I 23 8) ∧ (ab J s d ∧ ab J t d) ∧ (((0 ≤ I 25 d ∧ I 25 d < I 23 8) ∧ ab J (I 25 d) c) ∨ ((0 ≤ I 26 d ∧ I 26 d < I 23 8) ∧ ab J (I 26 d) c))) (fun i J' => (∀ c, c ≠ 31 → J' c = J2 c) ∧ ∀ c, sb J' 31 c ↔ ∃ d, (0 ≤ d ∧ d < i) ∧ (ab J s d ∧ ab J t d) ∧ (((0 ≤ I 25 d ∧ I 25 d < I 23 8) ∧ ab J (I 25 d) c) ∨ ((0 ≤ I 26 d ∧ I 26 d < I 23 8) ∧ ab J (I 26 d) c))) ?_ ?_ 0 J3 (Int.le_refl _) (by omega) ⟨w2, fun c => ⟨fun z => absurd z (w3 c), fun ⟨d, z, _⟩ => by omega⟩⟩
  · intro i J4 h1 h2 ⟨v1, v2⟩
    right
    have ea : ∀ s, ab J4 s = ab J s := fun s => by rw [ab_cg (v1 28 (by decide)) (v1 29 (by decide)), ab_cg (p1 28 r28) (p1 29 r29)]
    have es : sb J4 k = sb J2 k := sb_cg (v1 k hn)
    by_cases c : ab J s i ∧ ab J t i
    · obtain ⟨J5, a1, a2, a3⟩ := c57 (L := L) (b := b) (I := I) (J := J4) (k := 31) (by decide) hN (I 25 i)
      obtain ⟨J6, b1, b2, b3⟩ := c57 (L := L) (b := b) (I := I) (J := J5) (k := 31) (by decide) hN (I 26 i)
      have ea5 : ∀ s, ab J5 s = ab J s := fun s => by rw [ab_cg (a2 28 (by decide)) (a2 29 (by decide)), ea]
      refine ⟨J6, ?_, fun c hc => by rw [b2 c hc, a2 c hc, v1 c hc], fun x => ?_⟩
      · try dsimp only
        rw [s59_65 _ _ hk, c50 hk, es, bI_t (show i < 80 ∧ sb J2 k i from ⟨by omega, (p2 i).mpr c⟩)]
        simp (disch := first | assumption | omega) only [↓gd_t, ↓if_pos, ↓if_neg, Option.bind_some, true_or, true_and, gd_t, s59_80, a1, s59_98, b1, s59_113]
      · rw [b3, a3, v2, ea, ea5]
        constructor
        · rintro ((⟨d, z1, z2⟩ | z) | z)
          · exact ⟨d, ⟨z1.1, by omega⟩, z2⟩
          · exact ⟨i, ⟨h1, by omega⟩, c, Or.inl z⟩
          · exact ⟨i, ⟨h1, by omega⟩, c, Or.inr z⟩
        · rintro ⟨d, z1, z2, z3⟩
          by_cases e : d = i
          · rw [e] at z3
            rcases z3 with z | z
            · exact Or.inl (Or.inr z)
            · exact Or.inr z
          · exact Or.inl (Or.inl ⟨d, ⟨z1.1, by omega⟩, z2, z3⟩)
    · refine ⟨J4, ?_, v1, fun x => ?_⟩
      · try dsimp only
        rw [s59_65 _ _ hk, c50 hk, es, bI_f (fun z => c ((p2 i).mp z.2))]
        simp (disch := first | assumption | omega) only [↓gd_t, ↓if_pos, ↓if_neg, Option.bind_some, true_or, true_and, gd_t, s59_80, s59_113]
      · rw [v2]
        constructor
        · rintro ⟨d, z1, z2⟩
          exact ⟨d, ⟨z1.1, by omega⟩, z2⟩
        · rintro ⟨d, z1, z2, z3⟩
          by_cases e : d = i
          · rw [e] at z2; exact absurd z2 c
          · exact ⟨d, ⟨z1.1, by omega⟩, z2, z3⟩
  · intro J4 ⟨v1, v2⟩
    have es : sb J4 k = sb J2 k := sb_cg (v1 k hn)
    obtain ⟨J5, a1, a2, a3⟩ := c52 (L := L) (b := b) (I := I) (J := J4) (k := k) (m := 31) hk (by decide) hn
    refine ⟨J5, ?_, fun c hc hd => by rw [a2 c hc, v1 c hd, p1 c hc], fun c => ?_⟩
    · try dsimp only
      rw [s59_65 _ _ hk]
      simp (disch := first | assumption | omega) only [↓gd_t, ↓if_pos, ↓if_neg, Option.bind_some, true_or, true_and, gd_t, a1, s59_127]
    · rw [a3, es, p2, v2]
theorem c60 (hN : 0 ≤ I 23 8 ∧ I 23 8 ≤ 80) : evc 60 [vr 23] (hp L b I J) = some (vi (lst (fun s => I 27 s = 2) (I 23 8).toNat 0), hp L b I J) := by
  rw [n60, s60_0]
  refine lp (lo := 0) (hi := I 23 8) (F := fun i (_ : Unit) => ev 60 2 [some (vr 23), some (vi i)] [] (hp L b I J)) (Q := fun r => r = some (vi (lst (fun s => I 27 s = 2) (I 23 8).toNat 0), hp L b I J)) (fun i _ => lst (fun s => I 27 s = 2) (I 23 8).toNat 0 = lst (fun s => I 27 s = 2) (I 23 8 - i).toNat i) ?_ ?_ 0 () (Int.le_refl _) hN.1 (by rw [Int.sub_zero])
  · intro i _ h1 h2 h3
    obtain ⟨N, hN'⟩ : ∃ N : Nat, (I 23 8 - i).toNat = N + 1 := ⟨(I 23 8 - i).toNat - 1, by omega⟩
    by_cases c : I 27 i = 2
    · left
      try dsimp only
      rw [s60_2, h3, hN']
      unfold lst
      rw [if_pos (show bI (I 27 i = 2) = 1 from bI_t c)]
      simp (disch := first | assumption | omega) only [↓gd_t, ↓if_pos, ↓if_neg, Option.bind_some, true_or, true_and, gd_t]
    · right
      refine ⟨(), ?_, ?_⟩
      · try dsimp only
        rw [s60_2]
        simp (disch := first | assumption | omega) only [↓gd_t, ↓if_pos, ↓if_neg, Option.bind_some, true_or, true_and, gd_t]
      · rw [h3, hN']
        show (if bI (I 27 i = 2) = 1 then _ else _) = _
        rw [if_neg (by rw [bI_f c]; decide), show (I 23 8 - (i + 1)).toNat = N by omega]
  · intro _ h3
    try dsimp only
    rw [s60_2, h3, Int.sub_self]
    simp (disch := first | assumption | omega) only [↓gd_t, ↓if_pos, ↓if_neg, Option.bind_some, true_or, true_and, gd_t]
    rfl
noncomputable def lbC (I : AI) : Int := lst (fun s => I 27 s = 2) (I 23 8).toNat 0
theorem c61 (hk : isSet k = true) (hn : k ≠ 31) (hN : 0 ≤ I 23 8 ∧ I 23 8 ≤ 80) : (fun r => ∃ J', r = some (vi 0, hp L b I J') ∧ (∀ c, c ≠ k → c ≠ 31 → J' c = J c) ∧ ∀ t, sb J' k t ↔ ((0 ≤ lbC I ∧ lbC I < I 23 8) ∧ ab J (lbC I) t) ∧ ¬ ∃ s, (0 ≤ s ∧ s < I 23 8) ∧ I 27 s = 1 ∧ ab J s t) (evc 61 [vr 23, vr k] (hp L b I J)) := by
  have r28 := st_ne hk (c := 28) (by decide)
  have r29 := st_ne hk (c := 29) (by decide)
  obtain ⟨J1, q1, q2, q3⟩ := c49 (L := L) (b := b) (I := I) (J := J) (k := k) hk
  obtain ⟨J2, p0, p1, p2⟩ := c57 (L := L) (b := b) (I := I) (J := J1) (k := k) hk hN.2 (lbC I)
  obtain ⟨J3, w1, w2, w3⟩ := c49 (L := L) (b := b) (I := I) (J := J2) (k := 31) (by decide)
  have e0 : evc 61 [vr 23, vr k] (hp L b I J) = ev 61 22 [some (vr 23), some (vr k), some (vi 0)] [] (hp L b I J3) := by
    rw [n61]
    simp (disch := first | assumption | omega) only [↓gd_t, ↓if_pos, ↓if_neg, Option.bind_some, true_or, true_and, gd_t, s61_0, q1, s61_4]
    rw [c60 hN]
    show _ = _
    simp only [Option.bind_some]
    rw [s61_9, show lst (fun s => I 27 s = 2) (I 23 8).toNat 0 = lbC I from rfl]
    simp (disch := first | assumption | omega) only [↓gd_t, ↓if_pos, ↓if_neg, Option.bind_some, true_or, true_and, gd_t, p0, s61_13, w1, s61_20]
  rw [e0]
  refine lp (lo := 0) (hi := I 23 8) (F := fun i (J' : AJ) => ev 61 22 [some (vr 23), some (vr k), some (vi i)] [] (hp L b I J')) (Q := fun r => ∃ J', r = some (vi 0, hp L b I J') ∧ (∀ c, c ≠ k → c ≠ 31 → J' c = J c) ∧ ∀ t, sb J' k t ↔ ((0 ≤ lbC I ∧ lbC I < I 23 8) ∧ ab J (lbC I) t) ∧ ¬ ∃ s, (0 ≤ s ∧ s < I 23 8) ∧ I 27 s = 1 ∧ ab J s t) (fun i J' => (∀ c, c ≠ 31 → J' c = J2 c) ∧ ∀ t, sb J' 31 t ↔ ∃ s, (0 ≤ s ∧ s < i) ∧ I 27 s = 1 ∧ ab J s t) ?_ ?_ 0 J3 (Int.le_refl _) (by omega) ⟨w2, fun c => ⟨fun z => absurd z (w3 c), fun ⟨d, z, _⟩ => by omega⟩⟩
  · intro i J4 h1 h2 ⟨v1, v2⟩
    right
    have ea : ∀ s, ab J4 s = ab J s := fun s => by rw [ab_cg (v1 28 (by decide)) (v1 29 (by decide)), ab_cg (p1 28 r28) (p1 29 r29), ab_cg (q2 28 r28) (q2 29 r29)]
    by_cases c : I 27 i = 1
    · obtain ⟨J5, a1, a2, a3⟩ := c57 (L := L) (b := b) (I := I) (J := J4) (k := 31) (by decide) hN.2 i
      refine ⟨J5, ?_, fun c hc => by rw [a2 c hc, v1 c hc], fun x => ?_⟩
      · try dsimp only
        rw [s61_22 _ _ hk]
        simp (disch := first | assumption | omega) only [↓gd_t, ↓if_pos, ↓if_neg, Option.bind_some, true_or, true_and, gd_t, a1, s61_49]
      · rw [a3, v2, ea]
        constructor
        · rintro (⟨d, z1, z2⟩ | z)
          · exact ⟨d, ⟨z1.1, by omega⟩, z2⟩
          · exact ⟨i, ⟨h1, by omega⟩, c, z.2⟩
        · rintro ⟨d, z1, z2, z3⟩
          by_cases e : d = i
          · rw [e] at z3; exact Or.inr ⟨⟨h1, h2⟩, z3⟩
          · exact Or.inl ⟨d, ⟨z1.1, by omega⟩, z2, z3⟩
    · refine ⟨J4, ?_, v1, fun x => ?_⟩
      · try dsimp only
        rw [s61_22 _ _ hk]
        simp (disch := first | assumption | omega) only [↓gd_t, ↓if_pos, ↓if_neg, Option.bind_some, true_or, true_and, gd_t, s61_49]
      · rw [v2]
        constructor
        · rintro ⟨d, z1, z2⟩
          exact ⟨d, ⟨z1.1, by omega⟩, z2⟩
        · rintro ⟨d, z1, z2, z3⟩
          by_cases e : d = i
          · rw [e] at z2; exact absurd z2 c
          · exact ⟨d, ⟨z1.1, by omega⟩, z2, z3⟩
  · intro J4 ⟨v1, v2⟩
    obtain ⟨J5, a1, a2, a3⟩ := c52 (L := L) (b := b) (I := I) (J := J4) (k := k) (m := 31) hk (by decide) hn
    refine ⟨J5, ?_, fun c hc hd => by rw [a2 c hc, v1 c hd, p1 c hc, q2 c hc], fun t => ?_⟩
    · try dsimp only
      rw [s61_22 _ _ hk]
      simp (disch := first | assumption | omega) only [↓gd_t, ↓if_pos, ↓if_neg, Option.bind_some, true_or, true_and, gd_t, a1, s61_63]
    · rw [a3, sb_cg (v1 k hn), p2, v2, ab_cg (q2 28 r28) (q2 29 r29)]
      exact ⟨fun h => ⟨by rcases h.1 with z | z; exact absurd z (q3 t); exact z, h.2⟩, fun h => ⟨Or.inr h.1, h.2⟩⟩
end
