/-! a merge: its places, spans and conflicts, by the lines of o (the last one: behind them all) -/
/-- of each side (0 o, 1 a, 2 b): how many lines, the lines, the mates of o's lines -/
abbrev MS : Type := (Int → Int) × (Int → Int → Int) × (Int → Int → Int)
def mA (S : MS) (i : Int) : Prop := i < S.1 0 ∧ 0 ≤ S.2.2 1 i ∧ 0 ≤ S.2.2 2 i
def mP (S : MS) (i : Int) : Prop := mA S i ∨ i = S.1 0
noncomputable def mF (S : MS) (d : Int) : Nat → Int
  | 0 => 0
  | i + 1 => if bI (mA S i) = 1 then S.2.2 d i + 1 else mF S d i
def mT (S : MS) (d i : Int) : Int := if i = S.1 0 then S.1 d else S.2.2 d i
noncomputable def mL (S : MS) (d i : Int) : Int := mT S d i - mF S d i.toNat
def mEq (S : MS) (d e i : Int) : Prop := mL S d i = mL S e i ∧ ∀ x, 0 ≤ x → x < mL S d i → S.2.1 d (mF S d i.toNat + x) = S.2.1 e (mF S e i.toNat + x)
/-- 2: b's span comes, 1: a's, -1: a conflict -/
noncomputable def mK (S : MS) (i : Int) : Int := if bI (mEq S 1 0 i) = 1 then 2 else if bI (mEq S 2 0 i ∨ mEq S 1 2 i) = 1 then 1 else -1
def mC (S : MS) (i : Int) : Prop := mP S i ∧ mK S i = -1
def mN (S : MS) : Nat := (S.1 0 + 1).toNat
/-- how many pieces a place is; those ahead of it -/
noncomputable def mQ (S : MS) (i : Int) : Int := if mK S i = -1 then 1 else mL S (mK S i) i
noncomputable def mO (S : MS) : Nat → Int
  | 0 => 0
  | i + 1 => if bI (mA S i) = 1 then mO S i + mQ S i + 1 else mO S i
def MV (S : MS) : Prop := (∀ d, 0 ≤ d → d ≤ 2 → 0 ≤ S.1 d ∧ S.1 d ≤ 24) ∧ (∀ i, S.2.2 0 i = i) ∧ (∀ d i, 0 ≤ d → d ≤ 2 → 0 ≤ i → mA S i → S.2.2 d i < S.1 d) ∧ ∀ d i j, 0 ≤ d → d ≤ 2 → 0 ≤ i → i < j → mA S i → mA S j → S.2.2 d i < S.2.2 d j
/-- a merge in the class's cells -/
def BlC (I : AI) (x : Nat) (S : MS) (st : Int → Int) : Prop := (RwC I (x + 1) (S.1 0) (S.2.1 0) ∧ RwC I (x + 3) (S.1 1) (S.2.1 1) ∧ RwC I (x + 5) (S.1 2) (S.2.1 2)) ∧ I x 8 = ct (mP S) (mN S) ∧ I x 9 = ct (mC S) (mN S) ∧ ∀ i, 0 ≤ i → i ≤ S.1 0 → mP S i → (∀ d, 0 ≤ d → d ≤ 2 → I (x + 7) (ct (mP S) i.toNat * 6 + d * 2) = mF S d i.toNat ∧ I (x + 7) (ct (mP S) i.toNat * 6 + d * 2 + 1) = mT S d i) ∧ (I (x + 8) (ct (mP S) i.toNat) = if mK S i = -1 then st (ct (mC S) i.toNat) else mK S i) ∧ (mK S i = -1 → I (x + 9) (ct (mC S) i.toNat) = ct (mP S) i.toNat)
/-- a merge in the reference's cells: lines and conflicts of pieces, their number, spans and sizes, conflicts -/
def PcR (pl pq : Int → Int) (np : Int) (sp sz : Int → Int) (nc : Int) (S : MS) : Prop := nc = ct (mC S) (mN S) ∧ np = mO S (S.1 0).toNat + mQ S (S.1 0) ∧ ∀ i, 0 ≤ i → i ≤ S.1 0 → mP S i → (mK S i = -1 → pq (mO S i.toNat) = ct (mC S) i.toNat ∧ ∀ d, 0 ≤ d → d ≤ 2 → sz (4 * ct (mC S) i.toNat + d) = mL S d i ∧ ∀ x, 0 ≤ x → x < mL S d i → sp (24 * (4 * ct (mC S) i.toNat + d) + x) = S.2.1 d (mF S d i.toNat + x)) ∧ (mK S i ≠ -1 → ∀ x, 0 ≤ x → x < mL S (mK S i) i → pq (mO S i.toNat + x) = -1 ∧ pl (mO S i.toNat + x) = S.2.1 (mK S i) (mF S (mK S i) i.toNat + x)) ∧ (i < S.1 0 → pq (mO S i.toNat + mQ S i) = -1 ∧ pl (mO S i.toNat + mQ S i) = S.2.1 0 i)
/-! all that the class and the reference hold -/
def RD (I G : AI) : Prop := I 3 1 = G 115 7 ∧ (0 ≤ G 115 7 ∧ G 115 7 ≤ 24) ∧ ∀ i, 0 ≤ i → i < G 115 7 → I 4 i = G 121 i
def RB (I G : AI) : Prop := ∀ j, 0 ≤ j → j < 16 → I 5 j = G 124 j ∧ (-1 ≤ G 124 j ∧ G 124 j < G 115 5)
def RF (I G : AI) : Prop := I 32 3 = G 115 30 ∧ (0 ≤ G 115 30 ∧ G 115 30 ≤ 24) ∧ ∀ k, 0 ≤ k → k < G 115 30 → I 33 k = G 138 k ∧ I 34 k = G 139 k
def RM (I G : AI) : Prop := (G 115 39 = 0 ∧ I 35 8 = 0 ∧ I 35 9 = 0 ∧ G 115 45 = 0) ∨ (G 115 39 = 1 ∧ ∃ S, MV S ∧ BlC I 35 S (G 150) ∧ PcR (G 146) (G 147) (G 115 42) (G 148) (G 149) (G 115 45) S ∧ ∀ c, 0 ≤ c → c < ct (mC S) (mN S) → -1 ≤ G 150 c ∧ G 150 c ≤ 4)
def RJ (I G : AI) : Prop := I 51 8 = G 115 52 ∧ (G 115 52 = 0 ∨ (G 115 52 = 1 ∧ (I 51 9 = G 115 54 ∧ I 51 10 = G 115 55 ∧ I 51 11 = G 115 56) ∧ ((0 ≤ G 115 55 ∧ G 115 55 < G 115 16) ∧ 0 ≤ G 115 56 ∧ G 115 56 < G 115 16) ∧ ∀ j, 0 ≤ j → j < 16 → I 55 j = G 155 j ∧ (G 155 j = -3 ∨ (-1 ≤ G 155 j ∧ G 155 j < G 115 5))))
def Rel (I : AI) (J : AJ) (G : AI) : Prop := RT I G ∧ RC I G ∧ RU I G ∧ RD I G ∧ RB I G ∧ RS I G ∧ RP I J G ∧ RH I G ∧ RF I G ∧ RM I G ∧ RJ I G
theorem RU.cg {I G I' G' : AI} (h : RU I G) (hs : I' 11 = I 11) (hg : ∀ c ∈ [116, 117, 119, 120], G' c = G c) (h5 : G' 115 5 = G 115 5) : RU I' G' := by
  unfold RU at *
  rw [hs, lcs_cg (hg 116 (by decide)) (hg 117 (by decide)), hg 117 (by decide), hg 119 (by decide), hg 120 (by decide), h5]
  exact h
theorem RD.cg {I G I' G' : AI} (h : RD I G) (hs : ∀ c ∈ [3, 4], I' c = I c) (hg : G' 121 = G 121) (h7 : G' 115 7 = G 115 7) : RD I' G' := by
  unfold RD at *
  rw [hs 3 (by decide), hs 4 (by decide), hg, h7]; exact h
theorem RB.cg {I G I' G' : AI} (h : RB I G) (hs : I' 5 = I 5) (hg : G' 124 = G 124) (h5 : G' 115 5 = G 115 5) : RB I' G' := by
  unfold RB at *
  rw [hs, hg, h5]; exact h
theorem RF.cg {I G I' G' : AI} (h : RF I G) (hs : ∀ c ∈ [32, 33, 34], I' c = I c) (hg : ∀ c ∈ [138, 139], G' c = G c) (h30 : G' 115 30 = G 115 30) : RF I' G' := by
  unfold RF at *
  rw [hs 32 (by decide), hs 33 (by decide), hs 34 (by decide), hg 138 (by decide), hg 139 (by decide), h30]; exact h
theorem RM.cg {I G I' G' : AI} (h : RM I G) (hs : ∀ c ∈ [35, 36, 37, 38, 39, 40, 41, 42, 43, 44], I' c = I c) (hg : ∀ c ∈ [146, 147, 148, 149, 150], G' c = G c) (hf : ∀ j ∈ [(39 : Int), 42, 45], G' 115 j = G 115 j) : RM I' G' := by
  unfold RM BlC RwC at *
  rw [hs 35 (by decide), hs (35 + 1) (by decide), hs (35 + 1 + 1) (by decide), hs (35 + 3) (by decide), hs (35 + 3 + 1) (by decide), hs (35 + 5) (by decide), hs (35 + 5 + 1) (by decide), hs (35 + 7) (by decide), hs (35 + 8) (by decide), hs (35 + 9) (by decide), hg 146 (by decide), hg 147 (by decide), hg 148 (by decide), hg 149 (by decide), hg 150 (by decide), hf 39 (by decide), hf 42 (by decide), hf 45 (by decide)]
  exact h
theorem RJ.cg {I G I' G' : AI} (h : RJ I G) (hs : ∀ c ∈ [51, 55], I' c = I c) (hg : G' 155 = G 155) (hf : ∀ j ∈ [(5 : Int), 16, 52, 54, 55, 56], G' 115 j = G 115 j) : RJ I' G' := by
  unfold RJ at *
  rw [hs 51 (by decide), hs 55 (by decide), hg, hf 5 (by decide), hf 16 (by decide), hf 52 (by decide), hf 54 (by decide), hf 55 (by decide), hf 56 (by decide)]
  exact h
/-- the cells that count -/
def clC : List Nat := [3, 4, 5, 6, 7, 8, 9, 10, 11, 161, 20, 21, 22, 23, 24, 25, 26, 27, 30, 32, 33, 34, 35, 36, 37, 38, 39, 40, 41, 42, 43, 44, 51, 55]
def clR : List Nat := [116, 117, 118, 119, 120, 121, 122, 123, 124, 125, 126, 127, 128, 129, 138, 139, 146, 147, 148, 149, 150, 155]
def clF : List Int := [5, 7, 10, 16, 30, 39, 42, 45, 52, 54, 55, 56]
theorem Rel.cg {I G I' G' : AI} {J J' : AJ} (h : Rel I J G) (hs : ∀ c ∈ clC, I' c = I c) (hj : ∀ c ∈ [28, 29], J' c = J c) (hg : ∀ c ∈ clR, G' c = G c) (hf : ∀ j ∈ clF, G' 115 j = G 115 j) : Rel I' J' G' := by
  obtain ⟨h1, h2, h3, h4, h5, h6, h7, h8, h9, h10, h11⟩ := h
  exact ⟨h1.cg (fun c z => hs c (by revert c; decide)) (fun c z => hg c (by revert c; decide)) (hf 5 (by decide)),
    h2.cg (hs 161 (by decide)) (fun c z => hg c (by revert c; decide)) (hf 5 (by decide)),
    h3.cg (hs 11 (by decide)) (fun c z => hg c (by revert c; decide)) (hf 5 (by decide)),
    h4.cg (fun c z => hs c (by revert c; decide)) (hg 121 (by decide)) (hf 7 (by decide)),
    h5.cg (hs 5 (by decide)) (hg 124 (by decide)) (hf 5 (by decide)),
    h6.cg (fun c z => hs c (by revert c; decide)) (fun c z => hg c (by revert c; decide)) (hf 5 (by decide)) (hf 10 (by decide)),
    h7.cg (fun c z => hs c (by revert c; decide)) hj (fun c z => hg c (by revert c; decide)) (hf 10 (by decide)) (hf 16 (by decide)),
    h8.cg (hs 30 (by decide)) (fun c z => hg c (by revert c; decide)) (hf 16 (by decide)),
    h9.cg (fun c z => hs c (by revert c; decide)) (fun c z => hg c (by revert c; decide)) (hf 30 (by decide)),
    h10.cg (fun c z => hs c (by revert c; decide)) (fun c z => hg c (by revert c; decide)) (fun j z => hf j (by revert j; decide)),
    h11.cg (fun c z => hs c (by revert c; decide)) (hg 155 (by decide)) (fun j z => hf j (by revert j; decide))⟩
/-- one call on both sides -/
def Op (M M' : Nat) (as : List AV) : Prop := ∀ (L : Nat) (b : Bool) (I : AI) (J : AJ), Rel I J I → ∃ (v : Int) (b' : Bool) (I1 : AI) (J1 : AJ) (I2 : AI), evc M (vr 1 :: as) (hp L b I J) = some (vi v, hp L b' I1 J1) ∧ evc M' (vr 115 :: as) (hp L b' I1 J1) = some (vi v, hp L b' I2 J1) ∧ Rel I2 J1 I2 ∧ I2 0 = I 0
