/-! the heap as the constructors make it -/
def hq (L n : Nat) (I : AI) (J : AJ) (R : AR) : Hp := ((0, L) :: sh_t.take n, I, J, R)
theorem sh_len : sh_t.length = 160 := by decide +kernel
section
variable {L n a M pc : Nat} {I : AI} {J : AJ} {R : AR} {l : LO} {st r : List AV} {ks tl an : List Nat} {val : Int}
theorem q_new {q : Nat × Nat} (h : sh_t[n]? = some q) : ((0, L) :: sh_t.take n) ++ [q] = (0, L) :: sh_t.take (n + 1) := by
  rw [List.take_add_one, h]; rfl
theorem q_len (h : n ≤ 160) : ((0, L) :: sh_t.take n).length = n + 1 := by
  have := sh_len
  rw [List.length_cons, List.length_take]; omega
theorem q_le {q : Nat × Nat} (h : sh_t[n]? = some q) : n ≤ 160 := by
  have := (List.getElem?_eq_some_iff.mp h).1
  have := sh_len
  omega
theorem q_at {q : Nat × Nat} (h : sh_t[a]? = some q) (ha : a < n) : ((0, L) :: sh_t.take n)[a + 1]? = some q := by
  rw [List.getElem?_cons_succ, List.getElem?_take, if_pos ha]; exact h
theorem Q_new {ix ci : Nat} (hf : a_code M pc = some (.new ix, ci :: tl, ks, val)) (hn : sh_t[n]? = some (10 + ci, (a_cls ci).1)) : ev M pc l st (hq L n I J R) = ev M (pc + 3) (a_kill ks l) (vr (n + 1) :: st) (hq L (n + 1) I J R) := by
  refine ev_go hf ?_
  show (if 0 < ((0, L) :: sh_t.take n).length then r_go (pc + 3) (a_kill ks l) (vr ((0, L) :: sh_t.take n).length :: st) (((0, L) :: sh_t.take n) ++ [(10 + ci, (a_cls ci).1)], I, J, R) else none) = _
  rw [q_new hn, q_len (q_le hn), if_pos (by omega)]
  rfl
theorem Q_arr {t : ArrayType} {x : Int} (hf : a_code M pc = some (.newarray t, an, ks, val)) (hx : 0 ≤ x ∧ x ≤ 10000 ∧ a_aty t < 4) (hn : sh_t[n]? = some (a_aty t, x.toNat)) : ev M pc l (vi x :: r) (hq L n I J R) = ev M (pc + 2) (a_kill ks l) (vr (n + 1) :: r) (hq L (n + 1) I J R) := by
  refine ev_go hf ?_
  show (if 0 ≤ x ∧ x ≤ 10000 ∧ a_aty t < 4 ∧ 0 < ((0, L) :: sh_t.take n).length then r_go (pc + 2) (a_kill ks l) (vr ((0, L) :: sh_t.take n).length :: r) (((0, L) :: sh_t.take n) ++ [(a_aty t, x.toNat)], I, J, R) else none) = _
  rw [q_new hn, q_len (q_le hn), if_pos ⟨hx.1, hx.2.1, hx.2.2, by omega⟩]
  rfl
theorem Q_anew {ix : Nat} {x : Int} (hf : a_code M pc = some (.anewarray ix, an, ks, val)) (hx : 0 ≤ x ∧ x ≤ 10000) (hn : sh_t[n]? = some (4, x.toNat)) : ev M pc l (vi x :: r) (hq L n I J R) = ev M (pc + 3) (a_kill ks l) (vr (n + 1) :: r) (hq L (n + 1) I J R) := by
  refine ev_go hf ?_
  show (if 0 ≤ x ∧ x ≤ 10000 ∧ 0 < ((0, L) :: sh_t.take n).length then r_go (pc + 3) (a_kill ks l) (vr ((0, L) :: sh_t.take n).length :: r) (((0, L) :: sh_t.take n) ++ [(4, x.toNat)], I, J, R) else none) = _
  rw [q_new hn, q_len (q_le hn), if_pos ⟨hx.1, hx.2, by omega⟩]
  rfl
theorem Q_puti {ix ci k N : Nat} {x : Int} (hf : a_code M pc = some (.putfield ix, ci :: k :: tl, ks, val)) (h1 : sh_t[a]? = some (10 + ci, N)) (ha : a < n) (h2 : N = (a_cls ci).1 ∧ k < N) (ht : a_fty ci k = 0) : ev M pc l (vi x :: vr (a + 1) :: r) (hq L n I J R) = ev M (pc + 3) (a_kill ks l) r (hq L n (upI I (a + 1) k x) J R) := by
  refine ev_put hf ?_
  unfold f_put
  rw [show (hq L n I J R).1[a + 1]? = some (10 + ci, N) from q_at h1 ha]
  dsimp only
  rw [if_pos ⟨rfl, h2.1, h2.2, by omega⟩, ht]
  rfl
theorem Q_putz {ix ci k N : Nat} {x : Int} (hf : a_code M pc = some (.putfield ix, ci :: k :: tl, ks, val)) (h1 : sh_t[a]? = some (10 + ci, N)) (ha : a < n) (h2 : N = (a_cls ci).1 ∧ k < N) (ht : a_fty ci k = 1) (hx : x = 0 ∨ x = 1) : ev M pc l (vi x :: vr (a + 1) :: r) (hq L n I J R) = ev M (pc + 3) (a_kill ks l) r (hq L n (upI I (a + 1) k x) J R) := by
  refine ev_put hf ?_
  unfold f_put
  rw [show (hq L n I J R).1[a + 1]? = some (10 + ci, N) from q_at h1 ha]
  dsimp only
  rw [if_pos ⟨rfl, h2.1, h2.2, by omega⟩, ht]
  exact if_pos hx
theorem Q_putl {ix ci k N : Nat} {x : BitVec 64} (hf : a_code M pc = some (.putfield ix, ci :: k :: tl, ks, val)) (h1 : sh_t[a]? = some (10 + ci, N)) (ha : a < n) (h2 : N = (a_cls ci).1 ∧ k < N) (ht : a_fty ci k = 3) : ev M pc l (vl x :: vr (a + 1) :: r) (hq L n I J R) = ev M (pc + 3) (a_kill ks l) r (hq L n I (upJ J (a + 1) k x) R) := by
  refine ev_put hf ?_
  unfold f_put
  rw [show (hq L n I J R).1[a + 1]? = some (10 + ci, N) from q_at h1 ha]
  dsimp only
  rw [if_pos ⟨rfl, h2.1, h2.2, by omega⟩, ht]
  rfl
theorem Q_putr {ix ci k N x : Nat} (hf : a_code M pc = some (.putfield ix, ci :: k :: tl, ks, val)) (h1 : sh_t[a]? = some (10 + ci, N)) (ha : a < n) (h2 : N = (a_cls ci).1 ∧ k < N) (ht : a_fty ci k = 4) : ev M pc l (vr x :: vr (a + 1) :: r) (hq L n I J R) = ev M (pc + 3) (a_kill ks l) r (hq L n I J (upR R (a + 1) k (some x))) := by
  refine ev_put hf ?_
  unfold f_put
  rw [show (hq L n I J R).1[a + 1]? = some (10 + ci, N) from q_at h1 ha]
  dsimp only
  rw [if_pos ⟨rfl, h2.1, h2.2, by omega⟩, ht]
  rfl
theorem Q_getr {ix ci k N c : Nat} (hf : a_code M pc = some (.getfield ix, ci :: k :: tl, ks, val)) (h1 : sh_t[a]? = some (10 + ci, N)) (ha : a < n) (h2 : N = (a_cls ci).1 ∧ k < N) (ht : a_fty ci k = 4) (hr : R (a + 1) k = some c) : ev M pc l (vr (a + 1) :: r) (hq L n I J R) = ev M (pc + 3) (a_kill ks l) (vr c :: r) (hq L n I J R) := by
  refine ev_get hf ?_
  unfold f_get
  rw [show (hq L n I J R).1[a + 1]? = some (10 + ci, N) from q_at h1 ha]
  dsimp only
  rw [if_pos ⟨rfl, h2.1, h2.2, by omega⟩, ht]
  show some (vq (R (a + 1) k)) = _
  rw [hr]
theorem Q_alen {t N : Nat} (hf : a_code M pc = some (.arraylength, an, ks, val)) (h1 : sh_t[a]? = some (t, N)) (ha : a < n) (ht : t < 5 ∧ N ≤ 100000) : ev M pc l (vr (a + 1) :: r) (hq L n I J R) = ev M (pc + 1) (a_kill ks l) (vi (N : Int) :: r) (hq L n I J R) := ev_alen hf (show (hq L n I J R).1[a + 1]? = some (t, N) from q_at h1 ha) ht
theorem Q_iast {N : Nat} {i x : Int} (hf : a_code M pc = some (.iastore, an, ks, val)) (h1 : sh_t[a]? = some (0, N)) (ha : a < n) (hi : 0 ≤ i ∧ i < (N : Int)) : ev M pc l (vi x :: vi i :: vr (a + 1) :: r) (hq L n I J R) = ev M (pc + 1) (a_kill ks l) r (hq L n (upI I (a + 1) i x) J R) := (ev_iast hf (show (hq L n I J R).1[a + 1]? = some (0, N) from q_at h1 ha) (by omega)).trans (gd_t hi)
theorem Q_aast {N w : Nat} {i : Int} (hf : a_code M pc = some (.aastore, an, ks, val)) (h1 : sh_t[a]? = some (4, N)) (ha : a < n) (h2 : sh_t[w]? = some (14, 2)) (hw : w < n) (hi : 0 ≤ i ∧ i < (N : Int)) : ev M pc l (vr (w + 1) :: vi i :: vr (a + 1) :: r) (hq L n I J R) = ev M (pc + 1) (a_kill ks l) r (hq L n I J (upR R (a + 1) i (some (w + 1)))) := by
  refine ev_go hf ?_
  show (match a_len (hq L n I J R) 4 (a + 1), (hq L n I J R).1[w + 1]? with | some n, some (t, n2) => _ | _, _ => none) = _
  unfold a_len
  rw [show (hq L n I J R).1[a + 1]? = some (4, N) from q_at h1 ha, show (hq L n I J R).1[w + 1]? = some (14, 2) from q_at h2 hw]
  dsimp only
  rw [if_pos rfl]
  dsimp only
  rw [if_pos ⟨rfl, rfl, by omega, by omega, hi.1, hi.2⟩]
  rfl
theorem Q_rcv {ci N : Nat} {t : List AV} (h1 : sh_t[a]? = some (10 + ci, N)) (h2 : N = (a_cls ci).1) (ha : a < n) : a_recv (hq L n I J R) ci (vr (a + 1) :: t) = true := by
  show (decide (((0, L) :: sh_t.take n)[a + 1]? = some (10 + ci, (a_cls ci).1)) && decide (0 < a + 1)) = true
  rw [q_at h1 ha, ← h2]
  simp
theorem Q_call {ix M2 : Nat} {st' as : List AV} {h h' : Hp} {v : AV} (hf : a_code M pc = some (.invokespecial ix, M2 :: tl, ks, val)) (h9 : M2 ≠ 999) (hr : a_recv h ((a_mi M2).2.2 - 1) (st.take (a_mi M2).1).reverse = true) (hi : a_inv M2 (a_mi M2).1 (a_mi M2).2.1 (pc + 3) (a_kill ks l) st h = r_call M2 as true (pc + 3) (a_kill ks l) st' h) (hc : evc M2 as h = some (v, h')) : ev M pc l st h = ev M (pc + 3) (a_kill ks l) st' h' := by
  refine (ev_call (M2 := M2) (as := as) (vd := true) (pc' := pc + 3) (l' := a_kill ks l) (st' := st') hf ?_).trans ?_
  · show (if M2 = 999 then _ else if a_recv h ((a_mi M2).2.2 - 1) (st.take (a_mi M2).1).reverse = true then a_inv M2 (a_mi M2).1 (a_mi M2).2.1 (pc + 3) (a_kill ks l) st h else none) = _
    rw [if_neg h9, if_pos hr]; exact hi
  · rw [hc]; rfl
end
def rq_0 : AR := fun _ _ => none
def rq_1 : AR := upR rq_0 3 0 (some 4)
def rq_2 : AR := upR rq_1 1 0 (some 3)
def rq_3 : AR := upR rq_2 1 1 (some 5)
def rq_4 : AR := upR rq_3 6 0 (some 7)
def rq_5 : AR := upR rq_4 6 1 (some 8)
def rq_6 : AR := upR rq_5 6 2 (some 9)
def rq_7 : AR := upR rq_6 6 3 (some 10)
def rq_8 : AR := upR rq_7 6 4 (some 11)
def rq_9 : AR := upR rq_8 6 5 (some 12)
def rq_10 : AR := upR rq_9 13 0 (some 14)
def rq_11 : AR := upR rq_10 6 6 (some 13)
def rq_12 : AR := upR rq_11 15 0 (some 16)
def rq_13 : AR := upR rq_12 6 7 (some 15)
def rq_14 : AR := upR rq_13 17 1 (some 18)
def rq_15 : AR := upR rq_14 17 2 (some 19)
def rq_16 : AR := upR rq_15 17 0 (some 2)
def rq_17 : AR := upR rq_16 6 8 (some 17)
def rq_18 : AR := upR rq_17 1 2 (some 6)
def rq_19 : AR := upR rq_18 20 0 (some 21)
def rq_20 : AR := upR rq_19 20 1 (some 22)
def rq_21 : AR := upR rq_20 1 3 (some 20)
def rq_22 : AR := upR rq_21 23 0 (some 24)
def rq_23 : AR := upR rq_22 23 1 (some 25)
def rq_24 : AR := upR rq_23 23 2 (some 26)
def rq_25 : AR := upR rq_24 23 3 (some 27)
def rq_26 : AR := upR rq_25 23 4 (some 28)
def rq_27 : AR := upR rq_26 23 5 (some 29)
def rq_28 : AR := upR rq_27 23 6 (some 30)
def rq_29 : AR := upR rq_28 23 7 (some 31)
def rq_30 : AR := upR rq_29 1 4 (some 23)
def rq_31 : AR := upR rq_30 32 1 (some 33)
def rq_32 : AR := upR rq_31 32 2 (some 34)
def rq_33 : AR := upR rq_32 32 0 (some 2)
def rq_34 : AR := upR rq_33 1 5 (some 32)
def rq_35 : AR := upR rq_34 36 0 (some 37)
def rq_36 : AR := upR rq_35 35 0 (some 36)
def rq_37 : AR := upR rq_36 38 0 (some 39)
def rq_38 : AR := upR rq_37 35 1 (some 38)
def rq_39 : AR := upR rq_38 40 0 (some 41)
def rq_40 : AR := upR rq_39 35 2 (some 40)
def rq_41 : AR := upR rq_40 35 5 (some 42)
def rq_42 : AR := upR rq_41 35 6 (some 43)
def rq_43 : AR := upR rq_42 35 7 (some 44)
def rq_44 : AR := upR rq_43 45 1 (some 46)
def rq_45 : AR := upR rq_44 45 2 (some 47)
def rq_46 : AR := upR rq_45 45 0 (some 2)
def rq_47 : AR := upR rq_46 35 3 (some 45)
def rq_48 : AR := upR rq_47 48 1 (some 49)
def rq_49 : AR := upR rq_48 48 2 (some 50)
def rq_50 : AR := upR rq_49 48 0 (some 2)
def rq_51 : AR := upR rq_50 35 4 (some 48)
def rq_52 : AR := upR rq_51 1 6 (some 35)
def rq_53 : AR := upR rq_52 51 4 (some 52)
def rq_54 : AR := upR rq_53 51 5 (some 53)
def rq_55 : AR := upR rq_54 51 6 (some 54)
def rq_56 : AR := upR rq_55 51 7 (some 55)
def rq_57 : AR := upR rq_56 51 0 (some 6)
def rq_58 : AR := upR rq_57 51 1 (some 20)
def rq_59 : AR := upR rq_58 51 2 (some 23)
def rq_60 : AR := upR rq_59 57 0 (some 58)
def rq_61 : AR := upR rq_60 56 0 (some 57)
def rq_62 : AR := upR rq_61 59 0 (some 60)
def rq_63 : AR := upR rq_62 56 1 (some 59)
def rq_64 : AR := upR rq_63 61 0 (some 62)
def rq_65 : AR := upR rq_64 56 2 (some 61)
def rq_66 : AR := upR rq_65 56 5 (some 63)
def rq_67 : AR := upR rq_66 56 6 (some 64)
def rq_68 : AR := upR rq_67 56 7 (some 65)
def rq_69 : AR := upR rq_68 66 1 (some 67)
def rq_70 : AR := upR rq_69 66 2 (some 68)
def rq_71 : AR := upR rq_70 66 0 (some 2)
def rq_72 : AR := upR rq_71 56 3 (some 66)
def rq_73 : AR := upR rq_72 69 1 (some 70)
def rq_74 : AR := upR rq_73 69 2 (some 71)
def rq_75 : AR := upR rq_74 69 0 (some 2)
def rq_76 : AR := upR rq_75 56 4 (some 69)
def rq_77 : AR := upR rq_76 51 3 (some 56)
def rq_78 : AR := upR rq_77 72 0 (some 73)
def rq_79 : AR := upR rq_78 54 0 (some 72)
def rq_80 : AR := upR rq_79 74 0 (some 75)
def rq_81 : AR := upR rq_80 54 1 (some 74)
def rq_82 : AR := upR rq_81 76 0 (some 77)
def rq_83 : AR := upR rq_82 54 2 (some 76)
def rq_84 : AR := upR rq_83 78 0 (some 79)
def rq_85 : AR := upR rq_84 54 3 (some 78)
def rq_86 : AR := upR rq_85 80 0 (some 81)
def rq_87 : AR := upR rq_86 54 4 (some 80)
def rq_88 : AR := upR rq_87 82 0 (some 83)
def rq_89 : AR := upR rq_88 54 5 (some 82)
def rq_90 : AR := upR rq_89 84 0 (some 85)
def rq_91 : AR := upR rq_90 54 6 (some 84)
def rq_92 : AR := upR rq_91 86 0 (some 87)
def rq_93 : AR := upR rq_92 54 7 (some 86)
def rq_94 : AR := upR rq_93 88 0 (some 89)
def rq_95 : AR := upR rq_94 54 8 (some 88)
def rq_96 : AR := upR rq_95 90 0 (some 91)
def rq_97 : AR := upR rq_96 54 9 (some 90)
def rq_98 : AR := upR rq_97 92 0 (some 93)
def rq_99 : AR := upR rq_98 54 10 (some 92)
def rq_100 : AR := upR rq_99 94 0 (some 95)
def rq_101 : AR := upR rq_100 54 11 (some 94)
def rq_102 : AR := upR rq_101 96 0 (some 97)
def rq_103 : AR := upR rq_102 54 12 (some 96)
def rq_104 : AR := upR rq_103 98 0 (some 99)
def rq_105 : AR := upR rq_104 54 13 (some 98)
def rq_106 : AR := upR rq_105 100 0 (some 101)
def rq_107 : AR := upR rq_106 54 14 (some 100)
def rq_108 : AR := upR rq_107 102 0 (some 103)
def rq_109 : AR := upR rq_108 54 15 (some 102)
def rq_110 : AR := upR rq_109 1 7 (some 51)
def rq_111 : AR := upR rq_110 104 4 (some 105)
def rq_112 : AR := upR rq_111 104 5 (some 106)
def rq_113 : AR := upR rq_112 104 0 (some 6)
def rq_114 : AR := upR rq_113 104 1 (some 20)
def rq_115 : AR := upR rq_114 104 2 (some 23)
def rq_116 : AR := upR rq_115 107 1 (some 108)
def rq_117 : AR := upR rq_116 107 2 (some 109)
def rq_118 : AR := upR rq_117 107 0 (some 2)
def rq_119 : AR := upR rq_118 104 3 (some 107)
def rq_120 : AR := upR rq_119 1 8 (some 104)
def rq_121 : AR := upR rq_120 110 3 (some 111)
def rq_122 : AR := upR rq_121 110 4 (some 112)
def rq_123 : AR := upR rq_122 110 5 (some 113)
def rq_124 : AR := upR rq_123 110 0 (some 6)
def rq_125 : AR := upR rq_124 110 1 (some 20)
def rq_126 : AR := upR rq_125 110 2 (some 23)
def rq_127 : AR := upR rq_126 1 9 (some 110)
def rq_128 : AR := upR rq_127 1 10 (some 114)
def rq_129 : AR := upR rq_128 115 0 (some 116)
def rq_130 : AR := upR rq_129 115 1 (some 117)
def rq_131 : AR := upR rq_130 115 2 (some 118)
def rq_132 : AR := upR rq_131 115 3 (some 119)
def rq_133 : AR := upR rq_132 115 4 (some 120)
def rq_134 : AR := upR rq_133 115 6 (some 121)
def rq_135 : AR := upR rq_134 115 8 (some 122)
def rq_136 : AR := upR rq_135 115 9 (some 123)
def rq_137 : AR := upR rq_136 115 11 (some 124)
def rq_138 : AR := upR rq_137 115 12 (some 125)
def rq_139 : AR := upR rq_138 115 13 (some 126)
def rq_140 : AR := upR rq_139 115 14 (some 127)
def rq_141 : AR := upR rq_140 115 15 (some 128)
def rq_142 : AR := upR rq_141 115 17 (some 129)
def rq_143 : AR := upR rq_142 115 18 (some 130)
def rq_144 : AR := upR rq_143 115 19 (some 131)
def rq_145 : AR := upR rq_144 115 20 (some 132)
def rq_146 : AR := upR rq_145 115 21 (some 133)
def rq_147 : AR := upR rq_146 115 22 (some 134)
def rq_148 : AR := upR rq_147 115 24 (some 135)
def rq_149 : AR := upR rq_148 115 25 (some 136)
def rq_150 : AR := upR rq_149 115 26 (some 137)
def rq_151 : AR := upR rq_150 115 28 (some 138)
def rq_152 : AR := upR rq_151 115 29 (some 139)
def rq_153 : AR := upR rq_152 115 31 (some 140)
def rq_154 : AR := upR rq_153 115 32 (some 141)
def rq_155 : AR := upR rq_154 115 33 (some 142)
def rq_156 : AR := upR rq_155 115 34 (some 143)
def rq_157 : AR := upR rq_156 115 36 (some 144)
def rq_158 : AR := upR rq_157 115 37 (some 145)
def rq_159 : AR := upR rq_158 115 40 (some 146)
def rq_160 : AR := upR rq_159 115 41 (some 147)
def rq_161 : AR := upR rq_160 115 43 (some 148)
def rq_162 : AR := upR rq_161 115 44 (some 149)
def rq_163 : AR := upR rq_162 115 46 (some 150)
def rq_164 : AR := upR rq_163 115 47 (some 151)
def rq_165 : AR := upR rq_164 115 49 (some 152)
def rq_166 : AR := upR rq_165 115 50 (some 153)
def rq_167 : AR := upR rq_166 115 51 (some 154)
def rq_168 : AR := upR rq_167 115 53 (some 155)
def rq_169 : AR := upR rq_168 115 57 (some 156)
def rq_170 : AR := upR rq_169 115 58 (some 157)
def rq_171 : AR := upR rq_170 115 59 (some 158)
def rq_172 : AR := upR rq_171 115 60 (some 159)
def rq_173 : AR := upR rq_172 115 61 (some 160)
def jq_0 : AJ := fun _ _ => 0
def jq_1 : AJ := upJ jq_0 31 0 0
def jq_2 : AJ := upJ jq_1 31 1 0
def jq_3 : AJ := upJ jq_2 52 0 0
def jq_4 : AJ := upJ jq_3 52 1 0
def jq_5 : AJ := upJ jq_4 111 0 0
def jq_6 : AJ := upJ jq_5 111 1 0
def jq_7 : AJ := upJ jq_6 114 0 0
def jq_8 : AJ := upJ jq_7 114 1 0
def iq_0 (f : Int → Int) : AI := fun k j => if k = 0 then f j else 0
def iq_1 (f : Int → Int) : AI := upI (iq_0 f) 3 1 0
def iq_2 (f : Int → Int) : AI := upI (iq_1 f) 5 0 (-1)
def iq_3 (f : Int → Int) : AI := upI (iq_2 f) 5 1 (-1)
def iq_4 (f : Int → Int) : AI := upI (iq_3 f) 5 2 (-1)
def iq_5 (f : Int → Int) : AI := upI (iq_4 f) 5 3 (-1)
def iq_6 (f : Int → Int) : AI := upI (iq_5 f) 5 4 (-1)
def iq_7 (f : Int → Int) : AI := upI (iq_6 f) 5 5 (-1)
def iq_8 (f : Int → Int) : AI := upI (iq_7 f) 5 6 (-1)
def iq_9 (f : Int → Int) : AI := upI (iq_8 f) 5 7 (-1)
def iq_10 (f : Int → Int) : AI := upI (iq_9 f) 5 8 (-1)
def iq_11 (f : Int → Int) : AI := upI (iq_10 f) 5 9 (-1)
def iq_12 (f : Int → Int) : AI := upI (iq_11 f) 5 10 (-1)
def iq_13 (f : Int → Int) : AI := upI (iq_12 f) 5 11 (-1)
def iq_14 (f : Int → Int) : AI := upI (iq_13 f) 5 12 (-1)
def iq_15 (f : Int → Int) : AI := upI (iq_14 f) 5 13 (-1)
def iq_16 (f : Int → Int) : AI := upI (iq_15 f) 5 14 (-1)
def iq_17 (f : Int → Int) : AI := upI (iq_16 f) 5 15 (-1)
def iq_18 (f : Int → Int) : AI := upI (iq_17 f) 13 1 0
def iq_19 (f : Int → Int) : AI := upI (iq_18 f) 15 1 0
def iq_20 (f : Int → Int) : AI := upI (iq_19 f) 6 9 0
def iq_21 (f : Int → Int) : AI := upI (iq_20 f) 17 3 0
def iq_22 (f : Int → Int) : AI := upI (iq_21 f) 20 2 0
def iq_23 (f : Int → Int) : AI := upI (iq_22 f) 23 8 0
def iq_24 (f : Int → Int) : AI := upI (iq_23 f) 30 0 (-1)
def iq_25 (f : Int → Int) : AI := upI (iq_24 f) 30 1 (-1)
def iq_26 (f : Int → Int) : AI := upI (iq_25 f) 30 2 (-1)
def iq_27 (f : Int → Int) : AI := upI (iq_26 f) 30 3 (-1)
def iq_28 (f : Int → Int) : AI := upI (iq_27 f) 30 4 (-1)
def iq_29 (f : Int → Int) : AI := upI (iq_28 f) 30 5 (-1)
def iq_30 (f : Int → Int) : AI := upI (iq_29 f) 30 6 (-1)
def iq_31 (f : Int → Int) : AI := upI (iq_30 f) 30 7 (-1)
def iq_32 (f : Int → Int) : AI := upI (iq_31 f) 32 3 0
def iq_33 (f : Int → Int) : AI := upI (iq_32 f) 36 1 0
def iq_34 (f : Int → Int) : AI := upI (iq_33 f) 38 1 0
def iq_35 (f : Int → Int) : AI := upI (iq_34 f) 40 1 0
def iq_36 (f : Int → Int) : AI := upI (iq_35 f) 35 8 0
def iq_37 (f : Int → Int) : AI := upI (iq_36 f) 35 9 0
def iq_38 (f : Int → Int) : AI := upI (iq_37 f) 45 3 0
def iq_39 (f : Int → Int) : AI := upI (iq_38 f) 48 3 0
def iq_40 (f : Int → Int) : AI := upI (iq_39 f) 51 8 0
def iq_41 (f : Int → Int) : AI := upI (iq_40 f) 51 9 (-1)
def iq_42 (f : Int → Int) : AI := upI (iq_41 f) 51 10 (-1)
def iq_43 (f : Int → Int) : AI := upI (iq_42 f) 51 11 (-1)
def iq_44 (f : Int → Int) : AI := upI (iq_43 f) 57 1 0
def iq_45 (f : Int → Int) : AI := upI (iq_44 f) 59 1 0
def iq_46 (f : Int → Int) : AI := upI (iq_45 f) 61 1 0
def iq_47 (f : Int → Int) : AI := upI (iq_46 f) 56 8 0
def iq_48 (f : Int → Int) : AI := upI (iq_47 f) 56 9 0
def iq_49 (f : Int → Int) : AI := upI (iq_48 f) 66 3 0
def iq_50 (f : Int → Int) : AI := upI (iq_49 f) 69 3 0
def iq_51 (f : Int → Int) : AI := upI (iq_50 f) 72 1 0
def iq_52 (f : Int → Int) : AI := upI (iq_51 f) 74 1 0
def iq_53 (f : Int → Int) : AI := upI (iq_52 f) 76 1 0
def iq_54 (f : Int → Int) : AI := upI (iq_53 f) 78 1 0
def iq_55 (f : Int → Int) : AI := upI (iq_54 f) 80 1 0
def iq_56 (f : Int → Int) : AI := upI (iq_55 f) 82 1 0
def iq_57 (f : Int → Int) : AI := upI (iq_56 f) 84 1 0
def iq_58 (f : Int → Int) : AI := upI (iq_57 f) 86 1 0
def iq_59 (f : Int → Int) : AI := upI (iq_58 f) 88 1 0
def iq_60 (f : Int → Int) : AI := upI (iq_59 f) 90 1 0
def iq_61 (f : Int → Int) : AI := upI (iq_60 f) 92 1 0
def iq_62 (f : Int → Int) : AI := upI (iq_61 f) 94 1 0
def iq_63 (f : Int → Int) : AI := upI (iq_62 f) 96 1 0
def iq_64 (f : Int → Int) : AI := upI (iq_63 f) 98 1 0
def iq_65 (f : Int → Int) : AI := upI (iq_64 f) 100 1 0
def iq_66 (f : Int → Int) : AI := upI (iq_65 f) 102 1 0
def iq_67 (f : Int → Int) : AI := upI (iq_66 f) 107 3 0
def iq_68 (f : Int → Int) : AI := upI (iq_67 f) 124 0 (-1)
def iq_69 (f : Int → Int) : AI := upI (iq_68 f) 124 1 (-1)
def iq_70 (f : Int → Int) : AI := upI (iq_69 f) 124 2 (-1)
def iq_71 (f : Int → Int) : AI := upI (iq_70 f) 124 3 (-1)
def iq_72 (f : Int → Int) : AI := upI (iq_71 f) 124 4 (-1)
def iq_73 (f : Int → Int) : AI := upI (iq_72 f) 124 5 (-1)
def iq_74 (f : Int → Int) : AI := upI (iq_73 f) 124 6 (-1)
def iq_75 (f : Int → Int) : AI := upI (iq_74 f) 124 7 (-1)
def iq_76 (f : Int → Int) : AI := upI (iq_75 f) 124 8 (-1)
def iq_77 (f : Int → Int) : AI := upI (iq_76 f) 124 9 (-1)
def iq_78 (f : Int → Int) : AI := upI (iq_77 f) 124 10 (-1)
def iq_79 (f : Int → Int) : AI := upI (iq_78 f) 124 11 (-1)
def iq_80 (f : Int → Int) : AI := upI (iq_79 f) 124 12 (-1)
def iq_81 (f : Int → Int) : AI := upI (iq_80 f) 124 13 (-1)
def iq_82 (f : Int → Int) : AI := upI (iq_81 f) 124 14 (-1)
def iq_83 (f : Int → Int) : AI := upI (iq_82 f) 124 15 (-1)
def iq_84 (f : Int → Int) : AI := upI (iq_83 f) 129 0 (-1)
def iq_85 (f : Int → Int) : AI := upI (iq_84 f) 129 1 (-1)
def iq_86 (f : Int → Int) : AI := upI (iq_85 f) 129 2 (-1)
def iq_87 (f : Int → Int) : AI := upI (iq_86 f) 129 3 (-1)
def iq_88 (f : Int → Int) : AI := upI (iq_87 f) 129 4 (-1)
def iq_89 (f : Int → Int) : AI := upI (iq_88 f) 129 5 (-1)
def iq_90 (f : Int → Int) : AI := upI (iq_89 f) 129 6 (-1)
def iq_91 (f : Int → Int) : AI := upI (iq_90 f) 129 7 (-1)
