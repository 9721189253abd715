/-! the law's loop -/
section
variable {L : Nat} {b : Bool} {I : AI} {J : AJ} {x : Int}
set_option maxRecDepth 100000 in
theorem lw_head (hx : 0 ≤ x ∧ x ≤ L) (hL : L ≤ 2048) : ev 234 18 (LL x) [] (hp L b I J) = if (L : Int) - 4 < x then ev 234 1308 (LL x) [] (hp L b I J) else ev 234 26 (LL x) [] (hp L b I J) := by
  refine (ev_go rfl rfl : ev 234 18 (LL x) [] (hp L b I J) = ev 234 19 (LL x) [vi x] (hp L b I J)).trans ?_
  refine (ev_go rfl rfl : ev 234 19 (LL x) [vi x] (hp L b I J) = ev 234 20 (LL x) [vr 0, vi x] (hp L b I J)).trans ?_
  refine (ev_alen (M := 234) (pc := 20) (l := LL x) (ks := []) (a := 0) (t := 0) (n := L) rfl (show (hk L b)[0]? = some (0, L) from rfl) (by omega) : ev 234 20 (LL x) [vr 0, vi x] (hp L b I J) = ev 234 21 (LL x) [vi (L : Int), vi x] (hp L b I J)).trans ?_
  refine (ev_go rfl rfl : ev 234 21 (LL x) [vi (L : Int), vi x] (hp L b I J) = ev 234 22 (LL x) [vi 4, vi (L : Int), vi x] (hp L b I J)).trans ?_
  refine (ev_gd rfl rfl : ev 234 22 (LL x) [vi 4, vi (L : Int), vi x] (hp L b I J) = gd (-2147483648 ≤ (L : Int) - 4 ∧ (L : Int) - 4 ≤ 2147483647) (ev 234 23 (LL x) [vi ((L : Int) - 4), vi x] (hp L b I J))).trans ?_
  rw [gd_t (by omega)]
  exact (ev_if rfl rfl : ev 234 23 (LL x) [vi ((L : Int) - 4), vi x] (hp L b I J) = if (L : Int) - 4 < x then ev 234 1308 (LL x) [] (hp L b I J) else ev 234 26 (LL x) [] (hp L b I J))
set_option maxRecDepth 100000 in
theorem lw_sw (hx : 0 ≤ x ∧ x < L) : ev 234 26 (LL x) [] (hp L b I J) = ev 234 32 (LL x) [vi (I 0 x % 64)] (hp L b I J) := by
  refine (ev_go rfl rfl : ev 234 26 (LL x) [] (hp L b I J) = ev 234 27 (LL x) [vr 0] (hp L b I J)).trans ?_
  refine (ev_go rfl rfl : ev 234 27 (LL x) [vr 0] (hp L b I J) = ev 234 28 (LL x) [vi x, vr 0] (hp L b I J)).trans ?_
  refine (ev_iald (M := 234) (pc := 28) (l := LL x) (ks := []) (a := 0) (n := L) (i := x) rfl (show (hk L b)[0]? = some (0, L) from rfl) : ev 234 28 (LL x) [vi x, vr 0] (hp L b I J) = gd (0 ≤ x ∧ x < (L : Int)) (ev 234 29 (LL x) [vi (I 0 x)] (hp L b I J))).trans ?_
  rw [gd_t hx]
  refine (ev_go rfl rfl : ev 234 29 (LL x) [vi (I 0 x)] (hp L b I J) = ev 234 31 (LL x) [vi 63, vi (I 0 x)] (hp L b I J)).trans ?_
  exact (ev_go rfl rfl : ev 234 31 (LL x) [vi 63, vi (I 0 x)] (hp L b I J) = ev 234 32 (LL x) [vi (I 0 x % 64)] (hp L b I J))
set_option maxRecDepth 100000 in
theorem lw_next (hx : 0 ≤ x ∧ x ≤ 5000) : ev 234 1302 (LL x) [] (hp L b I J) = ev 234 18 (LL (x + 4)) [] (hp L b I J) := by
  refine (ev_iinc (M := 234) (pc := 1302) (l := LL x) (i := 3) (n := 4) (x := x) (ks := []) rfl rfl rfl (by decide) : ev 234 1302 (LL x) [] (hp L b I J) = gd (-2147483648 ≤ x + 4 ∧ x + 4 ≤ 2147483647) (ev 234 1305 (LL (x + 4)) [] (hp L b I J))).trans ?_
  rw [gd_t (by omega)]
  exact (ev_go rfl rfl : ev 234 1305 (LL (x + 4)) [] (hp L b I J) = ev 234 18 (LL (x + 4)) [] (hp L b I J))
set_option maxRecDepth 100000 in
theorem lw_case (h : Rel I J I) (hx : 0 ≤ x ∧ x + 4 ≤ L) (hL : L ≤ 2048) : ∃ (b1 : Bool) (I1 : AI) (J1 : AJ), ev 234 32 (LL x) [vi (I 0 x % 64)] (hp L b I J) = ev 234 1302 (LL x) [] (hp L b1 I1 J1) ∧ Rel I1 J1 I1 ∧ I1 0 = I 0 := by
  have lo : 0 ≤ I 0 x % 64 := Int.emod_nonneg _ (by decide)
  generalize I 0 x % 64 = s at *
  by_cases k0 : s = 0
  · obtain ⟨b1, I1, J1, q1, q2, q3⟩ := lw_0 (b := b) h hx hL
    subst k0
    exact ⟨b1, I1, J1, (ev_go rfl rfl : ev 234 32 (LL x) [vi 0] (hp L b I J) = ev 234 216 (LL x) [] (hp L b I J)).trans q1, q2, q3⟩
  by_cases k1 : s = 1
  · obtain ⟨b1, I1, J1, q1, q2, q3⟩ := lw_1 (b := b) h hx hL
    subst k1
    exact ⟨b1, I1, J1, (ev_go rfl rfl : ev 234 32 (LL x) [vi 1] (hp L b I J) = ev 234 239 (LL x) [] (hp L b I J)).trans q1, q2, q3⟩
  by_cases k2 : s = 2
  · obtain ⟨b1, I1, J1, q1, q2, q3⟩ := lw_2 (b := b) h hx hL
    subst k2
    exact ⟨b1, I1, J1, (ev_go rfl rfl : ev 234 32 (LL x) [vi 2] (hp L b I J) = ev 234 252 (LL x) [] (hp L b I J)).trans q1, q2, q3⟩
  by_cases k3 : s = 3
  · obtain ⟨b1, I1, J1, q1, q2, q3⟩ := lw_3 (b := b) h hx hL
    subst k3
    exact ⟨b1, I1, J1, (ev_go rfl rfl : ev 234 32 (LL x) [vi 3] (hp L b I J) = ev 234 275 (LL x) [] (hp L b I J)).trans q1, q2, q3⟩
  by_cases k4 : s = 4
  · obtain ⟨b1, I1, J1, q1, q2, q3⟩ := lw_4 (b := b) h hx hL
    subst k4
    exact ⟨b1, I1, J1, (ev_go rfl rfl : ev 234 32 (LL x) [vi 4] (hp L b I J) = ev 234 288 (LL x) [] (hp L b I J)).trans q1, q2, q3⟩
  by_cases k5 : s = 5
  · obtain ⟨b1, I1, J1, q1, q2, q3⟩ := lw_5 (b := b) h hx hL
    subst k5
    exact ⟨b1, I1, J1, (ev_go rfl rfl : ev 234 32 (LL x) [vi 5] (hp L b I J) = ev 234 311 (LL x) [] (hp L b I J)).trans q1, q2, q3⟩
  by_cases k6 : s = 6
  · obtain ⟨b1, I1, J1, q1, q2, q3⟩ := lw_6 (b := b) h hx hL
    subst k6
    exact ⟨b1, I1, J1, (ev_go rfl rfl : ev 234 32 (LL x) [vi 6] (hp L b I J) = ev 234 344 (LL x) [] (hp L b I J)).trans q1, q2, q3⟩
  by_cases k7 : s = 7
  · obtain ⟨b1, I1, J1, q1, q2, q3⟩ := lw_7 (b := b) h hx hL
    subst k7
    exact ⟨b1, I1, J1, (ev_go rfl rfl : ev 234 32 (LL x) [vi 7] (hp L b I J) = ev 234 367 (LL x) [] (hp L b I J)).trans q1, q2, q3⟩
  by_cases k8 : s = 8
  · obtain ⟨b1, I1, J1, q1, q2, q3⟩ := lw_8 (b := b) h hx hL
    subst k8
    exact ⟨b1, I1, J1, (ev_go rfl rfl : ev 234 32 (LL x) [vi 8] (hp L b I J) = ev 234 390 (LL x) [] (hp L b I J)).trans q1, q2, q3⟩
  by_cases k9 : s = 9
  · obtain ⟨b1, I1, J1, q1, q2, q3⟩ := lw_9 (b := b) h hx hL
    subst k9
    exact ⟨b1, I1, J1, (ev_go rfl rfl : ev 234 32 (LL x) [vi 9] (hp L b I J) = ev 234 413 (LL x) [] (hp L b I J)).trans q1, q2, q3⟩
  by_cases k10 : s = 10
  · obtain ⟨b1, I1, J1, q1, q2, q3⟩ := lw_10 (b := b) h hx hL
    subst k10
    exact ⟨b1, I1, J1, (ev_go rfl rfl : ev 234 32 (LL x) [vi 10] (hp L b I J) = ev 234 446 (LL x) [] (hp L b I J)).trans q1, q2, q3⟩
  by_cases k11 : s = 11
  · obtain ⟨b1, I1, J1, q1, q2, q3⟩ := lw_11 (b := b) h hx hL
    subst k11
    exact ⟨b1, I1, J1, (ev_go rfl rfl : ev 234 32 (LL x) [vi 11] (hp L b I J) = ev 234 469 (LL x) [] (hp L b I J)).trans q1, q2, q3⟩
  by_cases k12 : s = 12
  · obtain ⟨b1, I1, J1, q1, q2, q3⟩ := lw_12 (b := b) h hx hL
    subst k12
    exact ⟨b1, I1, J1, (ev_go rfl rfl : ev 234 32 (LL x) [vi 12] (hp L b I J) = ev 234 492 (LL x) [] (hp L b I J)).trans q1, q2, q3⟩
  by_cases k13 : s = 13
  · obtain ⟨b1, I1, J1, q1, q2, q3⟩ := lw_13 (b := b) h hx hL
    subst k13
    exact ⟨b1, I1, J1, (ev_go rfl rfl : ev 234 32 (LL x) [vi 13] (hp L b I J) = ev 234 505 (LL x) [] (hp L b I J)).trans q1, q2, q3⟩
  by_cases k14 : s = 14
  · obtain ⟨b1, I1, J1, q1, q2, q3⟩ := lw_14 (b := b) h hx hL
    subst k14
    exact ⟨b1, I1, J1, (ev_go rfl rfl : ev 234 32 (LL x) [vi 14] (hp L b I J) = ev 234 538 (LL x) [] (hp L b I J)).trans q1, q2, q3⟩
  by_cases k15 : s = 15
  · obtain ⟨b1, I1, J1, q1, q2, q3⟩ := lw_15 (b := b) h hx hL
    subst k15
    exact ⟨b1, I1, J1, (ev_go rfl rfl : ev 234 32 (LL x) [vi 15] (hp L b I J) = ev 234 581 (LL x) [] (hp L b I J)).trans q1, q2, q3⟩
  by_cases k16 : s = 16
  · obtain ⟨b1, I1, J1, q1, q2, q3⟩ := lw_16 (b := b) h hx hL
    subst k16
    exact ⟨b1, I1, J1, (ev_go rfl rfl : ev 234 32 (LL x) [vi 16] (hp L b I J) = ev 234 614 (LL x) [] (hp L b I J)).trans q1, q2, q3⟩
  by_cases k17 : s = 17
  · obtain ⟨b1, I1, J1, q1, q2, q3⟩ := lw_17 (b := b) h hx hL
    subst k17
    exact ⟨b1, I1, J1, (ev_go rfl rfl : ev 234 32 (LL x) [vi 17] (hp L b I J) = ev 234 647 (LL x) [] (hp L b I J)).trans q1, q2, q3⟩
  by_cases k18 : s = 18
  · obtain ⟨b1, I1, J1, q1, q2, q3⟩ := lw_18 (b := b) h hx hL
    subst k18
    exact ⟨b1, I1, J1, (ev_go rfl rfl : ev 234 32 (LL x) [vi 18] (hp L b I J) = ev 234 690 (LL x) [] (hp L b I J)).trans q1, q2, q3⟩
  by_cases k19 : s = 19
  · obtain ⟨b1, I1, J1, q1, q2, q3⟩ := lw_19 (b := b) h hx hL
    subst k19
    exact ⟨b1, I1, J1, (ev_go rfl rfl : ev 234 32 (LL x) [vi 19] (hp L b I J) = ev 234 723 (LL x) [] (hp L b I J)).trans q1, q2, q3⟩
  by_cases k20 : s = 20
  · obtain ⟨b1, I1, J1, q1, q2, q3⟩ := lw_20 (b := b) h hx hL
    subst k20
    exact ⟨b1, I1, J1, (ev_go rfl rfl : ev 234 32 (LL x) [vi 20] (hp L b I J) = ev 234 756 (LL x) [] (hp L b I J)).trans q1, q2, q3⟩
  by_cases k21 : s = 21
  · obtain ⟨b1, I1, J1, q1, q2, q3⟩ := lw_21 (b := b) h hx hL
    subst k21
    exact ⟨b1, I1, J1, (ev_go rfl rfl : ev 234 32 (LL x) [vi 21] (hp L b I J) = ev 234 789 (LL x) [] (hp L b I J)).trans q1, q2, q3⟩
  by_cases k22 : s = 22
  · obtain ⟨b1, I1, J1, q1, q2, q3⟩ := lw_22 (b := b) h hx hL
    subst k22
    exact ⟨b1, I1, J1, (ev_go rfl rfl : ev 234 32 (LL x) [vi 22] (hp L b I J) = ev 234 832 (LL x) [] (hp L b I J)).trans q1, q2, q3⟩
  by_cases k23 : s = 23
  · obtain ⟨b1, I1, J1, q1, q2, q3⟩ := lw_23 (b := b) h hx hL
    subst k23
    exact ⟨b1, I1, J1, (ev_go rfl rfl : ev 234 32 (LL x) [vi 23] (hp L b I J) = ev 234 875 (LL x) [] (hp L b I J)).trans q1, q2, q3⟩
  by_cases k24 : s = 24
  · obtain ⟨b1, I1, J1, q1, q2, q3⟩ := lw_24 (b := b) h hx hL
    subst k24
    exact ⟨b1, I1, J1, (ev_go rfl rfl : ev 234 32 (LL x) [vi 24] (hp L b I J) = ev 234 908 (LL x) [] (hp L b I J)).trans q1, q2, q3⟩
  by_cases k25 : s = 25
  · obtain ⟨b1, I1, J1, q1, q2, q3⟩ := lw_25 (b := b) h hx hL
    subst k25
    exact ⟨b1, I1, J1, (ev_go rfl rfl : ev 234 32 (LL x) [vi 25] (hp L b I J) = ev 234 921 (LL x) [] (hp L b I J)).trans q1, q2, q3⟩
  by_cases k26 : s = 26
  · obtain ⟨b1, I1, J1, q1, q2, q3⟩ := lw_26 (b := b) h hx hL
    subst k26
    exact ⟨b1, I1, J1, (ev_go rfl rfl : ev 234 32 (LL x) [vi 26] (hp L b I J) = ev 234 954 (LL x) [] (hp L b I J)).trans q1, q2, q3⟩
  by_cases k27 : s = 27
  · obtain ⟨b1, I1, J1, q1, q2, q3⟩ := lw_27 (b := b) h hx hL
    subst k27
    exact ⟨b1, I1, J1, (ev_go rfl rfl : ev 234 32 (LL x) [vi 27] (hp L b I J) = ev 234 977 (LL x) [] (hp L b I J)).trans q1, q2, q3⟩
  by_cases k28 : s = 28
  · obtain ⟨b1, I1, J1, q1, q2, q3⟩ := lw_28 (b := b) h hx hL
    subst k28
    exact ⟨b1, I1, J1, (ev_go rfl rfl : ev 234 32 (LL x) [vi 28] (hp L b I J) = ev 234 1000 (LL x) [] (hp L b I J)).trans q1, q2, q3⟩
  by_cases k29 : s = 29
  · obtain ⟨b1, I1, J1, q1, q2, q3⟩ := lw_29 (b := b) h hx hL
    subst k29
    exact ⟨b1, I1, J1, (ev_go rfl rfl : ev 234 32 (LL x) [vi 29] (hp L b I J) = ev 234 1033 (LL x) [] (hp L b I J)).trans q1, q2, q3⟩
  by_cases k30 : s = 30
  · obtain ⟨b1, I1, J1, q1, q2, q3⟩ := lw_30 (b := b) h hx hL
    subst k30
    exact ⟨b1, I1, J1, (ev_go rfl rfl : ev 234 32 (LL x) [vi 30] (hp L b I J) = ev 234 1046 (LL x) [] (hp L b I J)).trans q1, q2, q3⟩
  by_cases k31 : s = 31
  · obtain ⟨b1, I1, J1, q1, q2, q3⟩ := lw_31 (b := b) h hx hL
    subst k31
    exact ⟨b1, I1, J1, (ev_go rfl rfl : ev 234 32 (LL x) [vi 31] (hp L b I J) = ev 234 1089 (LL x) [] (hp L b I J)).trans q1, q2, q3⟩
  by_cases k32 : s = 32
  · obtain ⟨b1, I1, J1, q1, q2, q3⟩ := lw_32 (b := b) h hx hL
    subst k32
    exact ⟨b1, I1, J1, (ev_go rfl rfl : ev 234 32 (LL x) [vi 32] (hp L b I J) = ev 234 1122 (LL x) [] (hp L b I J)).trans q1, q2, q3⟩
  by_cases k33 : s = 33
  · obtain ⟨b1, I1, J1, q1, q2, q3⟩ := lw_33 (b := b) h hx hL
    subst k33
    exact ⟨b1, I1, J1, (ev_go rfl rfl : ev 234 32 (LL x) [vi 33] (hp L b I J) = ev 234 1155 (LL x) [] (hp L b I J)).trans q1, q2, q3⟩
  by_cases k34 : s = 34
  · obtain ⟨b1, I1, J1, q1, q2, q3⟩ := lw_34 (b := b) h hx hL
    subst k34
    exact ⟨b1, I1, J1, (ev_go rfl rfl : ev 234 32 (LL x) [vi 34] (hp L b I J) = ev 234 1168 (LL x) [] (hp L b I J)).trans q1, q2, q3⟩
  by_cases k35 : s = 35
  · obtain ⟨b1, I1, J1, q1, q2, q3⟩ := lw_35 (b := b) h hx hL
    subst k35
    exact ⟨b1, I1, J1, (ev_go rfl rfl : ev 234 32 (LL x) [vi 35] (hp L b I J) = ev 234 1181 (LL x) [] (hp L b I J)).trans q1, q2, q3⟩
  by_cases k36 : s = 36
  · obtain ⟨b1, I1, J1, q1, q2, q3⟩ := lw_36 (b := b) h hx hL
    subst k36
    exact ⟨b1, I1, J1, (ev_go rfl rfl : ev 234 32 (LL x) [vi 36] (hp L b I J) = ev 234 1194 (LL x) [] (hp L b I J)).trans q1, q2, q3⟩
  by_cases k37 : s = 37
  · obtain ⟨b1, I1, J1, q1, q2, q3⟩ := lw_37 (b := b) h hx hL
    subst k37
    exact ⟨b1, I1, J1, (ev_go rfl rfl : ev 234 32 (LL x) [vi 37] (hp L b I J) = ev 234 1207 (LL x) [] (hp L b I J)).trans q1, q2, q3⟩
  by_cases k38 : s = 38
  · obtain ⟨b1, I1, J1, q1, q2, q3⟩ := lw_38 (b := b) h hx hL
    subst k38
    exact ⟨b1, I1, J1, (ev_go rfl rfl : ev 234 32 (LL x) [vi 38] (hp L b I J) = ev 234 1230 (LL x) [] (hp L b I J)).trans q1, q2, q3⟩
  by_cases k39 : s = 39
  · obtain ⟨b1, I1, J1, q1, q2, q3⟩ := lw_39 (b := b) h hx hL
    subst k39
    exact ⟨b1, I1, J1, (ev_go rfl rfl : ev 234 32 (LL x) [vi 39] (hp L b I J) = ev 234 1243 (LL x) [] (hp L b I J)).trans q1, q2, q3⟩
  by_cases k40 : s = 40
  · obtain ⟨b1, I1, J1, q1, q2, q3⟩ := lw_40 (b := b) h hx hL
    subst k40
    exact ⟨b1, I1, J1, (ev_go rfl rfl : ev 234 32 (LL x) [vi 40] (hp L b I J) = ev 234 1256 (LL x) [] (hp L b I J)).trans q1, q2, q3⟩
  by_cases k41 : s = 41
  · obtain ⟨b1, I1, J1, q1, q2, q3⟩ := lw_41 (b := b) h hx hL
    subst k41
    exact ⟨b1, I1, J1, (ev_go rfl rfl : ev 234 32 (LL x) [vi 41] (hp L b I J) = ev 234 1279 (LL x) [] (hp L b I J)).trans q1, q2, q3⟩
  · exact ⟨b, I, J, ev_sw (M := 234) (pc := 32) (l := LL x) (ks := []) rfl (Or.inr (show (41 : Int) < s by omega)) (by decide), h, rfl⟩
set_option maxRecDepth 100000 in
theorem lw_all (hL : L ≤ 2048) : ∀ (m : Nat) (x : Int) (b : Bool) (I : AI) (J : AJ), (0 ≤ x ∧ x ≤ L) → (L : Int) - x < m → Rel I J I → ∃ (b1 : Bool) (I1 : AI) (J1 : AJ), ev 234 18 (LL x) [] (hp L b I J) = some (vi 1, hp L b1 I1 J1) := by
  intro m
  induction m with
  | zero => intro x b I J hx hm; omega
  | succ m ih =>
    intro x b I J hx hm h
    by_cases c : (L : Int) - 4 < x
    · refine ⟨b, I, J, ?_⟩
      rw [lw_head hx hL, if_pos c]
      refine (ev_go rfl rfl : ev 234 1308 (LL x) [] (hp L b I J) = ev 234 1309 [none, none, none, none] [vi 1] (hp L b I J)).trans ?_
      exact (ev_zret rfl).trans (gd_t (by decide))
    · obtain ⟨b1, I1, J1, q1, q2, q3⟩ := lw_case (L := L) (b := b) (x := x) h ⟨hx.1, by omega⟩ hL
      obtain ⟨b2, I2, J2, w⟩ := ih (x + 4) b1 I1 J1 (by omega) (by omega) q2
      refine ⟨b2, I2, J2, ?_⟩
      rw [lw_head hx hL, if_neg c, lw_sw ⟨hx.1, by omega⟩, q1, lw_next ⟨hx.1, by omega⟩, w]
end
