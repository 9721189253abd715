/-! 188: VersionVaultModel.make(I)V -/
theorem s188_0 {L : Nat} {b : Bool} {I : AI} {J : AJ} (x1 : Int)  : ev 188 0 [some (vr 115), some (vi x1)] [] (hp L b I J) = gd (0 ≤ (I 115 48 : Int) ∧ (I 115 48 : Int) < 1600) (gd (-2147483648 ≤ (((upI I 151 (I 115 48) x1) 115 48) + 1 : Int) ∧ (((upI I 151 (I 115 48) x1) 115 48) + 1 : Int) ≤ 2147483647) (some (vi 0, hp L b (upI (upI I 151 (I 115 48) x1) 115 48 (((upI I 151 (I 115 48) x1) 115 48) + 1)) J))) := by
  refine (e188_0 x1).trans ?_
  simp only [e188_1, e188_4, e188_5, e188_8, e188_9, e188_10, e188_11, e188_12, e188_15, e188_16, e188_17, e188_20]
/-! 189: VersionVaultModel.makeSpan(II)V -/
theorem s189_0 {L : Nat} {b : Bool} {I : AI} {J : AJ} (x1 : Int) (x2 : Int)  : ev 189 0 [some (vr 115), some (vi x1), some (vi x2), none] [] (hp L b I J) = ev 189 2 [some (vr 115), some (vi x1), some (vi x2), some (vi 0)] [] (hp L b I J) := by
  refine (e189_0 x1 x2).trans ?_
  simp only [e189_1]
theorem s189_2 {L : Nat} {b : Bool} {I : AI} {J : AJ} (x1 : Int) (x2 : Int) (x3 : Int)  : ev 189 2 [some (vr 115), some (vi x1), some (vi x2), some (vi x3)] [] (hp L b I J) = gd (-2147483648 ≤ (4 * x1 : Int) ∧ (4 * x1 : Int) ≤ 2147483647) (gd (-2147483648 ≤ ((4 * x1) + x2 : Int) ∧ ((4 * x1) + x2 : Int) ≤ 2147483647) (gd (0 ≤ ((4 * x1) + x2 : Int) ∧ ((4 * x1) + x2 : Int) < 100) (if (I 149 ((4 * x1) + x2)) ≤ (x3 : Int) then (some (vi 0, hp L b I J)) else (gd (-2147483648 ≤ (4 * x1 : Int) ∧ (4 * x1 : Int) ≤ 2147483647) (gd (-2147483648 ≤ ((4 * x1) + x2 : Int) ∧ ((4 * x1) + x2 : Int) ≤ 2147483647) (gd (-2147483648 ≤ (24 * ((4 * x1) + x2) : Int) ∧ (24 * ((4 * x1) + x2) : Int) ≤ 2147483647) (gd (-2147483648 ≤ ((24 * ((4 * x1) + x2)) + x3 : Int) ∧ ((24 * ((4 * x1) + x2)) + x3 : Int) ≤ 2147483647) (gd (0 ≤ ((24 * ((4 * x1) + x2)) + x3 : Int) ∧ ((24 * ((4 * x1) + x2)) + x3 : Int) < 2400) ((evc 188 [vr 115, vi (I 148 ((24 * ((4 * x1) + x2)) + x3))] (hp L b I J)).bind (fun q => ev 189 35 [some (vr 115), some (vi x1), some (vi x2), some (vi x3)] ([]) q.2)))))))))) := by
  refine (e189_2 x1 x2 x3).trans ?_
  simp only [e189_3, e189_4, e189_7, e189_8, e189_9, e189_10, e189_11, e189_12, e189_13, e189_16, e189_17, e189_18, e189_21, e189_23, e189_24, e189_25, e189_26, e189_27, e189_28, e189_29, e189_30, e189_31, e189_32, e189_41]
theorem s189_35 {L : Nat} {b : Bool} {I : AI} {J : AJ} (x1 : Int) (x2 : Int) (x3 : Int)  : ev 189 35 [some (vr 115), some (vi x1), some (vi x2), some (vi x3)] [] (hp L b I J) = gd (-2147483648 ≤ (x3 + 1 : Int) ∧ (x3 + 1 : Int) ≤ 2147483647) (ev 189 2 [some (vr 115), some (vi x1), some (vi x2), some (vi (x3 + 1))] [] (hp L b I J)) := by
  refine (e189_35 x1 x2 x3).trans ?_
  simp only [e189_38]
/-! 190: VersionVaultModel.makeSettled(I)V -/
theorem s190_0 {L : Nat} {b : Bool} {I : AI} {J : AJ} (x1 : Int)  : ev 190 0 [some (vr 115), some (vi x1)] [] (hp L b I J) = gd (0 ≤ (x1 : Int) ∧ (x1 : Int) < 32) (if ¬ (I 150 x1 : Int) = 0 then (ev 190 15 [some (vr 115), some (vi x1)] [] (hp L b I J)) else ((evc 189 [vr 115, vi x1, vi 0] (hp L b I J)).bind (fun q => ev 190 15 [some (vr 115), some (vi x1)] ([]) q.2))) := by
  refine (e190_0 x1).trans ?_
  simp only [e190_1, e190_4, e190_5, e190_6, e190_9, e190_10, e190_11, e190_12]
theorem s190_15 {L : Nat} {b : Bool} {I : AI} {J : AJ} (x1 : Int)  : ev 190 15 [some (vr 115), some (vi x1)] [] (hp L b I J) = gd (0 ≤ (x1 : Int) ∧ (x1 : Int) < 32) (if (I 150 x1 : Int) = 1 then (ev 190 35 [some (vr 115), some (vi x1)] [] (hp L b I J)) else (gd (0 ≤ (x1 : Int) ∧ (x1 : Int) < 32) (if ¬ (I 150 x1 : Int) = 3 then (ev 190 41 [some (vr 115), some (vi x1)] [] (hp L b I J)) else (ev 190 35 [some (vr 115), some (vi x1)] [] (hp L b I J))))) := by
  refine (e190_15 x1).trans ?_
  simp only [e190_16, e190_19, e190_20, e190_21, e190_22, e190_25, e190_26, e190_29, e190_30, e190_31, e190_32]
theorem s190_35 {L : Nat} {b : Bool} {I : AI} {J : AJ} (x1 : Int)  : ev 190 35 [some (vr 115), some (vi x1)] [] (hp L b I J) = (evc 189 [vr 115, vi x1, vi 1] (hp L b I J)).bind (fun q => ev 190 41 [some (vr 115), some (vi x1)] ([]) q.2) := by
  refine (e190_35 x1).trans ?_
  simp only [e190_36, e190_37, e190_38]
theorem s190_41 {L : Nat} {b : Bool} {I : AI} {J : AJ} (x1 : Int)  : ev 190 41 [some (vr 115), some (vi x1)] [] (hp L b I J) = gd (0 ≤ (x1 : Int) ∧ (x1 : Int) < 32) (if (I 150 x1 : Int) = 2 then (ev 190 61 [some (vr 115), some (vi x1)] [] (hp L b I J)) else (gd (0 ≤ (x1 : Int) ∧ (x1 : Int) < 32) (if ¬ (I 150 x1 : Int) = 3 then (ev 190 67 [some (vr 115), some (vi x1)] [] (hp L b I J)) else (ev 190 61 [some (vr 115), some (vi x1)] [] (hp L b I J))))) := by
  refine (e190_41 x1).trans ?_
  simp only [e190_42, e190_45, e190_46, e190_47, e190_48, e190_51, e190_52, e190_55, e190_56, e190_57, e190_58]
theorem s190_61 {L : Nat} {b : Bool} {I : AI} {J : AJ} (x1 : Int)  : ev 190 61 [some (vr 115), some (vi x1)] [] (hp L b I J) = (evc 189 [vr 115, vi x1, vi 2] (hp L b I J)).bind (fun q => ev 190 67 [some (vr 115), some (vi x1)] ([]) q.2) := by
  refine (e190_61 x1).trans ?_
  simp only [e190_62, e190_63, e190_64]
theorem s190_67 {L : Nat} {b : Bool} {I : AI} {J : AJ} (x1 : Int)  : ev 190 67 [some (vr 115), some (vi x1)] [] (hp L b I J) = some (vi 0, hp L b I J) := by
  refine (e190_67 x1).trans ?_
  rfl
/-! 191: VersionVaultModel.merged()I -/
theorem s191_0 {L : Nat} {b : Bool} {I : AI} {J : AJ}   : ev 191 0 [some (vr 115), none, none] [] (hp L b I J) = ev 191 7 [some (vr 115), some (vi (I 115 39)), some (vi 0)] [] (hp L b I J) := by
  refine (e191_0 ).trans ?_
  simp only [e191_1, e191_4, e191_5, e191_6]
theorem s191_7 {L : Nat} {b : Bool} {I : AI} {J : AJ} (x1 : Int) (x2 : Int)  : ev 191 7 [some (vr 115), some (vi x1), some (vi x2)] [] (hp L b I J) = if (I 115 45) ≤ (x2 : Int) then (if ¬ (x1 : Int) = 0 then (ev 191 54 [some (vr 115), none, some (vi 0)] [] (hp L b (upI I 115 48 0) J)) else (some (vi ((-2)), hp L b I J))) else (if (x1 : Int) = 0 then (ev 191 32 [some (vr 115), none, some (vi x2)] [] (hp L b I J)) else (gd (0 ≤ (x2 : Int) ∧ (x2 : Int) < 32) (if (I 150 x2 : Int) < 0 then (ev 191 32 [some (vr 115), none, some (vi x2)] [] (hp L b I J)) else (ev 191 33 [some (vr 115), none, some (vi x2)] [vi 1] (hp L b I J))))) := by
  refine (e191_7 x1 x2).trans ?_
  simp only [e191_8, e191_9, e191_12, e191_15, e191_16, e191_19, e191_20, e191_23, e191_24, e191_25, e191_28, e191_29, e191_40, e191_41, e191_44, e191_46, e191_47, e191_48, e191_49, e191_52, e191_53]
theorem s191_32 {L : Nat} {b : Bool} {I : AI} {J : AJ} (x2 : Int)  : ev 191 32 [some (vr 115), none, some (vi x2)] [] (hp L b I J) = ev 191 33 [some (vr 115), none, some (vi x2)] [vi 0] (hp L b I J) := by
  refine (e191_32 x2).trans ?_
  rfl
theorem s191_33 {L : Nat} {b : Bool} {I : AI} {J : AJ} (x2 : Int) (y0 : Int)  : ev 191 33 [some (vr 115), none, some (vi x2)] [vi y0] (hp L b I J) = gd (-2147483648 ≤ (x2 + 1 : Int) ∧ (x2 + 1 : Int) ≤ 2147483647) (ev 191 7 [some (vr 115), some (vi y0), some (vi (x2 + 1))] [] (hp L b I J)) := by
  refine (e191_33 x2 y0).trans ?_
  simp only [e191_34, e191_37]
theorem s191_54 {L : Nat} {b : Bool} {I : AI} {J : AJ} (x2 : Int)  : ev 191 54 [some (vr 115), none, some (vi x2)] [] (hp L b I J) = if (I 115 42) ≤ (x2 : Int) then (if (I 115 48 : Int) ≤ 24 then (ev 191 122 [some (vr 115), none, some (vi 0)] [] (hp L b (upI I 115 7 (I 115 48)) J)) else (some (vi ((-2)), hp L b I J))) else (gd (0 ≤ (x2 : Int) ∧ (x2 : Int) < 128) (if 0 ≤ (I 147 x2 : Int) then (gd (0 ≤ (x2 : Int) ∧ (x2 : Int) < 128) ((evc 190 [vr 115, vi (I 147 x2)] (hp L b I J)).bind (fun q => ev 191 94 [some (vr 115), none, some (vi x2)] ([]) q.2))) else (gd (0 ≤ (x2 : Int) ∧ (x2 : Int) < 128) ((evc 188 [vr 115, vi (I 146 x2)] (hp L b I J)).bind (fun q => ev 191 81 [some (vr 115), none, some (vi x2)] ([]) q.2))))) := by
  refine (e191_54 x2).trans ?_
  simp only [e191_55, e191_56, e191_59, e191_62, e191_63, e191_66, e191_67, e191_68, e191_71, e191_72, e191_73, e191_76, e191_77, e191_78, e191_84, e191_85, e191_86, e191_89, e191_90, e191_91, e191_100, e191_101, e191_104, e191_106, e191_109, e191_111, e191_112, e191_113, e191_114, e191_117, e191_120, e191_121]
theorem s191_81 {L : Nat} {b : Bool} {I : AI} {J : AJ} (x2 : Int)  : ev 191 81 [some (vr 115), none, some (vi x2)] [] (hp L b I J) = ev 191 94 [some (vr 115), none, some (vi x2)] [] (hp L b I J) := by
  refine (e191_81 x2).trans ?_
  rfl
theorem s191_94 {L : Nat} {b : Bool} {I : AI} {J : AJ} (x2 : Int)  : ev 191 94 [some (vr 115), none, some (vi x2)] [] (hp L b I J) = gd (-2147483648 ≤ (x2 + 1 : Int) ∧ (x2 + 1 : Int) ≤ 2147483647) (ev 191 54 [some (vr 115), none, some (vi (x2 + 1))] [] (hp L b I J)) := by
  refine (e191_94 x2).trans ?_
  simp only [e191_97]
theorem s191_122 {L : Nat} {b : Bool} {I : AI} {J : AJ} (x2 : Int)  : ev 191 122 [some (vr 115), none, some (vi x2)] [] (hp L b I J) = if (I 115 48) ≤ (x2 : Int) then (some (vi (I 115 48), hp L b I J)) else (gd (0 ≤ (x2 : Int) ∧ (x2 : Int) < 1600) (gd (0 ≤ (x2 : Int) ∧ (x2 : Int) < 24) (gd (-2147483648 ≤ (x2 + 1 : Int) ∧ (x2 + 1 : Int) ≤ 2147483647) (ev 191 122 [some (vr 115), none, some (vi (x2 + 1))] [] (hp L b (upI I 121 x2 (I 151 x2)) J))))) := by
  refine (e191_122 x2).trans ?_
  simp only [e191_123, e191_124, e191_127, e191_130, e191_131, e191_134, e191_135, e191_136, e191_139, e191_140, e191_141, e191_142, e191_145, e191_148, e191_149, e191_152]
/-! 192: VersionVaultModel.onStep(II)I -/
theorem s192_0 {L : Nat} {b : Bool} {I : AI} {J : AJ} (x1 : Int) (x2 : Int)  : ev 192 0 [some (vr 115), some (vi x1), some (vi x2)] [] (hp L b I J) = if 0 ≤ (x1 : Int) then (gd (0 ≤ (x1 : Int) ∧ (x1 : Int) < 80) (gd (-2147483648 ≤ (16 * (I 125 x1) : Int) ∧ (16 * (I 125 x1) : Int) ≤ 2147483647) (gd (-2147483648 ≤ ((16 * (I 125 x1)) + x2 : Int) ∧ ((16 * (I 125 x1)) + x2 : Int) ≤ 2147483647) (gd (0 ≤ ((16 * (I 125 x1)) + x2 : Int) ∧ ((16 * (I 125 x1)) + x2 : Int) < 1600) (some (vi (I 122 ((16 * (I 125 x1)) + x2)), hp L b I J)))))) else (some (vi ((-1)), hp L b I J)) := by
  refine (e192_0 x1 x2).trans ?_
  simp only [e192_1, e192_4, e192_5, e192_8, e192_9, e192_12, e192_14, e192_15, e192_18, e192_19, e192_20, e192_21, e192_22, e192_23, e192_24]
/-! 193: VersionVaultModel.joinName(IIII)Z -/
theorem s193_0 {L : Nat} {b : Bool} {I : AI} {J : AJ} (x1 : Int) (x2 : Int) (x3 : Int) (x4 : Int)  : ev 193 0 [some (vr 115), some (vi x1), some (vi x2), some (vi x3), some (vi x4), none, none, none, none] [] (hp L b I J) = (evc 192 [vr 115, vi x1, vi x4] (hp L b I J)).bind (fun q => ev 193 7 [some (vr 115), none, some (vi x2), some (vi x3), some (vi x4), none, none, none, none] (q.1 :: []) q.2) := by
  refine (e193_0 x1 x2 x3 x4).trans ?_
  simp only [e193_1, e193_2, e193_4]
theorem s193_7 {L : Nat} {b : Bool} {I : AI} {J : AJ} (x2 : Int) (x3 : Int) (x4 : Int) (y0 : Int)  : ev 193 7 [some (vr 115), none, some (vi x2), some (vi x3), some (vi x4), none, none, none, none] [vi y0] (hp L b I J) = (evc 192 [vr 115, vi x2, vi x4] (hp L b I J)).bind (fun q => ev 193 16 [some (vr 115), none, none, some (vi x3), some (vi x4), some (vi y0), none, none, none] (q.1 :: []) q.2) := by
  refine (e193_7 x2 x3 x4 y0).trans ?_
  simp only [e193_9, e193_10, e193_11, e193_13]
theorem s193_16 {L : Nat} {b : Bool} {I : AI} {J : AJ} (x3 : Int) (x4 : Int) (x5 : Int) (y0 : Int)  : ev 193 16 [some (vr 115), none, none, some (vi x3), some (vi x4), some (vi x5), none, none, none] [vi y0] (hp L b I J) = (evc 192 [vr 115, vi x3, vi x4] (hp L b I J)).bind (fun q => ev 193 25 [some (vr 115), none, none, none, some (vi x4), some (vi x5), some (vi y0), none, none] (q.1 :: []) q.2) := by
  refine (e193_16 x3 x4 x5 y0).trans ?_
  simp only [e193_18, e193_19, e193_20, e193_22]
theorem s193_25 {L : Nat} {b : Bool} {I : AI} {J : AJ} (x4 : Int) (x5 : Int) (x6 : Int) (y0 : Int)  : ev 193 25 [some (vr 115), none, none, none, some (vi x4), some (vi x5), some (vi x6), none, none] [vi y0] (hp L b I J) = if (x6 : Int) = y0 then (ev 193 47 [some (vr 115), none, none, none, some (vi x4), some (vi x5), some (vi x6), some (vi y0), none] [vi x4, vr 152] (hp L b I J)) else (if ¬ (y0 : Int) = x5 then (if ¬ (x6 : Int) = x5 then (ev 193 66 [some (vr 115), none, none, none, some (vi x4), some (vi x5), some (vi x6), some (vi y0), none] [vi ((-3)), vi x4, vr 152] (hp L b I J)) else (ev 193 66 [some (vr 115), none, none, none, some (vi x4), some (vi x5), some (vi x6), some (vi y0), none] [vi y0, vi x4, vr 152] (hp L b I J))) else (ev 193 47 [some (vr 115), none, none, none, some (vi x4), some (vi x5), some (vi x6), some (vi y0), none] [vi x4, vr 152] (hp L b I J))) := by
  refine (e193_25 x4 x5 x6 y0).trans ?_
  simp only [e193_27, e193_28, e193_31, e193_33, e193_35, e193_37, e193_40, e193_42, e193_44, e193_52, e193_54, e193_56, e193_59, e193_61, e193_64]
theorem s193_47 {L : Nat} {b : Bool} {I : AI} {J : AJ} (x4 : Int) (x5 : Int) (x6 : Int) (x7 : Int) (y0 : Int)  : ev 193 47 [some (vr 115), none, none, none, some (vi x4), some (vi x5), some (vi x6), some (vi x7), none] [vi y0, vr 152] (hp L b I J) = ev 193 66 [some (vr 115), none, none, none, some (vi x4), some (vi x5), some (vi x6), some (vi x7), none] [vi x6, vi y0, vr 152] (hp L b I J) := by
  refine (e193_47 x4 x5 x6 x7 y0).trans ?_
  simp only [e193_49]
theorem s193_66 {L : Nat} {b : Bool} {I : AI} {J : AJ} (x4 : Int) (x5 : Int) (x6 : Int) (x7 : Int) (y0 : Int) (y1 : Int)  : ev 193 66 [some (vr 115), none, none, none, some (vi x4), some (vi x5), some (vi x6), some (vi x7), none] [vi y0, vi y1, vr 152] (hp L b I J) = gd (0 ≤ (y1 : Int) ∧ (y1 : Int) < 16) (gd (0 ≤ (x4 : Int) ∧ (x4 : Int) < 16) (if ¬ ((upI I 152 y1 y0) 152 x4 : Int) = ((-3)) then (ev 193 89 [none, none, none, none, none, none, none, none, none] [] (hp L b (upI I 152 y1 y0) J)) else (if (x6 : Int) < 0 then (ev 193 89 [none, none, none, none, none, none, none, none, none] [] (hp L b (upI I 152 y1 y0) J)) else (if 0 ≤ (x7 : Int) then ((evc 137 [vr 115, vi x6] (hp L b (upI I 152 y1 y0) J)).bind (fun q => ev 193 97 [some (vr 115), none, none, none, some (vi x4), some (vi x5), some (vi x6), some (vi x7), none] (q.1 :: []) q.2)) else (ev 193 89 [none, none, none, none, none, none, none, none, none] [] (hp L b (upI I 152 y1 y0) J)))))) := by
  refine (e193_66 x4 x5 x6 x7 y0 y1).trans ?_
  simp only [e193_67, e193_68, e193_71, e193_73, e193_74, e193_76, e193_79, e193_81, e193_84, e193_86, e193_91, e193_92, e193_94]
theorem s193_89 {L : Nat} {b : Bool} {I : AI} {J : AJ}   : ev 193 89 [none, none, none, none, none, none, none, none, none] [] (hp L b I J) = gd ((1 : Int) = 0 ∨ (1 : Int) = 1) (some (vi 1, hp L b I J)) := by
  refine (e193_89 ).trans ?_
  simp only [e193_90]
theorem s193_97 {L : Nat} {b : Bool} {I : AI} {J : AJ} (x4 : Int) (x5 : Int) (x6 : Int) (x7 : Int) (y0 : Int)  : ev 193 97 [some (vr 115), none, none, none, some (vi x4), some (vi x5), some (vi x6), some (vi x7), none] [vi y0] (hp L b I J) = if (y0 : Int) = 0 then (ev 193 123 [none, none, none, none, none, none, none, none, none] [] (hp L b I J)) else ((evc 137 [vr 115, vi x7] (hp L b I J)).bind (fun q => ev 193 106 [some (vr 115), none, none, none, some (vi x4), some (vi x5), some (vi x6), some (vi x7), none] (q.1 :: []) q.2)) := by
  refine (e193_97 x4 x5 x6 x7 y0).trans ?_
  simp only [e193_100, e193_101, e193_103]
theorem s193_106 {L : Nat} {b : Bool} {I : AI} {J : AJ} (x4 : Int) (x5 : Int) (x6 : Int) (x7 : Int) (y0 : Int)  : ev 193 106 [some (vr 115), none, none, none, some (vi x4), some (vi x5), some (vi x6), some (vi x7), none] [vi y0] (hp L b I J) = if (y0 : Int) = 0 then (ev 193 123 [none, none, none, none, none, none, none, none, none] [] (hp L b I J)) else (if (x5 : Int) < 0 then (ev 193 125 [some (vr 115), none, none, none, some (vi x4), some (vi x5), some (vi x6), some (vi x7), none] [] (hp L b I J)) else ((evc 137 [vr 115, vi x5] (hp L b I J)).bind (fun q => ev 193 120 [some (vr 115), none, none, none, some (vi x4), some (vi x5), some (vi x6), some (vi x7), none] (q.1 :: []) q.2))) := by
  refine (e193_106 x4 x5 x6 x7 y0).trans ?_
  simp only [e193_109, e193_111, e193_114, e193_115, e193_117]
theorem s193_120 {L : Nat} {b : Bool} {I : AI} {J : AJ} (x4 : Int) (x5 : Int) (x6 : Int) (x7 : Int) (y0 : Int)  : ev 193 120 [some (vr 115), none, none, none, some (vi x4), some (vi x5), some (vi x6), some (vi x7), none] [vi y0] (hp L b I J) = if ¬ (y0 : Int) = 0 then (ev 193 125 [some (vr 115), none, none, none, some (vi x4), some (vi x5), some (vi x6), some (vi x7), none] [] (hp L b I J)) else (ev 193 123 [none, none, none, none, none, none, none, none, none] [] (hp L b I J)) := by
  refine (e193_120 x4 x5 x6 x7 y0).trans ?_
  rfl
theorem s193_123 {L : Nat} {b : Bool} {I : AI} {J : AJ}   : ev 193 123 [none, none, none, none, none, none, none, none, none] [] (hp L b I J) = gd ((0 : Int) = 0 ∨ (0 : Int) = 1) (some (vi 0, hp L b I J)) := by
  refine (e193_123 ).trans ?_
  simp only [e193_124]
theorem s193_125 {L : Nat} {b : Bool} {I : AI} {J : AJ} (x4 : Int) (x5 : Int) (x6 : Int) (x7 : Int)  : ev 193 125 [some (vr 115), none, none, none, some (vi x4), some (vi x5), some (vi x6), some (vi x7), none] [] (hp L b I J) = (evc 183 [vr 115, vi x5, vi x6, vi x7] (hp L b I J)).bind (fun q => ev 193 135 [some (vr 115), none, none, none, some (vi x4), none, none, none, none] ([]) q.2) := by
  refine (e193_125 x4 x5 x6 x7).trans ?_
  simp only [e193_126, e193_128, e193_130, e193_132]
theorem s193_135 {L : Nat} {b : Bool} {I : AI} {J : AJ} (x4 : Int)  : ev 193 135 [some (vr 115), none, none, none, some (vi x4), none, none, none, none] [] (hp L b I J) = if 0 < (I 115 38 : Int) then (ev 193 151 [none, none, none, none, none, none, none, none, none] [] (hp L b I J)) else (if (I 115 35 : Int) ≤ 24 then (gd (0 ≤ (x4 : Int) ∧ (x4 : Int) < 16) (gd (0 ≤ (x4 : Int) ∧ (x4 : Int) < 16) (ev 193 176 [some (vr 115), none, none, none, some (vi x4), none, none, none, some (vi 0)] [] (hp L b (upI (upI I 152 x4 ((-4))) 154 x4 ((upI I 152 x4 ((-4))) 115 35)) J)))) else (ev 193 151 [none, none, none, none, none, none, none, none, none] [] (hp L b I J))) := by
  refine (e193_135 x4).trans ?_
  simp only [e193_136, e193_139, e193_142, e193_143, e193_146, e193_148, e193_153, e193_154, e193_157, e193_159, e193_161, e193_162, e193_163, e193_166, e193_168, e193_169, e193_172, e193_173, e193_174]
theorem s193_151 {L : Nat} {b : Bool} {I : AI} {J : AJ}   : ev 193 151 [none, none, none, none, none, none, none, none, none] [] (hp L b I J) = gd ((1 : Int) = 0 ∨ (1 : Int) = 1) (some (vi 1, hp L b I J)) := by
  refine (e193_151 ).trans ?_
  simp only [e193_152]
theorem s193_176 {L : Nat} {b : Bool} {I : AI} {J : AJ} (x4 : Int) (x8 : Int)  : ev 193 176 [some (vr 115), none, none, none, some (vi x4), none, none, none, some (vi x8)] [] (hp L b I J) = if (I 115 35) ≤ (x8 : Int) then (gd ((1 : Int) = 0 ∨ (1 : Int) = 1) (some (vi 1, hp L b I J))) else (gd (-2147483648 ≤ (24 * x4 : Int) ∧ (24 * x4 : Int) ≤ 2147483647) (gd (-2147483648 ≤ ((24 * x4) + x8 : Int) ∧ ((24 * x4) + x8 : Int) ≤ 2147483647) (gd (0 ≤ (x8 : Int) ∧ (x8 : Int) < 128) (gd (0 ≤ ((24 * x4) + x8 : Int) ∧ ((24 * x4) + x8 : Int) < 384) (gd (-2147483648 ≤ (x8 + 1 : Int) ∧ (x8 + 1 : Int) ≤ 2147483647) (ev 193 176 [some (vr 115), none, none, none, some (vi x4), none, none, none, some (vi (x8 + 1))] [] (hp L b (upI I 153 ((24 * x4) + x8) (I 142 x8)) J))))))) := by
  refine (e193_176 x4 x8).trans ?_
  simp only [e193_178, e193_179, e193_182, e193_185, e193_186, e193_189, e193_191, e193_193, e193_194, e193_196, e193_197, e193_198, e193_201, e193_203, e193_204, e193_205, e193_208, e193_211, e193_212]
/-! 194: VersionVaultModel.joinOver(III)I -/
theorem s194_0 {L : Nat} {b : Bool} {I : AI} {J : AJ} (x1 : Int) (x2 : Int) (x3 : Int)  : ev 194 0 [some (vr 115), some (vi x1), some (vi x2), some (vi x3), none, none] [] (hp L b I J) = ev 194 6 [some (vr 115), some (vi x1), some (vi x2), some (vi x3), some (vi 0), some (vi 0)] [] (hp L b I J) := by
  refine (e194_0 x1 x2 x3).trans ?_
  simp only [e194_1, e194_3, e194_4]
theorem s194_6 {L : Nat} {b : Bool} {I : AI} {J : AJ} (x1 : Int) (x2 : Int) (x3 : Int) (x4 : Int) (x5 : Int)  : ev 194 6 [some (vr 115), some (vi x1), some (vi x2), some (vi x3), some (vi x4), some (vi x5)] [] (hp L b I J) = if 16 ≤ (x5 : Int) then (some (vi x4, hp L b I J)) else ((evc 193 [vr 115, vi x1, vi x2, vi x3, vi x5] (hp L b I J)).bind (fun q => ev 194 22 [some (vr 115), some (vi x1), some (vi x2), some (vi x3), some (vi x4), some (vi x5)] (q.1 :: []) q.2)) := by
  refine (e194_6 x1 x2 x3 x4 x5).trans ?_
  simp only [e194_8, e194_10, e194_13, e194_14, e194_15, e194_16, e194_17, e194_19, e194_55, e194_57]
theorem s194_22 {L : Nat} {b : Bool} {I : AI} {J : AJ} (x1 : Int) (x2 : Int) (x3 : Int) (x4 : Int) (x5 : Int) (y0 : Int)  : ev 194 22 [some (vr 115), some (vi x1), some (vi x2), some (vi x3), some (vi x4), some (vi x5)] [vi y0] (hp L b I J) = if ¬ (y0 : Int) = 0 then (gd (0 ≤ (x5 : Int) ∧ (x5 : Int) < 16) (if ¬ (I 152 x5 : Int) = ((-3)) then (ev 194 46 [some (vr 115), some (vi x1), some (vi x2), some (vi x3), none, some (vi x5)] [vi 0, vi x4] (hp L b I J)) else (ev 194 46 [some (vr 115), some (vi x1), some (vi x2), some (vi x3), none, some (vi x5)] [vi 1, vi x4] (hp L b I J)))) else (some (vi ((-1)), hp L b I J)) := by
  refine (e194_22 x1 x2 x3 x4 x5 y0).trans ?_
  simp only [e194_25, e194_26, e194_27, e194_29, e194_30, e194_33, e194_35, e194_36, e194_38, e194_41, e194_42, e194_45]
theorem s194_46 {L : Nat} {b : Bool} {I : AI} {J : AJ} (x1 : Int) (x2 : Int) (x3 : Int) (x5 : Int) (y0 : Int) (y1 : Int)  : ev 194 46 [some (vr 115), some (vi x1), some (vi x2), some (vi x3), none, some (vi x5)] [vi y0, vi y1] (hp L b I J) = gd (-2147483648 ≤ (y1 + y0 : Int) ∧ (y1 + y0 : Int) ≤ 2147483647) (gd (-2147483648 ≤ (x5 + 1 : Int) ∧ (x5 + 1 : Int) ≤ 2147483647) (ev 194 6 [some (vr 115), some (vi x1), some (vi x2), some (vi x3), some (vi (y1 + y0)), some (vi (x5 + 1))] [] (hp L b I J))) := by
  refine (e194_46 x1 x2 x3 x5 y0 y1).trans ?_
  simp only [e194_47, e194_49, e194_52]
/-! 195: VersionVaultModel.newTexts()I -/
theorem s195_0 {L : Nat} {b : Bool} {I : AI} {J : AJ}   : ev 195 0 [some (vr 115), none, none, none, none] [] (hp L b I J) = ev 195 4 [some (vr 115), some (vi 0), some (vi 0), none, none] [] (hp L b I J) := by
  refine (e195_0 ).trans ?_
  simp only [e195_1, e195_2, e195_3]
theorem s195_4 {L : Nat} {b : Bool} {I : AI} {J : AJ} (x1 : Int) (x2 : Int)  : ev 195 4 [some (vr 115), some (vi x1), some (vi x2), none, none] [] (hp L b I J) = if 16 ≤ (x2 : Int) then (some (vi x1, hp L b I J)) else (gd (0 ≤ (x2 : Int) ∧ (x2 : Int) < 16) (if ¬ (I 152 x2 : Int) = ((-4)) then (ev 195 46 [some (vr 115), some (vi x1), some (vi x2), none, none] [] (hp L b I J)) else (gd (-2147483648 ≤ (24 * x2 : Int) ∧ (24 * x2 : Int) ≤ 2147483647) (gd (0 ≤ (x2 : Int) ∧ (x2 : Int) < 16) ((evc 141 [vr 115, vr 153, vi (24 * x2), vi (I 154 x2)] (hp L b I J)).bind (fun q => ev 195 39 [some (vr 115), some (vi x1), some (vi x2), none, none] (q.1 :: []) q.2)))))) := by
  refine (e195_4 x1 x2).trans ?_
  simp only [e195_5, e195_7, e195_10, e195_11, e195_14, e195_15, e195_16, e195_18, e195_21, e195_22, e195_23, e195_26, e195_28, e195_29, e195_30, e195_31, e195_34, e195_35, e195_36, e195_113, e195_114]
theorem s195_39 {L : Nat} {b : Bool} {I : AI} {J : AJ} (x1 : Int) (x2 : Int) (y0 : Int)  : ev 195 39 [some (vr 115), some (vi x1), some (vi x2), none, none] [vi y0] (hp L b I J) = if 0 ≤ (y0 : Int) then (ev 195 46 [some (vr 115), some (vi x1), some (vi x2), none, none] [] (hp L b I J)) else (ev 195 47 [some (vr 115), some (vi x1), some (vi x2), none, none] [vi 1] (hp L b I J)) := by
  refine (e195_39 x1 x2 y0).trans ?_
  simp only [e195_42, e195_43]
theorem s195_46 {L : Nat} {b : Bool} {I : AI} {J : AJ} (x1 : Int) (x2 : Int)  : ev 195 46 [some (vr 115), some (vi x1), some (vi x2), none, none] [] (hp L b I J) = ev 195 47 [some (vr 115), some (vi x1), some (vi x2), none, none] [vi 0] (hp L b I J) := by
  refine (e195_46 x1 x2).trans ?_
  rfl
theorem s195_47 {L : Nat} {b : Bool} {I : AI} {J : AJ} (x1 : Int) (x2 : Int) (y0 : Int)  : ev 195 47 [some (vr 115), some (vi x1), some (vi x2), none, none] [vi y0] (hp L b I J) = ev 195 51 [some (vr 115), some (vi x1), some (vi x2), some (vi y0), some (vi 0)] [] (hp L b I J) := by
  refine (e195_47 x1 x2 y0).trans ?_
  simp only [e195_48, e195_49]
theorem s195_51 {L : Nat} {b : Bool} {I : AI} {J : AJ} (x1 : Int) (x2 : Int) (x3 : Int) (x4 : Int)  : ev 195 51 [some (vr 115), some (vi x1), some (vi x2), some (vi x3), some (vi x4)] [] (hp L b I J) = if x2 ≤ (x4 : Int) then (ev 195 95 [some (vr 115), some (vi x1), some (vi x2), some (vi x3), none] [] (hp L b I J)) else (if (x3 : Int) = 0 then (ev 195 95 [some (vr 115), some (vi x1), some (vi x2), some (vi x3), none] [] (hp L b I J)) else (gd (0 ≤ (x4 : Int) ∧ (x4 : Int) < 16) (if ¬ (I 152 x4 : Int) = ((-4)) then (ev 195 83 [some (vr 115), some (vi x1), some (vi x2), none, some (vi x4)] [] (hp L b I J)) else ((evc 196 [vr 115, vi x4, vi x2] (hp L b I J)).bind (fun q => ev 195 80 [some (vr 115), some (vi x1), some (vi x2), none, some (vi x4)] (q.1 :: []) q.2))))) := by
  refine (e195_51 x1 x2 x3 x4).trans ?_
  simp only [e195_53, e195_54, e195_57, e195_58, e195_61, e195_62, e195_65, e195_67, e195_68, e195_70, e195_73, e195_74, e195_76, e195_77]
theorem s195_80 {L : Nat} {b : Bool} {I : AI} {J : AJ} (x1 : Int) (x2 : Int) (x4 : Int) (y0 : Int)  : ev 195 80 [some (vr 115), some (vi x1), some (vi x2), none, some (vi x4)] [vi y0] (hp L b I J) = if ¬ (y0 : Int) = 0 then (ev 195 88 [some (vr 115), some (vi x1), some (vi x2), none, some (vi x4)] [vi 0] (hp L b I J)) else (ev 195 83 [some (vr 115), some (vi x1), some (vi x2), none, some (vi x4)] [] (hp L b I J)) := by
  refine (e195_80 x1 x2 x4 y0).trans ?_
  simp only [e195_87]
theorem s195_83 {L : Nat} {b : Bool} {I : AI} {J : AJ} (x1 : Int) (x2 : Int) (x4 : Int)  : ev 195 83 [some (vr 115), some (vi x1), some (vi x2), none, some (vi x4)] [] (hp L b I J) = ev 195 88 [some (vr 115), some (vi x1), some (vi x2), none, some (vi x4)] [vi 1] (hp L b I J) := by
  refine (e195_83 x1 x2 x4).trans ?_
  simp only [e195_84]
theorem s195_88 {L : Nat} {b : Bool} {I : AI} {J : AJ} (x1 : Int) (x2 : Int) (x4 : Int) (y0 : Int)  : ev 195 88 [some (vr 115), some (vi x1), some (vi x2), none, some (vi x4)] [vi y0] (hp L b I J) = gd (-2147483648 ≤ (x4 + 1 : Int) ∧ (x4 + 1 : Int) ≤ 2147483647) (ev 195 51 [some (vr 115), some (vi x1), some (vi x2), some (vi y0), some (vi (x4 + 1))] [] (hp L b I J)) := by
  refine (e195_88 x1 x2 x4 y0).trans ?_
  simp only [e195_89, e195_92]
theorem s195_95 {L : Nat} {b : Bool} {I : AI} {J : AJ} (x1 : Int) (x2 : Int) (x3 : Int)  : ev 195 95 [some (vr 115), some (vi x1), some (vi x2), some (vi x3), none] [] (hp L b I J) = if (x3 : Int) = 0 then (ev 195 105 [some (vr 115), none, some (vi x2), none, none] [vi 0, vi x1] (hp L b I J)) else (ev 195 105 [some (vr 115), none, some (vi x2), none, none] [vi 1, vi x1] (hp L b I J)) := by
  refine (e195_95 x1 x2 x3).trans ?_
  simp only [e195_96, e195_97, e195_100, e195_101, e195_104]
theorem s195_105 {L : Nat} {b : Bool} {I : AI} {J : AJ} (x2 : Int) (y0 : Int) (y1 : Int)  : ev 195 105 [some (vr 115), none, some (vi x2), none, none] [vi y0, vi y1] (hp L b I J) = gd (-2147483648 ≤ (y1 + y0 : Int) ∧ (y1 + y0 : Int) ≤ 2147483647) (gd (-2147483648 ≤ (x2 + 1 : Int) ∧ (x2 + 1 : Int) ≤ 2147483647) (ev 195 4 [some (vr 115), some (vi (y1 + y0)), some (vi (x2 + 1)), none, none] [] (hp L b I J))) := by
  refine (e195_105 x2 y0 y1).trans ?_
  simp only [e195_106, e195_107, e195_110]
/-! 196: VersionVaultModel.isSameLines(II)Z -/
theorem s196_0 {L : Nat} {b : Bool} {I : AI} {J : AJ} (x1 : Int) (x2 : Int)  : ev 196 0 [some (vr 115), some (vi x1), some (vi x2), none, none] [] (hp L b I J) = gd (0 ≤ (x1 : Int) ∧ (x1 : Int) < 16) (gd (0 ≤ (x2 : Int) ∧ (x2 : Int) < 16) (if ¬ (I 154 x1 : Int) = (I 154 x2) then (ev 196 20 [some (vr 115), some (vi x1), some (vi x2), none, none] [vi 0] (hp L b I J)) else (ev 196 20 [some (vr 115), some (vi x1), some (vi x2), none, none] [vi 1] (hp L b I J)))) := by
  refine (e196_0 x1 x2).trans ?_
  simp only [e196_1, e196_4, e196_5, e196_6, e196_7, e196_10, e196_11, e196_12, e196_15, e196_16, e196_19]
theorem s196_20 {L : Nat} {b : Bool} {I : AI} {J : AJ} (x1 : Int) (x2 : Int) (y0 : Int)  : ev 196 20 [some (vr 115), some (vi x1), some (vi x2), none, none] [vi y0] (hp L b I J) = ev 196 24 [some (vr 115), some (vi x1), some (vi x2), some (vi y0), some (vi 0)] [] (hp L b I J) := by
  refine (e196_20 x1 x2 y0).trans ?_
  simp only [e196_21, e196_22]
theorem s196_24 {L : Nat} {b : Bool} {I : AI} {J : AJ} (x1 : Int) (x2 : Int) (x3 : Int) (x4 : Int)  : ev 196 24 [some (vr 115), some (vi x1), some (vi x2), some (vi x3), some (vi x4)] [] (hp L b I J) = gd (0 ≤ (x1 : Int) ∧ (x1 : Int) < 16) (if (I 154 x1) ≤ (x4 : Int) then (ev 196 78 [none, none, none, some (vi x3), none] [] (hp L b I J)) else (if (x3 : Int) = 0 then (ev 196 78 [none, none, none, some (vi x3), none] [] (hp L b I J)) else (gd (-2147483648 ≤ (24 * x1 : Int) ∧ (24 * x1 : Int) ≤ 2147483647) (gd (-2147483648 ≤ ((24 * x1) + x4 : Int) ∧ ((24 * x1) + x4 : Int) ≤ 2147483647) (gd (0 ≤ ((24 * x1) + x4 : Int) ∧ ((24 * x1) + x4 : Int) < 384) (gd (-2147483648 ≤ (24 * x2 : Int) ∧ (24 * x2 : Int) ≤ 2147483647) (gd (-2147483648 ≤ ((24 * x2) + x4 : Int) ∧ ((24 * x2) + x4 : Int) ≤ 2147483647) (gd (0 ≤ ((24 * x2) + x4 : Int) ∧ ((24 * x2) + x4 : Int) < 384) (if ¬ (I 153 ((24 * x1) + x4) : Int) = (I 153 ((24 * x2) + x4)) then (ev 196 71 [some (vr 115), some (vi x1), some (vi x2), none, some (vi x4)] [vi 0] (hp L b I J)) else (ev 196 71 [some (vr 115), some (vi x1), some (vi x2), none, some (vi x4)] [vi 1] (hp L b I J))))))))))) := by
  refine (e196_24 x1 x2 x3 x4).trans ?_
  simp only [e196_26, e196_27, e196_30, e196_31, e196_32, e196_35, e196_36, e196_39, e196_40, e196_43, e196_45, e196_46, e196_47, e196_49, e196_50, e196_51, e196_52, e196_55, e196_57, e196_58, e196_59, e196_61, e196_62, e196_63, e196_66, e196_67, e196_70]
theorem s196_71 {L : Nat} {b : Bool} {I : AI} {J : AJ} (x1 : Int) (x2 : Int) (x4 : Int) (y0 : Int)  : ev 196 71 [some (vr 115), some (vi x1), some (vi x2), none, some (vi x4)] [vi y0] (hp L b I J) = gd (-2147483648 ≤ (x4 + 1 : Int) ∧ (x4 + 1 : Int) ≤ 2147483647) (ev 196 24 [some (vr 115), some (vi x1), some (vi x2), some (vi y0), some (vi (x4 + 1))] [] (hp L b I J)) := by
  refine (e196_71 x1 x2 x4 y0).trans ?_
  simp only [e196_72, e196_75]
theorem s196_78 {L : Nat} {b : Bool} {I : AI} {J : AJ} (x3 : Int)  : ev 196 78 [none, none, none, some (vi x3), none] [] (hp L b I J) = gd ((x3 : Int) = 0 ∨ (x3 : Int) = 1) (some (vi x3, hp L b I J)) := by
  refine (e196_78 x3).trans ?_
  simp only [e196_79]
/-! 197: VersionVaultModel.isAnyGone(II)Z -/
theorem s197_0 {L : Nat} {b : Bool} {I : AI} {J : AJ} (x1 : Int) (x2 : Int)  : ev 197 0 [some (vr 115), some (vi x1), some (vi x2), none, none] [] (hp L b I J) = gd (0 ≤ (x1 : Int) ∧ (x1 : Int) < 80) (gd (0 ≤ (I 125 x1 : Int) ∧ (I 125 x1 : Int) < 100) (if ¬ (I 123 (I 125 x1) : Int) = 0 then (ev 197 28 [some (vr 115), none, none, none, none] [] (hp L b I J)) else (gd (0 ≤ (x2 : Int) ∧ (x2 : Int) < 80) (gd (0 ≤ (I 125 x2 : Int) ∧ (I 125 x2 : Int) < 100) (if (I 123 (I 125 x2) : Int) = 0 then (ev 197 33 [some (vr 115), none, none, none, none] [vi 0] (hp L b I J)) else (ev 197 28 [some (vr 115), none, none, none, none] [] (hp L b I J))))))) := by
  refine (e197_0 x1 x2).trans ?_
  simp only [e197_1, e197_4, e197_5, e197_8, e197_9, e197_10, e197_11, e197_14, e197_15, e197_18, e197_19, e197_22, e197_23, e197_24, e197_25, e197_32]
theorem s197_28 {L : Nat} {b : Bool} {I : AI} {J : AJ}   : ev 197 28 [some (vr 115), none, none, none, none] [] (hp L b I J) = ev 197 33 [some (vr 115), none, none, none, none] [vi 1] (hp L b I J) := by
  refine (e197_28 ).trans ?_
  simp only [e197_29]
theorem s197_33 {L : Nat} {b : Bool} {I : AI} {J : AJ} (y0 : Int)  : ev 197 33 [some (vr 115), none, none, none, none] [vi y0] (hp L b I J) = ev 197 37 [some (vr 115), none, none, some (vi y0), some (vi 0)] [] (hp L b I J) := by
  refine (e197_33 y0).trans ?_
  simp only [e197_34, e197_35]
theorem s197_37 {L : Nat} {b : Bool} {I : AI} {J : AJ} (x3 : Int) (x4 : Int)  : ev 197 37 [some (vr 115), none, none, some (vi x3), some (vi x4)] [] (hp L b I J) = if (I 115 23) ≤ (x4 : Int) then (gd ((x3 : Int) = 0 ∨ (x3 : Int) = 1) (some (vi x3, hp L b I J))) else (if ¬ (x3 : Int) = 0 then (ev 197 70 [some (vr 115), none, none, none, some (vi x4)] [] (hp L b I J)) else (gd (0 ≤ (x4 : Int) ∧ (x4 : Int) < 80) (gd (0 ≤ (I 134 x4 : Int) ∧ (I 134 x4 : Int) < 80) (gd (0 ≤ (I 125 (I 134 x4) : Int) ∧ (I 125 (I 134 x4) : Int) < 100) (if (I 123 (I 125 (I 134 x4)) : Int) = 0 then (ev 197 75 [some (vr 115), none, none, none, some (vi x4)] [vi 0] (hp L b I J)) else (ev 197 70 [some (vr 115), none, none, none, some (vi x4)] [] (hp L b I J))))))) := by
  refine (e197_37 x3 x4).trans ?_
  simp only [e197_39, e197_40, e197_43, e197_46, e197_47, e197_50, e197_51, e197_54, e197_55, e197_58, e197_59, e197_62, e197_64, e197_65, e197_66, e197_67, e197_74, e197_82, e197_83]
theorem s197_70 {L : Nat} {b : Bool} {I : AI} {J : AJ} (x4 : Int)  : ev 197 70 [some (vr 115), none, none, none, some (vi x4)] [] (hp L b I J) = ev 197 75 [some (vr 115), none, none, none, some (vi x4)] [vi 1] (hp L b I J) := by
  refine (e197_70 x4).trans ?_
  simp only [e197_71]
theorem s197_75 {L : Nat} {b : Bool} {I : AI} {J : AJ} (x4 : Int) (y0 : Int)  : ev 197 75 [some (vr 115), none, none, none, some (vi x4)] [vi y0] (hp L b I J) = gd (-2147483648 ≤ (x4 + 1 : Int) ∧ (x4 + 1 : Int) ≤ 2147483647) (ev 197 37 [some (vr 115), none, none, some (vi y0), some (vi (x4 + 1))] [] (hp L b I J)) := by
  refine (e197_75 x4 y0).trans ?_
  simp only [e197_76, e197_79]
/-! 198: VersionVaultModel.join(II)I -/
theorem s198_0 {L : Nat} {b : Bool} {I : AI} {J : AJ} (x1 : Int) (x2 : Int)  : ev 198 0 [some (vr 115), some (vi x1), some (vi x2), none, none, none, none] [] (hp L b I J) = (evc 160 [vr 115, vi x1] (hp L b I J)).bind (fun q => ev 198 5 [some (vr 115), some (vi x1), some (vi x2), none, none, none, none] (q.1 :: []) q.2) := by
  refine (e198_0 x1 x2).trans ?_
  simp only [e198_1, e198_2]
theorem s198_5 {L : Nat} {b : Bool} {I : AI} {J : AJ} (x1 : Int) (x2 : Int) (y0 : Int)  : ev 198 5 [some (vr 115), some (vi x1), some (vi x2), none, none, none, none] [vi y0] (hp L b I J) = if (y0 : Int) = 0 then (ev 198 34 [none, none, none, none, none, none, none] [] (hp L b I J)) else ((evc 160 [vr 115, vi x2] (hp L b I J)).bind (fun q => ev 198 13 [some (vr 115), some (vi x1), some (vi x2), none, none, none, none] (q.1 :: []) q.2)) := by
  refine (e198_5 x1 x2 y0).trans ?_
  simp only [e198_8, e198_9, e198_10]
theorem s198_13 {L : Nat} {b : Bool} {I : AI} {J : AJ} (x1 : Int) (x2 : Int) (y0 : Int)  : ev 198 13 [some (vr 115), some (vi x1), some (vi x2), none, none, none, none] [vi y0] (hp L b I J) = if (y0 : Int) = 0 then (ev 198 34 [none, none, none, none, none, none, none] [] (hp L b I J)) else ((evc 165 [vr 115, vi x1, vi x2] (hp L b I J)).bind (fun q => ev 198 22 [some (vr 115), some (vi x1), some (vi x2), none, none, none, none] (q.1 :: []) q.2)) := by
  refine (e198_13 x1 x2 y0).trans ?_
  simp only [e198_16, e198_17, e198_18, e198_19]
theorem s198_22 {L : Nat} {b : Bool} {I : AI} {J : AJ} (x1 : Int) (x2 : Int) (y0 : Int)  : ev 198 22 [some (vr 115), some (vi x1), some (vi x2), none, none, none, none] [vi y0] (hp L b I J) = if ¬ (y0 : Int) = 0 then (ev 198 34 [none, none, none, none, none, none, none] [] (hp L b I J)) else ((evc 165 [vr 115, vi x2, vi x1] (hp L b I J)).bind (fun q => ev 198 31 [some (vr 115), some (vi x1), some (vi x2), none, none, none, none] (q.1 :: []) q.2)) := by
  refine (e198_22 x1 x2 y0).trans ?_
  simp only [e198_25, e198_26, e198_27, e198_28]
theorem s198_31 {L : Nat} {b : Bool} {I : AI} {J : AJ} (x1 : Int) (x2 : Int) (y0 : Int)  : ev 198 31 [some (vr 115), some (vi x1), some (vi x2), none, none, none, none] [vi y0] (hp L b I J) = if (y0 : Int) = 0 then ((evc 169 [vr 115, vi x1, vi x2] (hp L b I J)).bind (fun q => ev 198 43 [some (vr 115), some (vi x1), some (vi x2), none, none, none, none] ([]) q.2)) else (ev 198 34 [none, none, none, none, none, none, none] [] (hp L b I J)) := by
  refine (e198_31 x1 x2 y0).trans ?_
  simp only [e198_37, e198_38, e198_39, e198_40]
theorem s198_34 {L : Nat} {b : Bool} {I : AI} {J : AJ}   : ev 198 34 [none, none, none, none, none, none, none] [] (hp L b I J) = some (vi ((-2)), hp L b I J) := by
  refine (e198_34 ).trans ?_
  simp only [e198_36]
theorem s198_43 {L : Nat} {b : Bool} {I : AI} {J : AJ} (x1 : Int) (x2 : Int)  : ev 198 43 [some (vr 115), some (vi x1), some (vi x2), none, none, none, none] [] (hp L b I J) = (evc 197 [vr 115, vi x1, vi x2] (hp L b I J)).bind (fun q => ev 198 49 [some (vr 115), some (vi x1), some (vi x2), none, none, none, none] (q.1 :: []) q.2) := by
  refine (e198_43 x1 x2).trans ?_
  simp only [e198_44, e198_45, e198_46]
theorem s198_49 {L : Nat} {b : Bool} {I : AI} {J : AJ} (x1 : Int) (x2 : Int) (y0 : Int)  : ev 198 49 [some (vr 115), some (vi x1), some (vi x2), none, none, none, none] [vi y0] (hp L b I J) = if (y0 : Int) = 0 then (if ¬ (I 115 23 : Int) = 0 then (ev 198 77 [some (vr 115), some (vi x1), some (vi x2), some (vi ((-1))), none, none, none] [vi 1000] (hp L b I J)) else ((evc 194 [vr 115, vi ((-1)), vi x1, vi x2] (hp L b I J)).bind (fun q => ev 198 71 [some (vr 115), some (vi x1), some (vi x2), some (vi ((-1))), none, none, none] (q.1 :: []) q.2))) else (some (vi ((-2)), hp L b I J)) := by
  refine (e198_49 x1 x2 y0).trans ?_
  simp only [e198_52, e198_54, e198_55, e198_56, e198_57, e198_58, e198_61, e198_64, e198_65, e198_66, e198_67, e198_68, e198_74]
theorem s198_71 {L : Nat} {b : Bool} {I : AI} {J : AJ} (x1 : Int) (x2 : Int) (x3 : Int) (y0 : Int)  : ev 198 71 [some (vr 115), some (vi x1), some (vi x2), some (vi x3), none, none, none] [vi y0] (hp L b I J) = ev 198 77 [some (vr 115), some (vi x1), some (vi x2), some (vi x3), none, none, none] [vi y0] (hp L b I J) := by
  refine (e198_71 x1 x2 x3 y0).trans ?_
  rfl
theorem s198_77 {L : Nat} {b : Bool} {I : AI} {J : AJ} (x1 : Int) (x2 : Int) (x3 : Int) (y0 : Int)  : ev 198 77 [some (vr 115), some (vi x1), some (vi x2), some (vi x3), none, none, none] [vi y0] (hp L b I J) = ev 198 82 [some (vr 115), some (vi x1), some (vi x2), some (vi x3), some (vi y0), some (vi 0), none] [] (hp L b I J) := by
  refine (e198_77 x1 x2 x3 y0).trans ?_
  simp only [e198_79, e198_80]
theorem s198_82 {L : Nat} {b : Bool} {I : AI} {J : AJ} (x1 : Int) (x2 : Int) (x3 : Int) (x4 : Int) (x5 : Int)  : ev 198 82 [some (vr 115), some (vi x1), some (vi x2), some (vi x3), some (vi x4), some (vi x5), none] [] (hp L b I J) = if (I 115 23) ≤ (x5 : Int) then (if 0 ≤ (x4 : Int) then ((evc 194 [vr 115, vi x3, vi x1, vi x2] (hp L b I J)).bind (fun q => ev 198 154 [some (vr 115), some (vi x1), some (vi x2), some (vi x3), none, none, none] (q.1 :: []) q.2)) else (some (vi ((-2)), hp L b I J))) else (gd (0 ≤ (x5 : Int) ∧ (x5 : Int) < 80) ((evc 194 [vr 115, vi (I 134 x5), vi x1, vi x2] (hp L b I J)).bind (fun q => ev 198 104 [some (vr 115), some (vi x1), some (vi x2), some (vi x3), some (vi x4), some (vi x5), none] (q.1 :: []) q.2))) := by
  refine (e198_82 x1 x2 x3 x4 x5).trans ?_
  simp only [e198_84, e198_85, e198_88, e198_91, e198_92, e198_93, e198_96, e198_98, e198_99, e198_100, e198_101, e198_139, e198_141, e198_144, e198_146, e198_147, e198_148, e198_149, e198_150, e198_151]
theorem s198_104 {L : Nat} {b : Bool} {I : AI} {J : AJ} (x1 : Int) (x2 : Int) (x3 : Int) (x4 : Int) (x5 : Int) (y0 : Int)  : ev 198 104 [some (vr 115), some (vi x1), some (vi x2), some (vi x3), some (vi x4), some (vi x5), none] [vi y0] (hp L b I J) = if 0 ≤ (y0 : Int) then (if x4 ≤ (y0 : Int) then (ev 198 133 [some (vr 115), some (vi x1), some (vi x2), some (vi x3), some (vi x4), some (vi x5), none] [] (hp L b I J)) else (gd (0 ≤ (x5 : Int) ∧ (x5 : Int) < 80) (ev 198 133 [some (vr 115), some (vi x1), some (vi x2), some (vi (I 134 x5)), some (vi y0), some (vi x5), none] [] (hp L b I J)))) else (some (vi ((-2)), hp L b I J)) := by
  refine (e198_104 x1 x2 x3 x4 x5 y0).trans ?_
  simp only [e198_106, e198_108, e198_111, e198_113, e198_114, e198_116, e198_118, e198_121, e198_123, e198_125, e198_126, e198_129, e198_131, e198_132]
theorem s198_133 {L : Nat} {b : Bool} {I : AI} {J : AJ} (x1 : Int) (x2 : Int) (x3 : Int) (x4 : Int) (x5 : Int)  : ev 198 133 [some (vr 115), some (vi x1), some (vi x2), some (vi x3), some (vi x4), some (vi x5), none] [] (hp L b I J) = gd (-2147483648 ≤ (x5 + 1 : Int) ∧ (x5 + 1 : Int) ≤ 2147483647) (ev 198 82 [some (vr 115), some (vi x1), some (vi x2), some (vi x3), some (vi x4), some (vi (x5 + 1)), none] [] (hp L b I J)) := by
  refine (e198_133 x1 x2 x3 x4 x5).trans ?_
  simp only [e198_136]
theorem s198_154 {L : Nat} {b : Bool} {I : AI} {J : AJ} (x1 : Int) (x2 : Int) (x3 : Int) (y0 : Int)  : ev 198 154 [some (vr 115), some (vi x1), some (vi x2), some (vi x3), none, none, none] [vi y0] (hp L b I J) = (evc 195 [vr 115] (hp L b I J)).bind (fun q => ev 198 164 [some (vr 115), some (vi x1), some (vi x2), some (vi x3), none, some (vi y0), none] (q.1 :: [vi (I 115 5)]) q.2) := by
  refine (e198_154 x1 x2 x3 y0).trans ?_
  simp only [e198_156, e198_157, e198_160, e198_161]
theorem s198_164 {L : Nat} {b : Bool} {I : AI} {J : AJ} (x1 : Int) (x2 : Int) (x3 : Int) (x5 : Int) (y0 : Int) (y1 : Int)  : ev 198 164 [some (vr 115), some (vi x1), some (vi x2), some (vi x3), none, some (vi x5), none] [vi y0, vi y1] (hp L b I J) = gd (-2147483648 ≤ (y1 + y0 : Int) ∧ (y1 + y0 : Int) ≤ 2147483647) (if (y1 + y0 : Int) ≤ 120 then (gd ((1 : Int) = 0 ∨ (1 : Int) = 1) (ev 198 196 [some (vr 115), none, none, none, none, some (vi x5), some (vi 0)] [] (hp L b (upI (upI (upI (upI I 115 52 1) 115 54 x3) 115 55 x1) 115 56 x2) J))) else (some (vi ((-2)), hp L b I J))) := by
  refine (e198_164 x1 x2 x3 x5 y0 y1).trans ?_
  simp only [e198_165, e198_167, e198_170, e198_172, e198_173, e198_174, e198_175, e198_178, e198_179, e198_180, e198_183, e198_184, e198_185, e198_188, e198_189, e198_190, e198_193, e198_194]
theorem s198_196 {L : Nat} {b : Bool} {I : AI} {J : AJ} (x5 : Int) (x6 : Int)  : ev 198 196 [some (vr 115), none, none, none, none, some (vi x5), some (vi x6)] [] (hp L b I J) = if 16 ≤ (x6 : Int) then (some (vi x5, hp L b I J)) else (gd (0 ≤ (x6 : Int) ∧ (x6 : Int) < 16) (if ¬ (I 152 x6 : Int) = ((-4)) then (gd (0 ≤ (x6 : Int) ∧ (x6 : Int) < 16) (ev 198 251 [some (vr 115), none, none, none, none, some (vi x5), some (vi x6)] [vi (I 152 x6), vi x6, vr 155] (hp L b I J))) else (gd (-2147483648 ≤ (24 * x6 : Int) ∧ (24 * x6 : Int) ≤ 2147483647) (gd (0 ≤ (x6 : Int) ∧ (x6 : Int) < 16) ((evc 142 [vr 115, vr 153, vi (24 * x6), vi (I 154 x6)] (hp L b I J)).bind (fun q => ev 198 241 [some (vr 115), none, none, none, none, some (vi x5), some (vi x6)] (q.1 :: [vi x6, vr 155]) q.2)))))) := by
  refine (e198_196 x5 x6).trans ?_
  simp only [e198_198, e198_200, e198_203, e198_204, e198_207, e198_209, e198_210, e198_213, e198_215, e198_216, e198_218, e198_221, e198_222, e198_223, e198_226, e198_228, e198_230, e198_231, e198_232, e198_235, e198_237, e198_238, e198_244, e198_245, e198_248, e198_250, e198_258, e198_260]
theorem s198_241 {L : Nat} {b : Bool} {I : AI} {J : AJ} (x5 : Int) (x6 : Int) (y0 : Int) (y1 : Int)  : ev 198 241 [some (vr 115), none, none, none, none, some (vi x5), some (vi x6)] [vi y0, vi y1, vr 155] (hp L b I J) = ev 198 251 [some (vr 115), none, none, none, none, some (vi x5), some (vi x6)] [vi y0, vi y1, vr 155] (hp L b I J) := by
  refine (e198_241 x5 x6 y0 y1).trans ?_
  rfl
theorem s198_251 {L : Nat} {b : Bool} {I : AI} {J : AJ} (x5 : Int) (x6 : Int) (y0 : Int) (y1 : Int)  : ev 198 251 [some (vr 115), none, none, none, none, some (vi x5), some (vi x6)] [vi y0, vi y1, vr 155] (hp L b I J) = gd (0 ≤ (y1 : Int) ∧ (y1 : Int) < 16) (gd (-2147483648 ≤ (x6 + 1 : Int) ∧ (x6 + 1 : Int) ≤ 2147483647) (ev 198 196 [some (vr 115), none, none, none, none, some (vi x5), some (vi (x6 + 1))] [] (hp L b (upI I 155 y1 y0) J))) := by
  refine (e198_251 x5 x6 y0 y1).trans ?_
  simp only [e198_252, e198_255]
/-! 199: VersionVaultModel.clashes()I -/
theorem s199_0 {L : Nat} {b : Bool} {I : AI} {J : AJ}   : ev 199 0 [some (vr 115), none, none] [] (hp L b I J) = ev 199 4 [some (vr 115), some (vi 0), some (vi 0)] [] (hp L b I J) := by
  refine (e199_0 ).trans ?_
  simp only [e199_1, e199_2, e199_3]
theorem s199_4 {L : Nat} {b : Bool} {I : AI} {J : AJ} (x1 : Int) (x2 : Int)  : ev 199 4 [some (vr 115), some (vi x1), some (vi x2)] [] (hp L b I J) = if 16 ≤ (x2 : Int) then (some (vi x1, hp L b I J)) else (gd (0 ≤ (x2 : Int) ∧ (x2 : Int) < 16) (if ¬ (I 155 x2 : Int) = ((-3)) then (ev 199 27 [some (vr 115), none, some (vi x2)] [vi 0, vi x1] (hp L b I J)) else (ev 199 27 [some (vr 115), none, some (vi x2)] [vi 1, vi x1] (hp L b I J)))) := by
  refine (e199_4 x1 x2).trans ?_
  simp only [e199_5, e199_7, e199_10, e199_11, e199_12, e199_15, e199_16, e199_17, e199_19, e199_22, e199_23, e199_26, e199_35, e199_36]
theorem s199_27 {L : Nat} {b : Bool} {I : AI} {J : AJ} (x2 : Int) (y0 : Int) (y1 : Int)  : ev 199 27 [some (vr 115), none, some (vi x2)] [vi y0, vi y1] (hp L b I J) = gd (-2147483648 ≤ (y1 + y0 : Int) ∧ (y1 + y0 : Int) ≤ 2147483647) (gd (-2147483648 ≤ (x2 + 1 : Int) ∧ (x2 + 1 : Int) ≤ 2147483647) (ev 199 4 [some (vr 115), some (vi (y1 + y0)), some (vi (x2 + 1))] [] (hp L b I J))) := by
  refine (e199_27 x2 y0 y1).trans ?_
  simp only [e199_28, e199_29, e199_32]
/-! 200: VersionVaultModel.joining(I)I -/
theorem s200_0 {L : Nat} {b : Bool} {I : AI} {J : AJ} (x1 : Int)  : ev 200 0 [some (vr 115), some (vi x1), none, none] [] (hp L b I J) = if (I 115 52 : Int) = 0 then (ev 200 16 [none, none, none, none] [] (hp L b I J)) else (if (x1 : Int) < 0 then (ev 200 16 [none, none, none, none] [] (hp L b I J)) else (if (x1 : Int) ≤ 2 then (if 2 ≤ (x1 : Int) then (ev 200 45 [some (vr 115), none, some (vi ((-1))), some (vi 15)] [] (hp L b I J)) else (if ¬ (x1 : Int) = 0 then ((evc 199 [vr 115] (hp L b I J)).bind (fun q => ev 200 39 [some (vr 115), none, none, none] (q.1 :: []) q.2)) else (ev 200 39 [some (vr 115), none, none, none] [vi (I 115 54)] (hp L b I J)))) else (ev 200 16 [none, none, none, none] [] (hp L b I J)))) := by
  refine (e200_0 x1).trans ?_
  simp only [e200_1, e200_4, e200_7, e200_8, e200_11, e200_12, e200_13, e200_19, e200_20, e200_21, e200_24, e200_25, e200_28, e200_29, e200_32, e200_35, e200_36, e200_40, e200_41, e200_42, e200_44]
theorem s200_16 {L : Nat} {b : Bool} {I : AI} {J : AJ}   : ev 200 16 [none, none, none, none] [] (hp L b I J) = some (vi ((-2)), hp L b I J) := by
  refine (e200_16 ).trans ?_
  simp only [e200_18]
theorem s200_39 {L : Nat} {b : Bool} {I : AI} {J : AJ} (y0 : Int)  : ev 200 39 [some (vr 115), none, none, none] [vi y0] (hp L b I J) = some (vi y0, hp L b I J) := by
  refine (e200_39 y0).trans ?_
  rfl
theorem s200_45 {L : Nat} {b : Bool} {I : AI} {J : AJ} (x2 : Int) (x3 : Int)  : ev 200 45 [some (vr 115), none, some (vi x2), some (vi x3)] [] (hp L b I J) = if (x3 : Int) < 0 then (some (vi x2, hp L b I J)) else (gd (0 ≤ (x3 : Int) ∧ (x3 : Int) < 16) (if ¬ (I 155 x3 : Int) = ((-3)) then (ev 200 65 [some (vr 115), none, none, some (vi x3)] [vi x2] (hp L b I J)) else (ev 200 65 [some (vr 115), none, none, some (vi x3)] [vi x3] (hp L b I J)))) := by
  refine (e200_45 x2 x3).trans ?_
  simp only [e200_46, e200_49, e200_50, e200_53, e200_54, e200_55, e200_57, e200_60, e200_61, e200_64, e200_72, e200_73]
theorem s200_65 {L : Nat} {b : Bool} {I : AI} {J : AJ} (x3 : Int) (y0 : Int)  : ev 200 65 [some (vr 115), none, none, some (vi x3)] [vi y0] (hp L b I J) = gd (-2147483648 ≤ (x3 + (-1) : Int) ∧ (x3 + (-1) : Int) ≤ 2147483647) (ev 200 45 [some (vr 115), none, some (vi y0), some (vi (x3 + (-1)))] [] (hp L b I J)) := by
  refine (e200_65 x3 y0).trans ?_
  simp only [e200_66, e200_69]
/-! 201: VersionVaultModel.becomes(I)I -/
theorem s201_0 {L : Nat} {b : Bool} {I : AI} {J : AJ} (x1 : Int)  : ev 201 0 [some (vr 115), some (vi x1)] [] (hp L b I J) = if (I 115 52 : Int) = 0 then (ev 201 23 [none, none] [] (hp L b I J)) else ((evc 149 [vi x1] (hp L b I J)).bind (fun q => ev 201 11 [some (vr 115), some (vi x1)] (q.1 :: []) q.2)) := by
  refine (e201_0 x1).trans ?_
  simp only [e201_1, e201_4, e201_7, e201_8]
theorem s201_11 {L : Nat} {b : Bool} {I : AI} {J : AJ} (x1 : Int) (y0 : Int)  : ev 201 11 [some (vr 115), some (vi x1)] [vi y0] (hp L b I J) = if (y0 : Int) = 0 then (ev 201 23 [none, none] [] (hp L b I J)) else (gd (0 ≤ (x1 : Int) ∧ (x1 : Int) < 16) (some (vi (I 155 x1), hp L b I J))) := by
  refine (e201_11 x1 y0).trans ?_
  simp only [e201_14, e201_15, e201_18, e201_19, e201_20, e201_25]
theorem s201_23 {L : Nat} {b : Bool} {I : AI} {J : AJ}   : ev 201 23 [none, none] [] (hp L b I J) = some (vi ((-2)), hp L b I J) := by
  refine (e201_23 ).trans ?_
  simp only [e201_25]
/-! 202: VersionVaultModel.mend(II)I -/
theorem s202_0 {L : Nat} {b : Bool} {I : AI} {J : AJ} (x1 : Int) (x2 : Int)  : ev 202 0 [some (vr 115), some (vi x1), some (vi x2), none] [] (hp L b I J) = if (I 115 52 : Int) = 0 then (ev 202 27 [none, none, none, none] [] (hp L b I J)) else ((evc 149 [vi x1] (hp L b I J)).bind (fun q => ev 202 11 [some (vr 115), some (vi x1), some (vi x2), none] (q.1 :: []) q.2)) := by
  refine (e202_0 x1 x2).trans ?_
  simp only [e202_1, e202_4, e202_7, e202_8]
theorem s202_11 {L : Nat} {b : Bool} {I : AI} {J : AJ} (x1 : Int) (x2 : Int) (y0 : Int)  : ev 202 11 [some (vr 115), some (vi x1), some (vi x2), none] [vi y0] (hp L b I J) = if (y0 : Int) = 0 then (ev 202 27 [none, none, none, none] [] (hp L b I J)) else (if (x2 : Int) = ((-1)) then (ev 202 30 [some (vr 115), some (vi x1), some (vi x2), none] [] (hp L b I J)) else ((evc 135 [vr 115, vi x2] (hp L b I J)).bind (fun q => ev 202 24 [some (vr 115), some (vi x1), some (vi x2), none] (q.1 :: []) q.2))) := by
  refine (e202_11 x1 x2 y0).trans ?_
  simp only [e202_14, e202_15, e202_16, e202_19, e202_20, e202_21]
theorem s202_24 {L : Nat} {b : Bool} {I : AI} {J : AJ} (x1 : Int) (x2 : Int) (y0 : Int)  : ev 202 24 [some (vr 115), some (vi x1), some (vi x2), none] [vi y0] (hp L b I J) = if ¬ (y0 : Int) = 0 then (ev 202 30 [some (vr 115), some (vi x1), some (vi x2), none] [] (hp L b I J)) else (ev 202 27 [none, none, none, none] [] (hp L b I J)) := by
  refine (e202_24 x1 x2 y0).trans ?_
  rfl
theorem s202_27 {L : Nat} {b : Bool} {I : AI} {J : AJ}   : ev 202 27 [none, none, none, none] [] (hp L b I J) = some (vi ((-2)), hp L b I J) := by
  refine (e202_27 ).trans ?_
  simp only [e202_29]
theorem s202_30 {L : Nat} {b : Bool} {I : AI} {J : AJ} (x1 : Int) (x2 : Int)  : ev 202 30 [some (vr 115), some (vi x1), some (vi x2), none] [] (hp L b I J) = gd (0 ≤ (x1 : Int) ∧ (x1 : Int) < 16) (gd (0 ≤ (x1 : Int) ∧ (x1 : Int) < 16) (some (vi (I 155 x1), hp L b (upI I 155 x1 x2) J))) := by
  refine (e202_30 x1 x2).trans ?_
  simp only [e202_31, e202_34, e202_35, e202_36, e202_37, e202_38, e202_41, e202_42, e202_43, e202_44, e202_45]
/-! 203: VersionVaultModel.joined()I -/
theorem s203_0 {L : Nat} {b : Bool} {I : AI} {J : AJ}   : ev 203 0 [some (vr 115), none] [] (hp L b I J) = if (I 115 52 : Int) = 0 then (ev 203 23 [none, none] [] (hp L b I J)) else ((evc 199 [vr 115] (hp L b I J)).bind (fun q => ev 203 11 [some (vr 115), none] (q.1 :: []) q.2)) := by
  refine (e203_0 ).trans ?_
  simp only [e203_1, e203_4, e203_7, e203_8]
theorem s203_11 {L : Nat} {b : Bool} {I : AI} {J : AJ} (y0 : Int)  : ev 203 11 [some (vr 115), none] [vi y0] (hp L b I J) = if 0 < (y0 : Int) then (ev 203 23 [none, none] [] (hp L b I J)) else (if ¬ (I 115 16 : Int) = 80 then ((evc 157 [vr 115, vr 155] (hp L b I J)).bind (fun q => ev 203 34 [some (vr 115), none] (q.1 :: []) q.2)) else (ev 203 23 [none, none] [] (hp L b I J))) := by
  refine (e203_11 y0).trans ?_
  simp only [e203_14, e203_15, e203_18, e203_20, e203_26, e203_27, e203_28, e203_31]
theorem s203_23 {L : Nat} {b : Bool} {I : AI} {J : AJ}   : ev 203 23 [none, none] [] (hp L b I J) = some (vi ((-2)), hp L b I J) := by
  refine (e203_23 ).trans ?_
  simp only [e203_25]
theorem s203_34 {L : Nat} {b : Bool} {I : AI} {J : AJ} (y0 : Int)  : ev 203 34 [some (vr 115), none] [vi y0] (hp L b I J) = if 0 ≤ (y0 : Int) then (gd ((0 : Int) = 0 ∨ (0 : Int) = 1) ((evc 161 [vr 115, vi y0, vi ((upI I 115 52 0) 115 55), vi ((upI I 115 52 0) 115 56)] (hp L b (upI I 115 52 0) J)).bind (fun q => ev 203 60 [some (vr 115), some (vi y0)] (q.1 :: []) q.2))) else (some (vi ((-2)), hp L b I J)) := by
  refine (e203_34 y0).trans ?_
  simp only [e203_35, e203_36, e203_39, e203_41, e203_42, e203_43, e203_44, e203_47, e203_48, e203_49, e203_50, e203_53, e203_54, e203_57]
theorem s203_60 {L : Nat} {b : Bool} {I : AI} {J : AJ} (x1 : Int) (y0 : Int)  : ev 203 60 [some (vr 115), some (vi x1)] [vi y0] (hp L b I J) = some (vi y0, hp L b I J) := by
  refine (e203_60 x1 y0).trans ?_
  rfl
/-! 204: VersionVaultModel.blame(III)I -/
theorem s204_0 {L : Nat} {b : Bool} {I : AI} {J : AJ} (x1 : Int) (x2 : Int) (x3 : Int)  : ev 204 0 [some (vr 115), some (vi x1), some (vi x2), some (vi x3), none, none, none, none, none, none] [] (hp L b I J) = (evc 160 [vr 115, vi x1] (hp L b I J)).bind (fun q => ev 204 5 [some (vr 115), some (vi x1), some (vi x2), some (vi x3), none, none, none, none, none, none] (q.1 :: []) q.2) := by
  refine (e204_0 x1 x2 x3).trans ?_
  simp only [e204_1, e204_2]
theorem s204_5 {L : Nat} {b : Bool} {I : AI} {J : AJ} (x1 : Int) (x2 : Int) (x3 : Int) (y0 : Int)  : ev 204 5 [some (vr 115), some (vi x1), some (vi x2), some (vi x3), none, none, none, none, none, none] [vi y0] (hp L b I J) = if (y0 : Int) = 0 then (ev 204 29 [none, none, none, none, none, none, none, none, none, none] [] (hp L b I J)) else ((evc 149 [vi x2] (hp L b I J)).bind (fun q => ev 204 12 [some (vr 115), some (vi x1), some (vi x2), some (vi x3), none, none, none, none, none, none] (q.1 :: []) q.2)) := by
  refine (e204_5 x1 x2 x3 y0).trans ?_
  simp only [e204_8, e204_9]
theorem s204_12 {L : Nat} {b : Bool} {I : AI} {J : AJ} (x1 : Int) (x2 : Int) (x3 : Int) (y0 : Int)  : ev 204 12 [some (vr 115), some (vi x1), some (vi x2), some (vi x3), none, none, none, none, none, none] [vi y0] (hp L b I J) = if (y0 : Int) = 0 then (ev 204 29 [none, none, none, none, none, none, none, none, none, none] [] (hp L b I J)) else (gd (0 ≤ (x1 : Int) ∧ (x1 : Int) < 80) (gd (0 ≤ (I 125 x1 : Int) ∧ (I 125 x1 : Int) < 100) (if (I 123 (I 125 x1) : Int) = 0 then ((evc 192 [vr 115, vi x1, vi x2] (hp L b I J)).bind (fun q => ev 204 38 [some (vr 115), some (vi x1), some (vi x2), some (vi x3), none, none, none, none, none, none] (q.1 :: []) q.2)) else (ev 204 29 [none, none, none, none, none, none, none, none, none, none] [] (hp L b I J))))) := by
  refine (e204_12 x1 x2 x3 y0).trans ?_
  simp only [e204_15, e204_16, e204_19, e204_20, e204_23, e204_24, e204_25, e204_26, e204_32, e204_33, e204_34, e204_35]
theorem s204_29 {L : Nat} {b : Bool} {I : AI} {J : AJ}   : ev 204 29 [none, none, none, none, none, none, none, none, none, none] [] (hp L b I J) = some (vi ((-2)), hp L b I J) := by
  refine (e204_29 ).trans ?_
  simp only [e204_31]
theorem s204_38 {L : Nat} {b : Bool} {I : AI} {J : AJ} (x1 : Int) (x2 : Int) (x3 : Int) (y0 : Int)  : ev 204 38 [some (vr 115), some (vi x1), some (vi x2), some (vi x3), none, none, none, none, none, none] [vi y0] (hp L b I J) = if 0 ≤ (y0 : Int) then ((evc 137 [vr 115, vi y0] (hp L b I J)).bind (fun q => ev 204 53 [some (vr 115), some (vi x1), some (vi x2), some (vi x3), some (vi y0), none, none, none, none, none] (q.1 :: []) q.2)) else (some (vi ((-1)), hp L b I J)) := by
  refine (e204_38 x1 x2 x3 y0).trans ?_
  simp only [e204_40, e204_42, e204_45, e204_46, e204_47, e204_48, e204_50]
theorem s204_53 {L : Nat} {b : Bool} {I : AI} {J : AJ} (x1 : Int) (x2 : Int) (x3 : Int) (x4 : Int) (y0 : Int)  : ev 204 53 [some (vr 115), some (vi x1), some (vi x2), some (vi x3), some (vi x4), none, none, none, none, none] [vi y0] (hp L b I J) = if ¬ (y0 : Int) = 0 then (if (x3 : Int) < 0 then (ev 204 74 [none, none, none, none, none, none, none, none, none, none] [] (hp L b I J)) else (gd (0 ≤ (x4 : Int) ∧ (x4 : Int) < 120) (if (x3 : Int) < (I 117 x4) then (ev 204 82 [some (vr 115), none, some (vi x2), none, none, some (vi x1), some (vi x3), none, none, none] [] (hp L b I J)) else (ev 204 74 [none, none, none, none, none, none, none, none, none, none] [] (hp L b I J))))) else (some (vi ((-2)), hp L b I J)) := by
  refine (e204_53 x1 x2 x3 x4 y0).trans ?_
  simp only [e204_56, e204_58, e204_59, e204_60, e204_63, e204_64, e204_65, e204_68, e204_70, e204_71, e204_76, e204_77, e204_79, e204_80]
theorem s204_74 {L : Nat} {b : Bool} {I : AI} {J : AJ}   : ev 204 74 [none, none, none, none, none, none, none, none, none, none] [] (hp L b I J) = some (vi ((-1)), hp L b I J) := by
  refine (e204_74 ).trans ?_
  simp only [e204_75]
theorem s204_82 {L : Nat} {b : Bool} {I : AI} {J : AJ} (x2 : Int) (x5 : Int) (x6 : Int)  : ev 204 82 [some (vr 115), none, some (vi x2), none, none, some (vi x5), some (vi x6), none, none, none] [] (hp L b I J) = gd (0 ≤ (x5 : Int) ∧ (x5 : Int) < 80) (if (I 126 x5 : Int) < 0 then (some (vi x5, hp L b I J)) else (gd (0 ≤ (x5 : Int) ∧ (x5 : Int) < 80) (gd (0 ≤ (I 126 x5 : Int) ∧ (I 126 x5 : Int) < 80) (gd (0 ≤ (I 125 (I 126 x5) : Int) ∧ (I 125 (I 126 x5) : Int) < 100) (if (I 123 (I 125 (I 126 x5)) : Int) = 0 then ((evc 192 [vr 115, vi (I 126 x5), vi x2] (hp L b I J)).bind (fun q => ev 204 126 [some (vr 115), none, some (vi x2), none, none, some (vi x5), some (vi x6), some (vi (I 126 x5)), none, none] (q.1 :: []) q.2)) else (some (vi ((-2)), hp L b I J))))))) := by
  refine (e204_82 x2 x5 x6).trans ?_
  simp only [e204_83, e204_86, e204_88, e204_89, e204_92, e204_93, e204_96, e204_98, e204_99, e204_101, e204_102, e204_105, e204_106, e204_109, e204_111, e204_112, e204_113, e204_116, e204_118, e204_119, e204_120, e204_122, e204_123, e204_190, e204_192]
theorem s204_126 {L : Nat} {b : Bool} {I : AI} {J : AJ} (x2 : Int) (x5 : Int) (x6 : Int) (x7 : Int) (y0 : Int)  : ev 204 126 [some (vr 115), none, some (vi x2), none, none, some (vi x5), some (vi x6), some (vi x7), none, none] [vi y0] (hp L b I J) = if (y0 : Int) < 0 then (ev 204 145 [some (vr 115), none, some (vi x2), none, none, some (vi x5), some (vi x6), some (vi x7), some (vi y0), none] [] (hp L b I J)) else ((evc 137 [vr 115, vi y0] (hp L b I J)).bind (fun q => ev 204 139 [some (vr 115), none, some (vi x2), none, none, some (vi x5), some (vi x6), some (vi x7), some (vi y0), none] (q.1 :: []) q.2)) := by
  refine (e204_126 x2 x5 x6 x7 y0).trans ?_
  simp only [e204_128, e204_130, e204_133, e204_134, e204_136]
theorem s204_139 {L : Nat} {b : Bool} {I : AI} {J : AJ} (x2 : Int) (x5 : Int) (x6 : Int) (x7 : Int) (x8 : Int) (y0 : Int)  : ev 204 139 [some (vr 115), none, some (vi x2), none, none, some (vi x5), some (vi x6), some (vi x7), some (vi x8), none] [vi y0] (hp L b I J) = if ¬ (y0 : Int) = 0 then (ev 204 145 [some (vr 115), none, some (vi x2), none, none, some (vi x5), some (vi x6), some (vi x7), some (vi x8), none] [] (hp L b I J)) else (some (vi ((-2)), hp L b I J)) := by
  refine (e204_139 x2 x5 x6 x7 x8 y0).trans ?_
  simp only [e204_142, e204_144]
theorem s204_145 {L : Nat} {b : Bool} {I : AI} {J : AJ} (x2 : Int) (x5 : Int) (x6 : Int) (x7 : Int) (x8 : Int)  : ev 204 145 [some (vr 115), none, some (vi x2), none, none, some (vi x5), some (vi x6), some (vi x7), some (vi x8), none] [] (hp L b I J) = if 0 ≤ (x8 : Int) then ((evc 192 [vr 115, vi x5, vi x2] (hp L b I J)).bind (fun q => ev 204 164 [some (vr 115), none, some (vi x2), none, none, some (vi x5), some (vi x6), some (vi x7), none, none] (q.1 :: [vi x8, vr 115]) q.2)) else (ev 204 169 [some (vr 115), none, some (vi x2), none, none, some (vi x5), none, some (vi x7), none, none] [vi ((-1))] (hp L b I J)) := by
  refine (e204_145 x2 x5 x6 x7 x8).trans ?_
  simp only [e204_147, e204_150, e204_151, e204_154, e204_155, e204_157, e204_158, e204_160, e204_161]
theorem s204_164 {L : Nat} {b : Bool} {I : AI} {J : AJ} (x2 : Int) (x5 : Int) (x6 : Int) (x7 : Int) (y0 : Int) (y1 : Int)  : ev 204 164 [some (vr 115), none, some (vi x2), none, none, some (vi x5), some (vi x6), some (vi x7), none, none] [vi y0, vi y1, vr 115] (hp L b I J) = (evc 205 [vr 115, vi y1, vi y0, vi x6] (hp L b I J)).bind (fun q => ev 204 169 [some (vr 115), none, some (vi x2), none, none, some (vi x5), none, some (vi x7), none, none] (q.1 :: []) q.2) := by
  refine (e204_164 x2 x5 x6 x7 y0 y1).trans ?_
  simp only [e204_166]
theorem s204_169 {L : Nat} {b : Bool} {I : AI} {J : AJ} (x2 : Int) (x5 : Int) (x7 : Int) (y0 : Int)  : ev 204 169 [some (vr 115), none, some (vi x2), none, none, some (vi x5), none, some (vi x7), none, none] [vi y0] (hp L b I J) = if 0 ≤ (y0 : Int) then (ev 204 82 [some (vr 115), none, some (vi x2), none, none, some (vi x7), some (vi y0), none, none, none] [] (hp L b I J)) else (some (vi x5, hp L b I J)) := by
  refine (e204_169 x2 x5 x7 y0).trans ?_
  simp only [e204_171, e204_173, e204_176, e204_178, e204_179, e204_181, e204_183, e204_185, e204_187]
/-! 205: VersionVaultModel.keptFrom(III)I -/
theorem s205_0 {L : Nat} {b : Bool} {I : AI} {J : AJ} (x1 : Int) (x2 : Int) (x3 : Int)  : ev 205 0 [some (vr 115), some (vi x1), some (vi x2), some (vi x3), none, none] [] (hp L b I J) = (evc 175 [vr 115, vi x1, vi x2] (hp L b I J)).bind (fun q => ev 205 6 [some (vr 115), none, none, some (vi x3), none, none] ([]) q.2) := by
  refine (e205_0 x1 x2 x3).trans ?_
  simp only [e205_1, e205_2, e205_3]
theorem s205_6 {L : Nat} {b : Bool} {I : AI} {J : AJ} (x3 : Int)  : ev 205 6 [some (vr 115), none, none, some (vi x3), none, none] [] (hp L b I J) = ev 205 12 [some (vr 115), none, none, some (vi x3), some (vi ((-1))), some (vi 0)] [] (hp L b I J) := by
  refine (e205_6 x3).trans ?_
  simp only [e205_7, e205_9, e205_10]
theorem s205_12 {L : Nat} {b : Bool} {I : AI} {J : AJ} (x3 : Int) (x4 : Int) (x5 : Int)  : ev 205 12 [some (vr 115), none, none, some (vi x3), some (vi x4), some (vi x5)] [] (hp L b I J) = if (I 115 27) ≤ (x5 : Int) then (some (vi x4, hp L b I J)) else (gd (0 ≤ (x5 : Int) ∧ (x5 : Int) < 24) (if ¬ (I 137 x5 : Int) = x3 then (ev 205 44 [some (vr 115), none, none, some (vi x3), none, some (vi x5)] [vi x4] (hp L b I J)) else (gd (0 ≤ (x5 : Int) ∧ (x5 : Int) < 24) (ev 205 44 [some (vr 115), none, none, some (vi x3), none, some (vi x5)] [vi (I 136 x5)] (hp L b I J))))) := by
  refine (e205_12 x3 x4 x5).trans ?_
  simp only [e205_14, e205_15, e205_18, e205_21, e205_22, e205_25, e205_27, e205_28, e205_29, e205_32, e205_33, e205_36, e205_38, e205_39, e205_42, e205_52, e205_54]
theorem s205_44 {L : Nat} {b : Bool} {I : AI} {J : AJ} (x3 : Int) (x5 : Int) (y0 : Int)  : ev 205 44 [some (vr 115), none, none, some (vi x3), none, some (vi x5)] [vi y0] (hp L b I J) = gd (-2147483648 ≤ (x5 + 1 : Int) ∧ (x5 + 1 : Int) ≤ 2147483647) (ev 205 12 [some (vr 115), none, none, some (vi x3), some (vi y0), some (vi (x5 + 1))] [] (hp L b I J)) := by
  refine (e205_44 x3 x5 y0).trans ?_
  simp only [e205_46, e205_49]
/-! 206: VersionVaultModel.isOld(II)Z -/
theorem s206_0 {L : Nat} {b : Bool} {I : AI} {J : AJ} (x1 : Int) (x2 : Int)  : ev 206 0 [some (vr 115), some (vi x1), some (vi x2)] [] (hp L b I J) = gd (0 ≤ (x1 : Int) ∧ (x1 : Int) < 80) ((evc 192 [vr 115, vi (I 126 x1), vi x2] (hp L b I J)).bind (fun q => ev 206 11 [some (vr 115), some (vi x1), some (vi x2)] (q.1 :: []) q.2)) := by
  refine (e206_0 x1 x2).trans ?_
  simp only [e206_1, e206_2, e206_5, e206_6, e206_7, e206_8]
theorem s206_11 {L : Nat} {b : Bool} {I : AI} {J : AJ} (x1 : Int) (x2 : Int) (y0 : Int)  : ev 206 11 [some (vr 115), some (vi x1), some (vi x2)] [vi y0] (hp L b I J) = if (y0 : Int) < 0 then (ev 206 27 [none, none, none] [] (hp L b I J)) else ((evc 192 [vr 115, vi x1, vi x2] (hp L b I J)).bind (fun q => ev 206 20 [none, none, none] (q.1 :: []) q.2)) := by
  refine (e206_11 x1 x2 y0).trans ?_
  simp only [e206_14, e206_15, e206_16, e206_17]
theorem s206_20 {L : Nat} {b : Bool} {I : AI} {J : AJ} (y0 : Int)  : ev 206 20 [none, none, none] [vi y0] (hp L b I J) = if 0 ≤ (y0 : Int) then (ev 206 27 [none, none, none] [] (hp L b I J)) else (gd ((1 : Int) = 0 ∨ (1 : Int) = 1) (some (vi 1, hp L b I J))) := by
  refine (e206_20 y0).trans ?_
  simp only [e206_23, e206_24, e206_28]
theorem s206_27 {L : Nat} {b : Bool} {I : AI} {J : AJ}   : ev 206 27 [none, none, none] [] (hp L b I J) = gd ((0 : Int) = 0 ∨ (0 : Int) = 1) (some (vi 0, hp L b I J)) := by
  refine (e206_27 ).trans ?_
  simp only [e206_28]
/-! 207: VersionVaultModel.isNew(II)Z -/
theorem s207_0 {L : Nat} {b : Bool} {I : AI} {J : AJ} (x1 : Int) (x2 : Int)  : ev 207 0 [some (vr 115), some (vi x1), some (vi x2)] [] (hp L b I J) = gd (0 ≤ (x1 : Int) ∧ (x1 : Int) < 80) ((evc 192 [vr 115, vi (I 126 x1), vi x2] (hp L b I J)).bind (fun q => ev 207 11 [some (vr 115), some (vi x1), some (vi x2)] (q.1 :: []) q.2)) := by
  refine (e207_0 x1 x2).trans ?_
  simp only [e207_1, e207_2, e207_5, e207_6, e207_7, e207_8]
theorem s207_11 {L : Nat} {b : Bool} {I : AI} {J : AJ} (x1 : Int) (x2 : Int) (y0 : Int)  : ev 207 11 [some (vr 115), some (vi x1), some (vi x2)] [vi y0] (hp L b I J) = if 0 ≤ (y0 : Int) then (ev 207 27 [none, none, none] [] (hp L b I J)) else ((evc 192 [vr 115, vi x1, vi x2] (hp L b I J)).bind (fun q => ev 207 20 [none, none, none] (q.1 :: []) q.2)) := by
  refine (e207_11 x1 x2 y0).trans ?_
  simp only [e207_14, e207_15, e207_16, e207_17]
theorem s207_20 {L : Nat} {b : Bool} {I : AI} {J : AJ} (y0 : Int)  : ev 207 20 [none, none, none] [vi y0] (hp L b I J) = if (y0 : Int) < 0 then (ev 207 27 [none, none, none] [] (hp L b I J)) else (gd ((1 : Int) = 0 ∨ (1 : Int) = 1) (some (vi 1, hp L b I J))) := by
  refine (e207_20 y0).trans ?_
  simp only [e207_23, e207_24, e207_28]
theorem s207_27 {L : Nat} {b : Bool} {I : AI} {J : AJ}   : ev 207 27 [none, none, none] [] (hp L b I J) = gd ((0 : Int) = 0 ∨ (0 : Int) = 1) (some (vi 0, hp L b I J)) := by
  refine (e207_27 ).trans ?_
  simp only [e207_28]
/-! 208: VersionVaultModel.alikeness(II)I -/
theorem s208_0 {L : Nat} {b : Bool} {I : AI} {J : AJ} (x1 : Int) (x2 : Int)  : ev 208 0 [some (vr 115), some (vi x1), some (vi x2), none] [] (hp L b I J) = (evc 175 [vr 115, vi x1, vi x2] (hp L b I J)).bind (fun q => ev 208 6 [some (vr 115), some (vi x1), some (vi x2), none] ([]) q.2) := by
  refine (e208_0 x1 x2).trans ?_
  simp only [e208_1, e208_2, e208_3]
theorem s208_6 {L : Nat} {b : Bool} {I : AI} {J : AJ} (x1 : Int) (x2 : Int)  : ev 208 6 [some (vr 115), some (vi x1), some (vi x2), none] [] (hp L b I J) = gd (0 ≤ (x1 : Int) ∧ (x1 : Int) < 120) (gd (0 ≤ (x2 : Int) ∧ (x2 : Int) < 120) (if (I 117 x1 : Int) ≤ (I 117 x2) then (gd (0 ≤ (x2 : Int) ∧ (x2 : Int) < 120) (ev 208 36 [some (vr 115), none, none, none] [vi (I 117 x2)] (hp L b I J))) else (gd (0 ≤ (x1 : Int) ∧ (x1 : Int) < 120) (ev 208 36 [some (vr 115), none, none, none] [vi (I 117 x1)] (hp L b I J))))) := by
  refine (e208_6 x1 x2).trans ?_
  simp only [e208_7, e208_10, e208_11, e208_12, e208_13, e208_16, e208_17, e208_18, e208_21, e208_22, e208_25, e208_26, e208_27, e208_30, e208_31, e208_34, e208_35]
theorem s208_36 {L : Nat} {b : Bool} {I : AI} {J : AJ} (y0 : Int)  : ev 208 36 [some (vr 115), none, none, none] [vi y0] (hp L b I J) = gd (-2147483648 ≤ (2 * (I 115 27) : Int) ∧ (2 * (I 115 27) : Int) ≤ 2147483647) (if (2 * (I 115 27) : Int) < y0 then (some (vi 0, hp L b I J)) else (some (vi (I 115 27), hp L b I J))) := by
  refine (e208_36 y0).trans ?_
  simp only [e208_37, e208_38, e208_39, e208_42, e208_43, e208_44, e208_47, e208_48, e208_51, e208_54, e208_55]
/-! 209: VersionVaultModel.renamed(II)I -/
theorem s209_0 {L : Nat} {b : Bool} {I : AI} {J : AJ} (x1 : Int) (x2 : Int)  : ev 209 0 [some (vr 115), some (vi x1), some (vi x2), none] [] (hp L b I J) = (evc 160 [vr 115, vi x1] (hp L b I J)).bind (fun q => ev 209 5 [some (vr 115), some (vi x1), some (vi x2), none] (q.1 :: []) q.2) := by
  refine (e209_0 x1 x2).trans ?_
  simp only [e209_1, e209_2]
theorem s209_5 {L : Nat} {b : Bool} {I : AI} {J : AJ} (x1 : Int) (x2 : Int) (y0 : Int)  : ev 209 5 [some (vr 115), some (vi x1), some (vi x2), none] [vi y0] (hp L b I J) = if (y0 : Int) = 0 then (ev 209 57 [none, none, none, none] [] (hp L b I J)) else ((evc 149 [vi x2] (hp L b I J)).bind (fun q => ev 209 12 [some (vr 115), some (vi x1), some (vi x2), none] (q.1 :: []) q.2)) := by
  refine (e209_5 x1 x2 y0).trans ?_
  simp only [e209_8, e209_9]
theorem s209_12 {L : Nat} {b : Bool} {I : AI} {J : AJ} (x1 : Int) (x2 : Int) (y0 : Int)  : ev 209 12 [some (vr 115), some (vi x1), some (vi x2), none] [vi y0] (hp L b I J) = if (y0 : Int) = 0 then (ev 209 57 [none, none, none, none] [] (hp L b I J)) else (gd (0 ≤ (x1 : Int) ∧ (x1 : Int) < 80) (if (I 126 x1 : Int) < 0 then (ev 209 57 [none, none, none, none] [] (hp L b I J)) else (gd (0 ≤ (x1 : Int) ∧ (x1 : Int) < 80) (gd (0 ≤ (I 125 x1 : Int) ∧ (I 125 x1 : Int) < 100) (if ¬ (I 123 (I 125 x1) : Int) = 0 then (ev 209 57 [none, none, none, none] [] (hp L b I J)) else (gd (0 ≤ (x1 : Int) ∧ (x1 : Int) < 80) (gd (0 ≤ (I 126 x1 : Int) ∧ (I 126 x1 : Int) < 80) (gd (0 ≤ (I 125 (I 126 x1) : Int) ∧ (I 125 (I 126 x1) : Int) < 100) (if (I 123 (I 125 (I 126 x1)) : Int) = 0 then (ev 209 62 [some (vr 115), some (vi x1), some (vi x2), some (vi 0)] [] (hp L b I J)) else (ev 209 57 [none, none, none, none] [] (hp L b I J))))))))))) := by
  refine (e209_12 x1 x2 y0).trans ?_
  simp only [e209_15, e209_16, e209_19, e209_20, e209_21, e209_24, e209_25, e209_28, e209_29, e209_32, e209_33, e209_34, e209_35, e209_38, e209_39, e209_42, e209_43, e209_46, e209_47, e209_50, e209_51, e209_52, e209_53, e209_54, e209_60, e209_61]
theorem s209_57 {L : Nat} {b : Bool} {I : AI} {J : AJ}   : ev 209 57 [none, none, none, none] [] (hp L b I J) = some (vi ((-2)), hp L b I J) := by
  refine (e209_57 ).trans ?_
  simp only [e209_59]
theorem s209_62 {L : Nat} {b : Bool} {I : AI} {J : AJ} (x1 : Int) (x2 : Int) (x3 : Int)  : ev 209 62 [some (vr 115), some (vi x1), some (vi x2), some (vi x3)] [] (hp L b I J) = if 16 ≤ (x3 : Int) then (ev 209 142 [some (vr 115), some (vi x1), some (vi x2), some (vi 1)] [] (hp L b I J)) else ((evc 206 [vr 115, vi x1, vi x3] (hp L b I J)).bind (fun q => ev 209 74 [some (vr 115), some (vi x1), some (vi x2), some (vi x3)] (q.1 :: []) q.2)) := by
  refine (e209_62 x1 x2 x3).trans ?_
  simp only [e209_63, e209_65, e209_68, e209_69, e209_70, e209_71, e209_140, e209_141]
theorem s209_74 {L : Nat} {b : Bool} {I : AI} {J : AJ} (x1 : Int) (x2 : Int) (x3 : Int) (y0 : Int)  : ev 209 74 [some (vr 115), some (vi x1), some (vi x2), some (vi x3)] [vi y0] (hp L b I J) = if (y0 : Int) = 0 then (ev 209 95 [some (vr 115), some (vi x1), some (vi x2), some (vi x3)] [] (hp L b I J)) else (gd (0 ≤ (x1 : Int) ∧ (x1 : Int) < 80) ((evc 192 [vr 115, vi (I 126 x1), vi x3] (hp L b I J)).bind (fun q => ev 209 89 [some (vr 115), some (vi x1), some (vi x2), some (vi x3)] (q.1 :: [vr 115]) q.2))) := by
  refine (e209_74 x1 x2 x3 y0).trans ?_
  simp only [e209_77, e209_78, e209_79, e209_80, e209_83, e209_84, e209_85, e209_86]
theorem s209_89 {L : Nat} {b : Bool} {I : AI} {J : AJ} (x1 : Int) (x2 : Int) (x3 : Int) (y0 : Int)  : ev 209 89 [some (vr 115), some (vi x1), some (vi x2), some (vi x3)] [vi y0, vr 115] (hp L b I J) = (evc 137 [vr 115, vi y0] (hp L b I J)).bind (fun q => ev 209 92 [some (vr 115), some (vi x1), some (vi x2), some (vi x3)] (q.1 :: []) q.2) := by
  refine (e209_89 x1 x2 x3 y0).trans ?_
  rfl
theorem s209_92 {L : Nat} {b : Bool} {I : AI} {J : AJ} (x1 : Int) (x2 : Int) (x3 : Int) (y0 : Int)  : ev 209 92 [some (vr 115), some (vi x1), some (vi x2), some (vi x3)] [vi y0] (hp L b I J) = if (y0 : Int) = 0 then (ev 209 117 [none, none, none, none] [] (hp L b I J)) else (ev 209 95 [some (vr 115), some (vi x1), some (vi x2), some (vi x3)] [] (hp L b I J)) := by
  refine (e209_92 x1 x2 x3 y0).trans ?_
  rfl
theorem s209_95 {L : Nat} {b : Bool} {I : AI} {J : AJ} (x1 : Int) (x2 : Int) (x3 : Int)  : ev 209 95 [some (vr 115), some (vi x1), some (vi x2), some (vi x3)] [] (hp L b I J) = (evc 207 [vr 115, vi x1, vi x3] (hp L b I J)).bind (fun q => ev 209 101 [some (vr 115), some (vi x1), some (vi x2), some (vi x3)] (q.1 :: []) q.2) := by
  refine (e209_95 x1 x2 x3).trans ?_
  simp only [e209_96, e209_97, e209_98]
theorem s209_101 {L : Nat} {b : Bool} {I : AI} {J : AJ} (x1 : Int) (x2 : Int) (x3 : Int) (y0 : Int)  : ev 209 101 [some (vr 115), some (vi x1), some (vi x2), some (vi x3)] [vi y0] (hp L b I J) = if (y0 : Int) = 0 then (ev 209 120 [some (vr 115), some (vi x1), some (vi x2), some (vi x3)] [] (hp L b I J)) else ((evc 192 [vr 115, vi x1, vi x3] (hp L b I J)).bind (fun q => ev 209 111 [some (vr 115), some (vi x1), some (vi x2), some (vi x3)] (q.1 :: [vr 115]) q.2)) := by
  refine (e209_101 x1 x2 x3 y0).trans ?_
  simp only [e209_104, e209_105, e209_106, e209_107, e209_108]
theorem s209_111 {L : Nat} {b : Bool} {I : AI} {J : AJ} (x1 : Int) (x2 : Int) (x3 : Int) (y0 : Int)  : ev 209 111 [some (vr 115), some (vi x1), some (vi x2), some (vi x3)] [vi y0, vr 115] (hp L b I J) = (evc 137 [vr 115, vi y0] (hp L b I J)).bind (fun q => ev 209 114 [some (vr 115), some (vi x1), some (vi x2), some (vi x3)] (q.1 :: []) q.2) := by
  refine (e209_111 x1 x2 x3 y0).trans ?_
  rfl
theorem s209_114 {L : Nat} {b : Bool} {I : AI} {J : AJ} (x1 : Int) (x2 : Int) (x3 : Int) (y0 : Int)  : ev 209 114 [some (vr 115), some (vi x1), some (vi x2), some (vi x3)] [vi y0] (hp L b I J) = if ¬ (y0 : Int) = 0 then (ev 209 120 [some (vr 115), some (vi x1), some (vi x2), some (vi x3)] [] (hp L b I J)) else (ev 209 117 [none, none, none, none] [] (hp L b I J)) := by
  refine (e209_114 x1 x2 x3 y0).trans ?_
  rfl
theorem s209_117 {L : Nat} {b : Bool} {I : AI} {J : AJ}   : ev 209 117 [none, none, none, none] [] (hp L b I J) = some (vi ((-2)), hp L b I J) := by
  refine (e209_117 ).trans ?_
  simp only [e209_119]
theorem s209_120 {L : Nat} {b : Bool} {I : AI} {J : AJ} (x1 : Int) (x2 : Int) (x3 : Int)  : ev 209 120 [some (vr 115), some (vi x1), some (vi x2), some (vi x3)] [] (hp L b I J) = gd (((0 : Int) = 0 ∨ (0 : Int) = 1) ∧ 0 ≤ (x3 : Int) ∧ (x3 : Int) < 16) (gd (0 ≤ (x3 : Int) ∧ (x3 : Int) < 16) (gd (-2147483648 ≤ (x3 + 1 : Int) ∧ (x3 + 1 : Int) ≤ 2147483647) (ev 209 62 [some (vr 115), some (vi x1), some (vi x2), some (vi (x3 + 1))] [] (hp L b (upI (upI I 157 x3 0) 156 x3 ((-1))) J)))) := by
  refine (e209_120 x1 x2 x3).trans ?_
  simp only [e209_121, e209_124, e209_125, e209_126, e209_127, e209_128, e209_131, e209_132, e209_133, e209_134, e209_137]
theorem s209_142 {L : Nat} {b : Bool} {I : AI} {J : AJ} (x1 : Int) (x2 : Int) (x3 : Int)  : ev 209 142 [some (vr 115), some (vi x1), some (vi x2), some (vi x3)] [] (hp L b I J) = if (x3 : Int) = 0 then (gd (0 ≤ (x2 : Int) ∧ (x2 : Int) < 16) (some (vi (I 156 x2), hp L b I J))) else ((evc 210 [vr 115, vi x1] (hp L b I J)).bind (fun q => ev 209 151 [some (vr 115), some (vi x1), some (vi x2), none] (q.1 :: []) q.2)) := by
  refine (e209_142 x1 x2 x3).trans ?_
  simp only [e209_143, e209_146, e209_147, e209_148, e209_155, e209_156, e209_159, e209_160, e209_161]
theorem s209_151 {L : Nat} {b : Bool} {I : AI} {J : AJ} (x1 : Int) (x2 : Int) (y0 : Int)  : ev 209 151 [some (vr 115), some (vi x1), some (vi x2), none] [vi y0] (hp L b I J) = ev 209 142 [some (vr 115), some (vi x1), some (vi x2), some (vi y0)] [] (hp L b I J) := by
  refine (e209_151 x1 x2 y0).trans ?_
  simp only [e209_152]
/-! 210: VersionVaultModel.nextPair(I)Z -/
theorem s210_0 {L : Nat} {b : Bool} {I : AI} {J : AJ} (x1 : Int)  : ev 210 0 [some (vr 115), some (vi x1), none, none, none, none, none, none] [] (hp L b I J) = ev 210 10 [some (vr 115), some (vi x1), some (vi 0), some (vi ((-1))), some (vi ((-1))), some (vi 0), none, none] [] (hp L b I J) := by
  refine (e210_0 x1).trans ?_
  simp only [e210_1, e210_2, e210_3, e210_4, e210_5, e210_7, e210_8]
theorem s210_10 {L : Nat} {b : Bool} {I : AI} {J : AJ} (x1 : Int) (x2 : Int) (x3 : Int) (x4 : Int) (x5 : Int)  : ev 210 10 [some (vr 115), some (vi x1), some (vi x2), some (vi x3), some (vi x4), some (vi x5), none, none] [] (hp L b I J) = if 16 ≤ (x5 : Int) then (if ¬ (x2 : Int) = 0 then (gd (((1 : Int) = 0 ∨ (1 : Int) = 1) ∧ 0 ≤ (x3 : Int) ∧ (x3 : Int) < 16) (gd (((1 : Int) = 0 ∨ (1 : Int) = 1) ∧ 0 ≤ (x4 : Int) ∧ (x4 : Int) < 16) (gd (0 ≤ (x4 : Int) ∧ (x4 : Int) < 16) (gd ((1 : Int) = 0 ∨ (1 : Int) = 1) (some (vi 1, hp L b (upI (upI (upI I 157 x3 1) 157 x4 1) 156 x4 x3) J)))))) else (gd ((0 : Int) = 0 ∨ (0 : Int) = 1) (some (vi 0, hp L b I J)))) else (ev 210 20 [some (vr 115), some (vi x1), some (vi x2), some (vi x3), some (vi x4), some (vi x5), some (vi 0), none] [] (hp L b I J)) := by
  refine (e210_10 x1 x2 x3 x4 x5).trans ?_
  simp only [e210_12, e210_14, e210_17, e210_18, e210_120, e210_121, e210_124, e210_125, e210_126, e210_127, e210_130, e210_131, e210_132, e210_133, e210_134, e210_137, e210_139, e210_140, e210_141, e210_142, e210_145, e210_147, e210_148, e210_149, e210_150]
theorem s210_20 {L : Nat} {b : Bool} {I : AI} {J : AJ} (x1 : Int) (x2 : Int) (x3 : Int) (x4 : Int) (x5 : Int) (x6 : Int)  : ev 210 20 [some (vr 115), some (vi x1), some (vi x2), some (vi x3), some (vi x4), some (vi x5), some (vi x6), none] [] (hp L b I J) = if 16 ≤ (x6 : Int) then (gd (-2147483648 ≤ (x5 + 1 : Int) ∧ (x5 + 1 : Int) ≤ 2147483647) (ev 210 10 [some (vr 115), some (vi x1), some (vi x2), some (vi x3), some (vi x4), some (vi (x5 + 1)), none, none] [] (hp L b I J))) else ((evc 206 [vr 115, vi x1, vi x5] (hp L b I J)).bind (fun q => ev 210 34 [some (vr 115), some (vi x1), some (vi x2), some (vi x3), some (vi x4), some (vi x5), some (vi x6), none] (q.1 :: []) q.2)) := by
  refine (e210_20 x1 x2 x3 x4 x5 x6).trans ?_
  simp only [e210_22, e210_24, e210_27, e210_28, e210_29, e210_31, e210_114, e210_117]
theorem s210_34 {L : Nat} {b : Bool} {I : AI} {J : AJ} (x1 : Int) (x2 : Int) (x3 : Int) (x4 : Int) (x5 : Int) (x6 : Int) (y0 : Int)  : ev 210 34 [some (vr 115), some (vi x1), some (vi x2), some (vi x3), some (vi x4), some (vi x5), some (vi x6), none] [vi y0] (hp L b I J) = if (y0 : Int) = 0 then (ev 210 108 [some (vr 115), some (vi x1), some (vi x2), some (vi x3), some (vi x4), some (vi x5), some (vi x6), none] [] (hp L b I J)) else ((evc 207 [vr 115, vi x1, vi x6] (hp L b I J)).bind (fun q => ev 210 44 [some (vr 115), some (vi x1), some (vi x2), some (vi x3), some (vi x4), some (vi x5), some (vi x6), none] (q.1 :: []) q.2)) := by
  refine (e210_34 x1 x2 x3 x4 x5 x6 y0).trans ?_
  simp only [e210_37, e210_38, e210_39, e210_41]
theorem s210_44 {L : Nat} {b : Bool} {I : AI} {J : AJ} (x1 : Int) (x2 : Int) (x3 : Int) (x4 : Int) (x5 : Int) (x6 : Int) (y0 : Int)  : ev 210 44 [some (vr 115), some (vi x1), some (vi x2), some (vi x3), some (vi x4), some (vi x5), some (vi x6), none] [vi y0] (hp L b I J) = if (y0 : Int) = 0 then (ev 210 108 [some (vr 115), some (vi x1), some (vi x2), some (vi x3), some (vi x4), some (vi x5), some (vi x6), none] [] (hp L b I J)) else (gd (0 ≤ (x5 : Int) ∧ (x5 : Int) < 16) (if ¬ (I 157 x5 : Int) = 0 then (ev 210 108 [some (vr 115), some (vi x1), some (vi x2), some (vi x3), some (vi x4), some (vi x5), some (vi x6), none] [] (hp L b I J)) else (gd (0 ≤ (x6 : Int) ∧ (x6 : Int) < 16) (if ¬ (I 157 x6 : Int) = 0 then (ev 210 108 [some (vr 115), some (vi x1), some (vi x2), some (vi x3), some (vi x4), some (vi x5), some (vi x6), none] [] (hp L b I J)) else (gd (0 ≤ (x1 : Int) ∧ (x1 : Int) < 80) ((evc 192 [vr 115, vi (I 126 x1), vi x5] (hp L b I J)).bind (fun q => ev 210 80 [some (vr 115), some (vi x1), some (vi x2), some (vi x3), some (vi x4), some (vi x5), some (vi x6), none] (q.1 :: [vr 115]) q.2))))))) := by
  refine (e210_44 x1 x2 x3 x4 x5 x6 y0).trans ?_
  simp only [e210_47, e210_48, e210_51, e210_53, e210_54, e210_57, e210_58, e210_61, e210_63, e210_64, e210_67, e210_68, e210_69, e210_70, e210_73, e210_74, e210_75, e210_77]
theorem s210_80 {L : Nat} {b : Bool} {I : AI} {J : AJ} (x1 : Int) (x2 : Int) (x3 : Int) (x4 : Int) (x5 : Int) (x6 : Int) (y0 : Int)  : ev 210 80 [some (vr 115), some (vi x1), some (vi x2), some (vi x3), some (vi x4), some (vi x5), some (vi x6), none] [vi y0, vr 115] (hp L b I J) = (evc 192 [vr 115, vi x1, vi x6] (hp L b I J)).bind (fun q => ev 210 87 [some (vr 115), some (vi x1), some (vi x2), some (vi x3), some (vi x4), some (vi x5), some (vi x6), none] (q.1 :: [vi y0, vr 115]) q.2) := by
  refine (e210_80 x1 x2 x3 x4 x5 x6 y0).trans ?_
  simp only [e210_81, e210_82, e210_84]
theorem s210_87 {L : Nat} {b : Bool} {I : AI} {J : AJ} (x1 : Int) (x2 : Int) (x3 : Int) (x4 : Int) (x5 : Int) (x6 : Int) (y0 : Int) (y1 : Int)  : ev 210 87 [some (vr 115), some (vi x1), some (vi x2), some (vi x3), some (vi x4), some (vi x5), some (vi x6), none] [vi y0, vi y1, vr 115] (hp L b I J) = (evc 208 [vr 115, vi y1, vi y0] (hp L b I J)).bind (fun q => ev 210 90 [some (vr 115), some (vi x1), some (vi x2), some (vi x3), some (vi x4), some (vi x5), some (vi x6), none] (q.1 :: []) q.2) := by
  refine (e210_87 x1 x2 x3 x4 x5 x6 y0 y1).trans ?_
  rfl
theorem s210_90 {L : Nat} {b : Bool} {I : AI} {J : AJ} (x1 : Int) (x2 : Int) (x3 : Int) (x4 : Int) (x5 : Int) (x6 : Int) (y0 : Int)  : ev 210 90 [some (vr 115), some (vi x1), some (vi x2), some (vi x3), some (vi x4), some (vi x5), some (vi x6), none] [vi y0] (hp L b I J) = if (y0 : Int) ≤ x2 then (ev 210 108 [some (vr 115), some (vi x1), some (vi x2), some (vi x3), some (vi x4), some (vi x5), some (vi x6), none] [] (hp L b I J)) else (ev 210 108 [some (vr 115), some (vi x1), some (vi y0), some (vi x5), some (vi x6), some (vi x5), some (vi x6), none] [] (hp L b I J)) := by
  refine (e210_90 x1 x2 x3 x4 x5 x6 y0).trans ?_
  simp only [e210_92, e210_94, e210_95, e210_98, e210_100, e210_101, e210_103, e210_104, e210_106]
theorem s210_108 {L : Nat} {b : Bool} {I : AI} {J : AJ} (x1 : Int) (x2 : Int) (x3 : Int) (x4 : Int) (x5 : Int) (x6 : Int)  : ev 210 108 [some (vr 115), some (vi x1), some (vi x2), some (vi x3), some (vi x4), some (vi x5), some (vi x6), none] [] (hp L b I J) = gd (-2147483648 ≤ (x6 + 1 : Int) ∧ (x6 + 1 : Int) ≤ 2147483647) (ev 210 20 [some (vr 115), some (vi x1), some (vi x2), some (vi x3), some (vi x4), some (vi x5), some (vi (x6 + 1)), none] [] (hp L b I J)) := by
  refine (e210_108 x1 x2 x3 x4 x5 x6).trans ?_
  simp only [e210_111]
/-! 211: VersionVaultModel.mark(II)I -/
theorem s211_0 {L : Nat} {b : Bool} {I : AI} {J : AJ} (x1 : Int) (x2 : Int)  : ev 211 0 [some (vr 115), some (vi x1), some (vi x2), none] [] (hp L b I J) = (evc 160 [vr 115, vi x1] (hp L b I J)).bind (fun q => ev 211 5 [some (vr 115), some (vi x1), some (vi x2), none] (q.1 :: []) q.2) := by
  refine (e211_0 x1 x2).trans ?_
  simp only [e211_1, e211_2]
theorem s211_5 {L : Nat} {b : Bool} {I : AI} {J : AJ} (x1 : Int) (x2 : Int) (y0 : Int)  : ev 211 5 [some (vr 115), some (vi x1), some (vi x2), none] [vi y0] (hp L b I J) = if (y0 : Int) = 0 then (ev 211 17 [none, none, none, none] [] (hp L b I J)) else (if (x2 : Int) < 0 then (ev 211 17 [none, none, none, none] [] (hp L b I J)) else (if (x2 : Int) ≤ 2 then (gd (0 ≤ (x1 : Int) ∧ (x1 : Int) < 80) (gd (0 ≤ (x1 : Int) ∧ (x1 : Int) < 80) (some (vi (I 128 x1), hp L b (upI I 128 x1 x2) J)))) else (ev 211 17 [none, none, none, none] [] (hp L b I J)))) := by
  refine (e211_5 x1 x2 y0).trans ?_
  simp only [e211_8, e211_9, e211_12, e211_13, e211_14, e211_20, e211_21, e211_24, e211_25, e211_26, e211_27, e211_28, e211_31, e211_32, e211_33, e211_34, e211_35]
theorem s211_17 {L : Nat} {b : Bool} {I : AI} {J : AJ}   : ev 211 17 [none, none, none, none] [] (hp L b I J) = some (vi ((-2)), hp L b I J) := by
  refine (e211_17 ).trans ?_
  simp only [e211_19]
/-! 212: VersionVaultModel.leastBad()I -/
theorem s212_0 {L : Nat} {b : Bool} {I : AI} {J : AJ}   : ev 212 0 [some (vr 115), none, none] [] (hp L b I J) = gd (-2147483648 ≤ ((I 115 16) - 1 : Int) ∧ ((I 115 16) - 1 : Int) ≤ 2147483647) (ev 212 9 [some (vr 115), some (vi ((-1))), some (vi ((I 115 16) - 1))] [] (hp L b I J)) := by
  refine (e212_0 ).trans ?_
  simp only [e212_1, e212_2, e212_3, e212_6, e212_7, e212_8]
theorem s212_9 {L : Nat} {b : Bool} {I : AI} {J : AJ} (x1 : Int) (x2 : Int)  : ev 212 9 [some (vr 115), some (vi x1), some (vi x2)] [] (hp L b I J) = if (x2 : Int) < 0 then (some (vi x1, hp L b I J)) else (gd (0 ≤ (x2 : Int) ∧ (x2 : Int) < 80) (if ¬ (I 128 x2 : Int) = 2 then (ev 212 28 [some (vr 115), none, some (vi x2)] [vi x1] (hp L b I J)) else (ev 212 28 [some (vr 115), none, some (vi x2)] [vi x2] (hp L b I J)))) := by
  refine (e212_9 x1 x2).trans ?_
  simp only [e212_10, e212_13, e212_14, e212_17, e212_18, e212_19, e212_20, e212_23, e212_24, e212_27, e212_35, e212_36]
theorem s212_28 {L : Nat} {b : Bool} {I : AI} {J : AJ} (x2 : Int) (y0 : Int)  : ev 212 28 [some (vr 115), none, some (vi x2)] [vi y0] (hp L b I J) = gd (-2147483648 ≤ (x2 + (-1) : Int) ∧ (x2 + (-1) : Int) ≤ 2147483647) (ev 212 9 [some (vr 115), some (vi y0), some (vi (x2 + (-1)))] [] (hp L b I J)) := by
  refine (e212_28 x2 y0).trans ?_
  simp only [e212_29, e212_32]
/-! 213: VersionVaultModel.findQuestion()I -/
theorem s213_0 {L : Nat} {b : Bool} {I : AI} {J : AJ}   : ev 213 0 [some (vr 115), none, none, none] [] (hp L b I J) = (evc 164 [vr 158] (hp L b I J)).bind (fun q => ev 213 7 [some (vr 115), none, none, none] ([]) q.2) := by
  refine (e213_0 ).trans ?_
  simp only [e213_1, e213_4]
theorem s213_7 {L : Nat} {b : Bool} {I : AI} {J : AJ}   : ev 213 7 [some (vr 115), none, none, none] [] (hp L b I J) = (evc 212 [vr 115] (hp L b I J)).bind (fun q => ev 213 11 [some (vr 115), none, none, none] (q.1 :: []) q.2) := by
  refine (e213_7 ).trans ?_
  simp only [e213_8]
theorem s213_11 {L : Nat} {b : Bool} {I : AI} {J : AJ} (y0 : Int)  : ev 213 11 [some (vr 115), none, none, none] [vi y0] (hp L b I J) = if 0 ≤ (y0 : Int) then ((evc 163 [vr 115, vi y0, vr 158] (hp L b I J)).bind (fun q => ev 213 27 [some (vr 115), none, none, none] ([]) q.2)) else (some (vi 0, hp L b I J)) := by
  refine (e213_11 y0).trans ?_
  simp only [e213_12, e213_13, e213_16, e213_17, e213_18, e213_19, e213_20, e213_21, e213_24]
theorem s213_27 {L : Nat} {b : Bool} {I : AI} {J : AJ}   : ev 213 27 [some (vr 115), none, none, none] [] (hp L b I J) = (evc 164 [vr 132] (hp L b I J)).bind (fun q => ev 213 34 [some (vr 115), none, none, none] ([]) q.2) := by
  refine (e213_27 ).trans ?_
  simp only [e213_28, e213_31]
theorem s213_34 {L : Nat} {b : Bool} {I : AI} {J : AJ}   : ev 213 34 [some (vr 115), none, none, none] [] (hp L b I J) = ev 213 36 [some (vr 115), none, some (vi 0), none] [] (hp L b I J) := by
  refine (e213_34 ).trans ?_
  simp only [e213_35]
theorem s213_36 {L : Nat} {b : Bool} {I : AI} {J : AJ} (x2 : Int)  : ev 213 36 [some (vr 115), none, some (vi x2), none] [] (hp L b I J) = if (I 115 16) ≤ (x2 : Int) then (ev 213 73 [some (vr 115), none, some (vi 0), some (vi 0)] [] (hp L b I J)) else (gd (0 ≤ (x2 : Int) ∧ (x2 : Int) < 80) (if ¬ (I 128 x2 : Int) = 1 then (ev 213 63 [some (vr 115), none, some (vi x2), none] [] (hp L b I J)) else ((evc 163 [vr 115, vi x2, vr 132] (hp L b I J)).bind (fun q => ev 213 63 [some (vr 115), none, some (vi x2), none] ([]) q.2)))) := by
  refine (e213_36 x2).trans ?_
  simp only [e213_37, e213_38, e213_41, e213_44, e213_45, e213_48, e213_49, e213_50, e213_51, e213_54, e213_55, e213_56, e213_57, e213_60, e213_69, e213_70, e213_71, e213_72]
theorem s213_63 {L : Nat} {b : Bool} {I : AI} {J : AJ} (x2 : Int)  : ev 213 63 [some (vr 115), none, some (vi x2), none] [] (hp L b I J) = gd (-2147483648 ≤ (x2 + 1 : Int) ∧ (x2 + 1 : Int) ≤ 2147483647) (ev 213 36 [some (vr 115), none, some (vi (x2 + 1)), none] [] (hp L b I J)) := by
  refine (e213_63 x2).trans ?_
  simp only [e213_66]
theorem s213_73 {L : Nat} {b : Bool} {I : AI} {J : AJ} (x2 : Int) (x3 : Int)  : ev 213 73 [some (vr 115), none, some (vi x2), some (vi x3)] [] (hp L b I J) = if (I 115 16) ≤ (x3 : Int) then (some (vi x2, hp L b I J)) else (gd (0 ≤ (x3 : Int) ∧ (x3 : Int) < 80) (if (I 158 x3 : Int) = 0 then (ev 213 108 [some (vr 115), none, some (vi x2), some (vi x3)] [vi x3, vr 158] (hp L b I J)) else (gd (0 ≤ (x3 : Int) ∧ (x3 : Int) < 80) (if ¬ (I 132 x3 : Int) = 0 then (ev 213 108 [some (vr 115), none, some (vi x2), some (vi x3)] [vi x3, vr 158] (hp L b I J)) else (ev 213 109 [some (vr 115), none, some (vi x2), some (vi x3)] [vi 1, vi x3, vr 158] (hp L b I J)))))) := by
  refine (e213_73 x2 x3).trans ?_
  simp only [e213_74, e213_75, e213_78, e213_81, e213_82, e213_85, e213_86, e213_87, e213_90, e213_91, e213_92, e213_95, e213_96, e213_99, e213_100, e213_101, e213_104, e213_105, e213_133, e213_134]
theorem s213_108 {L : Nat} {b : Bool} {I : AI} {J : AJ} (x2 : Int) (x3 : Int) (y0 : Int)  : ev 213 108 [some (vr 115), none, some (vi x2), some (vi x3)] [vi y0, vr 158] (hp L b I J) = ev 213 109 [some (vr 115), none, some (vi x2), some (vi x3)] [vi 0, vi y0, vr 158] (hp L b I J) := by
  refine (e213_108 x2 x3 y0).trans ?_
  rfl
theorem s213_109 {L : Nat} {b : Bool} {I : AI} {J : AJ} (x2 : Int) (x3 : Int) (y0 : Int) (y1 : Int)  : ev 213 109 [some (vr 115), none, some (vi x2), some (vi x3)] [vi y0, vi y1, vr 158] (hp L b I J) = gd (((y0 : Int) = 0 ∨ (y0 : Int) = 1) ∧ 0 ≤ (y1 : Int) ∧ (y1 : Int) < 80) (gd (0 ≤ (x3 : Int) ∧ (x3 : Int) < 80) (if ((upI I 158 y1 y0) 158 x3 : Int) = 0 then (ev 213 125 [some (vr 115), none, none, some (vi x3)] [vi 0, vi x2] (hp L b (upI I 158 y1 y0) J)) else (ev 213 125 [some (vr 115), none, none, some (vi x3)] [vi 1, vi x2] (hp L b (upI I 158 y1 y0) J)))) := by
  refine (e213_109 x2 x3 y0 y1).trans ?_
  simp only [e213_110, e213_111, e213_112, e213_115, e213_116, e213_117, e213_120, e213_121, e213_124]
theorem s213_125 {L : Nat} {b : Bool} {I : AI} {J : AJ} (x3 : Int) (y0 : Int) (y1 : Int)  : ev 213 125 [some (vr 115), none, none, some (vi x3)] [vi y0, vi y1] (hp L b I J) = gd (-2147483648 ≤ (y1 + y0 : Int) ∧ (y1 + y0 : Int) ≤ 2147483647) (gd (-2147483648 ≤ (x3 + 1 : Int) ∧ (x3 + 1 : Int) ≤ 2147483647) (ev 213 73 [some (vr 115), none, some (vi (y1 + y0)), some (vi (x3 + 1))] [] (hp L b I J))) := by
  refine (e213_125 x3 y0 y1).trans ?_
  simp only [e213_126, e213_127, e213_130]
/-! 214: VersionVaultModel.question()I -/
theorem s214_0 {L : Nat} {b : Bool} {I : AI} {J : AJ}   : ev 214 0 [some (vr 115)] [] (hp L b I J) = (evc 213 [vr 115] (hp L b I J)).bind (fun q => ev 214 4 [some (vr 115)] (q.1 :: []) q.2) := by
  refine (e214_0 ).trans ?_
  simp only [e214_1]
theorem s214_4 {L : Nat} {b : Bool} {I : AI} {J : AJ} (y0 : Int)  : ev 214 4 [some (vr 115)] [vi y0] (hp L b I J) = some (vi y0, hp L b I J) := by
  refine (e214_4 y0).trans ?_
  rfl
/-! 215: VersionVaultModel.ask()I -/
theorem s215_0 {L : Nat} {b : Bool} {I : AI} {J : AJ}   : ev 215 0 [some (vr 115), none, none, none, none, none, none, none] [] (hp L b I J) = (evc 213 [vr 115] (hp L b I J)).bind (fun q => ev 215 4 [some (vr 115), none, none, none, none, none, none, none] (q.1 :: []) q.2) := by
  refine (e215_0 ).trans ?_
  simp only [e215_1]
theorem s215_4 {L : Nat} {b : Bool} {I : AI} {J : AJ} (y0 : Int)  : ev 215 4 [some (vr 115), none, none, none, none, none, none, none] [vi y0] (hp L b I J) = if 2 ≤ (y0 : Int) then ((evc 212 [vr 115] (hp L b I J)).bind (fun q => ev 215 16 [some (vr 115), some (vi y0), none, none, none, none, none, none] (q.1 :: []) q.2)) else (some (vi ((-1)), hp L b I J)) := by
  refine (e215_4 y0).trans ?_
  simp only [e215_5, e215_6, e215_7, e215_10, e215_11, e215_12, e215_13]
theorem s215_16 {L : Nat} {b : Bool} {I : AI} {J : AJ} (x1 : Int) (y0 : Int)  : ev 215 16 [some (vr 115), some (vi x1), none, none, none, none, none, none] [vi y0] (hp L b I J) = ev 215 27 [some (vr 115), some (vi x1), some (vi y0), some (vi ((-1))), some (vi 1000), some (vi 0), none, none] [] (hp L b I J) := by
  refine (e215_16 x1 y0).trans ?_
  simp only [e215_17, e215_18, e215_19, e215_22, e215_24, e215_25]
theorem s215_27 {L : Nat} {b : Bool} {I : AI} {J : AJ} (x1 : Int) (x2 : Int) (x3 : Int) (x4 : Int) (x5 : Int)  : ev 215 27 [some (vr 115), some (vi x1), some (vi x2), some (vi x3), some (vi x4), some (vi x5), none, none] [] (hp L b I J) = if (I 115 16) ≤ (x5 : Int) then (some (vi x3, hp L b I J)) else (gd (0 ≤ (x5 : Int) ∧ (x5 : Int) < 80) (if (I 158 x5 : Int) = 0 then (ev 215 154 [some (vr 115), some (vi x1), some (vi x2), some (vi x3), some (vi x4), some (vi x5), none, none] [] (hp L b I J)) else (if (x5 : Int) = x2 then (ev 215 154 [some (vr 115), some (vi x1), some (vi x2), some (vi x3), some (vi x4), some (vi x5), none, none] [] (hp L b I J)) else ((evc 164 [vr 131] (hp L b I J)).bind (fun q => ev 215 59 [some (vr 115), some (vi x1), some (vi x2), some (vi x3), some (vi x4), some (vi x5), none, none] ([]) q.2))))) := by
  refine (e215_27 x1 x2 x3 x4 x5).trans ?_
  simp only [e215_29, e215_30, e215_33, e215_36, e215_37, e215_40, e215_42, e215_43, e215_46, e215_48, e215_49, e215_52, e215_53, e215_56, e215_160, e215_161]
theorem s215_59 {L : Nat} {b : Bool} {I : AI} {J : AJ} (x1 : Int) (x2 : Int) (x3 : Int) (x4 : Int) (x5 : Int)  : ev 215 59 [some (vr 115), some (vi x1), some (vi x2), some (vi x3), some (vi x4), some (vi x5), none, none] [] (hp L b I J) = (evc 163 [vr 115, vi x5, vr 131] (hp L b I J)).bind (fun q => ev 215 69 [some (vr 115), some (vi x1), some (vi x2), some (vi x3), some (vi x4), some (vi x5), none, none] ([]) q.2) := by
  refine (e215_59 x1 x2 x3 x4 x5).trans ?_
  simp only [e215_60, e215_62, e215_63, e215_66]
theorem s215_69 {L : Nat} {b : Bool} {I : AI} {J : AJ} (x1 : Int) (x2 : Int) (x3 : Int) (x4 : Int) (x5 : Int)  : ev 215 69 [some (vr 115), some (vi x1), some (vi x2), some (vi x3), some (vi x4), some (vi x5), none, none] [] (hp L b I J) = ev 215 75 [some (vr 115), some (vi x1), some (vi x2), some (vi x3), some (vi x4), some (vi x5), some (vi 0), some (vi 0)] [] (hp L b I J) := by
  refine (e215_69 x1 x2 x3 x4 x5).trans ?_
  simp only [e215_70, e215_72, e215_73]
theorem s215_75 {L : Nat} {b : Bool} {I : AI} {J : AJ} (x1 : Int) (x2 : Int) (x3 : Int) (x4 : Int) (x5 : Int) (x6 : Int) (x7 : Int)  : ev 215 75 [some (vr 115), some (vi x1), some (vi x2), some (vi x3), some (vi x4), some (vi x5), some (vi x6), some (vi x7)] [] (hp L b I J) = if (I 115 16) ≤ (x7 : Int) then (gd (-2147483648 ≤ (x1 - x6 : Int) ∧ (x1 - x6 : Int) ≤ 2147483647) (if (x6 : Int) ≤ (x1 - x6) then (gd (-2147483648 ≤ (x1 - x6 : Int) ∧ (x1 - x6 : Int) ≤ 2147483647) (ev 215 138 [some (vr 115), some (vi x1), some (vi x2), some (vi x3), some (vi x4), some (vi x5), none, none] [vi (x1 - x6)] (hp L b I J))) else (ev 215 138 [some (vr 115), some (vi x1), some (vi x2), some (vi x3), some (vi x4), some (vi x5), none, none] [vi x6] (hp L b I J)))) else (gd (0 ≤ (x7 : Int) ∧ (x7 : Int) < 80) (if (I 131 x7 : Int) = 0 then (ev 215 110 [some (vr 115), some (vi x1), some (vi x2), some (vi x3), some (vi x4), some (vi x5), none, some (vi x7)] [vi x6] (hp L b I J)) else (gd (0 ≤ (x7 : Int) ∧ (x7 : Int) < 80) (if (I 158 x7 : Int) = 0 then (ev 215 110 [some (vr 115), some (vi x1), some (vi x2), some (vi x3), some (vi x4), some (vi x5), none, some (vi x7)] [vi x6] (hp L b I J)) else (ev 215 111 [some (vr 115), some (vi x1), some (vi x2), some (vi x3), some (vi x4), some (vi x5), none, some (vi x7)] [vi 1, vi x6] (hp L b I J)))))) := by
  refine (e215_75 x1 x2 x3 x4 x5 x6 x7).trans ?_
  simp only [e215_77, e215_78, e215_81, e215_84, e215_86, e215_87, e215_90, e215_92, e215_93, e215_96, e215_97, e215_100, e215_102, e215_103, e215_106, e215_107, e215_120, e215_122, e215_123, e215_125, e215_126, e215_129, e215_131, e215_134, e215_135, e215_137]
theorem s215_110 {L : Nat} {b : Bool} {I : AI} {J : AJ} (x1 : Int) (x2 : Int) (x3 : Int) (x4 : Int) (x5 : Int) (x7 : Int) (y0 : Int)  : ev 215 110 [some (vr 115), some (vi x1), some (vi x2), some (vi x3), some (vi x4), some (vi x5), none, some (vi x7)] [vi y0] (hp L b I J) = ev 215 111 [some (vr 115), some (vi x1), some (vi x2), some (vi x3), some (vi x4), some (vi x5), none, some (vi x7)] [vi 0, vi y0] (hp L b I J) := by
  refine (e215_110 x1 x2 x3 x4 x5 x7 y0).trans ?_
  rfl
theorem s215_111 {L : Nat} {b : Bool} {I : AI} {J : AJ} (x1 : Int) (x2 : Int) (x3 : Int) (x4 : Int) (x5 : Int) (x7 : Int) (y0 : Int) (y1 : Int)  : ev 215 111 [some (vr 115), some (vi x1), some (vi x2), some (vi x3), some (vi x4), some (vi x5), none, some (vi x7)] [vi y0, vi y1] (hp L b I J) = gd (-2147483648 ≤ (y1 + y0 : Int) ∧ (y1 + y0 : Int) ≤ 2147483647) (gd (-2147483648 ≤ (x7 + 1 : Int) ∧ (x7 + 1 : Int) ≤ 2147483647) (ev 215 75 [some (vr 115), some (vi x1), some (vi x2), some (vi x3), some (vi x4), some (vi x5), some (vi (y1 + y0)), some (vi (x7 + 1))] [] (hp L b I J))) := by
  refine (e215_111 x1 x2 x3 x4 x5 x7 y0 y1).trans ?_
  simp only [e215_112, e215_114, e215_117]
theorem s215_138 {L : Nat} {b : Bool} {I : AI} {J : AJ} (x1 : Int) (x2 : Int) (x3 : Int) (x4 : Int) (x5 : Int) (y0 : Int)  : ev 215 138 [some (vr 115), some (vi x1), some (vi x2), some (vi x3), some (vi x4), some (vi x5), none, none] [vi y0] (hp L b I J) = if x4 ≤ (y0 : Int) then (ev 215 154 [some (vr 115), some (vi x1), some (vi x2), some (vi x3), some (vi x4), some (vi x5), none, none] [] (hp L b I J)) else (ev 215 154 [some (vr 115), some (vi x1), some (vi x2), some (vi x5), some (vi y0), some (vi x5), none, none] [] (hp L b I J)) := by
  refine (e215_138 x1 x2 x3 x4 x5 y0).trans ?_
  simp only [e215_140, e215_142, e215_144, e215_147, e215_149, e215_151, e215_153]
theorem s215_154 {L : Nat} {b : Bool} {I : AI} {J : AJ} (x1 : Int) (x2 : Int) (x3 : Int) (x4 : Int) (x5 : Int)  : ev 215 154 [some (vr 115), some (vi x1), some (vi x2), some (vi x3), some (vi x4), some (vi x5), none, none] [] (hp L b I J) = gd (-2147483648 ≤ (x5 + 1 : Int) ∧ (x5 + 1 : Int) ≤ 2147483647) (ev 215 27 [some (vr 115), some (vi x1), some (vi x2), some (vi x3), some (vi x4), some (vi (x5 + 1)), none, none] [] (hp L b I J)) := by
  refine (e215_154 x1 x2 x3 x4 x5).trans ?_
  simp only [e215_157]
/-! 216: VersionVaultModel.found()I -/
theorem s216_0 {L : Nat} {b : Bool} {I : AI} {J : AJ}   : ev 216 0 [some (vr 115), none, none, none] [] (hp L b I J) = (evc 213 [vr 115] (hp L b I J)).bind (fun q => ev 216 4 [some (vr 115), none, none, none] (q.1 :: []) q.2) := by
  refine (e216_0 ).trans ?_
  simp only [e216_1]
theorem s216_4 {L : Nat} {b : Bool} {I : AI} {J : AJ} (y0 : Int)  : ev 216 4 [some (vr 115), none, none, none] [vi y0] (hp L b I J) = ev 216 9 [some (vr 115), some (vi y0), some (vi ((-1))), some (vi 0)] [] (hp L b I J) := by
  refine (e216_4 y0).trans ?_
  simp only [e216_5, e216_6, e216_7, e216_8]
theorem s216_9 {L : Nat} {b : Bool} {I : AI} {J : AJ} (x1 : Int) (x2 : Int) (x3 : Int)  : ev 216 9 [some (vr 115), some (vi x1), some (vi x2), some (vi x3)] [] (hp L b I J) = if (I 115 16) ≤ (x3 : Int) then (ev 216 43 [none, none, some (vi x2), none] [] (hp L b I J)) else (if ¬ (x1 : Int) = 1 then (ev 216 43 [none, none, some (vi x2), none] [] (hp L b I J)) else (gd (0 ≤ (x3 : Int) ∧ (x3 : Int) < 80) (if (I 158 x3 : Int) = 0 then (ev 216 36 [some (vr 115), some (vi x1), none, some (vi x3)] [vi x2] (hp L b I J)) else (ev 216 36 [some (vr 115), some (vi x1), none, some (vi x3)] [vi x3] (hp L b I J))))) := by
  refine (e216_9 x1 x2 x3).trans ?_
  simp only [e216_10, e216_11, e216_14, e216_17, e216_18, e216_19, e216_22, e216_23, e216_26, e216_27, e216_28, e216_31, e216_32, e216_35]
theorem s216_36 {L : Nat} {b : Bool} {I : AI} {J : AJ} (x1 : Int) (x3 : Int) (y0 : Int)  : ev 216 36 [some (vr 115), some (vi x1), none, some (vi x3)] [vi y0] (hp L b I J) = gd (-2147483648 ≤ (x3 + 1 : Int) ∧ (x3 + 1 : Int) ≤ 2147483647) (ev 216 9 [some (vr 115), some (vi x1), some (vi y0), some (vi (x3 + 1))] [] (hp L b I J)) := by
  refine (e216_36 x1 x3 y0).trans ?_
  simp only [e216_37, e216_40]
theorem s216_43 {L : Nat} {b : Bool} {I : AI} {J : AJ} (x2 : Int)  : ev 216 43 [none, none, some (vi x2), none] [] (hp L b I J) = some (vi x2, hp L b I J) := by
  refine (e216_43 x2).trans ?_
  simp only [e216_44]
/-! 217: VersionVaultModel.depthOf(I)I -/
theorem s217_0 {L : Nat} {b : Bool} {I : AI} {J : AJ} (x1 : Int)  : ev 217 0 [some (vr 115), some (vi x1), none, none] [] (hp L b I J) = ev 217 4 [some (vr 115), none, some (vi 0), some (vi x1)] [] (hp L b I J) := by
  refine (e217_0 x1).trans ?_
  simp only [e217_1, e217_2, e217_3]
theorem s217_4 {L : Nat} {b : Bool} {I : AI} {J : AJ} (x2 : Int) (x3 : Int)  : ev 217 4 [some (vr 115), none, some (vi x2), some (vi x3)] [] (hp L b I J) = gd (0 ≤ (x3 : Int) ∧ (x3 : Int) < 120) (if (I 120 x3 : Int) < 0 then (some (vi x2, hp L b I J)) else (gd (-2147483648 ≤ (x2 + 1 : Int) ∧ (x2 + 1 : Int) ≤ 2147483647) (gd (0 ≤ (x3 : Int) ∧ (x3 : Int) < 120) (ev 217 4 [some (vr 115), none, some (vi (x2 + 1)), some (vi (I 120 x3))] [] (hp L b I J))))) := by
  refine (e217_4 x2 x3).trans ?_
  simp only [e217_5, e217_8, e217_9, e217_10, e217_13, e217_16, e217_17, e217_20, e217_21, e217_22, e217_23, e217_26, e217_27]
/-! 218: VersionVaultModel.unitsOver(II)I -/
theorem s218_0 {L : Nat} {b : Bool} {I : AI} {J : AJ} (x1 : Int) (x2 : Int)  : ev 218 0 [some (vr 115), some (vi x1), some (vi x2)] [] (hp L b I J) = (evc 175 [vr 115, vi x1, vi x2] (hp L b I J)).bind (fun q => ev 218 6 [some (vr 115), some (vi x1), some (vi x2)] ([]) q.2) := by
  refine (e218_0 x1 x2).trans ?_
  simp only [e218_1, e218_2, e218_3]
theorem s218_6 {L : Nat} {b : Bool} {I : AI} {J : AJ} (x1 : Int) (x2 : Int)  : ev 218 6 [some (vr 115), some (vi x1), some (vi x2)] [] (hp L b I J) = gd (0 ≤ (x1 : Int) ∧ (x1 : Int) < 120) (gd (-2147483648 ≤ (2 + (I 117 x1) : Int) ∧ (2 + (I 117 x1) : Int) ≤ 2147483647) (gd (0 ≤ (x2 : Int) ∧ (x2 : Int) < 120) (gd (-2147483648 ≤ ((2 + (I 117 x1)) + (I 117 x2) : Int) ∧ ((2 + (I 117 x1)) + (I 117 x2) : Int) ≤ 2147483647) (gd (-2147483648 ≤ (2 * (I 115 27) : Int) ∧ (2 * (I 115 27) : Int) ≤ 2147483647) (gd (-2147483648 ≤ (((2 + (I 117 x1)) + (I 117 x2)) - (2 * (I 115 27)) : Int) ∧ (((2 + (I 117 x1)) + (I 117 x2)) - (2 * (I 115 27)) : Int) ≤ 2147483647) (some (vi (((2 + (I 117 x1)) + (I 117 x2)) - (2 * (I 115 27))), hp L b I J))))))) := by
  refine (e218_6 x1 x2).trans ?_
  simp only [e218_7, e218_8, e218_11, e218_12, e218_13, e218_14, e218_15, e218_18, e218_19, e218_20, e218_21, e218_22, e218_23, e218_26, e218_27, e218_28]
/-! 219: VersionVaultModel.packOne(I)V -/
theorem s219_0 {L : Nat} {b : Bool} {I : AI} {J : AJ} (x1 : Int)  : ev 219 0 [some (vr 115), some (vi x1), none, none, none, none] [] (hp L b I J) = gd (0 ≤ (x1 : Int) ∧ (x1 : Int) < 120) (gd (-2147483648 ≤ (1 + (I 117 x1) : Int) ∧ (1 + (I 117 x1) : Int) ≤ 2147483647) (ev 219 14 [some (vr 115), some (vi x1), some (vi (1 + (I 117 x1))), some (vi ((-1))), some (vi 0), none] [] (hp L b I J))) := by
  refine (e219_0 x1).trans ?_
  simp only [e219_1, e219_2, e219_5, e219_6, e219_7, e219_8, e219_9, e219_10, e219_11, e219_12]
theorem s219_14 {L : Nat} {b : Bool} {I : AI} {J : AJ} (x1 : Int) (x2 : Int) (x3 : Int) (x4 : Int)  : ev 219 14 [some (vr 115), some (vi x1), some (vi x2), some (vi x3), some (vi x4), none] [] (hp L b I J) = if x1 ≤ (x4 : Int) then (gd (0 ≤ (x1 : Int) ∧ (x1 : Int) < 120) (some (vi 0, hp L b (upI I 120 x1 x3) J))) else ((evc 137 [vr 115, vi x4] (hp L b I J)).bind (fun q => ev 219 26 [some (vr 115), some (vi x1), some (vi x2), some (vi x3), some (vi x4), none] (q.1 :: []) q.2)) := by
  refine (e219_14 x1 x2 x3 x4).trans ?_
  simp only [e219_16, e219_17, e219_20, e219_21, e219_23, e219_66, e219_67, e219_70, e219_71, e219_72, e219_73]
theorem s219_26 {L : Nat} {b : Bool} {I : AI} {J : AJ} (x1 : Int) (x2 : Int) (x3 : Int) (x4 : Int) (y0 : Int)  : ev 219 26 [some (vr 115), some (vi x1), some (vi x2), some (vi x3), some (vi x4), none] [vi y0] (hp L b I J) = if (y0 : Int) = 0 then (ev 219 60 [some (vr 115), some (vi x1), some (vi x2), some (vi x3), some (vi x4), none] [] (hp L b I J)) else ((evc 217 [vr 115, vi x4] (hp L b I J)).bind (fun q => ev 219 35 [some (vr 115), some (vi x1), some (vi x2), some (vi x3), some (vi x4), none] (q.1 :: []) q.2)) := by
  refine (e219_26 x1 x2 x3 x4 y0).trans ?_
  simp only [e219_29, e219_30, e219_32]
theorem s219_35 {L : Nat} {b : Bool} {I : AI} {J : AJ} (x1 : Int) (x2 : Int) (x3 : Int) (x4 : Int) (y0 : Int)  : ev 219 35 [some (vr 115), some (vi x1), some (vi x2), some (vi x3), some (vi x4), none] [vi y0] (hp L b I J) = if 3 < (y0 : Int) then (ev 219 60 [some (vr 115), some (vi x1), some (vi x2), some (vi x3), some (vi x4), none] [] (hp L b I J)) else ((evc 218 [vr 115, vi x4, vi x1] (hp L b I J)).bind (fun q => ev 219 46 [some (vr 115), some (vi x1), some (vi x2), some (vi x3), some (vi x4), none] (q.1 :: []) q.2)) := by
  refine (e219_35 x1 x2 x3 x4 y0).trans ?_
  simp only [e219_36, e219_39, e219_40, e219_42, e219_43]
theorem s219_46 {L : Nat} {b : Bool} {I : AI} {J : AJ} (x1 : Int) (x2 : Int) (x3 : Int) (x4 : Int) (y0 : Int)  : ev 219 46 [some (vr 115), some (vi x1), some (vi x2), some (vi x3), some (vi x4), none] [vi y0] (hp L b I J) = if x2 ≤ (y0 : Int) then (ev 219 60 [some (vr 115), some (vi x1), some (vi x2), some (vi x3), some (vi x4), none] [] (hp L b I J)) else (ev 219 60 [some (vr 115), some (vi x1), some (vi y0), some (vi x4), some (vi x4), none] [] (hp L b I J)) := by
  refine (e219_46 x1 x2 x3 x4 y0).trans ?_
  simp only [e219_48, e219_50, e219_51, e219_54, e219_56, e219_57, e219_59]
theorem s219_60 {L : Nat} {b : Bool} {I : AI} {J : AJ} (x1 : Int) (x2 : Int) (x3 : Int) (x4 : Int)  : ev 219 60 [some (vr 115), some (vi x1), some (vi x2), some (vi x3), some (vi x4), none] [] (hp L b I J) = gd (-2147483648 ≤ (x4 + 1 : Int) ∧ (x4 + 1 : Int) ≤ 2147483647) (ev 219 14 [some (vr 115), some (vi x1), some (vi x2), some (vi x3), some (vi (x4 + 1)), none] [] (hp L b I J)) := by
  refine (e219_60 x1 x2 x3 x4).trans ?_
  simp only [e219_63]
/-! 220: VersionVaultModel.pack()I -/
theorem s220_0 {L : Nat} {b : Bool} {I : AI} {J : AJ}   : ev 220 0 [some (vr 115), none, none] [] (hp L b I J) = ev 220 2 [some (vr 115), some (vi 0), none] [] (hp L b I J) := by
  refine (e220_0 ).trans ?_
  simp only [e220_1]
theorem s220_2 {L : Nat} {b : Bool} {I : AI} {J : AJ} (x1 : Int)  : ev 220 2 [some (vr 115), some (vi x1), none] [] (hp L b I J) = if (I 115 5) ≤ (x1 : Int) then (ev 220 33 [some (vr 115), some (vi 0), some (vi 0)] [] (hp L b I J)) else ((evc 137 [vr 115, vi x1] (hp L b I J)).bind (fun q => ev 220 15 [some (vr 115), some (vi x1), none] (q.1 :: []) q.2)) := by
  refine (e220_2 x1).trans ?_
  simp only [e220_3, e220_4, e220_7, e220_10, e220_11, e220_12, e220_29, e220_30, e220_31, e220_32]
theorem s220_15 {L : Nat} {b : Bool} {I : AI} {J : AJ} (x1 : Int) (y0 : Int)  : ev 220 15 [some (vr 115), some (vi x1), none] [vi y0] (hp L b I J) = if (y0 : Int) = 0 then (ev 220 23 [some (vr 115), some (vi x1), none] [] (hp L b I J)) else ((evc 219 [vr 115, vi x1] (hp L b I J)).bind (fun q => ev 220 23 [some (vr 115), some (vi x1), none] ([]) q.2)) := by
  refine (e220_15 x1 y0).trans ?_
  simp only [e220_18, e220_19, e220_20]
theorem s220_23 {L : Nat} {b : Bool} {I : AI} {J : AJ} (x1 : Int)  : ev 220 23 [some (vr 115), some (vi x1), none] [] (hp L b I J) = gd (-2147483648 ≤ (x1 + 1 : Int) ∧ (x1 + 1 : Int) ≤ 2147483647) (ev 220 2 [some (vr 115), some (vi (x1 + 1)), none] [] (hp L b I J)) := by
  refine (e220_23 x1).trans ?_
  simp only [e220_26]
theorem s220_33 {L : Nat} {b : Bool} {I : AI} {J : AJ} (x1 : Int) (x2 : Int)  : ev 220 33 [some (vr 115), some (vi x1), some (vi x2)] [] (hp L b I J) = if (I 115 5) ≤ (x2 : Int) then (some (vi x1, hp L b I J)) else ((evc 147 [vr 115, vi x2] (hp L b I J)).bind (fun q => ev 220 47 [some (vr 115), none, some (vi x2)] (q.1 :: [vi x1]) q.2)) := by
  refine (e220_33 x1 x2).trans ?_
  simp only [e220_34, e220_35, e220_38, e220_41, e220_42, e220_43, e220_44, e220_64, e220_65]
theorem s220_47 {L : Nat} {b : Bool} {I : AI} {J : AJ} (x2 : Int) (y0 : Int) (y1 : Int)  : ev 220 47 [some (vr 115), none, some (vi x2)] [vi y0, vi y1] (hp L b I J) = if ¬ (y0 : Int) = 1 then (ev 220 56 [some (vr 115), none, some (vi x2)] [vi 0, vi y1] (hp L b I J)) else (ev 220 56 [some (vr 115), none, some (vi x2)] [vi 1, vi y1] (hp L b I J)) := by
  refine (e220_47 x2 y0 y1).trans ?_
  simp only [e220_48, e220_51, e220_52, e220_55]
theorem s220_56 {L : Nat} {b : Bool} {I : AI} {J : AJ} (x2 : Int) (y0 : Int) (y1 : Int)  : ev 220 56 [some (vr 115), none, some (vi x2)] [vi y0, vi y1] (hp L b I J) = gd (-2147483648 ≤ (y1 + y0 : Int) ∧ (y1 + y0 : Int) ≤ 2147483647) (gd (-2147483648 ≤ (x2 + 1 : Int) ∧ (x2 + 1 : Int) ≤ 2147483647) (ev 220 33 [some (vr 115), some (vi (y1 + y0)), some (vi (x2 + 1))] [] (hp L b I J))) := by
  refine (e220_56 x2 y0 y1).trans ?_
  simp only [e220_57, e220_58, e220_61]
/-! 221: VersionVaultModel.stem(I)I -/
theorem s221_0 {L : Nat} {b : Bool} {I : AI} {J : AJ} (x1 : Int)  : ev 221 0 [some (vr 115), some (vi x1)] [] (hp L b I J) = (evc 135 [vr 115, vi x1] (hp L b I J)).bind (fun q => ev 221 5 [some (vr 115), some (vi x1)] (q.1 :: []) q.2) := by
  refine (e221_0 x1).trans ?_
  simp only [e221_1, e221_2]
theorem s221_5 {L : Nat} {b : Bool} {I : AI} {J : AJ} (x1 : Int) (y0 : Int)  : ev 221 5 [some (vr 115), some (vi x1)] [vi y0] (hp L b I J) = if (y0 : Int) = 0 then (some (vi ((-2)), hp L b I J)) else (gd (0 ≤ (x1 : Int) ∧ (x1 : Int) < 120) (some (vi (I 120 x1), hp L b I J))) := by
  refine (e221_5 x1 y0).trans ?_
  simp only [e221_8, e221_9, e221_12, e221_13, e221_14, e221_17, e221_19]
/-! 222: VersionVaultModel.units()I -/
theorem s222_0 {L : Nat} {b : Bool} {I : AI} {J : AJ}   : ev 222 0 [some (vr 115), none, none] [] (hp L b I J) = ev 222 4 [some (vr 115), some (vi 0), some (vi 0)] [] (hp L b I J) := by
  refine (e222_0 ).trans ?_
  simp only [e222_1, e222_2, e222_3]
theorem s222_4 {L : Nat} {b : Bool} {I : AI} {J : AJ} (x1 : Int) (x2 : Int)  : ev 222 4 [some (vr 115), some (vi x1), some (vi x2)] [] (hp L b I J) = if (I 115 5) ≤ (x2 : Int) then (some (vi x1, hp L b I J)) else (gd (0 ≤ (x2 : Int) ∧ (x2 : Int) < 120) (if ¬ (I 119 x2 : Int) = 0 then (ev 222 76 [some (vr 115), some (vi x1), some (vi x2)] [] (hp L b I J)) else (gd (0 ≤ (x2 : Int) ∧ (x2 : Int) < 120) (if ¬ (I 118 x2 : Int) = 0 then (ev 222 76 [some (vr 115), some (vi x1), some (vi x2)] [] (hp L b I J)) else (gd (0 ≤ (x2 : Int) ∧ (x2 : Int) < 120) (if 0 ≤ (I 120 x2 : Int) then ((evc 137 [vr 115, vi x2] (hp L b I J)).bind (fun q => ev 222 56 [some (vr 115), none, some (vi x2)] (q.1 :: [vi x1]) q.2)) else (gd (0 ≤ (x2 : Int) ∧ (x2 : Int) < 120) (gd (-2147483648 ≤ (1 + (I 117 x2) : Int) ∧ (1 + (I 117 x2) : Int) ≤ 2147483647) (ev 222 74 [some (vr 115), none, some (vi x2)] [vi (1 + (I 117 x2)), vi x1] (hp L b I J)))))))))) := by
  refine (e222_4 x1 x2).trans ?_
  simp only [e222_5, e222_6, e222_9, e222_12, e222_13, e222_16, e222_17, e222_18, e222_21, e222_22, e222_25, e222_26, e222_27, e222_30, e222_31, e222_32, e222_35, e222_36, e222_37, e222_40, e222_41, e222_42, e222_45, e222_46, e222_47, e222_48, e222_51, e222_52, e222_53, e222_82, e222_83]
theorem s222_56 {L : Nat} {b : Bool} {I : AI} {J : AJ} (x2 : Int) (y0 : Int) (y1 : Int)  : ev 222 56 [some (vr 115), none, some (vi x2)] [vi y0, vi y1] (hp L b I J) = if (y0 : Int) = 0 then (ev 222 74 [some (vr 115), none, some (vi x2)] [vi 2, vi y1] (hp L b I J)) else (gd (0 ≤ (x2 : Int) ∧ (x2 : Int) < 120) ((evc 218 [vr 115, vi (I 120 x2), vi x2] (hp L b I J)).bind (fun q => ev 222 70 [some (vr 115), none, some (vi x2)] (q.1 :: [vi y1]) q.2))) := by
  refine (e222_56 x2 y0 y1).trans ?_
  simp only [e222_59, e222_60, e222_61, e222_64, e222_65, e222_66, e222_67, e222_73]
theorem s222_70 {L : Nat} {b : Bool} {I : AI} {J : AJ} (x2 : Int) (y0 : Int) (y1 : Int)  : ev 222 70 [some (vr 115), none, some (vi x2)] [vi y0, vi y1] (hp L b I J) = ev 222 74 [some (vr 115), none, some (vi x2)] [vi y0, vi y1] (hp L b I J) := by
  refine (e222_70 x2 y0 y1).trans ?_
  rfl
theorem s222_74 {L : Nat} {b : Bool} {I : AI} {J : AJ} (x2 : Int) (y0 : Int) (y1 : Int)  : ev 222 74 [some (vr 115), none, some (vi x2)] [vi y0, vi y1] (hp L b I J) = gd (-2147483648 ≤ (y1 + y0 : Int) ∧ (y1 + y0 : Int) ≤ 2147483647) (ev 222 76 [some (vr 115), some (vi (y1 + y0)), some (vi x2)] [] (hp L b I J)) := by
  refine (e222_74 x2 y0 y1).trans ?_
  simp only [e222_75]
theorem s222_76 {L : Nat} {b : Bool} {I : AI} {J : AJ} (x1 : Int) (x2 : Int)  : ev 222 76 [some (vr 115), some (vi x1), some (vi x2)] [] (hp L b I J) = gd (-2147483648 ≤ (x2 + 1 : Int) ∧ (x2 + 1 : Int) ≤ 2147483647) (ev 222 4 [some (vr 115), some (vi x1), some (vi (x2 + 1))] [] (hp L b I J)) := by
  refine (e222_76 x1 x2).trans ?_
  simp only [e222_79]
/-! 223: VersionVaultModel.findReached()I -/
theorem s223_0 {L : Nat} {b : Bool} {I : AI} {J : AJ}   : ev 223 0 [some (vr 115), none, none] [] (hp L b I J) = (evc 164 [vr 131] (hp L b I J)).bind (fun q => ev 223 7 [some (vr 115), none, none] ([]) q.2) := by
  refine (e223_0 ).trans ?_
  simp only [e223_1, e223_4]
theorem s223_7 {L : Nat} {b : Bool} {I : AI} {J : AJ}   : ev 223 7 [some (vr 115), none, none] [] (hp L b I J) = ev 223 9 [some (vr 115), some (vi 0), none] [] (hp L b I J) := by
  refine (e223_7 ).trans ?_
  simp only [e223_8]
theorem s223_9 {L : Nat} {b : Bool} {I : AI} {J : AJ} (x1 : Int)  : ev 223 9 [some (vr 115), some (vi x1), none] [] (hp L b I J) = if 8 ≤ (x1 : Int) then (ev 223 46 [some (vr 115), some (vi 0), none] [] (hp L b I J)) else (gd (0 ≤ (x1 : Int) ∧ (x1 : Int) < 8) (if (I 129 x1 : Int) < 0 then (ev 223 38 [some (vr 115), some (vi x1), none] [] (hp L b I J)) else (gd (0 ≤ (x1 : Int) ∧ (x1 : Int) < 8) ((evc 163 [vr 115, vi (I 129 x1), vr 131] (hp L b I J)).bind (fun q => ev 223 38 [some (vr 115), some (vi x1), none] ([]) q.2))))) := by
  refine (e223_9 x1).trans ?_
  simp only [e223_10, e223_12, e223_15, e223_16, e223_19, e223_20, e223_21, e223_24, e223_25, e223_26, e223_29, e223_30, e223_31, e223_32, e223_35, e223_44, e223_45]
theorem s223_38 {L : Nat} {b : Bool} {I : AI} {J : AJ} (x1 : Int)  : ev 223 38 [some (vr 115), some (vi x1), none] [] (hp L b I J) = gd (-2147483648 ≤ (x1 + 1 : Int) ∧ (x1 + 1 : Int) ≤ 2147483647) (ev 223 9 [some (vr 115), some (vi (x1 + 1)), none] [] (hp L b I J)) := by
  refine (e223_38 x1).trans ?_
  simp only [e223_41]
theorem s223_46 {L : Nat} {b : Bool} {I : AI} {J : AJ} (x1 : Int)  : ev 223 46 [some (vr 115), some (vi x1), none] [] (hp L b I J) = if 100 ≤ (x1 : Int) then (ev 223 67 [some (vr 115), some (vi 0), none] [] (hp L b I J)) else (gd (((0 : Int) = 0 ∨ (0 : Int) = 1) ∧ 0 ≤ (x1 : Int) ∧ (x1 : Int) < 100) (gd (-2147483648 ≤ (x1 + 1 : Int) ∧ (x1 + 1 : Int) ≤ 2147483647) (ev 223 46 [some (vr 115), some (vi (x1 + 1)), none] [] (hp L b (upI I 160 x1 0) J)))) := by
  refine (e223_46 x1).trans ?_
  simp only [e223_47, e223_49, e223_52, e223_53, e223_56, e223_57, e223_58, e223_59, e223_62, e223_65, e223_66]
theorem s223_67 {L : Nat} {b : Bool} {I : AI} {J : AJ} (x1 : Int)  : ev 223 67 [some (vr 115), some (vi x1), none] [] (hp L b I J) = if 120 ≤ (x1 : Int) then (ev 223 88 [some (vr 115), some (vi 0), none] [] (hp L b I J)) else (gd (((0 : Int) = 0 ∨ (0 : Int) = 1) ∧ 0 ≤ (x1 : Int) ∧ (x1 : Int) < 120) (gd (-2147483648 ≤ (x1 + 1 : Int) ∧ (x1 + 1 : Int) ≤ 2147483647) (ev 223 67 [some (vr 115), some (vi (x1 + 1)), none] [] (hp L b (upI I 159 x1 0) J)))) := by
  refine (e223_67 x1).trans ?_
  simp only [e223_68, e223_70, e223_73, e223_74, e223_77, e223_78, e223_79, e223_80, e223_83, e223_86, e223_87]
theorem s223_88 {L : Nat} {b : Bool} {I : AI} {J : AJ} (x1 : Int)  : ev 223 88 [some (vr 115), some (vi x1), none] [] (hp L b I J) = if (I 115 16) ≤ (x1 : Int) then (ev 223 151 [some (vr 115), some (vi 0), some (vi 0)] [] (hp L b I J)) else (gd (0 ≤ (x1 : Int) ∧ (x1 : Int) < 80) (if (I 131 x1 : Int) = 0 then (ev 223 141 [some (vr 115), some (vi x1), none] [] (hp L b I J)) else (gd (0 ≤ (x1 : Int) ∧ (x1 : Int) < 80) (gd (((1 : Int) = 0 ∨ (1 : Int) = 1) ∧ 0 ≤ (I 125 x1 : Int) ∧ (I 125 x1 : Int) < 100) (ev 223 119 [some (vr 115), some (vi x1), some (vi 0)] [] (hp L b (upI I 160 (I 125 x1) 1) J)))))) := by
  refine (e223_88 x1).trans ?_
  simp only [e223_89, e223_90, e223_93, e223_96, e223_97, e223_100, e223_101, e223_102, e223_105, e223_106, e223_109, e223_110, e223_113, e223_114, e223_115, e223_116, e223_117, e223_118, e223_147, e223_148, e223_149, e223_150]
theorem s223_119 {L : Nat} {b : Bool} {I : AI} {J : AJ} (x1 : Int) (x2 : Int)  : ev 223 119 [some (vr 115), some (vi x1), some (vi x2)] [] (hp L b I J) = if 16 ≤ (x2 : Int) then (ev 223 141 [some (vr 115), some (vi x1), none] [] (hp L b I J)) else ((evc 192 [vr 115, vi x1, vi x2] (hp L b I J)).bind (fun q => ev 223 132 [some (vr 115), some (vi x1), some (vi x2)] (q.1 :: [vr 115]) q.2)) := by
  refine (e223_119 x1 x2).trans ?_
  simp only [e223_120, e223_122, e223_125, e223_126, e223_127, e223_128, e223_129]
theorem s223_132 {L : Nat} {b : Bool} {I : AI} {J : AJ} (x1 : Int) (x2 : Int) (y0 : Int)  : ev 223 132 [some (vr 115), some (vi x1), some (vi x2)] [vi y0, vr 115] (hp L b I J) = (evc 224 [vr 115, vi y0] (hp L b I J)).bind (fun q => ev 223 135 [some (vr 115), some (vi x1), some (vi x2)] ([]) q.2) := by
  refine (e223_132 x1 x2 y0).trans ?_
  rfl
theorem s223_135 {L : Nat} {b : Bool} {I : AI} {J : AJ} (x1 : Int) (x2 : Int)  : ev 223 135 [some (vr 115), some (vi x1), some (vi x2)] [] (hp L b I J) = gd (-2147483648 ≤ (x2 + 1 : Int) ∧ (x2 + 1 : Int) ≤ 2147483647) (ev 223 119 [some (vr 115), some (vi x1), some (vi (x2 + 1))] [] (hp L b I J)) := by
  refine (e223_135 x1 x2).trans ?_
  simp only [e223_138]
theorem s223_141 {L : Nat} {b : Bool} {I : AI} {J : AJ} (x1 : Int)  : ev 223 141 [some (vr 115), some (vi x1), none] [] (hp L b I J) = gd (-2147483648 ≤ (x1 + 1 : Int) ∧ (x1 + 1 : Int) ≤ 2147483647) (ev 223 88 [some (vr 115), some (vi (x1 + 1)), none] [] (hp L b I J)) := by
  refine (e223_141 x1).trans ?_
  simp only [e223_144]
theorem s223_151 {L : Nat} {b : Bool} {I : AI} {J : AJ} (x1 : Int) (x2 : Int)  : ev 223 151 [some (vr 115), some (vi x1), some (vi x2)] [] (hp L b I J) = if (I 115 5) ≤ (x2 : Int) then (some (vi x1, hp L b I J)) else (gd (0 ≤ (x2 : Int) ∧ (x2 : Int) < 120) (if (I 159 x2 : Int) = 0 then (ev 223 174 [some (vr 115), none, some (vi x2)] [vi 0, vi x1] (hp L b I J)) else (ev 223 174 [some (vr 115), none, some (vi x2)] [vi 1, vi x1] (hp L b I J)))) := by
  refine (e223_151 x1 x2).trans ?_
  simp only [e223_152, e223_153, e223_156, e223_159, e223_160, e223_161, e223_164, e223_165, e223_166, e223_169, e223_170, e223_173, e223_182, e223_183]
theorem s223_174 {L : Nat} {b : Bool} {I : AI} {J : AJ} (x2 : Int) (y0 : Int) (y1 : Int)  : ev 223 174 [some (vr 115), none, some (vi x2)] [vi y0, vi y1] (hp L b I J) = gd (-2147483648 ≤ (y1 + y0 : Int) ∧ (y1 + y0 : Int) ≤ 2147483647) (gd (-2147483648 ≤ (x2 + 1 : Int) ∧ (x2 + 1 : Int) ≤ 2147483647) (ev 223 151 [some (vr 115), some (vi (y1 + y0)), some (vi (x2 + 1))] [] (hp L b I J))) := by
  refine (e223_174 x2 y0 y1).trans ?_
  simp only [e223_175, e223_176, e223_179]
/-! 224: VersionVaultModel.reach(I)V -/
theorem s224_0 {L : Nat} {b : Bool} {I : AI} {J : AJ} (x1 : Int)  : ev 224 0 [some (vr 115), some (vi x1), none] [] (hp L b I J) = ev 224 2 [some (vr 115), none, some (vi x1)] [] (hp L b I J) := by
  refine (e224_0 x1).trans ?_
  simp only [e224_1]
theorem s224_2 {L : Nat} {b : Bool} {I : AI} {J : AJ} (x2 : Int)  : ev 224 2 [some (vr 115), none, some (vi x2)] [] (hp L b I J) = if (x2 : Int) < 0 then (some (vi 0, hp L b I J)) else (gd (((1 : Int) = 0 ∨ (1 : Int) = 1) ∧ 0 ≤ (x2 : Int) ∧ (x2 : Int) < 120) (gd (0 ≤ (x2 : Int) ∧ (x2 : Int) < 120) (ev 224 2 [some (vr 115), none, some (vi ((upI I 159 x2 1) 120 x2))] [] (hp L b (upI I 159 x2 1) J)))) := by
  refine (e224_2 x2).trans ?_
  simp only [e224_3, e224_6, e224_7, e224_10, e224_11, e224_12, e224_13, e224_14, e224_17, e224_18, e224_19, e224_20, e224_23]
/-! 225: VersionVaultModel.sweep()I -/
theorem s225_0 {L : Nat} {b : Bool} {I : AI} {J : AJ}   : ev 225 0 [some (vr 115), none, none, none] [] (hp L b I J) = (evc 223 [vr 115] (hp L b I J)).bind (fun q => ev 225 4 [some (vr 115), none, none, none] (q.1 :: []) q.2) := by
  refine (e225_0 ).trans ?_
  simp only [e225_1]
theorem s225_4 {L : Nat} {b : Bool} {I : AI} {J : AJ} (y0 : Int)  : ev 225 4 [some (vr 115), none, none, none] [vi y0] (hp L b I J) = ev 225 7 [some (vr 115), none, some (vi 0), none] [] (hp L b I J) := by
  refine (e225_4 y0).trans ?_
  simp only [e225_5, e225_6]
theorem s225_7 {L : Nat} {b : Bool} {I : AI} {J : AJ} (x2 : Int)  : ev 225 7 [some (vr 115), none, some (vi x2), none] [] (hp L b I J) = if (I 115 10) ≤ (x2 : Int) then (ev 225 54 [some (vr 115), none, some (vi 0), some (vi 0)] [] (hp L b I J)) else (gd (0 ≤ (x2 : Int) ∧ (x2 : Int) < 100) (if ¬ (I 123 x2 : Int) = 0 then (ev 225 38 [some (vr 115), none, some (vi x2), none] [vi x2, vr 123] (hp L b I J)) else (gd (0 ≤ (x2 : Int) ∧ (x2 : Int) < 100) (if ¬ (I 160 x2 : Int) = 0 then (ev 225 43 [some (vr 115), none, some (vi x2), none] [vi 0, vi x2, vr 123] (hp L b I J)) else (ev 225 38 [some (vr 115), none, some (vi x2), none] [vi x2, vr 123] (hp L b I J)))))) := by
  refine (e225_7 x2).trans ?_
  simp only [e225_8, e225_9, e225_12, e225_15, e225_16, e225_19, e225_20, e225_21, e225_24, e225_25, e225_26, e225_29, e225_30, e225_33, e225_34, e225_35, e225_42, e225_50, e225_51, e225_52, e225_53]
theorem s225_38 {L : Nat} {b : Bool} {I : AI} {J : AJ} (x2 : Int) (y0 : Int)  : ev 225 38 [some (vr 115), none, some (vi x2), none] [vi y0, vr 123] (hp L b I J) = ev 225 43 [some (vr 115), none, some (vi x2), none] [vi 1, vi y0, vr 123] (hp L b I J) := by
  refine (e225_38 x2 y0).trans ?_
  simp only [e225_39]
theorem s225_43 {L : Nat} {b : Bool} {I : AI} {J : AJ} (x2 : Int) (y0 : Int) (y1 : Int)  : ev 225 43 [some (vr 115), none, some (vi x2), none] [vi y0, vi y1, vr 123] (hp L b I J) = gd (((y0 : Int) = 0 ∨ (y0 : Int) = 1) ∧ 0 ≤ (y1 : Int) ∧ (y1 : Int) < 100) (gd (-2147483648 ≤ (x2 + 1 : Int) ∧ (x2 + 1 : Int) ≤ 2147483647) (ev 225 7 [some (vr 115), none, some (vi (x2 + 1)), none] [] (hp L b (upI I 123 y1 y0) J))) := by
  refine (e225_43 x2 y0 y1).trans ?_
  simp only [e225_44, e225_47]
theorem s225_54 {L : Nat} {b : Bool} {I : AI} {J : AJ} (x2 : Int) (x3 : Int)  : ev 225 54 [some (vr 115), none, some (vi x2), some (vi x3)] [] (hp L b I J) = if (I 115 5) ≤ (x3 : Int) then (some (vi x2, hp L b I J)) else (gd (0 ≤ (x3 : Int) ∧ (x3 : Int) < 120) (if ¬ (I 119 x3 : Int) = 0 then (ev 225 85 [some (vr 115), none, none, some (vi x3)] [vi x2] (hp L b I J)) else (gd (0 ≤ (x3 : Int) ∧ (x3 : Int) < 120) (if ¬ (I 159 x3 : Int) = 0 then (ev 225 85 [some (vr 115), none, none, some (vi x3)] [vi x2] (hp L b I J)) else (ev 225 86 [some (vr 115), none, none, some (vi x3)] [vi 1, vi x2] (hp L b I J)))))) := by
  refine (e225_54 x2 x3).trans ?_
  simp only [e225_55, e225_56, e225_59, e225_62, e225_63, e225_64, e225_67, e225_68, e225_69, e225_72, e225_73, e225_76, e225_77, e225_78, e225_81, e225_82, e225_123, e225_124]
theorem s225_85 {L : Nat} {b : Bool} {I : AI} {J : AJ} (x3 : Int) (y0 : Int)  : ev 225 85 [some (vr 115), none, none, some (vi x3)] [vi y0] (hp L b I J) = ev 225 86 [some (vr 115), none, none, some (vi x3)] [vi 0, vi y0] (hp L b I J) := by
  refine (e225_85 x3 y0).trans ?_
  rfl
theorem s225_86 {L : Nat} {b : Bool} {I : AI} {J : AJ} (x3 : Int) (y0 : Int) (y1 : Int)  : ev 225 86 [some (vr 115), none, none, some (vi x3)] [vi y0, vi y1] (hp L b I J) = gd (-2147483648 ≤ (y1 + y0 : Int) ∧ (y1 + y0 : Int) ≤ 2147483647) (gd (0 ≤ (x3 : Int) ∧ (x3 : Int) < 120) (if ¬ (I 119 x3 : Int) = 0 then (ev 225 111 [some (vr 115), none, some (vi (y1 + y0)), some (vi x3)] [vi x3, vr 119] (hp L b I J)) else (gd (0 ≤ (x3 : Int) ∧ (x3 : Int) < 120) (if ¬ (I 159 x3 : Int) = 0 then (ev 225 116 [some (vr 115), none, some (vi (y1 + y0)), some (vi x3)] [vi 0, vi x3, vr 119] (hp L b I J)) else (ev 225 111 [some (vr 115), none, some (vi (y1 + y0)), some (vi x3)] [vi x3, vr 119] (hp L b I J)))))) := by
  refine (e225_86 x3 y0 y1).trans ?_
  simp only [e225_87, e225_88, e225_89, e225_92, e225_93, e225_94, e225_97, e225_98, e225_99, e225_102, e225_103, e225_106, e225_107, e225_108, e225_115]
theorem s225_111 {L : Nat} {b : Bool} {I : AI} {J : AJ} (x2 : Int) (x3 : Int) (y0 : Int)  : ev 225 111 [some (vr 115), none, some (vi x2), some (vi x3)] [vi y0, vr 119] (hp L b I J) = ev 225 116 [some (vr 115), none, some (vi x2), some (vi x3)] [vi 1, vi y0, vr 119] (hp L b I J) := by
  refine (e225_111 x2 x3 y0).trans ?_
  simp only [e225_112]
theorem s225_116 {L : Nat} {b : Bool} {I : AI} {J : AJ} (x2 : Int) (x3 : Int) (y0 : Int) (y1 : Int)  : ev 225 116 [some (vr 115), none, some (vi x2), some (vi x3)] [vi y0, vi y1, vr 119] (hp L b I J) = gd (((y0 : Int) = 0 ∨ (y0 : Int) = 1) ∧ 0 ≤ (y1 : Int) ∧ (y1 : Int) < 120) (gd (-2147483648 ≤ (x3 + 1 : Int) ∧ (x3 + 1 : Int) ≤ 2147483647) (ev 225 54 [some (vr 115), none, some (vi x2), some (vi (x3 + 1))] [] (hp L b (upI I 119 y1 y0) J))) := by
  refine (e225_116 x2 x3 y0 y1).trans ?_
  simp only [e225_117, e225_120]
/-! 226: VersionVaultModel.lose(I)I -/
theorem s226_0 {L : Nat} {b : Bool} {I : AI} {J : AJ} (x1 : Int)  : ev 226 0 [some (vr 115), some (vi x1), none] [] (hp L b I J) = (evc 135 [vr 115, vi x1] (hp L b I J)).bind (fun q => ev 226 5 [some (vr 115), some (vi x1), none] (q.1 :: []) q.2) := by
  refine (e226_0 x1).trans ?_
  simp only [e226_1, e226_2]
theorem s226_5 {L : Nat} {b : Bool} {I : AI} {J : AJ} (x1 : Int) (y0 : Int)  : ev 226 5 [some (vr 115), some (vi x1), none] [vi y0] (hp L b I J) = if ¬ (y0 : Int) = 0 then (gd (0 ≤ (x1 : Int) ∧ (x1 : Int) < 120) (if (I 118 x1 : Int) = 0 then (ev 226 25 [some (vr 115), some (vi x1), none] [vi 1] (hp L b I J)) else (ev 226 25 [some (vr 115), some (vi x1), none] [vi 0] (hp L b I J)))) else (some (vi ((-2)), hp L b I J)) := by
  refine (e226_5 x1 y0).trans ?_
  simp only [e226_8, e226_10, e226_11, e226_12, e226_15, e226_16, e226_17, e226_20, e226_21, e226_24]
theorem s226_25 {L : Nat} {b : Bool} {I : AI} {J : AJ} (x1 : Int) (y0 : Int)  : ev 226 25 [some (vr 115), some (vi x1), none] [vi y0] (hp L b I J) = gd (((1 : Int) = 0 ∨ (1 : Int) = 1) ∧ 0 ≤ (x1 : Int) ∧ (x1 : Int) < 120) (gd (0 ≤ (x1 : Int) ∧ (x1 : Int) < 120) (some (vi y0, hp L b (upI (upI I 118 x1 1) 120 x1 ((-1))) J))) := by
  refine (e226_25 x1 y0).trans ?_
  simp only [e226_26, e226_27, e226_30, e226_31, e226_32, e226_33, e226_34, e226_37, e226_38, e226_39, e226_40, e226_41]
/-! 227: VersionVaultModel.countTrue([ZI)I -/
theorem s227_0 {L : Nat} {b : Bool} {I : AI} {J : AJ} (x1 : Nat) (x2 : Int)  : ev 227 0 [some (vr 115), some (vr x1), some (vi x2), none, none] [] (hp L b I J) = ev 227 5 [none, some (vr x1), some (vi x2), some (vi 0), some (vi 0)] [] (hp L b I J) := by
  refine (e227_0 x1 x2).trans ?_
  simp only [e227_1, e227_2, e227_3]
theorem s227_5 {L : Nat} {b : Bool} {I : AI} {J : AJ} (x1 : Nat) (x2 : Int) (x3 : Int) (x4 : Int) (hx1 : (hk L b)[x1]? = some (1, aL x1)) (h0x1 : 0 < x1) : ev 227 5 [none, some (vr x1), some (vi x2), some (vi x3), some (vi x4)] [] (hp L b I J) = if x2 ≤ (x4 : Int) then (some (vi x3, hp L b I J)) else (gd (0 ≤ (x4 : Int) ∧ (x4 : Int) < ((aL x1 : Nat) : Int)) (if (I x1 x4 : Int) = 0 then (ev 227 24 [none, some (vr x1), some (vi x2), none, some (vi x4)] [vi 0, vi x3] (hp L b I J)) else (ev 227 24 [none, some (vr x1), some (vi x2), none, some (vi x4)] [vi 1, vi x3] (hp L b I J)))) := by
  refine (e227_5 x1 x2 x3 x4).trans ?_
  simp only [e227_7, e227_8, e227_11, e227_12, e227_13, e227_15, e227_16, e227_19, e227_20, e227_23, e227_32, e227_33, h0x1, hx1]
theorem s227_24 {L : Nat} {b : Bool} {I : AI} {J : AJ} (x1 : Nat) (x2 : Int) (x4 : Int) (y0 : Int) (y1 : Int)  : ev 227 24 [none, some (vr x1), some (vi x2), none, some (vi x4)] [vi y0, vi y1] (hp L b I J) = gd (-2147483648 ≤ (y1 + y0 : Int) ∧ (y1 + y0 : Int) ≤ 2147483647) (gd (-2147483648 ≤ (x4 + 1 : Int) ∧ (x4 + 1 : Int) ≤ 2147483647) (ev 227 5 [none, some (vr x1), some (vi x2), some (vi (y1 + y0)), some (vi (x4 + 1))] [] (hp L b I J))) := by
  refine (e227_24 x1 x2 x4 y0 y1).trans ?_
  simp only [e227_25, e227_26, e227_29]
/-! 228: VersionVaultModel.count(I)I -/
theorem s228_0 {L : Nat} {b : Bool} {I : AI} {J : AJ} (x1 : Int)  : ev 228 0 [some (vr 115), some (vi x1)] [] (hp L b I J) = if (x1 : Int) = 0 then (some (vi (I 115 5), hp L b I J)) else (if (x1 : Int) = 1 then (some (vi (I 115 10), hp L b I J)) else (if (x1 : Int) = 2 then (some (vi (I 115 16), hp L b I J)) else (if (x1 : Int) = 3 then ((evc 227 [vr 115, vr 119, vi (I 115 5)] (hp L b I J)).bind (fun q => ev 228 83 [none, none] (q.1 :: [vi (I 115 5)]) q.2)) else (if (x1 : Int) = 4 then ((evc 227 [vr 115, vr 123, vi (I 115 10)] (hp L b I J)).bind (fun q => ev 228 101 [none, none] (q.1 :: [vi (I 115 10)]) q.2)) else (if (x1 : Int) = 5 then (some (vi (I 115 7), hp L b I J)) else (if (x1 : Int) = 6 then ((evc 153 [vr 124, vi 0] (hp L b I J)).bind (fun q => ev 228 116 [some (vr 115), none] (q.1 :: []) q.2)) else (if (x1 : Int) = 7 then ((evc 229 [vr 115] (hp L b I J)).bind (fun q => ev 228 121 [some (vr 115), none] (q.1 :: []) q.2)) else (if (x1 : Int) = 8 then ((evc 223 [vr 115] (hp L b I J)).bind (fun q => ev 228 126 [some (vr 115), none] (q.1 :: []) q.2)) else (some (vi ((-2)), hp L b I J)))))))))) := by
  refine (e228_0 x1).trans ?_
  simp only [e228_1, e228_52, e228_53, e228_56, e228_57, e228_58, e228_61, e228_62, e228_63, e228_66, e228_67, e228_68, e228_71, e228_72, e228_73, e228_76, e228_77, e228_80, e228_85, e228_86, e228_89, e228_90, e228_91, e228_94, e228_95, e228_98, e228_103, e228_104, e228_107, e228_108, e228_109, e228_112, e228_113, e228_117, e228_118, e228_122, e228_123, e228_127, e228_129]
theorem s228_83 {L : Nat} {b : Bool} {I : AI} {J : AJ} (y0 : Int) (y1 : Int)  : ev 228 83 [none, none] [vi y0, vi y1] (hp L b I J) = gd (-2147483648 ≤ (y1 - y0 : Int) ∧ (y1 - y0 : Int) ≤ 2147483647) (some (vi (y1 - y0), hp L b I J)) := by
  refine (e228_83 y0 y1).trans ?_
  simp only [e228_84]
theorem s228_101 {L : Nat} {b : Bool} {I : AI} {J : AJ} (y0 : Int) (y1 : Int)  : ev 228 101 [none, none] [vi y0, vi y1] (hp L b I J) = gd (-2147483648 ≤ (y1 - y0 : Int) ∧ (y1 - y0 : Int) ≤ 2147483647) (some (vi (y1 - y0), hp L b I J)) := by
  refine (e228_101 y0 y1).trans ?_
  simp only [e228_102]
theorem s228_116 {L : Nat} {b : Bool} {I : AI} {J : AJ} (y0 : Int)  : ev 228 116 [some (vr 115), none] [vi y0] (hp L b I J) = some (vi y0, hp L b I J) := by
  refine (e228_116 y0).trans ?_
  rfl
theorem s228_121 {L : Nat} {b : Bool} {I : AI} {J : AJ} (y0 : Int)  : ev 228 121 [some (vr 115), none] [vi y0] (hp L b I J) = some (vi y0, hp L b I J) := by
  refine (e228_121 y0).trans ?_
  rfl
theorem s228_126 {L : Nat} {b : Bool} {I : AI} {J : AJ} (y0 : Int)  : ev 228 126 [some (vr 115), none] [vi y0] (hp L b I J) = some (vi y0, hp L b I J) := by
  refine (e228_126 y0).trans ?_
  rfl
/-! 229: VersionVaultModel.lostTexts()I -/
theorem s229_0 {L : Nat} {b : Bool} {I : AI} {J : AJ}   : ev 229 0 [some (vr 115), none, none] [] (hp L b I J) = ev 229 4 [some (vr 115), some (vi 0), some (vi 0)] [] (hp L b I J) := by
  refine (e229_0 ).trans ?_
  simp only [e229_1, e229_2, e229_3]
theorem s229_4 {L : Nat} {b : Bool} {I : AI} {J : AJ} (x1 : Int) (x2 : Int)  : ev 229 4 [some (vr 115), some (vi x1), some (vi x2)] [] (hp L b I J) = if (I 115 5) ≤ (x2 : Int) then (some (vi x1, hp L b I J)) else (gd (0 ≤ (x2 : Int) ∧ (x2 : Int) < 120) (if (I 118 x2 : Int) = 0 then (ev 229 35 [some (vr 115), none, some (vi x2)] [vi x1] (hp L b I J)) else (gd (0 ≤ (x2 : Int) ∧ (x2 : Int) < 120) (if ¬ (I 119 x2 : Int) = 0 then (ev 229 35 [some (vr 115), none, some (vi x2)] [vi x1] (hp L b I J)) else (ev 229 36 [some (vr 115), none, some (vi x2)] [vi 1, vi x1] (hp L b I J)))))) := by
  refine (e229_4 x1 x2).trans ?_
  simp only [e229_5, e229_6, e229_9, e229_12, e229_13, e229_14, e229_17, e229_18, e229_19, e229_22, e229_23, e229_26, e229_27, e229_28, e229_31, e229_32, e229_44, e229_45]
theorem s229_35 {L : Nat} {b : Bool} {I : AI} {J : AJ} (x2 : Int) (y0 : Int)  : ev 229 35 [some (vr 115), none, some (vi x2)] [vi y0] (hp L b I J) = ev 229 36 [some (vr 115), none, some (vi x2)] [vi 0, vi y0] (hp L b I J) := by
  refine (e229_35 x2 y0).trans ?_
  rfl
theorem s229_36 {L : Nat} {b : Bool} {I : AI} {J : AJ} (x2 : Int) (y0 : Int) (y1 : Int)  : ev 229 36 [some (vr 115), none, some (vi x2)] [vi y0, vi y1] (hp L b I J) = gd (-2147483648 ≤ (y1 + y0 : Int) ∧ (y1 + y0 : Int) ≤ 2147483647) (gd (-2147483648 ≤ (x2 + 1 : Int) ∧ (x2 + 1 : Int) ≤ 2147483647) (ev 229 4 [some (vr 115), some (vi (y1 + y0)), some (vi (x2 + 1))] [] (hp L b I J))) := by
  refine (e229_36 x2 y0 y1).trans ?_
  simp only [e229_37, e229_38, e229_41]
/-! 230: java/lang/Long.bitCount(J)I -/
theorem s230_0 {L : Nat} {b : Bool} {I : AI} {J : AJ} (x0 : BitVec 64)  : ev 230 0 [some (vl x0), none] [] (hp L b I J) = gd (0 ≤ (1 : Int) ∧ (1 : Int) < 64) (ev 230 10 [some (vl (x0 - ((x0 >>> (1 : Int).toNat) &&& (BitVec.ofInt 64 (6148914691236517205))))), none] [] (hp L b I J)) := by
  refine (e230_0 x0).trans ?_
  simp only [e230_1, e230_2, e230_3, e230_4, e230_7, e230_8, e230_9]
theorem s230_10 {L : Nat} {b : Bool} {I : AI} {J : AJ} (x0 : BitVec 64)  : ev 230 10 [some (vl x0), none] [] (hp L b I J) = gd (0 ≤ (2 : Int) ∧ (2 : Int) < 64) (ev 230 24 [some (vl ((x0 &&& (BitVec.ofInt 64 (3689348814741910323))) + ((x0 >>> (2 : Int).toNat) &&& (BitVec.ofInt 64 (3689348814741910323))))), none] [] (hp L b I J)) := by
  refine (e230_10 x0).trans ?_
  simp only [e230_11, e230_14, e230_15, e230_16, e230_17, e230_18, e230_21, e230_22, e230_23]
theorem s230_24 {L : Nat} {b : Bool} {I : AI} {J : AJ} (x0 : BitVec 64)  : ev 230 24 [some (vl x0), none] [] (hp L b I J) = gd (0 ≤ (4 : Int) ∧ (4 : Int) < 64) (ev 230 34 [some (vl ((x0 + (x0 >>> (4 : Int).toNat)) &&& (BitVec.ofInt 64 (1085102592571150095)))), none] [] (hp L b I J)) := by
  refine (e230_24 x0).trans ?_
  simp only [e230_25, e230_26, e230_27, e230_28, e230_29, e230_32, e230_33]
theorem s230_34 {L : Nat} {b : Bool} {I : AI} {J : AJ} (x0 : BitVec 64)  : ev 230 34 [some (vl x0), none] [] (hp L b I J) = gd (0 ≤ (8 : Int) ∧ (8 : Int) < 64) (ev 230 41 [some (vl (x0 + (x0 >>> (8 : Int).toNat))), none] [] (hp L b I J)) := by
  refine (e230_34 x0).trans ?_
  simp only [e230_35, e230_36, e230_38, e230_39, e230_40]
theorem s230_41 {L : Nat} {b : Bool} {I : AI} {J : AJ} (x0 : BitVec 64)  : ev 230 41 [some (vl x0), none] [] (hp L b I J) = gd (0 ≤ (16 : Int) ∧ (16 : Int) < 64) (ev 230 48 [some (vl (x0 + (x0 >>> (16 : Int).toNat))), none] [] (hp L b I J)) := by
  refine (e230_41 x0).trans ?_
  simp only [e230_42, e230_43, e230_45, e230_46, e230_47]
theorem s230_48 {L : Nat} {b : Bool} {I : AI} {J : AJ} (x0 : BitVec 64)  : ev 230 48 [some (vl x0), none] [] (hp L b I J) = gd (0 ≤ (32 : Int) ∧ (32 : Int) < 64) (ev 230 55 [some (vl (x0 + (x0 >>> (32 : Int).toNat))), none] [] (hp L b I J)) := by
  refine (e230_48 x0).trans ?_
  simp only [e230_49, e230_50, e230_52, e230_53, e230_54]
theorem s230_55 {L : Nat} {b : Bool} {I : AI} {J : AJ} (x0 : BitVec 64)  : ev 230 55 [some (vl x0), none] [] (hp L b I J) = some (vi ((((x0).signExtend 32).toInt) % 128), hp L b I J) := by
  refine (e230_55 x0).trans ?_
  simp only [e230_56, e230_57, e230_59, e230_60]
