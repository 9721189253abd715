/-! 1: VersionVault$Blend.blendTexts(LVersionVault$Texts;III)V -/
theorem s1_0 {L : Nat} {b : Bool} {I : AI} {J : AJ} (x0 : Nat) (x2 : Int) (x3 : Int) (x4 : Int) (hx0 : isBl x0 = true) : ev 1 0 [some (vr x0), some (vr 6), some (vi x2), some (vi x3), some (vi x4), none, none, none, none, none, none] [] (hp L b I J) = (evc 71 [vr 6, vi x2, vr (x0 + 1)] (hp L b I J)).bind (fun q => ev 1 9 [some (vr x0), some (vr 6), none, some (vi x3), some (vi x4), none, none, none, none, none, none] ([]) q.2) := by
  refine (e1_0 x0 x2 x3 x4).trans ?_
  simp only [e1_1, e1_2, e1_3, e1_6, hx0]
theorem s1_9 {L : Nat} {b : Bool} {I : AI} {J : AJ} (x0 : Nat) (x3 : Int) (x4 : Int) (hx0 : isBl x0 = true) : ev 1 9 [some (vr x0), some (vr 6), none, some (vi x3), some (vi x4), none, none, none, none, none, none] [] (hp L b I J) = (evc 71 [vr 6, vi x3, vr (x0 + 3)] (hp L b I J)).bind (fun q => ev 1 18 [some (vr x0), some (vr 6), none, none, some (vi x4), none, none, none, none, none, none] ([]) q.2) := by
  refine (e1_9 x0 x3 x4).trans ?_
  simp only [e1_10, e1_11, e1_12, e1_15, hx0]
theorem s1_18 {L : Nat} {b : Bool} {I : AI} {J : AJ} (x0 : Nat) (x4 : Int) (hx0 : isBl x0 = true) : ev 1 18 [some (vr x0), some (vr 6), none, none, some (vi x4), none, none, none, none, none, none] [] (hp L b I J) = (evc 71 [vr 6, vi x4, vr (x0 + 5)] (hp L b I J)).bind (fun q => ev 1 28 [some (vr x0), none, none, none, none, none, none, none, none, none, none] ([]) q.2) := by
  refine (e1_18 x0 x4).trans ?_
  simp only [e1_19, e1_21, e1_22, e1_25, hx0]
theorem s1_28 {L : Nat} {b : Bool} {I : AI} {J : AJ} (x0 : Nat) (hx0 : isBl x0 = true) : ev 1 28 [some (vr x0), none, none, none, none, none, none, none, none, none, none] [] (hp L b I J) = (evc 14 [vr (x0 + 10), vr (x0 + 1), vr (x0 + 3)] (hp L b I J)).bind (fun q => ev 1 43 [some (vr x0), none, none, none, none, none, none, none, none, none, none] ([]) q.2) := by
  refine (e1_28 x0).trans ?_
  simp only [e1_29, e1_32, e1_33, e1_36, e1_37, e1_40, hx0]
theorem s1_43 {L : Nat} {b : Bool} {I : AI} {J : AJ} (x0 : Nat) (hx0 : isBl x0 = true) : ev 1 43 [some (vr x0), none, none, none, none, none, none, none, none, none, none] [] (hp L b I J) = (evc 14 [vr (x0 + 13), vr (x0 + 1), vr (x0 + 5)] (hp L b I J)).bind (fun q => ev 1 58 [some (vr x0), none, none, none, none, none, none, none, none, none, none] ([]) q.2) := by
  refine (e1_43 x0).trans ?_
  simp only [e1_44, e1_47, e1_48, e1_51, e1_52, e1_55, hx0]
theorem s1_58 {L : Nat} {b : Bool} {I : AI} {J : AJ} (x0 : Nat) (hx0 : isBl x0 = true) : ev 1 58 [some (vr x0), none, none, none, none, none, none, none, none, none, none] [] (hp L b I J) = ev 1 80 [some (vr x0), none, none, none, none, some (vi 0), some (vi 0), some (vi 0), some (vi 0), none, none] [] (hp L b (upI (upI I x0 8 0) x0 9 0) J) := by
  refine (e1_58 x0).trans ?_
  simp only [e1_59, e1_60, e1_63, e1_64, e1_65, e1_68, e1_69, e1_71, e1_72, e1_74, e1_75, e1_77, e1_78, hx0]
theorem s1_80 {L : Nat} {b : Bool} {I : AI} {J : AJ} (x0 : Nat) (x5 : Int) (x6 : Int) (x7 : Int) (x8 : Int) (hx0 : isBl x0 = true) : ev 1 80 [some (vr x0), none, none, none, none, some (vi x5), some (vi x6), some (vi x7), some (vi x8), none, none] [] (hp L b I J) = if (I (x0 + 1) 1) ≤ (x8 : Int) then ((evc 2 [vr x0, vi x5, vi (I (x0 + 1) 1), vi x6, vi (I (x0 + 3) 1), vi x7, vi (I (x0 + 5) 1)] (hp L b I J)).bind (fun q => ev 1 197 [some (vr x0), none, none, none, none, some (vi x5), some (vi x6), some (vi x7), none, none, none] ([]) q.2)) else ((evc 16 [vr (x0 + 10), vi x8] (hp L b I J)).bind (fun q => ev 1 101 [some (vr x0), none, none, none, none, some (vi x5), some (vi x6), some (vi x7), some (vi x8), none, none] (q.1 :: []) q.2)) := by
  refine (e1_80 x0 x5 x6 x7 x8).trans ?_
  simp only [e1_82, e1_83, e1_86, e1_89, e1_92, e1_93, e1_96, e1_98, e1_166, e1_167, e1_169, e1_170, e1_173, e1_176, e1_178, e1_179, e1_182, e1_185, e1_187, e1_188, e1_191, e1_194, hx0]
theorem s1_101 {L : Nat} {b : Bool} {I : AI} {J : AJ} (x0 : Nat) (x5 : Int) (x6 : Int) (x7 : Int) (x8 : Int) (y0 : Int) (hx0 : isBl x0 = true) : ev 1 101 [some (vr x0), none, none, none, none, some (vi x5), some (vi x6), some (vi x7), some (vi x8), none, none] [vi y0] (hp L b I J) = (evc 16 [vr (x0 + 13), vi x8] (hp L b I J)).bind (fun q => ev 1 112 [some (vr x0), none, none, none, none, some (vi x5), some (vi x6), some (vi x7), some (vi x8), some (vi y0), none] (q.1 :: []) q.2) := by
  refine (e1_101 x0 x5 x6 x7 x8 y0).trans ?_
  simp only [e1_103, e1_104, e1_107, e1_109, hx0]
theorem s1_112 {L : Nat} {b : Bool} {I : AI} {J : AJ} (x0 : Nat) (x5 : Int) (x6 : Int) (x7 : Int) (x8 : Int) (x9 : Int) (y0 : Int) (hx0 : isBl x0 = true) : ev 1 112 [some (vr x0), none, none, none, none, some (vi x5), some (vi x6), some (vi x7), some (vi x8), some (vi x9), none] [vi y0] (hp L b I J) = if (x9 : Int) = ((-1)) then (ev 1 160 [some (vr x0), none, none, none, none, some (vi x5), some (vi x6), some (vi x7), some (vi x8), none, none] [] (hp L b I J)) else (if (y0 : Int) = ((-1)) then (ev 1 160 [some (vr x0), none, none, none, none, some (vi x5), some (vi x6), some (vi x7), some (vi x8), none, none] [] (hp L b I J)) else ((evc 2 [vr x0, vi x5, vi x8, vi x6, vi x9, vi x7, vi y0] (hp L b I J)).bind (fun q => ev 1 142 [some (vr x0), none, none, none, none, none, none, none, some (vi x8), some (vi x9), some (vi y0)] ([]) q.2))) := by
  refine (e1_112 x0 x5 x6 x7 x8 x9 y0).trans ?_
  simp only [e1_114, e1_116, e1_117, e1_120, e1_122, e1_123, e1_126, e1_127, e1_129, e1_131, e1_133, e1_135, e1_137, e1_139, hx0]
theorem s1_142 {L : Nat} {b : Bool} {I : AI} {J : AJ} (x0 : Nat) (x8 : Int) (x9 : Int) (x10 : Int)  : ev 1 142 [some (vr x0), none, none, none, none, none, none, none, some (vi x8), some (vi x9), some (vi x10)] [] (hp L b I J) = gd (-2147483648 ≤ (x8 + 1 : Int) ∧ (x8 + 1 : Int) ≤ 2147483647) (gd (-2147483648 ≤ (x9 + 1 : Int) ∧ (x9 + 1 : Int) ≤ 2147483647) (gd (-2147483648 ≤ (x10 + 1 : Int) ∧ (x10 + 1 : Int) ≤ 2147483647) (ev 1 160 [some (vr x0), none, none, none, none, some (vi (x8 + 1)), some (vi (x9 + 1)), some (vi (x10 + 1)), some (vi x8), none, none] [] (hp L b I J)))) := by
  refine (e1_142 x0 x8 x9 x10).trans ?_
  simp only [e1_144, e1_145, e1_146, e1_148, e1_150, e1_151, e1_152, e1_154, e1_156, e1_157, e1_158]
theorem s1_160 {L : Nat} {b : Bool} {I : AI} {J : AJ} (x0 : Nat) (x5 : Int) (x6 : Int) (x7 : Int) (x8 : Int)  : ev 1 160 [some (vr x0), none, none, none, none, some (vi x5), some (vi x6), some (vi x7), some (vi x8), none, none] [] (hp L b I J) = gd (-2147483648 ≤ (x8 + 1 : Int) ∧ (x8 + 1 : Int) ≤ 2147483647) (ev 1 80 [some (vr x0), none, none, none, none, some (vi x5), some (vi x6), some (vi x7), some (vi (x8 + 1)), none, none] [] (hp L b I J)) := by
  refine (e1_160 x0 x5 x6 x7 x8).trans ?_
  simp only [e1_163]
theorem s1_197 {L : Nat} {b : Bool} {I : AI} {J : AJ} (x0 : Nat) (x5 : Int) (x6 : Int) (x7 : Int)  : ev 1 197 [some (vr x0), none, none, none, none, some (vi x5), some (vi x6), some (vi x7), none, none, none] [] (hp L b I J) = some (vi 0, hp L b I J) := by
  refine (e1_197 x0 x5 x6 x7).trans ?_
  rfl
/-! 2: VersionVault$Blend.putPlace(IIIIII)V -/
theorem s2_0 {L : Nat} {b : Bool} {I : AI} {J : AJ} (x0 : Nat) (x1 : Int) (x2 : Int) (x3 : Int) (x4 : Int) (x5 : Int) (x6 : Int) (hx0 : isBl x0 = true) : ev 2 0 [some (vr x0), some (vi x1), some (vi x2), some (vi x3), some (vi x4), some (vi x5), some (vi x6), none] [] (hp L b I J) = if (I x0 8 : Int) < 25 then (gd (-2147483648 ≤ ((I x0 8) * 6 : Int) ∧ ((I x0 8) * 6 : Int) ≤ 2147483647) (gd (0 ≤ ((I x0 8) * 6 : Int) ∧ ((I x0 8) * 6 : Int) < 150) (gd (-2147483648 ≤ (((I x0 8) * 6) + 1 : Int) ∧ (((I x0 8) * 6) + 1 : Int) ≤ 2147483647) (gd (0 ≤ (((I x0 8) * 6) + 1 : Int) ∧ (((I x0 8) * 6) + 1 : Int) < 150) (gd (-2147483648 ≤ (((I x0 8) * 6) + 2 : Int) ∧ (((I x0 8) * 6) + 2 : Int) ≤ 2147483647) (gd (0 ≤ (((I x0 8) * 6) + 2 : Int) ∧ (((I x0 8) * 6) + 2 : Int) < 150) (gd (-2147483648 ≤ (((I x0 8) * 6) + 3 : Int) ∧ (((I x0 8) * 6) + 3 : Int) ≤ 2147483647) (gd (0 ≤ (((I x0 8) * 6) + 3 : Int) ∧ (((I x0 8) * 6) + 3 : Int) < 150) (gd (-2147483648 ≤ (((I x0 8) * 6) + 4 : Int) ∧ (((I x0 8) * 6) + 4 : Int) ≤ 2147483647) (gd (0 ≤ (((I x0 8) * 6) + 4 : Int) ∧ (((I x0 8) * 6) + 4 : Int) < 150) (gd (-2147483648 ≤ (((I x0 8) * 6) + 5 : Int) ∧ (((I x0 8) * 6) + 5 : Int) ≤ 2147483647) (gd (0 ≤ (((I x0 8) * 6) + 5 : Int) ∧ (((I x0 8) * 6) + 5 : Int) < 150) ((evc 3 [vr (x0 + 3), vi x3, vi x4, vr (x0 + 1), vi x1, vi x2] (hp L b (upI (upI (upI (upI (upI (upI I (x0 + 7) ((I x0 8) * 6) x1) (x0 + 7) (((I x0 8) * 6) + 1) x2) (x0 + 7) (((I x0 8) * 6) + 2) x3) (x0 + 7) (((I x0 8) * 6) + 3) x4) (x0 + 7) (((I x0 8) * 6) + 4) x5) (x0 + 7) (((I x0 8) * 6) + 5) x6) J)).bind (fun q => ev 2 96 [some (vr x0), some (vi x1), some (vi x2), some (vi x3), some (vi x4), some (vi x5), some (vi x6), none] (q.1 :: []) q.2)))))))))))))) else (some (vi 0, hp L b I J)) := by
  refine (e2_0 x0 x1 x2 x3 x4 x5 x6).trans ?_
  simp only [e2_1, e2_4, e2_6, e2_9, e2_10, e2_11, e2_14, e2_16, e2_17, e2_19, e2_20, e2_23, e2_25, e2_26, e2_27, e2_28, e2_31, e2_33, e2_34, e2_35, e2_36, e2_37, e2_38, e2_41, e2_43, e2_44, e2_45, e2_46, e2_47, e2_48, e2_51, e2_53, e2_54, e2_55, e2_57, e2_58, e2_59, e2_62, e2_64, e2_65, e2_66, e2_68, e2_69, e2_70, e2_73, e2_75, e2_76, e2_77, e2_79, e2_80, e2_81, e2_84, e2_85, e2_87, e2_88, e2_91, e2_92, e2_93, hx0]
theorem s2_96 {L : Nat} {b : Bool} {I : AI} {J : AJ} (x0 : Nat) (x1 : Int) (x2 : Int) (x3 : Int) (x4 : Int) (x5 : Int) (x6 : Int) (y0 : Int) (hx0 : isBl x0 = true) : ev 2 96 [some (vr x0), some (vi x1), some (vi x2), some (vi x3), some (vi x4), some (vi x5), some (vi x6), none] [vi y0] (hp L b I J) = if (y0 : Int) = 0 then ((evc 3 [vr (x0 + 5), vi x5, vi x6, vr (x0 + 1), vi x1, vi x2] (hp L b I J)).bind (fun q => ev 2 129 [some (vr x0), none, none, some (vi x3), some (vi x4), some (vi x5), some (vi x6), none] (q.1 :: []) q.2)) else (gd (0 ≤ (I x0 8 : Int) ∧ (I x0 8 : Int) < 25) (ev 2 199 [some (vr x0), none, none, none, none, none, none, none] [] (hp L b (upI I (x0 + 8) (I x0 8) 2) J))) := by
  refine (e2_96 x0 x1 x2 x3 x4 x5 x6 y0).trans ?_
  simp only [e2_99, e2_100, e2_103, e2_104, e2_107, e2_108, e2_109, e2_112, e2_113, e2_116, e2_118, e2_120, e2_121, e2_124, e2_125, e2_126, hx0]
theorem s2_129 {L : Nat} {b : Bool} {I : AI} {J : AJ} (x0 : Nat) (x3 : Int) (x4 : Int) (x5 : Int) (x6 : Int) (y0 : Int) (hx0 : isBl x0 = true) : ev 2 129 [some (vr x0), none, none, some (vi x3), some (vi x4), some (vi x5), some (vi x6), none] [vi y0] (hp L b I J) = if ¬ (y0 : Int) = 0 then (ev 2 153 [some (vr x0), none, none, none, none, none, none, none] [] (hp L b I J)) else ((evc 3 [vr (x0 + 3), vi x3, vi x4, vr (x0 + 5), vi x5, vi x6] (hp L b I J)).bind (fun q => ev 2 150 [some (vr x0), none, none, none, none, none, none, none] (q.1 :: []) q.2)) := by
  refine (e2_129 x0 x3 x4 x5 x6 y0).trans ?_
  simp only [e2_132, e2_133, e2_136, e2_137, e2_139, e2_140, e2_143, e2_145, e2_147, hx0]
theorem s2_150 {L : Nat} {b : Bool} {I : AI} {J : AJ} (x0 : Nat) (y0 : Int) (hx0 : isBl x0 = true) : ev 2 150 [some (vr x0), none, none, none, none, none, none, none] [vi y0] (hp L b I J) = if (y0 : Int) = 0 then (gd (0 ≤ (I x0 8 : Int) ∧ (I x0 8 : Int) < 25) (gd (0 ≤ ((upI I (x0 + 8) (I x0 8) ((-1))) x0 9 : Int) ∧ ((upI I (x0 + 8) (I x0 8) ((-1))) x0 9 : Int) < 25) (gd (-2147483648 ≤ (((upI (upI I (x0 + 8) (I x0 8) ((-1))) (x0 + 9) ((upI I (x0 + 8) (I x0 8) ((-1))) x0 9) ((upI I (x0 + 8) (I x0 8) ((-1))) x0 8)) x0 9) + 1 : Int) ∧ (((upI (upI I (x0 + 8) (I x0 8) ((-1))) (x0 + 9) ((upI I (x0 + 8) (I x0 8) ((-1))) x0 9) ((upI I (x0 + 8) (I x0 8) ((-1))) x0 8)) x0 9) + 1 : Int) ≤ 2147483647) (ev 2 199 [some (vr x0), none, none, none, none, none, none, none] [] (hp L b (upI (upI (upI I (x0 + 8) (I x0 8) ((-1))) (x0 + 9) ((upI I (x0 + 8) (I x0 8) ((-1))) x0 9) ((upI I (x0 + 8) (I x0 8) ((-1))) x0 8)) x0 9 (((upI (upI I (x0 + 8) (I x0 8) ((-1))) (x0 + 9) ((upI I (x0 + 8) (I x0 8) ((-1))) x0 9) ((upI I (x0 + 8) (I x0 8) ((-1))) x0 8)) x0 9) + 1)) J))))) else (ev 2 153 [some (vr x0), none, none, none, none, none, none, none] [] (hp L b I J)) := by
  refine (e2_150 x0 y0).trans ?_
  simp only [e2_166, e2_167, e2_170, e2_171, e2_174, e2_175, e2_176, e2_177, e2_180, e2_181, e2_184, e2_185, e2_188, e2_189, e2_190, e2_191, e2_194, e2_195, e2_196, hx0]
theorem s2_153 {L : Nat} {b : Bool} {I : AI} {J : AJ} (x0 : Nat) (hx0 : isBl x0 = true) : ev 2 153 [some (vr x0), none, none, none, none, none, none, none] [] (hp L b I J) = gd (0 ≤ (I x0 8 : Int) ∧ (I x0 8 : Int) < 25) (ev 2 199 [some (vr x0), none, none, none, none, none, none, none] [] (hp L b (upI I (x0 + 8) (I x0 8) 1) J)) := by
  refine (e2_153 x0).trans ?_
  simp only [e2_154, e2_157, e2_158, e2_161, e2_162, e2_163, hx0]
theorem s2_199 {L : Nat} {b : Bool} {I : AI} {J : AJ} (x0 : Nat) (hx0 : isBl x0 = true) : ev 2 199 [some (vr x0), none, none, none, none, none, none, none] [] (hp L b I J) = gd (-2147483648 ≤ ((I x0 8) + 1 : Int) ∧ ((I x0 8) + 1 : Int) ≤ 2147483647) (some (vi 0, hp L b (upI I x0 8 ((I x0 8) + 1)) J)) := by
  refine (e2_199 x0).trans ?_
  simp only [e2_200, e2_201, e2_204, e2_205, e2_206, e2_209, hx0]
/-! 3: VersionVault$Blend.sameSpan(LVersionVault$Row;IILVersionVault$Row;II)Z -/
theorem s3_0 {L : Nat} {b : Bool} {I : AI} {J : AJ} (x0 : Nat) (x1 : Int) (x2 : Int) (x3 : Nat) (x4 : Int) (x5 : Int)  : ev 3 0 [some (vr x0), some (vi x1), some (vi x2), some (vr x3), some (vi x4), some (vi x5), none] [] (hp L b I J) = gd (-2147483648 ≤ (x2 - x1 : Int) ∧ (x2 - x1 : Int) ≤ 2147483647) (gd (-2147483648 ≤ (x5 - x4 : Int) ∧ (x5 - x4 : Int) ≤ 2147483647) (if (x2 - x1 : Int) = (x5 - x4) then (ev 3 16 [some (vr x0), some (vi x1), some (vi x2), some (vr x3), some (vi x4), none, some (vi 0)] [] (hp L b I J)) else (gd ((0 : Int) = 0 ∨ (0 : Int) = 1) (some (vi 0, hp L b I J))))) := by
  refine (e3_0 x0 x1 x2 x3 x4 x5).trans ?_
  simp only [e3_1, e3_2, e3_3, e3_5, e3_7, e3_8, e3_11, e3_12, e3_13, e3_14]
theorem s3_16 {L : Nat} {b : Bool} {I : AI} {J : AJ} (x0 : Nat) (x1 : Int) (x2 : Int) (x3 : Nat) (x4 : Int) (x6 : Int) (hx0 : isRow x0 = true) (hx3 : isRow x3 = true) : ev 3 16 [some (vr x0), some (vi x1), some (vi x2), some (vr x3), some (vi x4), none, some (vi x6)] [] (hp L b I J) = gd (-2147483648 ≤ (x2 - x1 : Int) ∧ (x2 - x1 : Int) ≤ 2147483647) (if (x2 - x1) ≤ (x6 : Int) then (gd ((1 : Int) = 0 ∨ (1 : Int) = 1) (some (vi 1, hp L b I J))) else (gd (-2147483648 ≤ (x1 + x6 : Int) ∧ (x1 + x6 : Int) ≤ 2147483647) (gd (0 ≤ (x1 + x6 : Int) ∧ (x1 + x6 : Int) < 24) (gd (-2147483648 ≤ (x4 + x6 : Int) ∧ (x4 + x6 : Int) ≤ 2147483647) (gd (0 ≤ (x4 + x6 : Int) ∧ (x4 + x6 : Int) < 24) (if (I (x0 + 1) (x1 + x6) : Int) = (I (x3 + 1) (x4 + x6)) then (gd (-2147483648 ≤ (x6 + 1 : Int) ∧ (x6 + 1 : Int) ≤ 2147483647) (ev 3 16 [some (vr x0), some (vi x1), some (vi x2), some (vr x3), some (vi x4), none, some (vi (x6 + 1))] [] (hp L b I J))) else (gd ((0 : Int) = 0 ∨ (0 : Int) = 1) (some (vi 0, hp L b I J))))))))) := by
  refine (e3_16 x0 x1 x2 x3 x4 x6).trans ?_
  simp only [e3_18, e3_19, e3_20, e3_21, e3_24, e3_25, e3_28, e3_29, e3_31, e3_32, e3_33, e3_34, e3_37, e3_39, e3_41, e3_42, e3_43, e3_46, e3_47, e3_48, e3_51, e3_54, e3_55, hx0, hx3]
/-! 4: VersionVault$Blend.spanLength(II)I -/
theorem s4_0 {L : Nat} {b : Bool} {I : AI} {J : AJ} (x0 : Nat) (x1 : Int) (x2 : Int) (hx0 : isBl x0 = true) : ev 4 0 [some (vr x0), some (vi x1), some (vi x2), none] [] (hp L b I J) = gd (-2147483648 ≤ (x1 * 6 : Int) ∧ (x1 * 6 : Int) ≤ 2147483647) (gd (-2147483648 ≤ (x2 * 2 : Int) ∧ (x2 * 2 : Int) ≤ 2147483647) (gd (-2147483648 ≤ ((x1 * 6) + (x2 * 2) : Int) ∧ ((x1 * 6) + (x2 * 2) : Int) ≤ 2147483647) (gd (-2147483648 ≤ (((x1 * 6) + (x2 * 2)) + 1 : Int) ∧ (((x1 * 6) + (x2 * 2)) + 1 : Int) ≤ 2147483647) (gd (0 ≤ (((x1 * 6) + (x2 * 2)) + 1 : Int) ∧ (((x1 * 6) + (x2 * 2)) + 1 : Int) < 150) (gd (0 ≤ ((x1 * 6) + (x2 * 2) : Int) ∧ ((x1 * 6) + (x2 * 2) : Int) < 150) (gd (-2147483648 ≤ ((I (x0 + 7) (((x1 * 6) + (x2 * 2)) + 1)) - (I (x0 + 7) ((x1 * 6) + (x2 * 2))) : Int) ∧ ((I (x0 + 7) (((x1 * 6) + (x2 * 2)) + 1)) - (I (x0 + 7) ((x1 * 6) + (x2 * 2))) : Int) ≤ 2147483647) (some (vi ((I (x0 + 7) (((x1 * 6) + (x2 * 2)) + 1)) - (I (x0 + 7) ((x1 * 6) + (x2 * 2)))), hp L b I J)))))))) := by
  refine (e4_0 x0 x1 x2).trans ?_
  simp only [e4_1, e4_3, e4_4, e4_5, e4_6, e4_7, e4_8, e4_9, e4_10, e4_13, e4_14, e4_15, e4_16, e4_17, e4_18, e4_21, e4_22, e4_23, e4_24, hx0]
/-! 5: VersionVault$Blend.spanLine(III)I -/
theorem s5_0 {L : Nat} {b : Bool} {I : AI} {J : AJ} (x0 : Nat) (x1 : Int) (x2 : Int) (x3 : Int) (hx0 : isBl x0 = true) : ev 5 0 [some (vr x0), some (vi x1), some (vi x2), some (vi x3)] [] (hp L b I J) = (evc 6 [vr x0, vi x2] (hp L b I J)).bind (fun q => ev 5 5 [some (vr x0), some (vi x1), some (vi x2), some (vi x3)] (q.1 :: []) q.2) := by
  refine (e5_0 x0 x1 x2 x3).trans ?_
  simp only [e5_1, e5_2, hx0]
theorem s5_5 {L : Nat} {b : Bool} {I : AI} {J : AJ} (x0 : Nat) (x1 : Int) (x2 : Int) (x3 : Int) (y0 : Nat) (hx0 : isBl x0 = true) (hy0 : isRow y0 = true) : ev 5 5 [some (vr x0), some (vi x1), some (vi x2), some (vi x3)] [vr y0] (hp L b I J) = gd (-2147483648 ≤ (x1 * 6 : Int) ∧ (x1 * 6 : Int) ≤ 2147483647) (gd (-2147483648 ≤ (x2 * 2 : Int) ∧ (x2 * 2 : Int) ≤ 2147483647) (gd (-2147483648 ≤ ((x1 * 6) + (x2 * 2) : Int) ∧ ((x1 * 6) + (x2 * 2) : Int) ≤ 2147483647) (gd (0 ≤ ((x1 * 6) + (x2 * 2) : Int) ∧ ((x1 * 6) + (x2 * 2) : Int) < 150) (gd (-2147483648 ≤ ((I (x0 + 7) ((x1 * 6) + (x2 * 2))) + x3 : Int) ∧ ((I (x0 + 7) ((x1 * 6) + (x2 * 2))) + x3 : Int) ≤ 2147483647) ((evc 39 [vr y0, vi ((I (x0 + 7) ((x1 * 6) + (x2 * 2))) + x3)] (hp L b I J)).bind (fun q => ev 5 23 [some (vr x0), some (vi x1), some (vi x2), some (vi x3)] (q.1 :: []) q.2)))))) := by
  refine (e5_5 x0 x1 x2 x3 y0).trans ?_
  simp only [e5_6, e5_9, e5_10, e5_12, e5_13, e5_14, e5_15, e5_16, e5_17, e5_18, e5_19, e5_20, hx0, hy0]
theorem s5_23 {L : Nat} {b : Bool} {I : AI} {J : AJ} (x0 : Nat) (x1 : Int) (x2 : Int) (x3 : Int) (y0 : Int)  : ev 5 23 [some (vr x0), some (vi x1), some (vi x2), some (vi x3)] [vi y0] (hp L b I J) = some (vi y0, hp L b I J) := by
  refine (e5_23 x0 x1 x2 x3 y0).trans ?_
  rfl
/-! 6: VersionVault$Blend.sideRow(I)LVersionVault$Row; -/
theorem s6_0 {L : Nat} {b : Bool} {I : AI} {J : AJ} (x0 : Nat) (x1 : Int) (hx0 : isBl x0 = true) : ev 6 0 [some (vr x0), some (vi x1)] [] (hp L b I J) = if ¬ (x1 : Int) = 0 then (if ¬ (x1 : Int) = 1 then (some (vr (x0 + 5), hp L b I J)) else (some (vr (x0 + 3), hp L b I J))) else (some (vr (x0 + 1), hp L b I J)) := by
  refine (e6_0 x0 x1).trans ?_
  simp only [e6_1, e6_4, e6_5, e6_8, e6_9, e6_10, e6_11, e6_14, e6_15, e6_18, e6_21, e6_22, e6_25, hx0]
/-! 7: VersionVault$Blend.isConflict(I)Z -/
theorem s7_0 {L : Nat} {b : Bool} {I : AI} {J : AJ} (x0 : Nat) (x1 : Int) (hx0 : isBl x0 = true) : ev 7 0 [some (vr x0), some (vi x1)] [] (hp L b I J) = if (x1 : Int) < 0 then (ev 7 16 [none, none] [] (hp L b I J)) else (if (I x0 9) ≤ (x1 : Int) then (ev 7 16 [none, none] [] (hp L b I J)) else (gd ((1 : Int) = 0 ∨ (1 : Int) = 1) (some (vi 1, hp L b I J)))) := by
  refine (e7_0 x0 x1).trans ?_
  simp only [e7_1, e7_4, e7_5, e7_6, e7_9, e7_12, e7_13, e7_17, hx0]
theorem s7_16 {L : Nat} {b : Bool} {I : AI} {J : AJ}   : ev 7 16 [none, none] [] (hp L b I J) = gd ((0 : Int) = 0 ∨ (0 : Int) = 1) (some (vi 0, hp L b I J)) := by
  refine (e7_16 ).trans ?_
  simp only [e7_17]
/-! 8: VersionVault$Blend.fits()Z -/
theorem s8_0 {L : Nat} {b : Bool} {I : AI} {J : AJ} (x0 : Nat) (hx0 : isBl x0 = true) : ev 8 0 [some (vr x0), none, none] [] (hp L b I J) = gd (-2147483648 ≤ ((I x0 8) - 1 : Int) ∧ ((I x0 8) - 1 : Int) ≤ 2147483647) (ev 8 9 [some (vr x0), some (vi ((I x0 8) - 1)), some (vi 0)] [] (hp L b I J)) := by
  refine (e8_0 x0).trans ?_
  simp only [e8_1, e8_4, e8_5, e8_6, e8_7, e8_8, hx0]
theorem s8_9 {L : Nat} {b : Bool} {I : AI} {J : AJ} (x0 : Nat) (x1 : Int) (x2 : Int) (hx0 : isBl x0 = true) : ev 8 9 [some (vr x0), some (vi x1), some (vi x2)] [] (hp L b I J) = if (I x0 8) ≤ (x2 : Int) then (if (I x0 8 : Int) ≤ 0 then (ev 8 60 [none, none, none] [] (hp L b I J)) else (if 24 < (x1 : Int) then (ev 8 60 [none, none, none] [] (hp L b I J)) else (gd ((1 : Int) = 0 ∨ (1 : Int) = 1) (some (vi 1, hp L b I J))))) else (gd (0 ≤ (x2 : Int) ∧ (x2 : Int) < 25) (if ¬ (I (x0 + 8) x2 : Int) = ((-1)) then ((evc 9 [vr x0, vi x2] (hp L b I J)).bind (fun q => ev 8 35 [some (vr x0), none, some (vi x2)] (q.1 :: [vi x1]) q.2)) else (gd ((0 : Int) = 0 ∨ (0 : Int) = 1) (some (vi 0, hp L b I J))))) := by
  refine (e8_9 x0 x1 x2).trans ?_
  simp only [e8_10, e8_11, e8_14, e8_17, e8_18, e8_21, e8_22, e8_23, e8_24, e8_27, e8_28, e8_29, e8_30, e8_31, e8_32, e8_43, e8_44, e8_47, e8_50, e8_51, e8_53, e8_56, e8_57, e8_61, hx0]
theorem s8_35 {L : Nat} {b : Bool} {I : AI} {J : AJ} (x0 : Nat) (x2 : Int) (y0 : Int) (y1 : Int)  : ev 8 35 [some (vr x0), none, some (vi x2)] [vi y0, vi y1] (hp L b I J) = gd (-2147483648 ≤ (y1 + y0 : Int) ∧ (y1 + y0 : Int) ≤ 2147483647) (gd (-2147483648 ≤ (x2 + 1 : Int) ∧ (x2 + 1 : Int) ≤ 2147483647) (ev 8 9 [some (vr x0), some (vi (y1 + y0)), some (vi (x2 + 1))] [] (hp L b I J))) := by
  refine (e8_35 x0 x2 y0 y1).trans ?_
  simp only [e8_36, e8_37, e8_40]
theorem s8_60 {L : Nat} {b : Bool} {I : AI} {J : AJ}   : ev 8 60 [none, none, none] [] (hp L b I J) = gd ((0 : Int) = 0 ∨ (0 : Int) = 1) (some (vi 0, hp L b I J)) := by
  refine (e8_60 ).trans ?_
  simp only [e8_61]
/-! 9: VersionVault$Blend.outcomeLength(I)I -/
theorem s9_0 {L : Nat} {b : Bool} {I : AI} {J : AJ} (x0 : Nat) (x1 : Int) (hx0 : isBl x0 = true) : ev 9 0 [some (vr x0), some (vi x1)] [] (hp L b I J) = gd (0 ≤ (x1 : Int) ∧ (x1 : Int) < 25) (if (I (x0 + 8) x1 : Int) = 0 then ((evc 4 [vr x0, vi x1, vi 0] (hp L b I J)).bind (fun q => ev 9 42 [some (vr x0), some (vi x1)] (q.1 :: []) q.2)) else (if (I (x0 + 8) x1 : Int) = 1 then ((evc 4 [vr x0, vi x1, vi 1] (hp L b I J)).bind (fun q => ev 9 49 [some (vr x0), some (vi x1)] (q.1 :: []) q.2)) else (if (I (x0 + 8) x1 : Int) = 2 then ((evc 4 [vr x0, vi x1, vi 2] (hp L b I J)).bind (fun q => ev 9 56 [some (vr x0), some (vi x1)] (q.1 :: []) q.2)) else (if (I (x0 + 8) x1 : Int) = 3 then ((evc 4 [vr x0, vi x1, vi 1] (hp L b I J)).bind (fun q => ev 9 63 [some (vr x0), some (vi x1)] (q.1 :: []) q.2)) else (some (vi 0, hp L b I J)))))) := by
  refine (e9_0 x0 x1).trans ?_
  simp only [e9_1, e9_4, e9_5, e9_6, e9_36, e9_37, e9_38, e9_39, e9_43, e9_44, e9_45, e9_46, e9_50, e9_51, e9_52, e9_53, e9_57, e9_58, e9_59, e9_60, e9_71, e9_72, hx0]
theorem s9_42 {L : Nat} {b : Bool} {I : AI} {J : AJ} (x0 : Nat) (x1 : Int) (y0 : Int)  : ev 9 42 [some (vr x0), some (vi x1)] [vi y0] (hp L b I J) = some (vi y0, hp L b I J) := by
  refine (e9_42 x0 x1 y0).trans ?_
  rfl
theorem s9_49 {L : Nat} {b : Bool} {I : AI} {J : AJ} (x0 : Nat) (x1 : Int) (y0 : Int)  : ev 9 49 [some (vr x0), some (vi x1)] [vi y0] (hp L b I J) = some (vi y0, hp L b I J) := by
  refine (e9_49 x0 x1 y0).trans ?_
  rfl
theorem s9_56 {L : Nat} {b : Bool} {I : AI} {J : AJ} (x0 : Nat) (x1 : Int) (y0 : Int)  : ev 9 56 [some (vr x0), some (vi x1)] [vi y0] (hp L b I J) = some (vi y0, hp L b I J) := by
  refine (e9_56 x0 x1 y0).trans ?_
  rfl
theorem s9_63 {L : Nat} {b : Bool} {I : AI} {J : AJ} (x0 : Nat) (x1 : Int) (y0 : Int) (hx0 : isBl x0 = true) : ev 9 63 [some (vr x0), some (vi x1)] [vi y0] (hp L b I J) = (evc 4 [vr x0, vi x1, vi 2] (hp L b I J)).bind (fun q => ev 9 69 [none, none] (q.1 :: [vi y0]) q.2) := by
  refine (e9_63 x0 x1 y0).trans ?_
  simp only [e9_64, e9_65, e9_66, hx0]
theorem s9_69 {L : Nat} {b : Bool} {I : AI} {J : AJ} (y0 : Int) (y1 : Int)  : ev 9 69 [none, none] [vi y0, vi y1] (hp L b I J) = gd (-2147483648 ≤ (y1 + y0 : Int) ∧ (y1 + y0 : Int) ≤ 2147483647) (some (vi (y1 + y0), hp L b I J)) := by
  refine (e9_69 y0 y1).trans ?_
  simp only [e9_70]
/-! 10: VersionVault$Blend.weave(LVersionVault$Row;)V -/
theorem s10_0 {L : Nat} {b : Bool} {I : AI} {J : AJ} (x0 : Nat) (x1 : Nat) (hx1 : isRow x1 = true) : ev 10 0 [some (vr x0), some (vr x1), none, none] [] (hp L b I J) = (evc 37 [vr x1] (hp L b I J)).bind (fun q => ev 10 4 [some (vr x0), some (vr x1), none, none] ([]) q.2) := by
  refine (e10_0 x0 x1).trans ?_
  simp only [e10_1, hx1]
theorem s10_4 {L : Nat} {b : Bool} {I : AI} {J : AJ} (x0 : Nat) (x1 : Nat)  : ev 10 4 [some (vr x0), some (vr x1), none, none] [] (hp L b I J) = ev 10 6 [some (vr x0), some (vr x1), some (vi 0), none] [] (hp L b I J) := by
  refine (e10_4 x0 x1).trans ?_
  simp only [e10_5]
theorem s10_6 {L : Nat} {b : Bool} {I : AI} {J : AJ} (x0 : Nat) (x1 : Nat) (x2 : Int) (hx0 : isBl x0 = true) : ev 10 6 [some (vr x0), some (vr x1), some (vi x2), none] [] (hp L b I J) = if (I x0 8) ≤ (x2 : Int) then (some (vi 0, hp L b I J)) else (gd (0 ≤ (x2 : Int) ∧ (x2 : Int) < 25) (if ¬ (I (x0 + 8) x2 : Int) = 0 then (ev 10 32 [some (vr x0), some (vr x1), some (vi x2), some (vi (I (x0 + 8) x2))] [] (hp L b I J)) else ((evc 11 [vr x0, vi x2, vi 0, vr x1] (hp L b I J)).bind (fun q => ev 10 32 [some (vr x0), some (vr x1), some (vi x2), some (vi (I (x0 + 8) x2))] ([]) q.2)))) := by
  refine (e10_6 x0 x1 x2).trans ?_
  simp only [e10_7, e10_8, e10_11, e10_14, e10_15, e10_18, e10_19, e10_20, e10_21, e10_22, e10_25, e10_26, e10_27, e10_28, e10_29, e10_105, hx0]
theorem s10_32 {L : Nat} {b : Bool} {I : AI} {J : AJ} (x0 : Nat) (x1 : Nat) (x2 : Int) (x3 : Int)  : ev 10 32 [some (vr x0), some (vr x1), some (vi x2), some (vi x3)] [] (hp L b I J) = if (x3 : Int) = 1 then (ev 10 42 [some (vr x0), some (vr x1), some (vi x2), some (vi x3)] [] (hp L b I J)) else (if ¬ (x3 : Int) = 3 then (ev 10 49 [some (vr x0), some (vr x1), some (vi x2), some (vi x3)] [] (hp L b I J)) else (ev 10 42 [some (vr x0), some (vr x1), some (vi x2), some (vi x3)] [] (hp L b I J))) := by
  refine (e10_32 x0 x1 x2 x3).trans ?_
  simp only [e10_33, e10_34, e10_37, e10_38, e10_39]
theorem s10_42 {L : Nat} {b : Bool} {I : AI} {J : AJ} (x0 : Nat) (x1 : Nat) (x2 : Int) (x3 : Int) (hx0 : isBl x0 = true) : ev 10 42 [some (vr x0), some (vr x1), some (vi x2), some (vi x3)] [] (hp L b I J) = (evc 11 [vr x0, vi x2, vi 1, vr x1] (hp L b I J)).bind (fun q => ev 10 49 [some (vr x0), some (vr x1), some (vi x2), some (vi x3)] ([]) q.2) := by
  refine (e10_42 x0 x1 x2 x3).trans ?_
  simp only [e10_43, e10_44, e10_45, e10_46, hx0]
theorem s10_49 {L : Nat} {b : Bool} {I : AI} {J : AJ} (x0 : Nat) (x1 : Nat) (x2 : Int) (x3 : Int)  : ev 10 49 [some (vr x0), some (vr x1), some (vi x2), some (vi x3)] [] (hp L b I J) = if (x3 : Int) = 2 then (ev 10 59 [some (vr x0), some (vr x1), some (vi x2), none] [] (hp L b I J)) else (if ¬ (x3 : Int) = 3 then (ev 10 66 [some (vr x0), some (vr x1), some (vi x2), none] [] (hp L b I J)) else (ev 10 59 [some (vr x0), some (vr x1), some (vi x2), none] [] (hp L b I J))) := by
  refine (e10_49 x0 x1 x2 x3).trans ?_
  simp only [e10_50, e10_51, e10_54, e10_55, e10_56]
theorem s10_59 {L : Nat} {b : Bool} {I : AI} {J : AJ} (x0 : Nat) (x1 : Nat) (x2 : Int) (hx0 : isBl x0 = true) : ev 10 59 [some (vr x0), some (vr x1), some (vi x2), none] [] (hp L b I J) = (evc 11 [vr x0, vi x2, vi 2, vr x1] (hp L b I J)).bind (fun q => ev 10 66 [some (vr x0), some (vr x1), some (vi x2), none] ([]) q.2) := by
  refine (e10_59 x0 x1 x2).trans ?_
  simp only [e10_60, e10_61, e10_62, e10_63, hx0]
theorem s10_66 {L : Nat} {b : Bool} {I : AI} {J : AJ} (x0 : Nat) (x1 : Nat) (x2 : Int) (hx0 : isBl x0 = true) : ev 10 66 [some (vr x0), some (vr x1), some (vi x2), none] [] (hp L b I J) = gd (-2147483648 ≤ ((I x0 8) - 1 : Int) ∧ ((I x0 8) - 1 : Int) ≤ 2147483647) (if ((I x0 8) - 1) ≤ (x2 : Int) then (ev 10 99 [some (vr x0), some (vr x1), some (vi x2), none] [] (hp L b I J)) else (gd (-2147483648 ≤ (x2 * 6 : Int) ∧ (x2 * 6 : Int) ≤ 2147483647) (gd (-2147483648 ≤ ((x2 * 6) + 1 : Int) ∧ ((x2 * 6) + 1 : Int) ≤ 2147483647) (gd (0 ≤ ((x2 * 6) + 1 : Int) ∧ ((x2 * 6) + 1 : Int) < 150) ((evc 39 [vr (x0 + 1), vi (I (x0 + 7) ((x2 * 6) + 1))] (hp L b I J)).bind (fun q => ev 10 95 [some (vr x0), some (vr x1), some (vi x2), none] (q.1 :: [vr x1]) q.2)))))) := by
  refine (e10_66 x0 x1 x2).trans ?_
  simp only [e10_67, e10_68, e10_71, e10_72, e10_73, e10_76, e10_77, e10_78, e10_81, e10_82, e10_85, e10_86, e10_88, e10_89, e10_90, e10_91, e10_92, hx0]
theorem s10_95 {L : Nat} {b : Bool} {I : AI} {J : AJ} (x0 : Nat) (x1 : Nat) (x2 : Int) (y0 : Int) (y1 : Nat) (hy1 : isRow y1 = true) : ev 10 95 [some (vr x0), some (vr x1), some (vi x2), none] [vi y0, vr y1] (hp L b I J) = (evc 38 [vr y1, vi y0] (hp L b I J)).bind (fun q => ev 10 98 [some (vr x0), some (vr x1), some (vi x2), none] (q.1 :: []) q.2) := by
  refine (e10_95 x0 x1 x2 y0 y1 hy1).trans ?_
  rfl
theorem s10_98 {L : Nat} {b : Bool} {I : AI} {J : AJ} (x0 : Nat) (x1 : Nat) (x2 : Int) (y0 : Int)  : ev 10 98 [some (vr x0), some (vr x1), some (vi x2), none] [vi y0] (hp L b I J) = ev 10 99 [some (vr x0), some (vr x1), some (vi x2), none] [] (hp L b I J) := by
  refine (e10_98 x0 x1 x2 y0).trans ?_
  rfl
theorem s10_99 {L : Nat} {b : Bool} {I : AI} {J : AJ} (x0 : Nat) (x1 : Nat) (x2 : Int)  : ev 10 99 [some (vr x0), some (vr x1), some (vi x2), none] [] (hp L b I J) = gd (-2147483648 ≤ (x2 + 1 : Int) ∧ (x2 + 1 : Int) ≤ 2147483647) (ev 10 6 [some (vr x0), some (vr x1), some (vi (x2 + 1)), none] [] (hp L b I J)) := by
  refine (e10_99 x0 x1 x2).trans ?_
  simp only [e10_102]
/-! 11: VersionVault$Blend.pushSpan(IILVersionVault$Row;)V -/
theorem s11_0 {L : Nat} {b : Bool} {I : AI} {J : AJ} (x0 : Nat) (x1 : Int) (x2 : Int) (x3 : Nat) (hx0 : isBl x0 = true) : ev 11 0 [some (vr x0), some (vi x1), some (vi x2), some (vr x3), none, none, none] [] (hp L b I J) = (evc 6 [vr x0, vi x2] (hp L b I J)).bind (fun q => ev 11 5 [some (vr x0), some (vi x1), some (vi x2), some (vr x3), none, none, none] (q.1 :: []) q.2) := by
  refine (e11_0 x0 x1 x2 x3).trans ?_
  simp only [e11_1, e11_2, hx0]
theorem s11_5 {L : Nat} {b : Bool} {I : AI} {J : AJ} (x0 : Nat) (x1 : Int) (x2 : Int) (x3 : Nat) (y0 : Nat) (hx0 : isBl x0 = true) : ev 11 5 [some (vr x0), some (vi x1), some (vi x2), some (vr x3), none, none, none] [vr y0] (hp L b I J) = gd (-2147483648 ≤ (x1 * 6 : Int) ∧ (x1 * 6 : Int) ≤ 2147483647) (gd (-2147483648 ≤ (x2 * 2 : Int) ∧ (x2 * 2 : Int) ≤ 2147483647) (gd (-2147483648 ≤ ((x1 * 6) + (x2 * 2) : Int) ∧ ((x1 * 6) + (x2 * 2) : Int) ≤ 2147483647) (gd (0 ≤ ((x1 * 6) + (x2 * 2) : Int) ∧ ((x1 * 6) + (x2 * 2) : Int) < 150) (ev 11 26 [some (vr x0), none, none, some (vr x3), some (vr y0), some (vi ((x1 * 6) + (x2 * 2))), some (vi (I (x0 + 7) ((x1 * 6) + (x2 * 2))))] [] (hp L b I J))))) := by
  refine (e11_5 x0 x1 x2 x3 y0).trans ?_
  simp only [e11_7, e11_8, e11_10, e11_11, e11_12, e11_13, e11_14, e11_15, e11_17, e11_18, e11_21, e11_23, e11_24, hx0]
theorem s11_26 {L : Nat} {b : Bool} {I : AI} {J : AJ} (x0 : Nat) (x3 : Nat) (x4 : Nat) (x5 : Int) (x6 : Int) (hx0 : isBl x0 = true) (hx4 : isRow x4 = true) : ev 11 26 [some (vr x0), none, none, some (vr x3), some (vr x4), some (vi x5), some (vi x6)] [] (hp L b I J) = gd (-2147483648 ≤ (x5 + 1 : Int) ∧ (x5 + 1 : Int) ≤ 2147483647) (gd (0 ≤ (x5 + 1 : Int) ∧ (x5 + 1 : Int) < 150) (if (I (x0 + 7) (x5 + 1)) ≤ (x6 : Int) then (some (vi 0, hp L b I J)) else ((evc 39 [vr x4, vi x6] (hp L b I J)).bind (fun q => ev 11 48 [some (vr x0), none, none, some (vr x3), some (vr x4), some (vi x5), some (vi x6)] (q.1 :: [vr x3]) q.2)))) := by
  refine (e11_26 x0 x3 x4 x5 x6).trans ?_
  simp only [e11_28, e11_29, e11_32, e11_34, e11_35, e11_36, e11_37, e11_40, e11_41, e11_43, e11_45, e11_58, hx0, hx4]
theorem s11_48 {L : Nat} {b : Bool} {I : AI} {J : AJ} (x0 : Nat) (x3 : Nat) (x4 : Nat) (x5 : Int) (x6 : Int) (y0 : Int) (y1 : Nat) (hy1 : isRow y1 = true) : ev 11 48 [some (vr x0), none, none, some (vr x3), some (vr x4), some (vi x5), some (vi x6)] [vi y0, vr y1] (hp L b I J) = (evc 38 [vr y1, vi y0] (hp L b I J)).bind (fun q => ev 11 51 [some (vr x0), none, none, some (vr x3), some (vr x4), some (vi x5), some (vi x6)] (q.1 :: []) q.2) := by
  refine (e11_48 x0 x3 x4 x5 x6 y0 y1 hy1).trans ?_
  rfl
theorem s11_51 {L : Nat} {b : Bool} {I : AI} {J : AJ} (x0 : Nat) (x3 : Nat) (x4 : Nat) (x5 : Int) (x6 : Int) (y0 : Int)  : ev 11 51 [some (vr x0), none, none, some (vr x3), some (vr x4), some (vi x5), some (vi x6)] [vi y0] (hp L b I J) = gd (-2147483648 ≤ (x6 + 1 : Int) ∧ (x6 + 1 : Int) ≤ 2147483647) (ev 11 26 [some (vr x0), none, none, some (vr x3), some (vr x4), some (vi x5), some (vi (x6 + 1))] [] (hp L b I J)) := by
  refine (e11_51 x0 x3 x4 x5 x6 y0).trans ?_
  simp only [e11_52, e11_55]
/-! 13: VersionVault$Diff.mostPairs(LVersionVault$Row;LVersionVault$Row;)I -/
theorem s13_0 {L : Nat} {b : Bool} {I : AI} {J : AJ} (x0 : Nat) (x1 : Nat) (x2 : Nat) (hx0 : isDiff x0 = true) : ev 13 0 [some (vr x0), some (vr x1), some (vr x2), none, none, none, none, none, none] [] (hp L b I J) = ev 13 8 [none, some (vr x1), some (vr x2), some (vr 2), some (vi 0), none, none, none, none] [] (hp L b I J) := by
  refine (e13_0 x0 x1 x2).trans ?_
  simp only [e13_1, e13_4, e13_5, e13_6, hx0]
theorem s13_8 {L : Nat} {b : Bool} {I : AI} {J : AJ} (x1 : Nat) (x2 : Nat) (x4 : Int) (hx1 : isRow x1 = true) (hx2 : isRow x2 = true) : ev 13 8 [none, some (vr x1), some (vr x2), some (vr 2), some (vi x4), none, none, none, none] [] (hp L b I J) = if (I x2 1) < (x4 : Int) then (gd (-2147483648 ≤ ((I x1 1) - 1 : Int) ∧ ((I x1 1) - 1 : Int) ≤ 2147483647) (ev 13 44 [none, some (vr x1), some (vr x2), some (vr 2), some (vi ((I x1 1) - 1)), none, none, none, none] [] (hp L b I J))) else (gd (-2147483648 ≤ ((I x1 1) * 25 : Int) ∧ ((I x1 1) * 25 : Int) ≤ 2147483647) (gd (-2147483648 ≤ (((I x1 1) * 25) + x4 : Int) ∧ (((I x1 1) * 25) + x4 : Int) ≤ 2147483647) (gd (0 ≤ (((I x1 1) * 25) + x4 : Int) ∧ (((I x1 1) * 25) + x4 : Int) < 625) (gd (-2147483648 ≤ (x4 + 1 : Int) ∧ (x4 + 1 : Int) ≤ 2147483647) (ev 13 8 [none, some (vr x1), some (vr x2), some (vr 2), some (vi (x4 + 1)), none, none, none, none] [] (hp L b (upI I 2 (((I x1 1) * 25) + x4) 0) J)))))) := by
  refine (e13_8 x1 x2 x4).trans ?_
  simp only [e13_10, e13_11, e13_14, e13_17, e13_18, e13_19, e13_22, e13_24, e13_25, e13_27, e13_28, e13_29, e13_30, e13_33, e13_36, e13_37, e13_40, e13_41, e13_42, hx1, hx2]
theorem s13_44 {L : Nat} {b : Bool} {I : AI} {J : AJ} (x1 : Nat) (x2 : Nat) (x4 : Int) (hx1 : isRow x1 = true) (hx2 : isRow x2 = true) : ev 13 44 [none, some (vr x1), some (vr x2), some (vr 2), some (vi x4), none, none, none, none] [] (hp L b I J) = if (x4 : Int) < 0 then (gd (0 ≤ (0 : Int) ∧ (0 : Int) < 625) (some (vi (I 2 0), hp L b I J))) else (gd (-2147483648 ≤ (x4 * 25 : Int) ∧ (x4 * 25 : Int) ≤ 2147483647) (gd (0 ≤ (x4 : Int) ∧ (x4 : Int) < 24) (gd (-2147483648 ≤ ((x4 * 25) + (I x2 1) : Int) ∧ ((x4 * 25) + (I x2 1) : Int) ≤ 2147483647) (gd (0 ≤ ((x4 * 25) + (I x2 1) : Int) ∧ ((x4 * 25) + (I x2 1) : Int) < 625) (gd (-2147483648 ≤ (((upI I 2 ((x4 * 25) + (I x2 1)) 0) x2 1) - 1 : Int) ∧ (((upI I 2 ((x4 * 25) + (I x2 1)) 0) x2 1) - 1 : Int) ≤ 2147483647) (ev 13 83 [none, some (vr x1), some (vr x2), some (vr 2), some (vi x4), some (vi (x4 * 25)), some (vi (I (x1 + 1) x4)), some (vi (((upI I 2 ((x4 * 25) + (I x2 1)) 0) x2 1) - 1)), none] [] (hp L b (upI I 2 ((x4 * 25) + (I x2 1)) 0) J))))))) := by
  refine (e13_44 x1 x2 x4).trans ?_
  simp only [e13_46, e13_49, e13_51, e13_53, e13_54, e13_56, e13_57, e13_60, e13_62, e13_63, e13_65, e13_66, e13_68, e13_69, e13_72, e13_73, e13_74, e13_75, e13_76, e13_79, e13_80, e13_81, e13_183, e13_184, e13_185, e13_186, hx1, hx2]
theorem s13_83 {L : Nat} {b : Bool} {I : AI} {J : AJ} (x1 : Nat) (x2 : Nat) (x4 : Int) (x5 : Int) (x6 : Int) (x7 : Int) (hx2 : isRow x2 = true) : ev 13 83 [none, some (vr x1), some (vr x2), some (vr 2), some (vi x4), some (vi x5), some (vi x6), some (vi x7), none] [] (hp L b I J) = if (x7 : Int) < 0 then (gd (-2147483648 ≤ (x4 + (-1) : Int) ∧ (x4 + (-1) : Int) ≤ 2147483647) (ev 13 44 [none, some (vr x1), some (vr x2), some (vr 2), some (vi (x4 + (-1))), none, none, none, none] [] (hp L b I J))) else (gd (0 ≤ (x7 : Int) ∧ (x7 : Int) < 24) (if ¬ (x6 : Int) = (I (x2 + 1) x7) then (gd (-2147483648 ≤ (x5 + 25 : Int) ∧ (x5 + 25 : Int) ≤ 2147483647) (gd (-2147483648 ≤ ((x5 + 25) + x7 : Int) ∧ ((x5 + 25) + x7 : Int) ≤ 2147483647) (gd (0 ≤ ((x5 + 25) + x7 : Int) ∧ ((x5 + 25) + x7 : Int) < 625) (gd (-2147483648 ≤ (x5 + x7 : Int) ∧ (x5 + x7 : Int) ≤ 2147483647) (gd (-2147483648 ≤ (x5 + x7 : Int) ∧ (x5 + x7 : Int) ≤ 2147483647) (gd (-2147483648 ≤ ((x5 + x7) + 1 : Int) ∧ ((x5 + x7) + 1 : Int) ≤ 2147483647) (gd (0 ≤ ((x5 + x7) + 1 : Int) ∧ ((x5 + x7) + 1 : Int) < 625) (if (I 2 ((x5 + 25) + x7) : Int) ≤ (I 2 ((x5 + x7) + 1)) then (gd (-2147483648 ≤ (x5 + x7 : Int) ∧ (x5 + x7 : Int) ≤ 2147483647) (gd (-2147483648 ≤ ((x5 + x7) + 1 : Int) ∧ ((x5 + x7) + 1 : Int) ≤ 2147483647) (gd (0 ≤ ((x5 + x7) + 1 : Int) ∧ ((x5 + x7) + 1 : Int) < 625) (ev 13 170 [none, some (vr x1), some (vr x2), some (vr 2), some (vi x4), some (vi x5), some (vi x6), some (vi x7), none] [vi (I 2 ((x5 + x7) + 1)), vi (x5 + x7), vr 2] (hp L b I J))))) else (ev 13 170 [none, some (vr x1), some (vr x2), some (vr 2), some (vi x4), some (vi x5), some (vi x6), some (vi x7), none] [vi (I 2 ((x5 + 25) + x7)), vi (x5 + x7), vr 2] (hp L b I J)))))))))) else (gd (-2147483648 ≤ (x5 + x7 : Int) ∧ (x5 + x7 : Int) ≤ 2147483647) (gd (-2147483648 ≤ (x5 + 25 : Int) ∧ (x5 + 25 : Int) ≤ 2147483647) (gd (-2147483648 ≤ ((x5 + 25) + x7 : Int) ∧ ((x5 + 25) + x7 : Int) ≤ 2147483647) (gd (-2147483648 ≤ (((x5 + 25) + x7) + 1 : Int) ∧ (((x5 + 25) + x7) + 1 : Int) ≤ 2147483647) (gd (0 ≤ (((x5 + 25) + x7) + 1 : Int) ∧ (((x5 + 25) + x7) + 1 : Int) < 625) (gd (-2147483648 ≤ ((I 2 (((x5 + 25) + x7) + 1)) + 1 : Int) ∧ ((I 2 (((x5 + 25) + x7) + 1)) + 1 : Int) ≤ 2147483647) (gd (0 ≤ (x5 + x7 : Int) ∧ (x5 + x7 : Int) < 625) (ev 13 171 [none, some (vr x1), some (vr x2), some (vr 2), some (vi x4), some (vi x5), some (vi x6), some (vi x7), none] [] (hp L b (upI I 2 (x5 + x7) ((I 2 (((x5 + 25) + x7) + 1)) + 1)) J))))))))))) := by
  refine (e13_83 x1 x2 x4 x5 x6 x7).trans ?_
  simp only [e13_85, e13_88, e13_90, e13_91, e13_94, e13_96, e13_97, e13_100, e13_101, e13_103, e13_105, e13_106, e13_107, e13_109, e13_111, e13_112, e13_114, e13_115, e13_116, e13_117, e13_118, e13_119, e13_120, e13_121, e13_124, e13_125, e13_127, e13_129, e13_130, e13_132, e13_133, e13_134, e13_136, e13_137, e13_139, e13_141, e13_142, e13_144, e13_145, e13_147, e13_149, e13_150, e13_151, e13_152, e13_153, e13_156, e13_158, e13_161, e13_162, e13_164, e13_166, e13_167, e13_168, e13_169, e13_177, e13_180, hx2]
theorem s13_170 {L : Nat} {b : Bool} {I : AI} {J : AJ} (x1 : Nat) (x2 : Nat) (x4 : Int) (x5 : Int) (x6 : Int) (x7 : Int) (y0 : Int) (y1 : Int)  : ev 13 170 [none, some (vr x1), some (vr x2), some (vr 2), some (vi x4), some (vi x5), some (vi x6), some (vi x7), none] [vi y0, vi y1, vr 2] (hp L b I J) = gd (0 ≤ (y1 : Int) ∧ (y1 : Int) < 625) (ev 13 171 [none, some (vr x1), some (vr x2), some (vr 2), some (vi x4), some (vi x5), some (vi x6), some (vi x7), none] [] (hp L b (upI I 2 y1 y0) J)) := by
  refine (e13_170 x1 x2 x4 x5 x6 x7 y0 y1).trans ?_
  rfl
theorem s13_171 {L : Nat} {b : Bool} {I : AI} {J : AJ} (x1 : Nat) (x2 : Nat) (x4 : Int) (x5 : Int) (x6 : Int) (x7 : Int)  : ev 13 171 [none, some (vr x1), some (vr x2), some (vr 2), some (vi x4), some (vi x5), some (vi x6), some (vi x7), none] [] (hp L b I J) = gd (-2147483648 ≤ (x7 + (-1) : Int) ∧ (x7 + (-1) : Int) ≤ 2147483647) (ev 13 83 [none, some (vr x1), some (vr x2), some (vr 2), some (vi x4), some (vi x5), some (vi x6), some (vi (x7 + (-1))), none] [] (hp L b I J)) := by
  refine (e13_171 x1 x2 x4 x5 x6 x7).trans ?_
  simp only [e13_174]
/-! 14: VersionVault$Diff.compare(LVersionVault$Row;LVersionVault$Row;)V -/
theorem s14_0 {L : Nat} {b : Bool} {I : AI} {J : AJ} (x0 : Nat) (x1 : Nat) (x2 : Nat) (hx0 : isDiff x0 = true) : ev 14 0 [some (vr x0), some (vr x1), some (vr x2), none, none, none, none] [] (hp L b I J) = (evc 13 [vr x0, vr x1, vr x2] (hp L b I J)).bind (fun q => ev 14 6 [some (vr x0), some (vr x1), some (vr x2), none, none, none, none] (q.1 :: []) q.2) := by
  refine (e14_0 x0 x1 x2).trans ?_
  simp only [e14_1, e14_2, e14_3, hx0]
theorem s14_6 {L : Nat} {b : Bool} {I : AI} {J : AJ} (x0 : Nat) (x1 : Nat) (x2 : Nat) (y0 : Int) (hx0 : isDiff x0 = true) : ev 14 6 [some (vr x0), some (vr x1), some (vr x2), none, none, none, none] [vi y0] (hp L b I J) = ev 14 18 [some (vr x0), some (vr x1), some (vr x2), some (vi y0), some (vi 0), some (vi 0), none] [] (hp L b (upI I x0 3 0) J) := by
  refine (e14_6 x0 x1 x2 y0).trans ?_
  simp only [e14_7, e14_8, e14_10, e14_11, e14_12, e14_15, e14_16, hx0]
theorem s14_18 {L : Nat} {b : Bool} {I : AI} {J : AJ} (x0 : Nat) (x1 : Nat) (x2 : Nat) (x3 : Int) (x4 : Int) (x5 : Int) (hx0 : isDiff x0 = true) (hx1 : isRow x1 = true) : ev 14 18 [some (vr x0), some (vr x1), some (vr x2), some (vi x3), some (vi x4), some (vi x5), none] [] (hp L b I J) = if (I x1 1) ≤ (x5 : Int) then (some (vi 0, hp L b I J)) else (if (x3 : Int) ≤ 0 then (some (vi 0, hp L b I J)) else (gd (0 ≤ (x5 : Int) ∧ (x5 : Int) < 24) ((evc 15 [vr x0, vi (I (x1 + 1) x5), vi x5, vr x2, vi x4, vi x3] (hp L b I J)).bind (fun q => ev 14 48 [some (vr x0), some (vr x1), some (vr x2), some (vi x3), some (vi x4), some (vi x5), none] (q.1 :: []) q.2)))) := by
  refine (e14_18 x0 x1 x2 x3 x4 x5).trans ?_
  simp only [e14_20, e14_21, e14_24, e14_27, e14_28, e14_31, e14_32, e14_33, e14_36, e14_38, e14_39, e14_41, e14_42, e14_44, e14_45, e14_111, hx0, hx1]
theorem s14_48 {L : Nat} {b : Bool} {I : AI} {J : AJ} (x0 : Nat) (x1 : Nat) (x2 : Nat) (x3 : Int) (x4 : Int) (x5 : Int) (y0 : Int) (hx0 : isDiff x0 = true) : ev 14 48 [some (vr x0), some (vr x1), some (vr x2), some (vi x3), some (vi x4), some (vi x5), none] [vi y0] (hp L b I J) = if (y0 : Int) < 0 then (ev 14 105 [some (vr x0), some (vr x1), some (vr x2), some (vi x3), some (vi x4), some (vi x5), none] [] (hp L b I J)) else (if 24 ≤ (I x0 3 : Int) then (ev 14 105 [some (vr x0), some (vr x1), some (vr x2), some (vi x3), some (vi x4), some (vi x5), none] [] (hp L b I J)) else (gd (0 ≤ (I x0 3 : Int) ∧ (I x0 3 : Int) < 24) (gd (0 ≤ ((upI I (x0 + 1) (I x0 3) x5) x0 3 : Int) ∧ ((upI I (x0 + 1) (I x0 3) x5) x0 3 : Int) < 24) (gd (-2147483648 ≤ (((upI (upI I (x0 + 1) (I x0 3) x5) (x0 + 2) ((upI I (x0 + 1) (I x0 3) x5) x0 3) y0) x0 3) + 1 : Int) ∧ (((upI (upI I (x0 + 1) (I x0 3) x5) (x0 + 2) ((upI I (x0 + 1) (I x0 3) x5) x0 3) y0) x0 3) + 1 : Int) ≤ 2147483647) (gd (-2147483648 ≤ (y0 + 1 : Int) ∧ (y0 + 1 : Int) ≤ 2147483647) (gd (-2147483648 ≤ (x3 + (-1) : Int) ∧ (x3 + (-1) : Int) ≤ 2147483647) (ev 14 105 [some (vr x0), some (vr x1), some (vr x2), some (vi (x3 + (-1))), some (vi (y0 + 1)), some (vi x5), none] [] (hp L b (upI (upI (upI I (x0 + 1) (I x0 3) x5) (x0 + 2) ((upI I (x0 + 1) (I x0 3) x5) x0 3) y0) x0 3 (((upI (upI I (x0 + 1) (I x0 3) x5) (x0 + 2) ((upI I (x0 + 1) (I x0 3) x5) x0 3) y0) x0 3) + 1)) J)))))))) := by
  refine (e14_48 x0 x1 x2 x3 x4 x5 y0).trans ?_
  simp only [e14_50, e14_52, e14_55, e14_56, e14_59, e14_61, e14_64, e14_65, e14_68, e14_69, e14_72, e14_74, e14_75, e14_76, e14_79, e14_80, e14_83, e14_85, e14_86, e14_87, e14_88, e14_91, e14_92, e14_93, e14_96, e14_98, e14_99, e14_100, e14_102, hx0]
theorem s14_105 {L : Nat} {b : Bool} {I : AI} {J : AJ} (x0 : Nat) (x1 : Nat) (x2 : Nat) (x3 : Int) (x4 : Int) (x5 : Int)  : ev 14 105 [some (vr x0), some (vr x1), some (vr x2), some (vi x3), some (vi x4), some (vi x5), none] [] (hp L b I J) = gd (-2147483648 ≤ (x5 + 1 : Int) ∧ (x5 + 1 : Int) ≤ 2147483647) (ev 14 18 [some (vr x0), some (vr x1), some (vr x2), some (vi x3), some (vi x4), some (vi (x5 + 1)), none] [] (hp L b I J)) := by
  refine (e14_105 x0 x1 x2 x3 x4 x5).trans ?_
  simp only [e14_108]
/-! 15: VersionVault$Diff.firstMate(IILVersionVault$Row;II)I -/
theorem s15_0 {L : Nat} {b : Bool} {I : AI} {J : AJ} (x0 : Nat) (x1 : Int) (x2 : Int) (x3 : Nat) (x4 : Int) (x5 : Int)  : ev 15 0 [some (vr x0), some (vi x1), some (vi x2), some (vr x3), some (vi x4), some (vi x5), none] [] (hp L b I J) = ev 15 4 [some (vr x0), some (vi x1), some (vi x2), some (vr x3), none, some (vi x5), some (vi x4)] [] (hp L b I J) := by
  refine (e15_0 x0 x1 x2 x3 x4 x5).trans ?_
  simp only [e15_2]
theorem s15_4 {L : Nat} {b : Bool} {I : AI} {J : AJ} (x0 : Nat) (x1 : Int) (x2 : Int) (x3 : Nat) (x5 : Int) (x6 : Int) (hx0 : isDiff x0 = true) (hx3 : isRow x3 = true) : ev 15 4 [some (vr x0), some (vi x1), some (vi x2), some (vr x3), none, some (vi x5), some (vi x6)] [] (hp L b I J) = if (I x3 1) ≤ (x6 : Int) then (some (vi ((-1)), hp L b I J)) else (gd (0 ≤ (x6 : Int) ∧ (x6 : Int) < 24) (if ¬ (x1 : Int) = (I (x3 + 1) x6) then (ev 15 50 [some (vr x0), some (vi x1), some (vi x2), some (vr x3), none, some (vi x5), some (vi x6)] [] (hp L b I J)) else (gd (-2147483648 ≤ (x2 + 1 : Int) ∧ (x2 + 1 : Int) ≤ 2147483647) (gd (-2147483648 ≤ ((x2 + 1) * 25 : Int) ∧ ((x2 + 1) * 25 : Int) ≤ 2147483647) (gd (-2147483648 ≤ (((x2 + 1) * 25) + x6 : Int) ∧ (((x2 + 1) * 25) + x6 : Int) ≤ 2147483647) (gd (-2147483648 ≤ ((((x2 + 1) * 25) + x6) + 1 : Int) ∧ ((((x2 + 1) * 25) + x6) + 1 : Int) ≤ 2147483647) (gd (0 ≤ ((((x2 + 1) * 25) + x6) + 1 : Int) ∧ ((((x2 + 1) * 25) + x6) + 1 : Int) < 625) (gd (-2147483648 ≤ (x5 - 1 : Int) ∧ (x5 - 1 : Int) ≤ 2147483647) (if ¬ (I 2 ((((x2 + 1) * 25) + x6) + 1) : Int) = (x5 - 1) then (ev 15 50 [some (vr x0), some (vi x1), some (vi x2), some (vr x3), none, some (vi x5), some (vi x6)] [] (hp L b I J)) else (some (vi x6, hp L b I J))))))))))) := by
  refine (e15_4 x0 x1 x2 x3 x5 x6).trans ?_
  simp only [e15_6, e15_7, e15_10, e15_13, e15_14, e15_15, e15_18, e15_20, e15_21, e15_24, e15_25, e15_28, e15_29, e15_30, e15_31, e15_33, e15_34, e15_36, e15_37, e15_38, e15_39, e15_40, e15_42, e15_43, e15_44, e15_47, e15_49, e15_56, e15_57, hx0, hx3]
theorem s15_50 {L : Nat} {b : Bool} {I : AI} {J : AJ} (x0 : Nat) (x1 : Int) (x2 : Int) (x3 : Nat) (x5 : Int) (x6 : Int)  : ev 15 50 [some (vr x0), some (vi x1), some (vi x2), some (vr x3), none, some (vi x5), some (vi x6)] [] (hp L b I J) = gd (-2147483648 ≤ (x6 + 1 : Int) ∧ (x6 + 1 : Int) ≤ 2147483647) (ev 15 4 [some (vr x0), some (vi x1), some (vi x2), some (vr x3), none, some (vi x5), some (vi (x6 + 1))] [] (hp L b I J)) := by
  refine (e15_50 x0 x1 x2 x3 x5 x6).trans ?_
  simp only [e15_53]
/-! 16: VersionVault$Diff.rightOf(I)I -/
theorem s16_0 {L : Nat} {b : Bool} {I : AI} {J : AJ} (x0 : Nat) (x1 : Int)  : ev 16 0 [some (vr x0), some (vi x1), none] [] (hp L b I J) = ev 16 2 [some (vr x0), some (vi x1), some (vi 0)] [] (hp L b I J) := by
  refine (e16_0 x0 x1).trans ?_
  simp only [e16_1]
theorem s16_2 {L : Nat} {b : Bool} {I : AI} {J : AJ} (x0 : Nat) (x1 : Int) (x2 : Int) (hx0 : isDiff x0 = true) : ev 16 2 [some (vr x0), some (vi x1), some (vi x2)] [] (hp L b I J) = if (I x0 3) ≤ (x2 : Int) then (some (vi ((-1)), hp L b I J)) else (gd (0 ≤ (x2 : Int) ∧ (x2 : Int) < 24) (if ¬ (I (x0 + 1) x2 : Int) = x1 then (gd (-2147483648 ≤ (x2 + 1 : Int) ∧ (x2 + 1 : Int) ≤ 2147483647) (ev 16 2 [some (vr x0), some (vi x1), some (vi (x2 + 1))] [] (hp L b I J))) else (gd (0 ≤ (x2 : Int) ∧ (x2 : Int) < 24) (some (vi (I (x0 + 2) x2), hp L b I J))))) := by
  refine (e16_2 x0 x1 x2).trans ?_
  simp only [e16_3, e16_4, e16_7, e16_10, e16_11, e16_14, e16_15, e16_16, e16_17, e16_20, e16_21, e16_24, e16_25, e16_26, e16_27, e16_30, e16_33, e16_34, hx0]
/-! 17: VersionVault$Diff.leftOf(I)I -/
theorem s17_0 {L : Nat} {b : Bool} {I : AI} {J : AJ} (x0 : Nat) (x1 : Int)  : ev 17 0 [some (vr x0), some (vi x1), none] [] (hp L b I J) = ev 17 2 [some (vr x0), some (vi x1), some (vi 0)] [] (hp L b I J) := by
  refine (e17_0 x0 x1).trans ?_
  simp only [e17_1]
theorem s17_2 {L : Nat} {b : Bool} {I : AI} {J : AJ} (x0 : Nat) (x1 : Int) (x2 : Int) (hx0 : isDiff x0 = true) : ev 17 2 [some (vr x0), some (vi x1), some (vi x2)] [] (hp L b I J) = if (I x0 3) ≤ (x2 : Int) then (some (vi ((-1)), hp L b I J)) else (gd (0 ≤ (x2 : Int) ∧ (x2 : Int) < 24) (if ¬ (I (x0 + 2) x2 : Int) = x1 then (gd (-2147483648 ≤ (x2 + 1 : Int) ∧ (x2 + 1 : Int) ≤ 2147483647) (ev 17 2 [some (vr x0), some (vi x1), some (vi (x2 + 1))] [] (hp L b I J))) else (gd (0 ≤ (x2 : Int) ∧ (x2 : Int) < 24) (some (vi (I (x0 + 1) x2), hp L b I J))))) := by
  refine (e17_2 x0 x1 x2).trans ?_
  simp only [e17_3, e17_4, e17_7, e17_10, e17_11, e17_14, e17_15, e17_16, e17_17, e17_20, e17_21, e17_24, e17_25, e17_26, e17_27, e17_30, e17_33, e17_34, hx0]
/-! 19: VersionVault$Joiner.start(II)I -/
theorem s19_0 {L : Nat} {b : Bool} {I : AI} {J : AJ} (x1 : Int) (x2 : Int)  : ev 19 0 [some (vr 51), some (vi x1), some (vi x2), none, none] [] (hp L b I J) = (evc 54 [vr 23, vi x1] (hp L b I J)).bind (fun q => ev 19 8 [some (vr 51), some (vi x1), some (vi x2), none, none] (q.1 :: []) q.2) := by
  refine (e19_0 x1 x2).trans ?_
  simp only [e19_1, e19_4, e19_5]
theorem s19_8 {L : Nat} {b : Bool} {I : AI} {J : AJ} (x1 : Int) (x2 : Int) (y0 : Int)  : ev 19 8 [some (vr 51), some (vi x1), some (vi x2), none, none] [vi y0] (hp L b I J) = if (y0 : Int) = 0 then (ev 19 46 [none, none, none, none, none] [] (hp L b I J)) else ((evc 54 [vr 23, vi x2] (hp L b I J)).bind (fun q => ev 19 19 [some (vr 51), some (vi x1), some (vi x2), none, none] (q.1 :: []) q.2)) := by
  refine (e19_8 x1 x2 y0).trans ?_
  simp only [e19_11, e19_12, e19_15, e19_16]
theorem s19_19 {L : Nat} {b : Bool} {I : AI} {J : AJ} (x1 : Int) (x2 : Int) (y0 : Int)  : ev 19 19 [some (vr 51), some (vi x1), some (vi x2), none, none] [vi y0] (hp L b I J) = if (y0 : Int) = 0 then (ev 19 46 [none, none, none, none, none] [] (hp L b I J)) else ((evc 58 [vr 23, vi x1, vi x2] (hp L b I J)).bind (fun q => ev 19 31 [some (vr 51), some (vi x1), some (vi x2), none, none] (q.1 :: []) q.2)) := by
  refine (e19_19 x1 x2 y0).trans ?_
  simp only [e19_22, e19_23, e19_26, e19_27, e19_28]
theorem s19_31 {L : Nat} {b : Bool} {I : AI} {J : AJ} (x1 : Int) (x2 : Int) (y0 : Int)  : ev 19 31 [some (vr 51), some (vi x1), some (vi x2), none, none] [vi y0] (hp L b I J) = if ¬ (y0 : Int) = 0 then (ev 19 46 [none, none, none, none, none] [] (hp L b I J)) else ((evc 58 [vr 23, vi x2, vi x1] (hp L b I J)).bind (fun q => ev 19 43 [some (vr 51), some (vi x1), some (vi x2), none, none] (q.1 :: []) q.2)) := by
  refine (e19_31 x1 x2 y0).trans ?_
  simp only [e19_34, e19_35, e19_38, e19_39, e19_40]
theorem s19_43 {L : Nat} {b : Bool} {I : AI} {J : AJ} (x1 : Int) (x2 : Int) (y0 : Int)  : ev 19 43 [some (vr 51), some (vi x1), some (vi x2), none, none] [vi y0] (hp L b I J) = if (y0 : Int) = 0 then ((evc 59 [vr 23, vi x1, vi x2, vr 52] (hp L b I J)).bind (fun q => ev 19 62 [some (vr 51), some (vi x1), some (vi x2), none, none] ([]) q.2)) else (ev 19 46 [none, none, none, none, none] [] (hp L b I J)) := by
  refine (e19_43 x1 x2 y0).trans ?_
  simp only [e19_49, e19_50, e19_53, e19_54, e19_55, e19_56, e19_59]
theorem s19_46 {L : Nat} {b : Bool} {I : AI} {J : AJ}   : ev 19 46 [none, none, none, none, none] [] (hp L b I J) = some (vi ((-2)), hp L b I J) := by
  refine (e19_46 ).trans ?_
  simp only [e19_48]
theorem s19_62 {L : Nat} {b : Bool} {I : AI} {J : AJ} (x1 : Int) (x2 : Int)  : ev 19 62 [some (vr 51), some (vi x1), some (vi x2), none, none] [] (hp L b I J) = (evc 21 [vr 51, vi x1, vi x2] (hp L b I J)).bind (fun q => ev 19 68 [some (vr 51), some (vi x1), some (vi x2), none, none] (q.1 :: []) q.2) := by
  refine (e19_62 x1 x2).trans ?_
  simp only [e19_63, e19_64, e19_65]
theorem s19_68 {L : Nat} {b : Bool} {I : AI} {J : AJ} (x1 : Int) (x2 : Int) (y0 : Int)  : ev 19 68 [some (vr 51), some (vi x1), some (vi x2), none, none] [vi y0] (hp L b I J) = if (y0 : Int) = 0 then ((evc 20 [vr 51, vi x1, vi x2] (hp L b I J)).bind (fun q => ev 19 80 [some (vr 51), some (vi x1), some (vi x2), none, none] (q.1 :: []) q.2)) else (some (vi ((-2)), hp L b I J)) := by
  refine (e19_68 x1 x2 y0).trans ?_
  simp only [e19_71, e19_73, e19_74, e19_75, e19_76, e19_77]
theorem s19_80 {L : Nat} {b : Bool} {I : AI} {J : AJ} (x1 : Int) (x2 : Int) (y0 : Int)  : ev 19 80 [some (vr 51), some (vi x1), some (vi x2), none, none] [vi y0] (hp L b I J) = if ¬ (y0 : Int) = ((-2)) then ((evc 22 [vr 51, vi y0, vi x1, vi x2] (hp L b I J)).bind (fun q => ev 19 99 [some (vr 51), some (vi x1), some (vi x2), some (vi y0), none] (q.1 :: []) q.2)) else (ev 19 99 [some (vr 51), some (vi x1), some (vi x2), some (vi y0), none] [vi ((-2))] (hp L b I J)) := by
  refine (e19_80 x1 x2 y0).trans ?_
  simp only [e19_81, e19_82, e19_84, e19_87, e19_89, e19_92, e19_93, e19_94, e19_95, e19_96]
theorem s19_99 {L : Nat} {b : Bool} {I : AI} {J : AJ} (x1 : Int) (x2 : Int) (x3 : Int) (y0 : Int)  : ev 19 99 [some (vr 51), some (vi x1), some (vi x2), some (vi x3), none] [vi y0] (hp L b I J) = if (y0 : Int) = ((-2)) then (ev 19 125 [none, none, none, none, none] [] (hp L b I J)) else ((evc 24 [vr 51] (hp L b I J)).bind (fun q => ev 19 119 [some (vr 51), some (vi x1), some (vi x2), some (vi x3), some (vi y0)] (q.1 :: [vi (I 6 9)]) q.2)) := by
  refine (e19_99 x1 x2 x3 y0).trans ?_
  simp only [e19_101, e19_103, e19_105, e19_108, e19_109, e19_112, e19_115, e19_116]
theorem s19_119 {L : Nat} {b : Bool} {I : AI} {J : AJ} (x1 : Int) (x2 : Int) (x3 : Int) (x4 : Int) (y0 : Int) (y1 : Int)  : ev 19 119 [some (vr 51), some (vi x1), some (vi x2), some (vi x3), some (vi x4)] [vi y0, vi y1] (hp L b I J) = gd (-2147483648 ≤ (y1 + y0 : Int) ∧ (y1 + y0 : Int) ≤ 2147483647) (if (y1 + y0 : Int) ≤ 120 then ((evc 26 [vr 51, vi x3, vi x1, vi x2] (hp L b I J)).bind (fun q => ev 19 135 [none, none, none, none, some (vi x4)] ([]) q.2)) else (ev 19 125 [none, none, none, none, none] [] (hp L b I J))) := by
  refine (e19_119 x1 x2 x3 x4 y0 y1).trans ?_
  simp only [e19_120, e19_122, e19_128, e19_129, e19_130, e19_131, e19_132]
theorem s19_125 {L : Nat} {b : Bool} {I : AI} {J : AJ}   : ev 19 125 [none, none, none, none, none] [] (hp L b I J) = some (vi ((-2)), hp L b I J) := by
  refine (e19_125 ).trans ?_
  simp only [e19_127]
theorem s19_135 {L : Nat} {b : Bool} {I : AI} {J : AJ} (x4 : Int)  : ev 19 135 [none, none, none, none, some (vi x4)] [] (hp L b I J) = some (vi x4, hp L b I J) := by
  refine (e19_135 x4).trans ?_
  simp only [e19_137]
/-! 20: VersionVault$Joiner.bestBase(II)I -/
theorem s20_0 {L : Nat} {b : Bool} {I : AI} {J : AJ} (x1 : Int) (x2 : Int)  : ev 20 0 [some (vr 51), some (vi x1), some (vi x2), none, none, none, none] [] (hp L b I J) = ev 20 9 [some (vr 51), some (vi x1), some (vi x2), some (vi ((-1))), some (vi 17), some (vi 0), none] [] (hp L b I J) := by
  refine (e20_0 x1 x2).trans ?_
  simp only [e20_1, e20_2, e20_4, e20_6, e20_7]
theorem s20_9 {L : Nat} {b : Bool} {I : AI} {J : AJ} (x1 : Int) (x2 : Int) (x3 : Int) (x4 : Int) (x5 : Int)  : ev 20 9 [some (vr 51), some (vi x1), some (vi x2), some (vi x3), some (vi x4), some (vi x5), none] [] (hp L b I J) = if 80 ≤ (x5 : Int) then (some (vi x3, hp L b I J)) else ((evc 50 [vr 52, vi x5] (hp L b I J)).bind (fun q => ev 20 25 [some (vr 51), some (vi x1), some (vi x2), some (vi x3), some (vi x4), some (vi x5), none] (q.1 :: []) q.2)) := by
  refine (e20_9 x1 x2 x3 x4 x5).trans ?_
  simp only [e20_11, e20_13, e20_16, e20_17, e20_20, e20_22, e20_68, e20_69]
theorem s20_25 {L : Nat} {b : Bool} {I : AI} {J : AJ} (x1 : Int) (x2 : Int) (x3 : Int) (x4 : Int) (x5 : Int) (y0 : Int)  : ev 20 25 [some (vr 51), some (vi x1), some (vi x2), some (vi x3), some (vi x4), some (vi x5), none] [vi y0] (hp L b I J) = if (y0 : Int) = 0 then (ev 20 62 [some (vr 51), some (vi x1), some (vi x2), some (vi x3), some (vi x4), some (vi x5), none] [] (hp L b I J)) else ((evc 22 [vr 51, vi x5, vi x1, vi x2] (hp L b I J)).bind (fun q => ev 20 36 [some (vr 51), some (vi x1), some (vi x2), some (vi x3), some (vi x4), some (vi x5), none] (q.1 :: []) q.2)) := by
  refine (e20_25 x1 x2 x3 x4 x5 y0).trans ?_
  simp only [e20_28, e20_29, e20_31, e20_32, e20_33]
theorem s20_36 {L : Nat} {b : Bool} {I : AI} {J : AJ} (x1 : Int) (x2 : Int) (x3 : Int) (x4 : Int) (x5 : Int) (y0 : Int)  : ev 20 36 [some (vr 51), some (vi x1), some (vi x2), some (vi x3), some (vi x4), some (vi x5), none] [vi y0] (hp L b I J) = if ¬ (y0 : Int) = ((-2)) then (if x4 ≤ (y0 : Int) then (ev 20 62 [some (vr 51), some (vi x1), some (vi x2), some (vi x3), some (vi x4), some (vi x5), none] [] (hp L b I J)) else (ev 20 62 [some (vr 51), some (vi x1), some (vi x2), some (vi x5), some (vi y0), some (vi x5), none] [] (hp L b I J))) else (some (vi ((-2)), hp L b I J)) := by
  refine (e20_36 x1 x2 x3 x4 x5 y0).trans ?_
  simp only [e20_38, e20_40, e20_42, e20_45, e20_47, e20_48, e20_50, e20_52, e20_55, e20_57, e20_59, e20_61]
theorem s20_62 {L : Nat} {b : Bool} {I : AI} {J : AJ} (x1 : Int) (x2 : Int) (x3 : Int) (x4 : Int) (x5 : Int)  : ev 20 62 [some (vr 51), some (vi x1), some (vi x2), some (vi x3), some (vi x4), some (vi x5), none] [] (hp L b I J) = gd (-2147483648 ≤ (x5 + 1 : Int) ∧ (x5 + 1 : Int) ≤ 2147483647) (ev 20 9 [some (vr 51), some (vi x1), some (vi x2), some (vi x3), some (vi x4), some (vi (x5 + 1)), none] [] (hp L b I J)) := by
  refine (e20_62 x1 x2 x3 x4 x5).trans ?_
  simp only [e20_65]
/-! 21: VersionVault$Joiner.shelfIsGone(II)Z -/
theorem s21_0 {L : Nat} {b : Bool} {I : AI} {J : AJ} (x1 : Int) (x2 : Int)  : ev 21 0 [some (vr 51), some (vi x1), some (vi x2), none] [] (hp L b I J) = gd (0 ≤ (x1 : Int) ∧ (x1 : Int) < 80) ((evc 42 [vr 20, vi (I 24 x1)] (hp L b I J)).bind (fun q => ev 21 16 [some (vr 51), none, some (vi x2), none] (q.1 :: []) q.2)) := by
  refine (e21_0 x1 x2).trans ?_
  simp only [e21_1, e21_4, e21_5, e21_8, e21_11, e21_12, e21_13]
theorem s21_16 {L : Nat} {b : Bool} {I : AI} {J : AJ} (x2 : Int) (y0 : Int)  : ev 21 16 [some (vr 51), none, some (vi x2), none] [vi y0] (hp L b I J) = if (y0 : Int) = 0 then (ev 21 38 [none, none, none, none] [] (hp L b I J)) else (gd (0 ≤ (x2 : Int) ∧ (x2 : Int) < 80) ((evc 42 [vr 20, vi (I 24 x2)] (hp L b I J)).bind (fun q => ev 21 35 [some (vr 51), none, none, none] (q.1 :: []) q.2))) := by
  refine (e21_16 x2 y0).trans ?_
  simp only [e21_19, e21_20, e21_23, e21_24, e21_27, e21_30, e21_31, e21_32]
theorem s21_35 {L : Nat} {b : Bool} {I : AI} {J : AJ} (y0 : Int)  : ev 21 35 [some (vr 51), none, none, none] [vi y0] (hp L b I J) = if ¬ (y0 : Int) = 0 then (ev 21 42 [some (vr 51), none, none, some (vi 0)] [] (hp L b I J)) else (ev 21 38 [none, none, none, none] [] (hp L b I J)) := by
  refine (e21_35 y0).trans ?_
  simp only [e21_40, e21_41]
theorem s21_38 {L : Nat} {b : Bool} {I : AI} {J : AJ}   : ev 21 38 [none, none, none, none] [] (hp L b I J) = gd ((1 : Int) = 0 ∨ (1 : Int) = 1) (some (vi 1, hp L b I J)) := by
  refine (e21_38 ).trans ?_
  simp only [e21_39]
theorem s21_42 {L : Nat} {b : Bool} {I : AI} {J : AJ} (x3 : Int)  : ev 21 42 [some (vr 51), none, none, some (vi x3)] [] (hp L b I J) = if 80 ≤ (x3 : Int) then (gd ((0 : Int) = 0 ∨ (0 : Int) = 1) (some (vi 0, hp L b I J))) else ((evc 50 [vr 52, vi x3] (hp L b I J)).bind (fun q => ev 21 56 [some (vr 51), none, none, some (vi x3)] (q.1 :: []) q.2)) := by
  refine (e21_42 x3).trans ?_
  simp only [e21_43, e21_45, e21_48, e21_49, e21_52, e21_53, e21_86, e21_87]
theorem s21_56 {L : Nat} {b : Bool} {I : AI} {J : AJ} (x3 : Int) (y0 : Int)  : ev 21 56 [some (vr 51), none, none, some (vi x3)] [vi y0] (hp L b I J) = if (y0 : Int) = 0 then (ev 21 80 [some (vr 51), none, none, some (vi x3)] [] (hp L b I J)) else (gd (0 ≤ (x3 : Int) ∧ (x3 : Int) < 80) ((evc 42 [vr 20, vi (I 24 x3)] (hp L b I J)).bind (fun q => ev 21 75 [some (vr 51), none, none, some (vi x3)] (q.1 :: []) q.2))) := by
  refine (e21_56 x3 y0).trans ?_
  simp only [e21_59, e21_60, e21_63, e21_64, e21_67, e21_70, e21_71, e21_72]
theorem s21_75 {L : Nat} {b : Bool} {I : AI} {J : AJ} (x3 : Int) (y0 : Int)  : ev 21 75 [some (vr 51), none, none, some (vi x3)] [vi y0] (hp L b I J) = if ¬ (y0 : Int) = 0 then (ev 21 80 [some (vr 51), none, none, some (vi x3)] [] (hp L b I J)) else (gd ((1 : Int) = 0 ∨ (1 : Int) = 1) (some (vi 1, hp L b I J))) := by
  refine (e21_75 x3 y0).trans ?_
  simp only [e21_78, e21_79]
theorem s21_80 {L : Nat} {b : Bool} {I : AI} {J : AJ} (x3 : Int)  : ev 21 80 [some (vr 51), none, none, some (vi x3)] [] (hp L b I J) = gd (-2147483648 ≤ (x3 + 1 : Int) ∧ (x3 + 1 : Int) ≤ 2147483647) (ev 21 42 [some (vr 51), none, none, some (vi (x3 + 1))] [] (hp L b I J)) := by
  refine (e21_80 x3).trans ?_
  simp only [e21_83]
/-! 22: VersionVault$Joiner.planOver(III)I -/
theorem s22_0 {L : Nat} {b : Bool} {I : AI} {J : AJ} (x1 : Int) (x2 : Int) (x3 : Int)  : ev 22 0 [some (vr 51), some (vi x1), some (vi x2), some (vi x3), none, none, none, none, none] [] (hp L b I J) = ev 22 6 [some (vr 51), some (vi x1), some (vi x2), some (vi x3), some (vi 0), some (vi 0), none, none, none] [] (hp L b I J) := by
  refine (e22_0 x1 x2 x3).trans ?_
  simp only [e22_1, e22_3, e22_4]
theorem s22_6 {L : Nat} {b : Bool} {I : AI} {J : AJ} (x1 : Int) (x2 : Int) (x3 : Int) (x4 : Int) (x5 : Int)  : ev 22 6 [some (vr 51), some (vi x1), some (vi x2), some (vi x3), some (vi x4), some (vi x5), none, none, none] [] (hp L b I J) = if 16 ≤ (x5 : Int) then (some (vi x4, hp L b I J)) else (if ¬ (x1 : Int) = ((-1)) then (gd (0 ≤ (x1 : Int) ∧ (x1 : Int) < 80) ((evc 43 [vr 20, vi (I 24 x1), vi x5] (hp L b I J)).bind (fun q => ev 22 40 [some (vr 51), some (vi x1), some (vi x2), some (vi x3), some (vi x4), some (vi x5), none, none, none] (q.1 :: []) q.2))) else (ev 22 40 [some (vr 51), some (vi x1), some (vi x2), some (vi x3), some (vi x4), some (vi x5), none, none, none] [vi ((-1))] (hp L b I J))) := by
  refine (e22_6 x1 x2 x3 x4 x5).trans ?_
  simp only [e22_8, e22_10, e22_13, e22_14, e22_15, e22_18, e22_19, e22_22, e22_23, e22_26, e22_27, e22_30, e22_33, e22_34, e22_35, e22_37, e22_137, e22_139]
theorem s22_40 {L : Nat} {b : Bool} {I : AI} {J : AJ} (x1 : Int) (x2 : Int) (x3 : Int) (x4 : Int) (x5 : Int) (y0 : Int)  : ev 22 40 [some (vr 51), some (vi x1), some (vi x2), some (vi x3), some (vi x4), some (vi x5), none, none, none] [vi y0] (hp L b I J) = gd (0 ≤ (x2 : Int) ∧ (x2 : Int) < 80) ((evc 43 [vr 20, vi (I 24 x2), vi x5] (hp L b I J)).bind (fun q => ev 22 60 [some (vr 51), some (vi x1), some (vi x2), some (vi x3), some (vi x4), some (vi x5), some (vi y0), none, none] (q.1 :: []) q.2)) := by
  refine (e22_40 x1 x2 x3 x4 x5 y0).trans ?_
  simp only [e22_42, e22_43, e22_46, e22_47, e22_50, e22_53, e22_54, e22_55, e22_57]
theorem s22_60 {L : Nat} {b : Bool} {I : AI} {J : AJ} (x1 : Int) (x2 : Int) (x3 : Int) (x4 : Int) (x5 : Int) (x6 : Int) (y0 : Int)  : ev 22 60 [some (vr 51), some (vi x1), some (vi x2), some (vi x3), some (vi x4), some (vi x5), some (vi x6), none, none] [vi y0] (hp L b I J) = gd (0 ≤ (x3 : Int) ∧ (x3 : Int) < 80) ((evc 43 [vr 20, vi (I 24 x3), vi x5] (hp L b I J)).bind (fun q => ev 22 80 [some (vr 51), some (vi x1), some (vi x2), some (vi x3), some (vi x4), some (vi x5), some (vi x6), some (vi y0), none] (q.1 :: []) q.2)) := by
  refine (e22_60 x1 x2 x3 x4 x5 x6 y0).trans ?_
  simp only [e22_62, e22_63, e22_66, e22_67, e22_70, e22_73, e22_74, e22_75, e22_77]
theorem s22_80 {L : Nat} {b : Bool} {I : AI} {J : AJ} (x1 : Int) (x2 : Int) (x3 : Int) (x4 : Int) (x5 : Int) (x6 : Int) (x7 : Int) (y0 : Int)  : ev 22 80 [some (vr 51), some (vi x1), some (vi x2), some (vi x3), some (vi x4), some (vi x5), some (vi x6), some (vi x7), none] [vi y0] (hp L b I J) = (evc 23 [vr 51, vi x5, vi x6, vi x7, vi y0] (hp L b I J)).bind (fun q => ev 22 100 [some (vr 51), some (vi x1), some (vi x2), some (vi x3), some (vi x4), some (vi x5), none, none, none] (q.1 :: [vi x5, vr 53]) q.2) := by
  refine (e22_80 x1 x2 x3 x4 x5 x6 x7 y0).trans ?_
  simp only [e22_82, e22_83, e22_86, e22_88, e22_89, e22_91, e22_93, e22_95, e22_97]
theorem s22_100 {L : Nat} {b : Bool} {I : AI} {J : AJ} (x1 : Int) (x2 : Int) (x3 : Int) (x4 : Int) (x5 : Int) (y0 : Int) (y1 : Int)  : ev 22 100 [some (vr 51), some (vi x1), some (vi x2), some (vi x3), some (vi x4), some (vi x5), none, none, none] [vi y0, vi y1, vr 53] (hp L b I J) = gd (0 ≤ (y1 : Int) ∧ (y1 : Int) < 16) (gd (0 ≤ (x5 : Int) ∧ (x5 : Int) < 16) (if ¬ ((upI I 53 y1 y0) 53 x5 : Int) = ((-2)) then (gd (0 ≤ (x5 : Int) ∧ (x5 : Int) < 16) (if ¬ ((upI I 53 y1 y0) 53 x5 : Int) = ((-3)) then (ev 22 131 [some (vr 51), some (vi x1), some (vi x2), some (vi x3), some (vi x4), some (vi x5), none, none, none] [] (hp L b (upI I 53 y1 y0) J)) else (gd (-2147483648 ≤ (x4 + 1 : Int) ∧ (x4 + 1 : Int) ≤ 2147483647) (ev 22 131 [some (vr 51), some (vi x1), some (vi x2), some (vi x3), some (vi (x4 + 1)), some (vi x5), none, none, none] [] (hp L b (upI I 53 y1 y0) J))))) else (some (vi ((-2)), hp L b (upI I 53 y1 y0) J)))) := by
  refine (e22_100 x1 x2 x3 x4 x5 y0 y1).trans ?_
  simp only [e22_101, e22_102, e22_105, e22_107, e22_108, e22_110, e22_113, e22_115, e22_116, e22_117, e22_120, e22_122, e22_123, e22_125, e22_128]
theorem s22_131 {L : Nat} {b : Bool} {I : AI} {J : AJ} (x1 : Int) (x2 : Int) (x3 : Int) (x4 : Int) (x5 : Int)  : ev 22 131 [some (vr 51), some (vi x1), some (vi x2), some (vi x3), some (vi x4), some (vi x5), none, none, none] [] (hp L b I J) = gd (-2147483648 ≤ (x5 + 1 : Int) ∧ (x5 + 1 : Int) ≤ 2147483647) (ev 22 6 [some (vr 51), some (vi x1), some (vi x2), some (vi x3), some (vi x4), some (vi (x5 + 1)), none, none, none] [] (hp L b I J)) := by
  refine (e22_131 x1 x2 x3 x4 x5).trans ?_
  simp only [e22_134]
/-! 23: VersionVault$Joiner.planName(IIII)I -/
theorem s23_0 {L : Nat} {b : Bool} {I : AI} {J : AJ} (x1 : Int) (x2 : Int) (x3 : Int) (x4 : Int)  : ev 23 0 [some (vr 51), some (vi x1), some (vi x2), some (vi x3), some (vi x4)] [] (hp L b I J) = if (x3 : Int) = x4 then (ev 23 12 [none, none, none, some (vi x3), none] [] (hp L b I J)) else (if ¬ (x4 : Int) = x2 then (if ¬ (x3 : Int) = x2 then (if (x3 : Int) = ((-1)) then (ev 23 33 [none, none, none, none, none] [] (hp L b I J)) else (if ¬ (x4 : Int) = ((-1)) then ((evc 66 [vr 6, vi x3] (hp L b I J)).bind (fun q => ev 23 44 [some (vr 51), some (vi x1), some (vi x2), some (vi x3), some (vi x4)] (q.1 :: []) q.2)) else (ev 23 33 [none, none, none, none, none] [] (hp L b I J)))) else (some (vi x4, hp L b I J))) else (ev 23 12 [none, none, none, some (vi x3), none] [] (hp L b I J))) := by
  refine (e23_0 x1 x2 x3 x4).trans ?_
  simp only [e23_1, e23_3, e23_6, e23_8, e23_9, e23_14, e23_15, e23_16, e23_19, e23_21, e23_22, e23_23, e23_24, e23_27, e23_29, e23_30, e23_36, e23_37, e23_40, e23_41]
theorem s23_12 {L : Nat} {b : Bool} {I : AI} {J : AJ} (x3 : Int)  : ev 23 12 [none, none, none, some (vi x3), none] [] (hp L b I J) = some (vi x3, hp L b I J) := by
  refine (e23_12 x3).trans ?_
  simp only [e23_13]
theorem s23_33 {L : Nat} {b : Bool} {I : AI} {J : AJ}   : ev 23 33 [none, none, none, none, none] [] (hp L b I J) = some (vi ((-3)), hp L b I J) := by
  refine (e23_33 ).trans ?_
  simp only [e23_35]
theorem s23_44 {L : Nat} {b : Bool} {I : AI} {J : AJ} (x1 : Int) (x2 : Int) (x3 : Int) (x4 : Int) (y0 : Int)  : ev 23 44 [some (vr 51), some (vi x1), some (vi x2), some (vi x3), some (vi x4)] [vi y0] (hp L b I J) = if (y0 : Int) = 0 then (ev 23 75 [none, none, none, none, none] [] (hp L b I J)) else ((evc 66 [vr 6, vi x4] (hp L b I J)).bind (fun q => ev 23 56 [some (vr 51), some (vi x1), some (vi x2), some (vi x3), some (vi x4)] (q.1 :: []) q.2)) := by
  refine (e23_44 x1 x2 x3 x4 y0).trans ?_
  simp only [e23_47, e23_48, e23_51, e23_53]
theorem s23_56 {L : Nat} {b : Bool} {I : AI} {J : AJ} (x1 : Int) (x2 : Int) (x3 : Int) (x4 : Int) (y0 : Int)  : ev 23 56 [some (vr 51), some (vi x1), some (vi x2), some (vi x3), some (vi x4)] [vi y0] (hp L b I J) = if (y0 : Int) = 0 then (ev 23 75 [none, none, none, none, none] [] (hp L b I J)) else (if (x2 : Int) = ((-1)) then (ev 23 78 [some (vr 51), some (vi x1), some (vi x2), some (vi x3), some (vi x4)] [] (hp L b I J)) else ((evc 66 [vr 6, vi x2] (hp L b I J)).bind (fun q => ev 23 72 [some (vr 51), some (vi x1), some (vi x2), some (vi x3), some (vi x4)] (q.1 :: []) q.2))) := by
  refine (e23_56 x1 x2 x3 x4 y0).trans ?_
  simp only [e23_59, e23_60, e23_61, e23_64, e23_65, e23_68, e23_69]
theorem s23_72 {L : Nat} {b : Bool} {I : AI} {J : AJ} (x1 : Int) (x2 : Int) (x3 : Int) (x4 : Int) (y0 : Int)  : ev 23 72 [some (vr 51), some (vi x1), some (vi x2), some (vi x3), some (vi x4)] [vi y0] (hp L b I J) = if ¬ (y0 : Int) = 0 then (ev 23 78 [some (vr 51), some (vi x1), some (vi x2), some (vi x3), some (vi x4)] [] (hp L b I J)) else (ev 23 75 [none, none, none, none, none] [] (hp L b I J)) := by
  refine (e23_72 x1 x2 x3 x4 y0).trans ?_
  rfl
theorem s23_75 {L : Nat} {b : Bool} {I : AI} {J : AJ}   : ev 23 75 [none, none, none, none, none] [] (hp L b I J) = some (vi ((-2)), hp L b I J) := by
  refine (e23_75 ).trans ?_
  simp only [e23_77]
theorem s23_78 {L : Nat} {b : Bool} {I : AI} {J : AJ} (x1 : Int) (x2 : Int) (x3 : Int) (x4 : Int)  : ev 23 78 [some (vr 51), some (vi x1), some (vi x2), some (vi x3), some (vi x4)] [] (hp L b I J) = (evc 1 [vr 56, vr 6, vi x2, vi x3, vi x4] (hp L b I J)).bind (fun q => ev 23 93 [some (vr 51), some (vi x1), none, none, none] ([]) q.2) := by
  refine (e23_78 x1 x2 x3 x4).trans ?_
  simp only [e23_79, e23_82, e23_83, e23_86, e23_87, e23_88, e23_90]
theorem s23_93 {L : Nat} {b : Bool} {I : AI} {J : AJ} (x1 : Int)  : ev 23 93 [some (vr 51), some (vi x1), none, none, none] [] (hp L b I J) = (evc 8 [vr 56] (hp L b I J)).bind (fun q => ev 23 100 [some (vr 51), some (vi x1), none, none, none] (q.1 :: []) q.2) := by
  refine (e23_93 x1).trans ?_
  simp only [e23_94, e23_97]
theorem s23_100 {L : Nat} {b : Bool} {I : AI} {J : AJ} (x1 : Int) (y0 : Int)  : ev 23 100 [some (vr 51), some (vi x1), none, none, none] [vi y0] (hp L b I J) = if ¬ (y0 : Int) = 0 then (gd (0 ≤ (x1 : Int) ∧ (x1 : Int) < 16) ((evc 10 [vr 56, vr (72 + 2 * (x1).toNat)] (hp L b I J)).bind (fun q => ev 23 119 [none, none, none, none, none] ([]) q.2))) else (some (vi ((-3)), hp L b I J)) := by
  refine (e23_100 x1 y0).trans ?_
  simp only [e23_103, e23_105, e23_106, e23_107, e23_110, e23_111, e23_114, e23_115, e23_116]
theorem s23_119 {L : Nat} {b : Bool} {I : AI} {J : AJ}   : ev 23 119 [none, none, none, none, none] [] (hp L b I J) = some (vi ((-4)), hp L b I J) := by
  refine (e23_119 ).trans ?_
  simp only [e23_121]
/-! 24: VersionVault$Joiner.newTexts()I -/
theorem s24_0 {L : Nat} {b : Bool} {I : AI} {J : AJ}   : ev 24 0 [some (vr 51), none, none] [] (hp L b I J) = ev 24 4 [some (vr 51), some (vi 0), some (vi 0)] [] (hp L b I J) := by
  refine (e24_0 ).trans ?_
  simp only [e24_1, e24_2, e24_3]
theorem s24_4 {L : Nat} {b : Bool} {I : AI} {J : AJ} (x1 : Int) (x2 : Int)  : ev 24 4 [some (vr 51), some (vi x1), some (vi x2)] [] (hp L b I J) = if 16 ≤ (x2 : Int) then (some (vi x1, hp L b I J)) else (gd (0 ≤ (x2 : Int) ∧ (x2 : Int) < 16) (if ¬ (I 53 x2 : Int) = ((-4)) then (ev 24 49 [some (vr 51), some (vi x1), some (vi x2)] [] (hp L b I J)) else (gd (0 ≤ (x2 : Int) ∧ (x2 : Int) < 16) ((evc 72 [vr 6, vr (72 + 2 * (x2).toNat)] (hp L b I J)).bind (fun q => ev 24 34 [some (vr 51), some (vi x1), some (vi x2)] (q.1 :: []) q.2))))) := by
  refine (e24_4 x1 x2).trans ?_
  simp only [e24_5, e24_7, e24_10, e24_11, e24_14, e24_15, e24_16, e24_18, e24_21, e24_22, e24_25, e24_26, e24_29, e24_30, e24_31, e24_55, e24_56]
theorem s24_34 {L : Nat} {b : Bool} {I : AI} {J : AJ} (x1 : Int) (x2 : Int) (y0 : Int)  : ev 24 34 [some (vr 51), some (vi x1), some (vi x2)] [vi y0] (hp L b I J) = if ¬ (y0 : Int) = ((-1)) then (ev 24 49 [some (vr 51), some (vi x1), some (vi x2)] [] (hp L b I J)) else ((evc 25 [vr 51, vi x2] (hp L b I J)).bind (fun q => ev 24 43 [some (vr 51), some (vi x1), some (vi x2)] (q.1 :: []) q.2)) := by
  refine (e24_34 x1 x2 y0).trans ?_
  simp only [e24_35, e24_38, e24_39, e24_40]
theorem s24_43 {L : Nat} {b : Bool} {I : AI} {J : AJ} (x1 : Int) (x2 : Int) (y0 : Int)  : ev 24 43 [some (vr 51), some (vi x1), some (vi x2)] [vi y0] (hp L b I J) = if ¬ (y0 : Int) = 0 then (ev 24 49 [some (vr 51), some (vi x1), some (vi x2)] [] (hp L b I J)) else (gd (-2147483648 ≤ (x1 + 1 : Int) ∧ (x1 + 1 : Int) ≤ 2147483647) (ev 24 49 [some (vr 51), some (vi (x1 + 1)), some (vi x2)] [] (hp L b I J))) := by
  refine (e24_43 x1 x2 y0).trans ?_
  simp only [e24_46]
theorem s24_49 {L : Nat} {b : Bool} {I : AI} {J : AJ} (x1 : Int) (x2 : Int)  : ev 24 49 [some (vr 51), some (vi x1), some (vi x2)] [] (hp L b I J) = gd (-2147483648 ≤ (x2 + 1 : Int) ∧ (x2 + 1 : Int) ≤ 2147483647) (ev 24 4 [some (vr 51), some (vi x1), some (vi (x2 + 1))] [] (hp L b I J)) := by
  refine (e24_49 x1 x2).trans ?_
  simp only [e24_52]
/-! 25: VersionVault$Joiner.isPlannedBefore(I)Z -/
theorem s25_0 {L : Nat} {b : Bool} {I : AI} {J : AJ} (x1 : Int)  : ev 25 0 [some (vr 51), some (vi x1), none] [] (hp L b I J) = ev 25 2 [some (vr 51), some (vi x1), some (vi 0)] [] (hp L b I J) := by
  refine (e25_0 x1).trans ?_
  simp only [e25_1]
theorem s25_2 {L : Nat} {b : Bool} {I : AI} {J : AJ} (x1 : Int) (x2 : Int) (h_72_2_x2_toNat : isRow (72 + 2 * (x2).toNat) = true) : ev 25 2 [some (vr 51), some (vi x1), some (vi x2)] [] (hp L b I J) = if x1 ≤ (x2 : Int) then (gd ((0 : Int) = 0 ∨ (0 : Int) = 1) (some (vi 0, hp L b I J))) else (gd (0 ≤ (x2 : Int) ∧ (x2 : Int) < 16) (if ¬ (I 53 x2 : Int) = ((-4)) then (ev 25 38 [some (vr 51), some (vi x1), some (vi x2)] [] (hp L b I J)) else (gd (0 ≤ (x2 : Int) ∧ (x2 : Int) < 16) (gd (0 ≤ (x1 : Int) ∧ (x1 : Int) < 16) ((evc 40 [vr (72 + 2 * (x2).toNat), vr (72 + 2 * (x1).toNat)] (hp L b I J)).bind (fun q => ev 25 33 [some (vr 51), some (vi x1), some (vi x2)] (q.1 :: []) q.2)))))) := by
  refine (e25_2 x1 x2).trans ?_
  simp only [e25_3, e25_4, e25_7, e25_8, e25_11, e25_12, e25_13, e25_15, e25_18, e25_19, e25_22, e25_23, e25_24, e25_25, e25_28, e25_29, e25_30, e25_44, e25_45, h_72_2_x2_toNat]
theorem s25_33 {L : Nat} {b : Bool} {I : AI} {J : AJ} (x1 : Int) (x2 : Int) (y0 : Int)  : ev 25 33 [some (vr 51), some (vi x1), some (vi x2)] [vi y0] (hp L b I J) = if (y0 : Int) = 0 then (ev 25 38 [some (vr 51), some (vi x1), some (vi x2)] [] (hp L b I J)) else (gd ((1 : Int) = 0 ∨ (1 : Int) = 1) (some (vi 1, hp L b I J))) := by
  refine (e25_33 x1 x2 y0).trans ?_
  simp only [e25_36, e25_37]
theorem s25_38 {L : Nat} {b : Bool} {I : AI} {J : AJ} (x1 : Int) (x2 : Int)  : ev 25 38 [some (vr 51), some (vi x1), some (vi x2)] [] (hp L b I J) = gd (-2147483648 ≤ (x2 + 1 : Int) ∧ (x2 + 1 : Int) ≤ 2147483647) (ev 25 2 [some (vr 51), some (vi x1), some (vi (x2 + 1))] [] (hp L b I J)) := by
  refine (e25_38 x1 x2).trans ?_
  simp only [e25_41]
/-! 26: VersionVault$Joiner.carryOut(III)V -/
theorem s26_0 {L : Nat} {b : Bool} {I : AI} {J : AJ} (x1 : Int) (x2 : Int) (x3 : Int)  : ev 26 0 [some (vr 51), some (vi x1), some (vi x2), some (vi x3), none] [] (hp L b I J) = ev 26 3 [some (vr 51), some (vi x1), some (vi x2), some (vi x3), some (vi 0)] [] (hp L b I J) := by
  refine (e26_0 x1 x2 x3).trans ?_
  simp only [e26_1]
theorem s26_3 {L : Nat} {b : Bool} {I : AI} {J : AJ} (x1 : Int) (x2 : Int) (x3 : Int) (x4 : Int)  : ev 26 3 [some (vr 51), some (vi x1), some (vi x2), some (vi x3), some (vi x4)] [] (hp L b I J) = if 16 ≤ (x4 : Int) then (gd ((1 : Int) = 0 ∨ (1 : Int) = 1) (some (vi 0, hp L b (upI (upI (upI (upI I 51 9 x1) 51 10 x2) 51 11 x3) 51 8 1) J))) else (gd (0 ≤ (x4 : Int) ∧ (x4 : Int) < 16) (if ¬ (I 53 x4 : Int) = ((-4)) then (gd (0 ≤ (x4 : Int) ∧ (x4 : Int) < 16) (ev 26 52 [some (vr 51), some (vi x1), some (vi x2), some (vi x3), some (vi x4)] [vi (I 53 x4), vi x4, vr 55] (hp L b I J))) else (gd (0 ≤ (x4 : Int) ∧ (x4 : Int) < 16) ((evc 74 [vr 6, vr (72 + 2 * (x4).toNat)] (hp L b I J)).bind (fun q => ev 26 42 [some (vr 51), some (vi x1), some (vi x2), some (vi x3), some (vi x4)] (q.1 :: [vi x4, vr 55]) q.2))))) := by
  refine (e26_3 x1 x2 x3 x4).trans ?_
  simp only [e26_5, e26_7, e26_10, e26_11, e26_14, e26_16, e26_17, e26_20, e26_22, e26_23, e26_25, e26_28, e26_29, e26_32, e26_33, e26_36, e26_38, e26_39, e26_45, e26_46, e26_49, e26_51, e26_59, e26_60, e26_61, e26_64, e26_65, e26_66, e26_69, e26_70, e26_71, e26_74, e26_75, e26_76, e26_79]
theorem s26_42 {L : Nat} {b : Bool} {I : AI} {J : AJ} (x1 : Int) (x2 : Int) (x3 : Int) (x4 : Int) (y0 : Int) (y1 : Int)  : ev 26 42 [some (vr 51), some (vi x1), some (vi x2), some (vi x3), some (vi x4)] [vi y0, vi y1, vr 55] (hp L b I J) = ev 26 52 [some (vr 51), some (vi x1), some (vi x2), some (vi x3), some (vi x4)] [vi y0, vi y1, vr 55] (hp L b I J) := by
  refine (e26_42 x1 x2 x3 x4 y0 y1).trans ?_
  rfl
theorem s26_52 {L : Nat} {b : Bool} {I : AI} {J : AJ} (x1 : Int) (x2 : Int) (x3 : Int) (x4 : Int) (y0 : Int) (y1 : Int)  : ev 26 52 [some (vr 51), some (vi x1), some (vi x2), some (vi x3), some (vi x4)] [vi y0, vi y1, vr 55] (hp L b I J) = gd (0 ≤ (y1 : Int) ∧ (y1 : Int) < 16) (gd (-2147483648 ≤ (x4 + 1 : Int) ∧ (x4 + 1 : Int) ≤ 2147483647) (ev 26 3 [some (vr 51), some (vi x1), some (vi x2), some (vi x3), some (vi (x4 + 1))] [] (hp L b (upI I 55 y1 y0) J))) := by
  refine (e26_52 x1 x2 x3 x4 y0 y1).trans ?_
  simp only [e26_53, e26_56]
/-! 27: VersionVault$Joiner.clashes()I -/
theorem s27_0 {L : Nat} {b : Bool} {I : AI} {J : AJ}   : ev 27 0 [some (vr 51), none, none] [] (hp L b I J) = ev 27 4 [some (vr 51), some (vi 0), some (vi 0)] [] (hp L b I J) := by
  refine (e27_0 ).trans ?_
  simp only [e27_1, e27_2, e27_3]
theorem s27_4 {L : Nat} {b : Bool} {I : AI} {J : AJ} (x1 : Int) (x2 : Int)  : ev 27 4 [some (vr 51), some (vi x1), some (vi x2)] [] (hp L b I J) = if 16 ≤ (x2 : Int) then (some (vi x1, hp L b I J)) else (gd (0 ≤ (x2 : Int) ∧ (x2 : Int) < 16) (if ¬ (I 55 x2 : Int) = ((-3)) then (ev 27 24 [some (vr 51), some (vi x1), some (vi x2)] [] (hp L b I J)) else (gd (-2147483648 ≤ (x1 + 1 : Int) ∧ (x1 + 1 : Int) ≤ 2147483647) (ev 27 24 [some (vr 51), some (vi (x1 + 1)), some (vi x2)] [] (hp L b I J))))) := by
  refine (e27_4 x1 x2).trans ?_
  simp only [e27_5, e27_7, e27_10, e27_11, e27_14, e27_15, e27_16, e27_18, e27_21, e27_30, e27_31]
theorem s27_24 {L : Nat} {b : Bool} {I : AI} {J : AJ} (x1 : Int) (x2 : Int)  : ev 27 24 [some (vr 51), some (vi x1), some (vi x2)] [] (hp L b I J) = gd (-2147483648 ≤ (x2 + 1 : Int) ∧ (x2 + 1 : Int) ≤ 2147483647) (ev 27 4 [some (vr 51), some (vi x1), some (vi (x2 + 1))] [] (hp L b I J)) := by
  refine (e27_24 x1 x2).trans ?_
  simp only [e27_27]
/-! 28: VersionVault$Joiner.leastClash()I -/
theorem s28_0 {L : Nat} {b : Bool} {I : AI} {J : AJ}   : ev 28 0 [some (vr 51), none] [] (hp L b I J) = ev 28 2 [some (vr 51), some (vi 0)] [] (hp L b I J) := by
  refine (e28_0 ).trans ?_
  simp only [e28_1]
theorem s28_2 {L : Nat} {b : Bool} {I : AI} {J : AJ} (x1 : Int)  : ev 28 2 [some (vr 51), some (vi x1)] [] (hp L b I J) = if 16 ≤ (x1 : Int) then (some (vi ((-1)), hp L b I J)) else (gd (0 ≤ (x1 : Int) ∧ (x1 : Int) < 16) (if ¬ (I 55 x1 : Int) = ((-3)) then (gd (-2147483648 ≤ (x1 + 1 : Int) ∧ (x1 + 1 : Int) ≤ 2147483647) (ev 28 2 [some (vr 51), some (vi (x1 + 1))] [] (hp L b I J))) else (some (vi x1, hp L b I J)))) := by
  refine (e28_2 x1).trans ?_
  simp only [e28_3, e28_5, e28_8, e28_9, e28_12, e28_13, e28_14, e28_16, e28_19, e28_20, e28_21, e28_24, e28_27, e28_28]
/-! 29: VersionVault$Joiner.finish()I -/
theorem s29_0 {L : Nat} {b : Bool} {I : AI} {J : AJ}   : ev 29 0 [some (vr 51), none] [] (hp L b I J) = if (I 51 8 : Int) = 0 then (ev 29 33 [none, none] [] (hp L b I J)) else ((evc 67 [vr 6, vr 55] (hp L b I J)).bind (fun q => ev 29 18 [some (vr 51), none] (q.1 :: []) q.2)) := by
  refine (e29_0 ).trans ?_
  simp only [e29_1, e29_4, e29_7, e29_8, e29_11, e29_12, e29_15]
theorem s29_18 {L : Nat} {b : Bool} {I : AI} {J : AJ} (y0 : Int)  : ev 29 18 [some (vr 51), none] [vi y0] (hp L b I J) = if (y0 : Int) = 0 then (ev 29 33 [none, none] [] (hp L b I J)) else (if (I 23 8 : Int) < 80 then ((evc 46 [vr 20, vr 55] (hp L b I J)).bind (fun q => ev 29 47 [some (vr 51), none] (q.1 :: []) q.2)) else (ev 29 33 [none, none] [] (hp L b I J))) := by
  refine (e29_18 y0).trans ?_
  simp only [e29_21, e29_22, e29_25, e29_28, e29_30, e29_36, e29_37, e29_40, e29_41, e29_44]
theorem s29_33 {L : Nat} {b : Bool} {I : AI} {J : AJ}   : ev 29 33 [none, none] [] (hp L b I J) = some (vi ((-2)), hp L b I J) := by
  refine (e29_33 ).trans ?_
  simp only [e29_35]
theorem s29_47 {L : Nat} {b : Bool} {I : AI} {J : AJ} (y0 : Int)  : ev 29 47 [some (vr 51), none] [vi y0] (hp L b I J) = if ¬ (y0 : Int) = ((-2)) then (gd ((0 : Int) = 0 ∨ (0 : Int) = 1) ((evc 56 [vr 23, vi y0, vi ((upI I 51 8 0) 51 10), vi ((upI I 51 8 0) 51 11)] (hp L b (upI I 51 8 0) J)).bind (fun q => ev 29 78 [some (vr 51), some (vi y0)] (q.1 :: []) q.2))) else (some (vi ((-2)), hp L b I J)) := by
  refine (e29_47 y0).trans ?_
  simp only [e29_48, e29_49, e29_51, e29_54, e29_56, e29_57, e29_58, e29_59, e29_62, e29_63, e29_66, e29_67, e29_68, e29_71, e29_72, e29_75]
theorem s29_78 {L : Nat} {b : Bool} {I : AI} {J : AJ} (x1 : Int) (y0 : Int)  : ev 29 78 [some (vr 51), some (vi x1)] [vi y0] (hp L b I J) = some (vi y0, hp L b I J) := by
  refine (e29_78 x1 y0).trans ?_
  rfl
/-! 31: VersionVault$Keeper.missesShelf(I)Z -/
theorem s31_0 {L : Nat} {b : Bool} {I : AI} {J : AJ} (x1 : Int)  : ev 31 0 [some (vr 110), some (vi x1), none] [] (hp L b I J) = (evc 49 [vr 111] (hp L b I J)).bind (fun q => ev 31 7 [some (vr 110), some (vi x1), none] ([]) q.2) := by
  refine (e31_0 x1).trans ?_
  simp only [e31_1, e31_4]
theorem s31_7 {L : Nat} {b : Bool} {I : AI} {J : AJ} (x1 : Int)  : ev 31 7 [some (vr 110), some (vi x1), none] [] (hp L b I J) = (evc 57 [vr 23, vi x1, vr 111] (hp L b I J)).bind (fun q => ev 31 19 [some (vr 110), none, none] ([]) q.2) := by
  refine (e31_7 x1).trans ?_
  simp only [e31_8, e31_11, e31_12, e31_13, e31_16]
theorem s31_19 {L : Nat} {b : Bool} {I : AI} {J : AJ}   : ev 31 19 [some (vr 110), none, none] [] (hp L b I J) = ev 31 21 [some (vr 110), none, some (vi 0)] [] (hp L b I J) := by
  refine (e31_19 ).trans ?_
  simp only [e31_20]
theorem s31_21 {L : Nat} {b : Bool} {I : AI} {J : AJ} (x2 : Int)  : ev 31 21 [some (vr 110), none, some (vi x2)] [] (hp L b I J) = if (I 23 8) ≤ (x2 : Int) then (gd ((0 : Int) = 0 ∨ (0 : Int) = 1) (some (vi 0, hp L b I J))) else ((evc 50 [vr 111, vi x2] (hp L b I J)).bind (fun q => ev 31 40 [some (vr 110), none, some (vi x2)] (q.1 :: []) q.2)) := by
  refine (e31_21 x2).trans ?_
  simp only [e31_22, e31_23, e31_26, e31_29, e31_32, e31_33, e31_36, e31_37, e31_70, e31_71]
theorem s31_40 {L : Nat} {b : Bool} {I : AI} {J : AJ} (x2 : Int) (y0 : Int)  : ev 31 40 [some (vr 110), none, some (vi x2)] [vi y0] (hp L b I J) = if (y0 : Int) = 0 then (ev 31 64 [some (vr 110), none, some (vi x2)] [] (hp L b I J)) else (gd (0 ≤ (x2 : Int) ∧ (x2 : Int) < 80) ((evc 42 [vr 20, vi (I 24 x2)] (hp L b I J)).bind (fun q => ev 31 59 [some (vr 110), none, some (vi x2)] (q.1 :: []) q.2))) := by
  refine (e31_40 x2 y0).trans ?_
  simp only [e31_43, e31_44, e31_47, e31_48, e31_51, e31_54, e31_55, e31_56]
theorem s31_59 {L : Nat} {b : Bool} {I : AI} {J : AJ} (x2 : Int) (y0 : Int)  : ev 31 59 [some (vr 110), none, some (vi x2)] [vi y0] (hp L b I J) = if ¬ (y0 : Int) = 0 then (ev 31 64 [some (vr 110), none, some (vi x2)] [] (hp L b I J)) else (gd ((1 : Int) = 0 ∨ (1 : Int) = 1) (some (vi 1, hp L b I J))) := by
  refine (e31_59 x2 y0).trans ?_
  simp only [e31_62, e31_63]
theorem s31_64 {L : Nat} {b : Bool} {I : AI} {J : AJ} (x2 : Int)  : ev 31 64 [some (vr 110), none, some (vi x2)] [] (hp L b I J) = gd (-2147483648 ≤ (x2 + 1 : Int) ∧ (x2 + 1 : Int) ≤ 2147483647) (ev 31 21 [some (vr 110), none, some (vi (x2 + 1))] [] (hp L b I J)) := by
  refine (e31_64 x2).trans ?_
  simp only [e31_67]
/-! 32: VersionVault$Keeper.survey()V -/
theorem s32_0 {L : Nat} {b : Bool} {I : AI} {J : AJ}   : ev 32 0 [some (vr 110), none] [] (hp L b I J) = (evc 49 [vr 111] (hp L b I J)).bind (fun q => ev 32 7 [some (vr 110), none] ([]) q.2) := by
  refine (e32_0 ).trans ?_
  simp only [e32_1, e32_4]
theorem s32_7 {L : Nat} {b : Bool} {I : AI} {J : AJ}   : ev 32 7 [some (vr 110), none] [] (hp L b I J) = ev 32 9 [some (vr 110), some (vi 0)] [] (hp L b I J) := by
  refine (e32_7 ).trans ?_
  simp only [e32_8]
theorem s32_9 {L : Nat} {b : Bool} {I : AI} {J : AJ} (x1 : Int)  : ev 32 9 [some (vr 110), some (vi x1)] [] (hp L b I J) = if 8 ≤ (x1 : Int) then (ev 32 43 [some (vr 110), some (vi 0)] [] (hp L b I J)) else (gd (0 ≤ (x1 : Int) ∧ (x1 : Int) < 8) ((evc 57 [vr 23, vi (I 30 x1), vr 111] (hp L b I J)).bind (fun q => ev 32 35 [some (vr 110), some (vi x1)] ([]) q.2))) := by
  refine (e32_9 x1).trans ?_
  simp only [e32_10, e32_12, e32_15, e32_16, e32_19, e32_20, e32_23, e32_26, e32_27, e32_28, e32_29, e32_32, e32_41, e32_42]
theorem s32_35 {L : Nat} {b : Bool} {I : AI} {J : AJ} (x1 : Int)  : ev 32 35 [some (vr 110), some (vi x1)] [] (hp L b I J) = gd (-2147483648 ≤ (x1 + 1 : Int) ∧ (x1 + 1 : Int) ≤ 2147483647) (ev 32 9 [some (vr 110), some (vi (x1 + 1))] [] (hp L b I J)) := by
  refine (e32_35 x1).trans ?_
  simp only [e32_38]
theorem s32_43 {L : Nat} {b : Bool} {I : AI} {J : AJ} (x1 : Int)  : ev 32 43 [some (vr 110), some (vi x1)] [] (hp L b I J) = if (I 20 2) ≤ (x1 : Int) then (ev 32 69 [some (vr 110), some (vi 0)] [] (hp L b I J)) else (gd (((0 : Int) = 0 ∨ (0 : Int) = 1) ∧ 0 ≤ (x1 : Int) ∧ (x1 : Int) < 100) (gd (-2147483648 ≤ (x1 + 1 : Int) ∧ (x1 + 1 : Int) ≤ 2147483647) (ev 32 43 [some (vr 110), some (vi (x1 + 1))] [] (hp L b (upI I 112 x1 0) J)))) := by
  refine (e32_43 x1).trans ?_
  simp only [e32_44, e32_45, e32_48, e32_51, e32_54, e32_55, e32_58, e32_59, e32_60, e32_61, e32_64, e32_67, e32_68]
theorem s32_69 {L : Nat} {b : Bool} {I : AI} {J : AJ} (x1 : Int)  : ev 32 69 [some (vr 110), some (vi x1)] [] (hp L b I J) = if (I 6 9) ≤ (x1 : Int) then (ev 32 95 [some (vr 110), some (vi 0)] [] (hp L b I J)) else (gd (((0 : Int) = 0 ∨ (0 : Int) = 1) ∧ 0 ≤ (x1 : Int) ∧ (x1 : Int) < 120) (gd (-2147483648 ≤ (x1 + 1 : Int) ∧ (x1 + 1 : Int) ≤ 2147483647) (ev 32 69 [some (vr 110), some (vi (x1 + 1))] [] (hp L b (upI I 113 x1 0) J)))) := by
  refine (e32_69 x1).trans ?_
  simp only [e32_70, e32_71, e32_74, e32_77, e32_80, e32_81, e32_84, e32_85, e32_86, e32_87, e32_90, e32_93, e32_94]
theorem s32_95 {L : Nat} {b : Bool} {I : AI} {J : AJ} (x1 : Int)  : ev 32 95 [some (vr 110), some (vi x1)] [] (hp L b I J) = if (I 23 8) ≤ (x1 : Int) then (gd (-2147483648 ≤ ((I 6 9) - 1 : Int) ∧ ((I 6 9) - 1 : Int) ≤ 2147483647) (ev 32 146 [some (vr 110), some (vi ((I 6 9) - 1))] [] (hp L b I J))) else ((evc 50 [vr 111, vi x1] (hp L b I J)).bind (fun q => ev 32 114 [some (vr 110), some (vi x1)] (q.1 :: []) q.2)) := by
  refine (e32_95 x1).trans ?_
  simp only [e32_96, e32_97, e32_100, e32_103, e32_106, e32_107, e32_110, e32_111, e32_136, e32_137, e32_140, e32_143, e32_144, e32_145]
theorem s32_114 {L : Nat} {b : Bool} {I : AI} {J : AJ} (x1 : Int) (y0 : Int)  : ev 32 114 [some (vr 110), some (vi x1)] [vi y0] (hp L b I J) = if (y0 : Int) = 0 then (ev 32 130 [some (vr 110), some (vi x1)] [] (hp L b I J)) else (gd (0 ≤ (x1 : Int) ∧ (x1 : Int) < 80) ((evc 33 [vr 110, vi (I 24 x1)] (hp L b I J)).bind (fun q => ev 32 130 [some (vr 110), some (vi x1)] ([]) q.2))) := by
  refine (e32_114 x1 y0).trans ?_
  simp only [e32_117, e32_118, e32_119, e32_122, e32_125, e32_126, e32_127]
theorem s32_130 {L : Nat} {b : Bool} {I : AI} {J : AJ} (x1 : Int)  : ev 32 130 [some (vr 110), some (vi x1)] [] (hp L b I J) = gd (-2147483648 ≤ (x1 + 1 : Int) ∧ (x1 + 1 : Int) ≤ 2147483647) (ev 32 95 [some (vr 110), some (vi (x1 + 1))] [] (hp L b I J)) := by
  refine (e32_130 x1).trans ?_
  simp only [e32_133]
theorem s32_146 {L : Nat} {b : Bool} {I : AI} {J : AJ} (x1 : Int)  : ev 32 146 [some (vr 110), some (vi x1)] [] (hp L b I J) = if (x1 : Int) < 0 then (some (vi 0, hp L b I J)) else (gd (0 ≤ (x1 : Int) ∧ (x1 : Int) < 120) (if (I 113 x1 : Int) = 0 then (ev 32 193 [some (vr 110), some (vi x1)] [] (hp L b I J)) else (gd (0 ≤ (x1 : Int) ∧ (x1 : Int) < 120) ((evc 64 [vr 6, vi (I 10 x1)] (hp L b I J)).bind (fun q => ev 32 175 [some (vr 110), some (vi x1)] (q.1 :: []) q.2))))) := by
  refine (e32_146 x1).trans ?_
  simp only [e32_147, e32_150, e32_151, e32_154, e32_155, e32_156, e32_159, e32_160, e32_163, e32_164, e32_167, e32_170, e32_171, e32_172, e32_199]
theorem s32_175 {L : Nat} {b : Bool} {I : AI} {J : AJ} (x1 : Int) (y0 : Int)  : ev 32 175 [some (vr 110), some (vi x1)] [vi y0] (hp L b I J) = if (y0 : Int) = 0 then (ev 32 193 [some (vr 110), some (vi x1)] [] (hp L b I J)) else (gd (0 ≤ (x1 : Int) ∧ (x1 : Int) < 120) (gd (((1 : Int) = 0 ∨ (1 : Int) = 1) ∧ 0 ≤ (I 10 x1 : Int) ∧ (I 10 x1 : Int) < 120) (ev 32 193 [some (vr 110), some (vi x1)] [] (hp L b (upI I 113 (I 10 x1) 1) J)))) := by
  refine (e32_175 x1 y0).trans ?_
  simp only [e32_178, e32_179, e32_182, e32_183, e32_186, e32_189, e32_190, e32_191, e32_192]
theorem s32_193 {L : Nat} {b : Bool} {I : AI} {J : AJ} (x1 : Int)  : ev 32 193 [some (vr 110), some (vi x1)] [] (hp L b I J) = gd (-2147483648 ≤ (x1 + (-1) : Int) ∧ (x1 + (-1) : Int) ≤ 2147483647) (ev 32 146 [some (vr 110), some (vi (x1 + (-1)))] [] (hp L b I J)) := by
  refine (e32_193 x1).trans ?_
  simp only [e32_196]
/-! 33: VersionVault$Keeper.reachShelf(I)V -/
theorem s33_0 {L : Nat} {b : Bool} {I : AI} {J : AJ} (x1 : Int)  : ev 33 0 [some (vr 110), some (vi x1), none, none] [] (hp L b I J) = (evc 42 [vr 20, vi x1] (hp L b I J)).bind (fun q => ev 33 8 [some (vr 110), some (vi x1), none, none] (q.1 :: []) q.2) := by
  refine (e33_0 x1).trans ?_
  simp only [e33_1, e33_4, e33_5]
theorem s33_8 {L : Nat} {b : Bool} {I : AI} {J : AJ} (x1 : Int) (y0 : Int)  : ev 33 8 [some (vr 110), some (vi x1), none, none] [vi y0] (hp L b I J) = if (y0 : Int) = 0 then (some (vi 0, hp L b I J)) else (gd (0 ≤ (x1 : Int) ∧ (x1 : Int) < 100) (if (I 112 x1 : Int) = 0 then (gd (((1 : Int) = 0 ∨ (1 : Int) = 1) ∧ 0 ≤ (x1 : Int) ∧ (x1 : Int) < 100) (ev 33 30 [some (vr 110), some (vi x1), some (vi 0), none] [] (hp L b (upI I 112 x1 1) J))) else (some (vi 0, hp L b I J)))) := by
  refine (e33_8 x1 y0).trans ?_
  simp only [e33_11, e33_12, e33_15, e33_16, e33_17, e33_20, e33_21, e33_22, e33_25, e33_26, e33_27, e33_28, e33_29]
theorem s33_30 {L : Nat} {b : Bool} {I : AI} {J : AJ} (x1 : Int) (x2 : Int)  : ev 33 30 [some (vr 110), some (vi x1), some (vi x2), none] [] (hp L b I J) = if 16 ≤ (x2 : Int) then (some (vi 0, hp L b I J)) else ((evc 43 [vr 20, vi x1, vi x2] (hp L b I J)).bind (fun q => ev 33 45 [some (vr 110), some (vi x1), some (vi x2), none] (q.1 :: []) q.2)) := by
  refine (e33_30 x1 x2).trans ?_
  simp only [e33_31, e33_33, e33_36, e33_37, e33_40, e33_41, e33_42, e33_70]
theorem s33_45 {L : Nat} {b : Bool} {I : AI} {J : AJ} (x1 : Int) (x2 : Int) (y0 : Int)  : ev 33 45 [some (vr 110), some (vi x1), some (vi x2), none] [vi y0] (hp L b I J) = (evc 64 [vr 6, vi y0] (hp L b I J)).bind (fun q => ev 33 54 [some (vr 110), some (vi x1), some (vi x2), some (vi y0)] (q.1 :: []) q.2) := by
  refine (e33_45 x1 x2 y0).trans ?_
  simp only [e33_46, e33_47, e33_50, e33_51]
theorem s33_54 {L : Nat} {b : Bool} {I : AI} {J : AJ} (x1 : Int) (x2 : Int) (x3 : Int) (y0 : Int)  : ev 33 54 [some (vr 110), some (vi x1), some (vi x2), some (vi x3)] [vi y0] (hp L b I J) = if (y0 : Int) = 0 then (ev 33 64 [some (vr 110), some (vi x1), some (vi x2), none] [] (hp L b I J)) else (gd (((1 : Int) = 0 ∨ (1 : Int) = 1) ∧ 0 ≤ (x3 : Int) ∧ (x3 : Int) < 120) (ev 33 64 [some (vr 110), some (vi x1), some (vi x2), none] [] (hp L b (upI I 113 x3 1) J))) := by
  refine (e33_54 x1 x2 x3 y0).trans ?_
  simp only [e33_57, e33_58, e33_61, e33_62, e33_63]
theorem s33_64 {L : Nat} {b : Bool} {I : AI} {J : AJ} (x1 : Int) (x2 : Int)  : ev 33 64 [some (vr 110), some (vi x1), some (vi x2), none] [] (hp L b I J) = gd (-2147483648 ≤ (x2 + 1 : Int) ∧ (x2 + 1 : Int) ≤ 2147483647) (ev 33 30 [some (vr 110), some (vi x1), some (vi (x2 + 1)), none] [] (hp L b I J)) := by
  refine (e33_64 x1 x2).trans ?_
  simp only [e33_67]
/-! 34: VersionVault$Keeper.reachedTexts()I -/
theorem s34_0 {L : Nat} {b : Bool} {I : AI} {J : AJ}   : ev 34 0 [some (vr 110), none, none] [] (hp L b I J) = (evc 32 [vr 110] (hp L b I J)).bind (fun q => ev 34 4 [some (vr 110), none, none] ([]) q.2) := by
  refine (e34_0 ).trans ?_
  simp only [e34_1]
theorem s34_4 {L : Nat} {b : Bool} {I : AI} {J : AJ}   : ev 34 4 [some (vr 110), none, none] [] (hp L b I J) = ev 34 8 [some (vr 110), some (vi 0), some (vi 0)] [] (hp L b I J) := by
  refine (e34_4 ).trans ?_
  simp only [e34_5, e34_6, e34_7]
theorem s34_8 {L : Nat} {b : Bool} {I : AI} {J : AJ} (x1 : Int) (x2 : Int)  : ev 34 8 [some (vr 110), some (vi x1), some (vi x2)] [] (hp L b I J) = if (I 6 9) ≤ (x2 : Int) then (some (vi x1, hp L b I J)) else (gd (0 ≤ (x2 : Int) ∧ (x2 : Int) < 120) (if (I 113 x2 : Int) = 0 then (ev 34 31 [some (vr 110), some (vi x1), some (vi x2)] [] (hp L b I J)) else (gd (-2147483648 ≤ (x1 + 1 : Int) ∧ (x1 + 1 : Int) ≤ 2147483647) (ev 34 31 [some (vr 110), some (vi (x1 + 1)), some (vi x2)] [] (hp L b I J))))) := by
  refine (e34_8 x1 x2).trans ?_
  simp only [e34_9, e34_10, e34_13, e34_16, e34_19, e34_20, e34_23, e34_24, e34_25, e34_28, e34_37, e34_38]
theorem s34_31 {L : Nat} {b : Bool} {I : AI} {J : AJ} (x1 : Int) (x2 : Int)  : ev 34 31 [some (vr 110), some (vi x1), some (vi x2)] [] (hp L b I J) = gd (-2147483648 ≤ (x2 + 1 : Int) ∧ (x2 + 1 : Int) ≤ 2147483647) (ev 34 8 [some (vr 110), some (vi x1), some (vi (x2 + 1))] [] (hp L b I J)) := by
  refine (e34_31 x1 x2).trans ?_
  simp only [e34_34]
/-! 35: VersionVault$Keeper.sweepUnreached()I -/
theorem s35_0 {L : Nat} {b : Bool} {I : AI} {J : AJ}   : ev 35 0 [some (vr 110), none, none] [] (hp L b I J) = (evc 32 [vr 110] (hp L b I J)).bind (fun q => ev 35 4 [some (vr 110), none, none] ([]) q.2) := by
  refine (e35_0 ).trans ?_
  simp only [e35_1]
theorem s35_4 {L : Nat} {b : Bool} {I : AI} {J : AJ}   : ev 35 4 [some (vr 110), none, none] [] (hp L b I J) = ev 35 6 [some (vr 110), some (vi 0), none] [] (hp L b I J) := by
  refine (e35_4 ).trans ?_
  simp only [e35_5]
theorem s35_6 {L : Nat} {b : Bool} {I : AI} {J : AJ} (x1 : Int)  : ev 35 6 [some (vr 110), some (vi x1), none] [] (hp L b I J) = if (I 20 2) ≤ (x1 : Int) then (ev 35 46 [some (vr 110), some (vi 0), some (vi 0)] [] (hp L b I J)) else (gd (0 ≤ (x1 : Int) ∧ (x1 : Int) < 100) (if ¬ (I 112 x1 : Int) = 0 then (ev 35 36 [some (vr 110), some (vi x1), none] [] (hp L b I J)) else (gd (((1 : Int) = 0 ∨ (1 : Int) = 1) ∧ 0 ≤ (x1 : Int) ∧ (x1 : Int) < 100) (ev 35 36 [some (vr 110), some (vi x1), none] [] (hp L b (upI I 22 x1 1) J))))) := by
  refine (e35_6 x1).trans ?_
  simp only [e35_7, e35_8, e35_11, e35_14, e35_17, e35_18, e35_21, e35_22, e35_23, e35_26, e35_27, e35_30, e35_33, e35_34, e35_35, e35_42, e35_43, e35_44, e35_45]
theorem s35_36 {L : Nat} {b : Bool} {I : AI} {J : AJ} (x1 : Int)  : ev 35 36 [some (vr 110), some (vi x1), none] [] (hp L b I J) = gd (-2147483648 ≤ (x1 + 1 : Int) ∧ (x1 + 1 : Int) ≤ 2147483647) (ev 35 6 [some (vr 110), some (vi (x1 + 1)), none] [] (hp L b I J)) := by
  refine (e35_36 x1).trans ?_
  simp only [e35_39]
theorem s35_46 {L : Nat} {b : Bool} {I : AI} {J : AJ} (x1 : Int) (x2 : Int)  : ev 35 46 [some (vr 110), some (vi x1), some (vi x2)] [] (hp L b I J) = if (I 6 9) ≤ (x2 : Int) then (some (vi x1, hp L b I J)) else (gd (0 ≤ (x2 : Int) ∧ (x2 : Int) < 120) (if ¬ (I 113 x2 : Int) = 0 then (ev 35 100 [some (vr 110), some (vi x1), some (vi x2)] [] (hp L b I J)) else ((evc 65 [vr 6, vi x2] (hp L b I J)).bind (fun q => ev 35 74 [some (vr 110), some (vi x1), some (vi x2)] (q.1 :: []) q.2)))) := by
  refine (e35_46 x1 x2).trans ?_
  simp only [e35_47, e35_48, e35_51, e35_54, e35_57, e35_58, e35_61, e35_62, e35_63, e35_66, e35_67, e35_70, e35_71, e35_106, e35_107]
theorem s35_74 {L : Nat} {b : Bool} {I : AI} {J : AJ} (x1 : Int) (x2 : Int) (y0 : Int)  : ev 35 74 [some (vr 110), some (vi x1), some (vi x2)] [vi y0] (hp L b I J) = if (y0 : Int) = 0 then (ev 35 100 [some (vr 110), some (vi x1), some (vi x2)] [] (hp L b I J)) else (gd (0 ≤ (x2 : Int) ∧ (x2 : Int) < 120) (gd (0 ≤ (x2 : Int) ∧ (x2 : Int) < 120) (gd (-2147483648 ≤ (x1 + 1 : Int) ∧ (x1 + 1 : Int) ≤ 2147483647) (ev 35 100 [some (vr 110), some (vi (x1 + 1)), some (vi x2)] [] (hp L b (upI (upI I 9 x2 3) 10 x2 ((-1))) J))))) := by
  refine (e35_74 x1 x2 y0).trans ?_
  simp only [e35_77, e35_78, e35_81, e35_84, e35_85, e35_86, e35_87, e35_88, e35_91, e35_94, e35_95, e35_96, e35_97]
theorem s35_100 {L : Nat} {b : Bool} {I : AI} {J : AJ} (x1 : Int) (x2 : Int)  : ev 35 100 [some (vr 110), some (vi x1), some (vi x2)] [] (hp L b I J) = gd (-2147483648 ≤ (x2 + 1 : Int) ∧ (x2 + 1 : Int) ≤ 2147483647) (ev 35 46 [some (vr 110), some (vi x1), some (vi (x2 + 1))] [] (hp L b I J)) := by
  refine (e35_100 x1 x2).trans ?_
  simp only [e35_103]
/-! 37: VersionVault$Row.clear()V -/
theorem s37_0 {L : Nat} {b : Bool} {I : AI} {J : AJ} (x0 : Nat) (hx0 : isRow x0 = true) : ev 37 0 [some (vr x0)] [] (hp L b I J) = some (vi 0, hp L b (upI I x0 1 0) J) := by
  refine (e37_0 x0).trans ?_
  simp only [e37_1, e37_2, e37_5, hx0]
/-! 38: VersionVault$Row.push(I)Z -/
theorem s38_0 {L : Nat} {b : Bool} {I : AI} {J : AJ} (x0 : Nat) (x1 : Int) (hx0 : isRow x0 = true) : ev 38 0 [some (vr x0), some (vi x1)] [] (hp L b I J) = if (I x0 1 : Int) < 24 then (gd (0 ≤ (I x0 1 : Int) ∧ (I x0 1 : Int) < 24) (gd (-2147483648 ≤ (((upI I (x0 + 1) (I x0 1) x1) x0 1) + 1 : Int) ∧ (((upI I (x0 + 1) (I x0 1) x1) x0 1) + 1 : Int) ≤ 2147483647) (gd ((1 : Int) = 0 ∨ (1 : Int) = 1) (some (vi 1, hp L b (upI (upI I (x0 + 1) (I x0 1) x1) x0 1 (((upI I (x0 + 1) (I x0 1) x1) x0 1) + 1)) J))))) else (gd ((0 : Int) = 0 ∨ (0 : Int) = 1) (some (vi 0, hp L b I J))) := by
  refine (e38_0 x0 x1).trans ?_
  simp only [e38_1, e38_4, e38_6, e38_9, e38_10, e38_11, e38_12, e38_15, e38_16, e38_19, e38_20, e38_21, e38_22, e38_23, e38_26, e38_27, e38_28, e38_31, e38_32, hx0]
/-! 39: VersionVault$Row.at(I)I -/
theorem s39_0 {L : Nat} {b : Bool} {I : AI} {J : AJ} (x0 : Nat) (x1 : Int) (hx0 : isRow x0 = true) : ev 39 0 [some (vr x0), some (vi x1)] [] (hp L b I J) = if (x1 : Int) < 0 then (ev 39 21 [none, none] [] (hp L b I J)) else (if (I x0 1) ≤ (x1 : Int) then (ev 39 21 [none, none] [] (hp L b I J)) else (gd (0 ≤ (x1 : Int) ∧ (x1 : Int) < 24) (some (vi (I (x0 + 1) x1), hp L b I J)))) := by
  refine (e39_0 x0 x1).trans ?_
  simp only [e39_1, e39_4, e39_5, e39_6, e39_9, e39_12, e39_13, e39_16, e39_17, e39_18, e39_22, hx0]
theorem s39_21 {L : Nat} {b : Bool} {I : AI} {J : AJ}   : ev 39 21 [none, none] [] (hp L b I J) = some (vi 0, hp L b I J) := by
  refine (e39_21 ).trans ?_
  simp only [e39_22]
/-! 40: VersionVault$Row.isLike(LVersionVault$Row;)Z -/
theorem s40_0 {L : Nat} {b : Bool} {I : AI} {J : AJ} (x0 : Nat) (x1 : Nat) (hx0 : isRow x0 = true) (hx1 : isRow x1 = true) : ev 40 0 [some (vr x0), some (vr x1), none] [] (hp L b I J) = if (I x0 1 : Int) = (I x1 1) then (ev 40 15 [some (vr x0), some (vr x1), some (vi 0)] [] (hp L b I J)) else (gd ((0 : Int) = 0 ∨ (0 : Int) = 1) (some (vi 0, hp L b I J))) := by
  refine (e40_0 x0 x1).trans ?_
  simp only [e40_1, e40_4, e40_5, e40_8, e40_11, e40_12, e40_13, e40_14, hx0, hx1]
theorem s40_15 {L : Nat} {b : Bool} {I : AI} {J : AJ} (x0 : Nat) (x1 : Nat) (x2 : Int) (hx0 : isRow x0 = true) (hx1 : isRow x1 = true) : ev 40 15 [some (vr x0), some (vr x1), some (vi x2)] [] (hp L b I J) = if (I x0 1) ≤ (x2 : Int) then (gd ((1 : Int) = 0 ∨ (1 : Int) = 1) (some (vi 1, hp L b I J))) else (gd (0 ≤ (x2 : Int) ∧ (x2 : Int) < 24) (gd (0 ≤ (x2 : Int) ∧ (x2 : Int) < 24) (if (I (x0 + 1) x2 : Int) = (I (x1 + 1) x2) then (gd (-2147483648 ≤ (x2 + 1 : Int) ∧ (x2 + 1 : Int) ≤ 2147483647) (ev 40 15 [some (vr x0), some (vr x1), some (vi (x2 + 1))] [] (hp L b I J))) else (gd ((0 : Int) = 0 ∨ (0 : Int) = 1) (some (vi 0, hp L b I J)))))) := by
  refine (e40_15 x0 x1 x2).trans ?_
  simp only [e40_16, e40_17, e40_20, e40_23, e40_24, e40_27, e40_28, e40_29, e40_30, e40_33, e40_34, e40_35, e40_38, e40_39, e40_40, e40_43, e40_46, e40_47, hx0, hx1]
/-! 42: VersionVault$Shelves.isThere(I)Z -/
theorem s42_0 {L : Nat} {b : Bool} {I : AI} {J : AJ} (x1 : Int)  : ev 42 0 [some (vr 20), some (vi x1)] [] (hp L b I J) = if (x1 : Int) < 0 then (ev 42 25 [none, none] [] (hp L b I J)) else (if (I 20 2) ≤ (x1 : Int) then (ev 42 25 [none, none] [] (hp L b I J)) else (gd (0 ≤ (x1 : Int) ∧ (x1 : Int) < 100) (if ¬ (I 22 x1 : Int) = 0 then (ev 42 25 [none, none] [] (hp L b I J)) else (gd ((1 : Int) = 0 ∨ (1 : Int) = 1) (some (vi 1, hp L b I J)))))) := by
  refine (e42_0 x1).trans ?_
  simp only [e42_1, e42_4, e42_5, e42_6, e42_9, e42_12, e42_13, e42_16, e42_17, e42_18, e42_21, e42_22, e42_26]
theorem s42_25 {L : Nat} {b : Bool} {I : AI} {J : AJ}   : ev 42 25 [none, none] [] (hp L b I J) = gd ((0 : Int) = 0 ∨ (0 : Int) = 1) (some (vi 0, hp L b I J)) := by
  refine (e42_25 ).trans ?_
  simp only [e42_26]
/-! 43: VersionVault$Shelves.at(II)I -/
theorem s43_0 {L : Nat} {b : Bool} {I : AI} {J : AJ} (x1 : Int) (x2 : Int)  : ev 43 0 [some (vr 20), some (vi x1), some (vi x2)] [] (hp L b I J) = if (x1 : Int) < 0 then (ev 43 33 [none, none, none] [] (hp L b I J)) else (if (I 20 2) ≤ (x1 : Int) then (ev 43 33 [none, none, none] [] (hp L b I J)) else ((evc 131 [vi x2] (hp L b I J)).bind (fun q => ev 43 16 [some (vr 20), some (vi x1), some (vi x2)] (q.1 :: []) q.2))) := by
  refine (e43_0 x1 x2).trans ?_
  simp only [e43_1, e43_4, e43_5, e43_6, e43_9, e43_12, e43_13]
theorem s43_16 {L : Nat} {b : Bool} {I : AI} {J : AJ} (x1 : Int) (x2 : Int) (y0 : Int)  : ev 43 16 [some (vr 20), some (vi x1), some (vi x2)] [vi y0] (hp L b I J) = if (y0 : Int) = 0 then (ev 43 33 [none, none, none] [] (hp L b I J)) else (gd (-2147483648 ≤ (x1 * 16 : Int) ∧ (x1 * 16 : Int) ≤ 2147483647) (gd (-2147483648 ≤ ((x1 * 16) + x2 : Int) ∧ ((x1 * 16) + x2 : Int) ≤ 2147483647) (gd (0 ≤ ((x1 * 16) + x2 : Int) ∧ ((x1 * 16) + x2 : Int) < 1600) (some (vi (I 21 ((x1 * 16) + x2)), hp L b I J))))) := by
  refine (e43_16 x1 x2 y0).trans ?_
  simp only [e43_19, e43_20, e43_23, e43_24, e43_26, e43_27, e43_28, e43_29, e43_30, e43_34]
theorem s43_33 {L : Nat} {b : Bool} {I : AI} {J : AJ}   : ev 43 33 [none, none, none] [] (hp L b I J) = some (vi ((-1)), hp L b I J) := by
  refine (e43_33 ).trans ?_
  simp only [e43_34]
/-! 44: VersionVault$Shelves.find([I)I -/
theorem s44_0 {L : Nat} {b : Bool} {I : AI} {J : AJ} (x1 : Nat)  : ev 44 0 [some (vr 20), some (vr x1), none] [] (hp L b I J) = ev 44 2 [some (vr 20), some (vr x1), some (vi 0)] [] (hp L b I J) := by
  refine (e44_0 x1).trans ?_
  simp only [e44_1]
theorem s44_2 {L : Nat} {b : Bool} {I : AI} {J : AJ} (x1 : Nat) (x2 : Int)  : ev 44 2 [some (vr 20), some (vr x1), some (vi x2)] [] (hp L b I J) = if (I 20 2) ≤ (x2 : Int) then (some (vi ((-1)), hp L b I J)) else (gd (0 ≤ (x2 : Int) ∧ (x2 : Int) < 100) (if ¬ (I 22 x2 : Int) = 0 then (ev 44 30 [some (vr 20), some (vr x1), some (vi x2)] [] (hp L b I J)) else ((evc 45 [vr 20, vi x2, vr x1] (hp L b I J)).bind (fun q => ev 44 25 [some (vr 20), some (vr x1), some (vi x2)] (q.1 :: []) q.2)))) := by
  refine (e44_2 x1 x2).trans ?_
  simp only [e44_3, e44_4, e44_7, e44_10, e44_11, e44_14, e44_15, e44_16, e44_19, e44_20, e44_21, e44_22, e44_36, e44_37]
theorem s44_25 {L : Nat} {b : Bool} {I : AI} {J : AJ} (x1 : Nat) (x2 : Int) (y0 : Int)  : ev 44 25 [some (vr 20), some (vr x1), some (vi x2)] [vi y0] (hp L b I J) = if (y0 : Int) = 0 then (ev 44 30 [some (vr 20), some (vr x1), some (vi x2)] [] (hp L b I J)) else (some (vi x2, hp L b I J)) := by
  refine (e44_25 x1 x2 y0).trans ?_
  simp only [e44_28, e44_29]
theorem s44_30 {L : Nat} {b : Bool} {I : AI} {J : AJ} (x1 : Nat) (x2 : Int)  : ev 44 30 [some (vr 20), some (vr x1), some (vi x2)] [] (hp L b I J) = gd (-2147483648 ≤ (x2 + 1 : Int) ∧ (x2 + 1 : Int) ≤ 2147483647) (ev 44 2 [some (vr 20), some (vr x1), some (vi (x2 + 1))] [] (hp L b I J)) := by
  refine (e44_30 x1 x2).trans ?_
  simp only [e44_33]
/-! 45: VersionVault$Shelves.isLike(I[I)Z -/
theorem s45_0 {L : Nat} {b : Bool} {I : AI} {J : AJ} (x1 : Int) (x2 : Nat)  : ev 45 0 [some (vr 20), some (vi x1), some (vr x2), none] [] (hp L b I J) = ev 45 2 [some (vr 20), some (vi x1), some (vr x2), some (vi 0)] [] (hp L b I J) := by
  refine (e45_0 x1 x2).trans ?_
  simp only [e45_1]
theorem s45_2 {L : Nat} {b : Bool} {I : AI} {J : AJ} (x1 : Int) (x2 : Nat) (x3 : Int) (hx2 : (hk L b)[x2]? = some (0, 16)) : ev 45 2 [some (vr 20), some (vi x1), some (vr x2), some (vi x3)] [] (hp L b I J) = if 16 ≤ (x3 : Int) then (ev 45 34 [none, none, none, none] [] (hp L b I J)) else (if ((16 : Int)) ≤ (x3 : Int) then (ev 45 34 [none, none, none, none] [] (hp L b I J)) else ((evc 43 [vr 20, vi x1, vi x3] (hp L b I J)).bind (fun q => ev 45 20 [some (vr 20), some (vi x1), some (vr x2), some (vi x3)] (q.1 :: []) q.2))) := by
  refine (e45_2 x1 x2 x3).trans ?_
  simp only [e45_3, e45_5, e45_8, e45_9, e45_10, e45_11, e45_14, e45_15, e45_16, e45_17, hx2]
theorem s45_20 {L : Nat} {b : Bool} {I : AI} {J : AJ} (x1 : Int) (x2 : Nat) (x3 : Int) (y0 : Int) (hx2 : (hk L b)[x2]? = some (0, 16)) (h0x2 : 0 < x2) : ev 45 20 [some (vr 20), some (vi x1), some (vr x2), some (vi x3)] [vi y0] (hp L b I J) = gd (0 ≤ (x3 : Int) ∧ (x3 : Int) < 16) (if (y0 : Int) = (I x2 x3) then (gd (-2147483648 ≤ (x3 + 1 : Int) ∧ (x3 + 1 : Int) ≤ 2147483647) (ev 45 2 [some (vr 20), some (vi x1), some (vr x2), some (vi (x3 + 1))] [] (hp L b I J))) else (gd ((0 : Int) = 0 ∨ (0 : Int) = 1) (some (vi 0, hp L b I J)))) := by
  refine (e45_20 x1 x2 x3 y0).trans ?_
  simp only [e45_21, e45_22, e45_23, e45_26, e45_27, e45_28, e45_31, h0x2, hx2]
theorem s45_34 {L : Nat} {b : Bool} {I : AI} {J : AJ}   : ev 45 34 [none, none, none, none] [] (hp L b I J) = gd ((1 : Int) = 0 ∨ (1 : Int) = 1) (some (vi 1, hp L b I J)) := by
  refine (e45_34 ).trans ?_
  simp only [e45_35]
/-! 46: VersionVault$Shelves.keep([I)I -/
theorem s46_0 {L : Nat} {b : Bool} {I : AI} {J : AJ} (x1 : Nat)  : ev 46 0 [some (vr 20), some (vr x1), none, none] [] (hp L b I J) = (evc 44 [vr 20, vr x1] (hp L b I J)).bind (fun q => ev 46 5 [some (vr 20), some (vr x1), none, none] (q.1 :: []) q.2) := by
  refine (e46_0 x1).trans ?_
  simp only [e46_1, e46_2]
theorem s46_5 {L : Nat} {b : Bool} {I : AI} {J : AJ} (x1 : Nat) (y0 : Int)  : ev 46 5 [some (vr 20), some (vr x1), none, none] [vi y0] (hp L b I J) = if (y0 : Int) = ((-1)) then (if (I 20 2 : Int) < 100 then (gd (-2147483648 ≤ ((I 20 2) + 1 : Int) ∧ ((I 20 2) + 1 : Int) ≤ 2147483647) (ev 46 42 [some (vr 20), some (vr x1), some (vi (I 20 2)), some (vi 0)] [] (hp L b (upI I 20 2 ((I 20 2) + 1)) J))) else (some (vi ((-2)), hp L b I J))) else (some (vi y0, hp L b I J)) := by
  refine (e46_5 x1 y0).trans ?_
  simp only [e46_6, e46_7, e46_8, e46_11, e46_12, e46_13, e46_14, e46_17, e46_19, e46_22, e46_24, e46_25, e46_26, e46_29, e46_30, e46_31, e46_32, e46_35, e46_36, e46_37, e46_40, e46_41]
theorem s46_42 {L : Nat} {b : Bool} {I : AI} {J : AJ} (x1 : Nat) (x2 : Int) (x3 : Int) (hx1 : (hk L b)[x1]? = some (0, 16)) (h0x1 : 0 < x1) : ev 46 42 [some (vr 20), some (vr x1), some (vi x2), some (vi x3)] [] (hp L b I J) = if 16 ≤ (x3 : Int) then (ev 46 74 [none, none, some (vi x2), none] [] (hp L b I J)) else (if ((16 : Int)) ≤ (x3 : Int) then (ev 46 74 [none, none, some (vi x2), none] [] (hp L b I J)) else (gd (-2147483648 ≤ (x2 * 16 : Int) ∧ (x2 * 16 : Int) ≤ 2147483647) (gd (-2147483648 ≤ ((x2 * 16) + x3 : Int) ∧ ((x2 * 16) + x3 : Int) ≤ 2147483647) (gd (0 ≤ (x3 : Int) ∧ (x3 : Int) < 16) (gd (0 ≤ ((x2 * 16) + x3 : Int) ∧ ((x2 * 16) + x3 : Int) < 1600) (gd (-2147483648 ≤ (x3 + 1 : Int) ∧ (x3 + 1 : Int) ≤ 2147483647) (ev 46 42 [some (vr 20), some (vr x1), some (vi x2), some (vi (x3 + 1))] [] (hp L b (upI I 21 ((x2 * 16) + x3) (I x1 x3)) J)))))))) := by
  refine (e46_42 x1 x2 x3).trans ?_
  simp only [e46_43, e46_45, e46_48, e46_49, e46_50, e46_51, e46_54, e46_55, e46_58, e46_59, e46_61, e46_62, e46_63, e46_64, e46_65, e46_66, e46_67, e46_68, e46_71, h0x1, hx1]
theorem s46_74 {L : Nat} {b : Bool} {I : AI} {J : AJ} (x2 : Int)  : ev 46 74 [none, none, some (vi x2), none] [] (hp L b I J) = some (vi x2, hp L b I J) := by
  refine (e46_74 x2).trans ?_
  simp only [e46_75]
/-! 47: VersionVault$Shelves.there()I -/
theorem s47_0 {L : Nat} {b : Bool} {I : AI} {J : AJ}   : ev 47 0 [some (vr 20), none, none] [] (hp L b I J) = ev 47 4 [some (vr 20), some (vi 0), some (vi 0)] [] (hp L b I J) := by
  refine (e47_0 ).trans ?_
  simp only [e47_1, e47_2, e47_3]
theorem s47_4 {L : Nat} {b : Bool} {I : AI} {J : AJ} (x1 : Int) (x2 : Int)  : ev 47 4 [some (vr 20), some (vi x1), some (vi x2)] [] (hp L b I J) = if (I 20 2) ≤ (x2 : Int) then (some (vi x1, hp L b I J)) else (gd (0 ≤ (x2 : Int) ∧ (x2 : Int) < 100) (if ¬ (I 22 x2 : Int) = 0 then (ev 47 24 [some (vr 20), some (vi x1), some (vi x2)] [] (hp L b I J)) else (gd (-2147483648 ≤ (x1 + 1 : Int) ∧ (x1 + 1 : Int) ≤ 2147483647) (ev 47 24 [some (vr 20), some (vi (x1 + 1)), some (vi x2)] [] (hp L b I J))))) := by
  refine (e47_4 x1 x2).trans ?_
  simp only [e47_5, e47_6, e47_9, e47_12, e47_13, e47_16, e47_17, e47_18, e47_21, e47_30, e47_31]
theorem s47_24 {L : Nat} {b : Bool} {I : AI} {J : AJ} (x1 : Int) (x2 : Int)  : ev 47 24 [some (vr 20), some (vi x1), some (vi x2)] [] (hp L b I J) = gd (-2147483648 ≤ (x2 + 1 : Int) ∧ (x2 + 1 : Int) ≤ 2147483647) (ev 47 4 [some (vr 20), some (vi x1), some (vi (x2 + 1))] [] (hp L b I J)) := by
  refine (e47_24 x1 x2).trans ?_
  simp only [e47_27]
/-! 49: VersionVault$StepSet.clear()V -/
theorem s49_0 {L : Nat} {b : Bool} {I : AI} {J : AJ} (x0 : Nat) (hx0 : isSet x0 = true) : ev 49 0 [some (vr x0)] [] (hp L b I J) = some (vi 0, hp L b I (upJ (upJ J x0 0 (BitVec.ofNat 64 0)) x0 1 (BitVec.ofNat 64 0))) := by
  refine (e49_0 x0).trans ?_
  simp only [e49_1, e49_2, e49_5, e49_6, e49_7, e49_10, hx0]
/-! 50: VersionVault$StepSet.has(I)Z -/
theorem s50_0 {L : Nat} {b : Bool} {I : AI} {J : AJ} (x0 : Nat) (x1 : Int) (hx0 : isSet x0 = true) : ev 50 0 [some (vr x0), some (vi x1)] [] (hp L b I J) = if (x1 : Int) < 0 then (ev 50 10 [none, none] [] (hp L b I J)) else (if (x1 : Int) < 80 then (if 64 ≤ (x1 : Int) then (gd (-2147483648 ≤ (x1 - 64 : Int) ∧ (x1 - 64 : Int) ≤ 2147483647) (gd (0 ≤ (x1 - 64 : Int) ∧ (x1 - 64 : Int) < 64) (ev 50 36 [none, none] [vl ((J x0 1) >>> (x1 - 64 : Int).toNat)] (hp L b I J)))) else (gd (0 ≤ (x1 : Int) ∧ (x1 : Int) < 64) (ev 50 36 [none, none] [vl ((J x0 0) >>> (x1 : Int).toNat)] (hp L b I J)))) else (ev 50 10 [none, none] [] (hp L b I J))) := by
  refine (e50_0 x0 x1).trans ?_
  simp only [e50_1, e50_4, e50_5, e50_7, e50_12, e50_13, e50_15, e50_18, e50_19, e50_22, e50_23, e50_24, e50_27, e50_28, e50_31, e50_32, e50_34, e50_35, hx0]
theorem s50_10 {L : Nat} {b : Bool} {I : AI} {J : AJ}   : ev 50 10 [none, none] [] (hp L b I J) = gd ((0 : Int) = 0 ∨ (0 : Int) = 1) (some (vi 0, hp L b I J)) := by
  refine (e50_10 ).trans ?_
  simp only [e50_11]
theorem s50_36 {L : Nat} {b : Bool} {I : AI} {J : AJ} (y0 : BitVec 64)  : ev 50 36 [none, none] [vl y0] (hp L b I J) = if (if (BitVec.ofNat 64 0).slt (y0 &&& (BitVec.ofNat 64 1)) then 1 else if (y0 &&& (BitVec.ofNat 64 1)) = (BitVec.ofNat 64 0) then 0 else -1 : Int) = 0 then (gd ((0 : Int) = 0 ∨ (0 : Int) = 1) (some (vi 0, hp L b I J))) else (gd ((1 : Int) = 0 ∨ (1 : Int) = 1) (some (vi 1, hp L b I J))) := by
  refine (e50_36 y0).trans ?_
  simp only [e50_37, e50_38, e50_39, e50_40, e50_43, e50_44, e50_47, e50_48]
/-! 51: VersionVault$StepSet.members()I -/
theorem s51_0 {L : Nat} {b : Bool} {I : AI} {J : AJ} (x0 : Nat) (hx0 : isSet x0 = true) : ev 51 0 [some (vr x0)] [] (hp L b I J) = (evc 230 [vl (J x0 0)] (hp L b I J)).bind (fun q => ev 51 7 [some (vr x0)] (q.1 :: []) q.2) := by
  refine (e51_0 x0).trans ?_
  simp only [e51_1, e51_4, hx0]
theorem s51_7 {L : Nat} {b : Bool} {I : AI} {J : AJ} (x0 : Nat) (y0 : Int) (hx0 : isSet x0 = true) : ev 51 7 [some (vr x0)] [vi y0] (hp L b I J) = (evc 230 [vl (J x0 1)] (hp L b I J)).bind (fun q => ev 51 14 [none] (q.1 :: [vi y0]) q.2) := by
  refine (e51_7 x0 y0).trans ?_
  simp only [e51_8, e51_11, hx0]
theorem s51_14 {L : Nat} {b : Bool} {I : AI} {J : AJ} (y0 : Int) (y1 : Int)  : ev 51 14 [none] [vi y0, vi y1] (hp L b I J) = gd (-2147483648 ≤ (y1 + y0 : Int) ∧ (y1 + y0 : Int) ≤ 2147483647) (some (vi (y1 + y0), hp L b I J)) := by
  refine (e51_14 y0 y1).trans ?_
  simp only [e51_15]
/-! 52: VersionVault$StepSet.remove(LVersionVault$StepSet;)V -/
theorem s52_0 {L : Nat} {b : Bool} {I : AI} {J : AJ} (x0 : Nat) (x1 : Nat) (hx0 : isSet x0 = true) (hx1 : isSet x1 = true) : ev 52 0 [some (vr x0), some (vr x1)] [] (hp L b I J) = some (vi 0, hp L b I (upJ (upJ J x0 0 ((J x0 0) &&& ((J x1 0) ^^^ (BitVec.ofInt 64 (-1))))) x0 1 (((upJ J x0 0 ((J x0 0) &&& ((J x1 0) ^^^ (BitVec.ofInt 64 (-1))))) x0 1) &&& (((upJ J x0 0 ((J x0 0) &&& ((J x1 0) ^^^ (BitVec.ofInt 64 (-1))))) x1 1) ^^^ (BitVec.ofInt 64 (-1)))))) := by
  refine (e52_0 x0 x1).trans ?_
  simp only [e52_1, e52_2, e52_5, e52_6, e52_9, e52_12, e52_13, e52_14, e52_17, e52_18, e52_19, e52_22, e52_23, e52_26, e52_29, e52_30, e52_31, e52_34, hx0, hx1]
/-! 54: VersionVault$Steps.isStep(I)Z -/
theorem s54_0 {L : Nat} {b : Bool} {I : AI} {J : AJ} (x1 : Int)  : ev 54 0 [some (vr 23), some (vi x1)] [] (hp L b I J) = if (x1 : Int) < 0 then (ev 54 16 [none, none] [] (hp L b I J)) else (if (I 23 8) ≤ (x1 : Int) then (ev 54 16 [none, none] [] (hp L b I J)) else (gd ((1 : Int) = 0 ∨ (1 : Int) = 1) (some (vi 1, hp L b I J)))) := by
  refine (e54_0 x1).trans ?_
  simp only [e54_1, e54_4, e54_5, e54_6, e54_9, e54_12, e54_13, e54_17]
theorem s54_16 {L : Nat} {b : Bool} {I : AI} {J : AJ}   : ev 54 16 [none, none] [] (hp L b I J) = gd ((0 : Int) = 0 ∨ (0 : Int) = 1) (some (vi 0, hp L b I J)) := by
  refine (e54_16 ).trans ?_
  simp only [e54_17]
/-! 55: VersionVault$Steps.isStepOrNone(I)Z -/
theorem s55_0 {L : Nat} {b : Bool} {I : AI} {J : AJ} (x1 : Int)  : ev 55 0 [some (vr 23), some (vi x1)] [] (hp L b I J) = if (x1 : Int) = ((-1)) then (ev 55 13 [none, none] [] (hp L b I J)) else ((evc 54 [vr 23, vi x1] (hp L b I J)).bind (fun q => ev 55 10 [none, none] (q.1 :: []) q.2)) := by
  refine (e55_0 x1).trans ?_
  simp only [e55_1, e55_2, e55_5, e55_6, e55_7]
theorem s55_10 {L : Nat} {b : Bool} {I : AI} {J : AJ} (y0 : Int)  : ev 55 10 [none, none] [vi y0] (hp L b I J) = if (y0 : Int) = 0 then (gd ((0 : Int) = 0 ∨ (0 : Int) = 1) (some (vi 0, hp L b I J))) else (ev 55 13 [none, none] [] (hp L b I J)) := by
  refine (e55_10 y0).trans ?_
  simp only [e55_17, e55_18]
theorem s55_13 {L : Nat} {b : Bool} {I : AI} {J : AJ}   : ev 55 13 [none, none] [] (hp L b I J) = gd ((1 : Int) = 0 ∨ (1 : Int) = 1) (some (vi 1, hp L b I J)) := by
  refine (e55_13 ).trans ?_
  simp only [e55_14, e55_18]
/-! 56: VersionVault$Steps.make(III)I -/
theorem s56_0 {L : Nat} {b : Bool} {I : AI} {J : AJ} (x1 : Int) (x2 : Int) (x3 : Int)  : ev 56 0 [some (vr 23), some (vi x1), some (vi x2), some (vi x3), none] [] (hp L b I J) = if (I 23 8 : Int) < 80 then ((evc 49 [vr 31] (hp L b I J)).bind (fun q => ev 56 19 [some (vr 23), some (vi x1), some (vi x2), some (vi x3), none] ([]) q.2)) else (some (vi ((-2)), hp L b I J)) := by
  refine (e56_0 x1 x2 x3).trans ?_
  simp only [e56_1, e56_4, e56_6, e56_9, e56_11, e56_12, e56_13, e56_16]
theorem s56_19 {L : Nat} {b : Bool} {I : AI} {J : AJ} (x1 : Int) (x2 : Int) (x3 : Int)  : ev 56 19 [some (vr 23), some (vi x1), some (vi x2), some (vi x3), none] [] (hp L b I J) = (evc 57 [vr 23, vi x2, vr 31] (hp L b I J)).bind (fun q => ev 56 28 [some (vr 23), some (vi x1), some (vi x2), some (vi x3), none] ([]) q.2) := by
  refine (e56_19 x1 x2 x3).trans ?_
  simp only [e56_20, e56_21, e56_22, e56_25]
theorem s56_28 {L : Nat} {b : Bool} {I : AI} {J : AJ} (x1 : Int) (x2 : Int) (x3 : Int)  : ev 56 28 [some (vr 23), some (vi x1), some (vi x2), some (vi x3), none] [] (hp L b I J) = (evc 57 [vr 23, vi x3, vr 31] (hp L b I J)).bind (fun q => ev 56 37 [some (vr 23), some (vi x1), some (vi x2), some (vi x3), none] ([]) q.2) := by
  refine (e56_28 x1 x2 x3).trans ?_
  simp only [e56_29, e56_30, e56_31, e56_34]
theorem s56_37 {L : Nat} {b : Bool} {I : AI} {J : AJ} (x1 : Int) (x2 : Int) (x3 : Int)  : ev 56 37 [some (vr 23), some (vi x1), some (vi x2), some (vi x3), none] [] (hp L b I J) = gd (-2147483648 ≤ ((I 23 8) + 1 : Int) ∧ ((I 23 8) + 1 : Int) ≤ 2147483647) (gd (0 ≤ (I 23 8 : Int) ∧ (I 23 8 : Int) < 80) (gd (0 ≤ (I 23 8 : Int) ∧ (I 23 8 : Int) < 80) (gd (0 ≤ (I 23 8 : Int) ∧ (I 23 8 : Int) < 80) (if 64 ≤ (I 23 8 : Int) then (ev 56 105 [some (vr 23), none, none, none, some (vi (I 23 8))] [vl (BitVec.ofNat 64 0), vl (J 31 0), vi (I 23 8), vr 28] (hp L b (upI (upI (upI (upI I 23 8 ((I 23 8) + 1)) 24 (I 23 8) x1) 25 (I 23 8) x2) 26 (I 23 8) x3) J)) else (gd (0 ≤ (I 23 8 : Int) ∧ (I 23 8 : Int) < 64) (ev 56 105 [some (vr 23), none, none, none, some (vi (I 23 8))] [vl ((BitVec.ofNat 64 1) <<< (I 23 8 : Int).toNat), vl (J 31 0), vi (I 23 8), vr 28] (hp L b (upI (upI (upI (upI I 23 8 ((I 23 8) + 1)) 24 (I 23 8) x1) 25 (I 23 8) x2) 26 (I 23 8) x3) J))))))) := by
  refine (e56_37 x1 x2 x3).trans ?_
  simp only [e56_38, e56_41, e56_43, e56_44, e56_45, e56_48, e56_49, e56_50, e56_53, e56_54, e56_57, e56_59, e56_60, e56_61, e56_62, e56_65, e56_67, e56_68, e56_69, e56_70, e56_73, e56_75, e56_76, e56_77, e56_78, e56_81, e56_83, e56_84, e56_87, e56_90, e56_92, e56_94, e56_97, e56_98, e56_100, e56_101, e56_104]
theorem s56_105 {L : Nat} {b : Bool} {I : AI} {J : AJ} (x4 : Int) (y0 : BitVec 64) (y1 : BitVec 64) (y2 : Int)  : ev 56 105 [some (vr 23), none, none, none, some (vi x4)] [vl y0, vl y1, vi y2, vr 28] (hp L b I J) = gd (0 ≤ (y2 : Int) ∧ (y2 : Int) < 80) (if 64 ≤ (x4 : Int) then (gd (-2147483648 ≤ (x4 - 64 : Int) ∧ (x4 - 64 : Int) ≤ 2147483647) (gd (0 ≤ (x4 - 64 : Int) ∧ (x4 - 64 : Int) < 64) (ev 56 138 [none, none, none, none, some (vi x4)] [vl ((BitVec.ofNat 64 1) <<< (x4 - 64 : Int).toNat), vl ((upJ J 28 y2 (y1 ||| y0)) 31 1), vi x4, vr 29] (hp L b I (upJ J 28 y2 (y1 ||| y0)))))) else (ev 56 138 [none, none, none, none, some (vi x4)] [vl (BitVec.ofNat 64 0), vl ((upJ J 28 y2 (y1 ||| y0)) 31 1), vi x4, vr 29] (hp L b I (upJ J 28 y2 (y1 ||| y0))))) := by
  refine (e56_105 x4 y0 y1 y2).trans ?_
  simp only [e56_106, e56_107, e56_108, e56_111, e56_113, e56_114, e56_117, e56_120, e56_122, e56_124, e56_127, e56_128, e56_131, e56_132, e56_134, e56_136, e56_137]
theorem s56_138 {L : Nat} {b : Bool} {I : AI} {J : AJ} (x4 : Int) (y0 : BitVec 64) (y1 : BitVec 64) (y2 : Int)  : ev 56 138 [none, none, none, none, some (vi x4)] [vl y0, vl y1, vi y2, vr 29] (hp L b I J) = gd (0 ≤ (y2 : Int) ∧ (y2 : Int) < 80) (some (vi x4, hp L b I (upJ J 29 y2 (y1 ||| y0)))) := by
  refine (e56_138 x4 y0 y1 y2).trans ?_
  simp only [e56_139, e56_140, e56_142]
/-! 57: VersionVault$Steps.putAncestors(ILVersionVault$StepSet;)V -/
theorem s57_0 {L : Nat} {b : Bool} {I : AI} {J : AJ} (x1 : Int) (x2 : Nat)  : ev 57 0 [some (vr 23), some (vi x1), some (vr x2)] [] (hp L b I J) = (evc 54 [vr 23, vi x1] (hp L b I J)).bind (fun q => ev 57 5 [some (vr 23), some (vi x1), some (vr x2)] (q.1 :: []) q.2) := by
  refine (e57_0 x1 x2).trans ?_
  simp only [e57_1, e57_2]
theorem s57_5 {L : Nat} {b : Bool} {I : AI} {J : AJ} (x1 : Int) (x2 : Nat) (y0 : Int) (hx2 : isSet x2 = true) : ev 57 5 [some (vr 23), some (vi x1), some (vr x2)] [vi y0] (hp L b I J) = if (y0 : Int) = 0 then (some (vi 0, hp L b I J)) else (gd (0 ≤ (x1 : Int) ∧ (x1 : Int) < 80) (gd (0 ≤ (x1 : Int) ∧ (x1 : Int) < 80) (some (vi 0, hp L b I (upJ (upJ J x2 0 ((J x2 0) ||| (J 28 x1))) x2 1 (((upJ J x2 0 ((J x2 0) ||| (J 28 x1))) x2 1) ||| ((upJ J x2 0 ((J x2 0) ||| (J 28 x1))) 29 x1))))))) := by
  refine (e57_5 x1 x2 y0).trans ?_
  simp only [e57_8, e57_9, e57_10, e57_13, e57_14, e57_17, e57_18, e57_19, e57_20, e57_23, e57_24, e57_25, e57_28, e57_29, e57_32, e57_33, e57_34, e57_35, e57_38, hx2]
/-! 58: VersionVault$Steps.isAncestor(II)Z -/
theorem s58_0 {L : Nat} {b : Bool} {I : AI} {J : AJ} (x1 : Int) (x2 : Int)  : ev 58 0 [some (vr 23), some (vi x1), some (vi x2)] [] (hp L b I J) = (evc 49 [vr 31] (hp L b I J)).bind (fun q => ev 58 7 [some (vr 23), some (vi x1), some (vi x2)] ([]) q.2) := by
  refine (e58_0 x1 x2).trans ?_
  simp only [e58_1, e58_4]
theorem s58_7 {L : Nat} {b : Bool} {I : AI} {J : AJ} (x1 : Int) (x2 : Int)  : ev 58 7 [some (vr 23), some (vi x1), some (vi x2)] [] (hp L b I J) = (evc 57 [vr 23, vi x1, vr 31] (hp L b I J)).bind (fun q => ev 58 16 [some (vr 23), none, some (vi x2)] ([]) q.2) := by
  refine (e58_7 x1 x2).trans ?_
  simp only [e58_8, e58_9, e58_10, e58_13]
theorem s58_16 {L : Nat} {b : Bool} {I : AI} {J : AJ} (x2 : Int)  : ev 58 16 [some (vr 23), none, some (vi x2)] [] (hp L b I J) = (evc 50 [vr 31, vi x2] (hp L b I J)).bind (fun q => ev 58 24 [some (vr 23), none, some (vi x2)] (q.1 :: []) q.2) := by
  refine (e58_16 x2).trans ?_
  simp only [e58_17, e58_20, e58_21]
theorem s58_24 {L : Nat} {b : Bool} {I : AI} {J : AJ} (x2 : Int) (y0 : Int)  : ev 58 24 [some (vr 23), none, some (vi x2)] [vi y0] (hp L b I J) = gd ((y0 : Int) = 0 ∨ (y0 : Int) = 1) (some (vi y0, hp L b I J)) := by
  refine (e58_24 x2 y0).trans ?_
  rfl
/-! 59: VersionVault$Steps.putBases(IILVersionVault$StepSet;)V -/
theorem s59_0 {L : Nat} {b : Bool} {I : AI} {J : AJ} (x1 : Int) (x2 : Int) (x3 : Nat) (hx3 : isSet x3 = true) : ev 59 0 [some (vr 23), some (vi x1), some (vi x2), some (vr x3), none] [] (hp L b I J) = (evc 49 [vr x3] (hp L b I J)).bind (fun q => ev 59 4 [some (vr 23), some (vi x1), some (vi x2), some (vr x3), none] ([]) q.2) := by
  refine (e59_0 x1 x2 x3).trans ?_
  simp only [e59_1, hx3]
theorem s59_4 {L : Nat} {b : Bool} {I : AI} {J : AJ} (x1 : Int) (x2 : Int) (x3 : Nat)  : ev 59 4 [some (vr 23), some (vi x1), some (vi x2), some (vr x3), none] [] (hp L b I J) = (evc 54 [vr 23, vi x1] (hp L b I J)).bind (fun q => ev 59 9 [some (vr 23), some (vi x1), some (vi x2), some (vr x3), none] (q.1 :: []) q.2) := by
  refine (e59_4 x1 x2 x3).trans ?_
  simp only [e59_5, e59_6]
theorem s59_9 {L : Nat} {b : Bool} {I : AI} {J : AJ} (x1 : Int) (x2 : Int) (x3 : Nat) (y0 : Int)  : ev 59 9 [some (vr 23), some (vi x1), some (vi x2), some (vr x3), none] [vi y0] (hp L b I J) = if (y0 : Int) = 0 then (some (vi 0, hp L b I J)) else ((evc 54 [vr 23, vi x2] (hp L b I J)).bind (fun q => ev 59 17 [some (vr 23), some (vi x1), some (vi x2), some (vr x3), none] (q.1 :: []) q.2)) := by
  refine (e59_9 x1 x2 x3 y0).trans ?_
  simp only [e59_12, e59_13, e59_14, e59_20]
theorem s59_17 {L : Nat} {b : Bool} {I : AI} {J : AJ} (x1 : Int) (x2 : Int) (x3 : Nat) (y0 : Int) (hx3 : isSet x3 = true) : ev 59 17 [some (vr 23), some (vi x1), some (vi x2), some (vr x3), none] [vi y0] (hp L b I J) = if ¬ (y0 : Int) = 0 then (gd (0 ≤ (x1 : Int) ∧ (x1 : Int) < 80) (gd (0 ≤ (x2 : Int) ∧ (x2 : Int) < 80) (gd (0 ≤ (x1 : Int) ∧ (x1 : Int) < 80) (gd (0 ≤ (x2 : Int) ∧ (x2 : Int) < 80) ((evc 49 [vr 31] (hp L b I (upJ (upJ J x3 0 ((J 28 x1) &&& (J 28 x2))) x3 1 (((upJ J x3 0 ((J 28 x1) &&& (J 28 x2))) 29 x1) &&& ((upJ J x3 0 ((J 28 x1) &&& (J 28 x2))) 29 x2))))).bind (fun q => ev 59 62 [some (vr 23), none, none, some (vr x3), none] ([]) q.2)))))) else (some (vi 0, hp L b I J)) := by
  refine (e59_17 x1 x2 x3 y0).trans ?_
  simp only [e59_20, e59_21, e59_22, e59_23, e59_26, e59_27, e59_28, e59_29, e59_32, e59_33, e59_34, e59_35, e59_38, e59_39, e59_40, e59_43, e59_44, e59_45, e59_46, e59_49, e59_50, e59_51, e59_52, e59_55, e59_56, e59_59, hx3]
theorem s59_62 {L : Nat} {b : Bool} {I : AI} {J : AJ} (x3 : Nat)  : ev 59 62 [some (vr 23), none, none, some (vr x3), none] [] (hp L b I J) = ev 59 65 [some (vr 23), none, none, some (vr x3), some (vi 0)] [] (hp L b I J) := by
  refine (e59_62 x3).trans ?_
  simp only [e59_63]
theorem s59_65 {L : Nat} {b : Bool} {I : AI} {J : AJ} (x3 : Nat) (x4 : Int) (hx3 : isSet x3 = true) : ev 59 65 [some (vr 23), none, none, some (vr x3), some (vi x4)] [] (hp L b I J) = if (I 23 8) ≤ (x4 : Int) then ((evc 52 [vr x3, vr 31] (hp L b I J)).bind (fun q => ev 59 127 [some (vr 23), none, none, some (vr x3), none] ([]) q.2)) else ((evc 50 [vr x3, vi x4] (hp L b I J)).bind (fun q => ev 59 80 [some (vr 23), none, none, some (vr x3), some (vi x4)] (q.1 :: []) q.2)) := by
  refine (e59_65 x3 x4).trans ?_
  simp only [e59_67, e59_68, e59_71, e59_74, e59_75, e59_77, e59_119, e59_120, e59_121, e59_124, hx3]
theorem s59_80 {L : Nat} {b : Bool} {I : AI} {J : AJ} (x3 : Nat) (x4 : Int) (y0 : Int)  : ev 59 80 [some (vr 23), none, none, some (vr x3), some (vi x4)] [vi y0] (hp L b I J) = if (y0 : Int) = 0 then (ev 59 113 [some (vr 23), none, none, some (vr x3), some (vi x4)] [] (hp L b I J)) else (gd (0 ≤ (x4 : Int) ∧ (x4 : Int) < 80) ((evc 57 [vr 23, vi (I 25 x4), vr 31] (hp L b I J)).bind (fun q => ev 59 98 [some (vr 23), none, none, some (vr x3), some (vi x4)] ([]) q.2))) := by
  refine (e59_80 x3 x4 y0).trans ?_
  simp only [e59_83, e59_84, e59_85, e59_88, e59_90, e59_91, e59_92, e59_95]
theorem s59_98 {L : Nat} {b : Bool} {I : AI} {J : AJ} (x3 : Nat) (x4 : Int)  : ev 59 98 [some (vr 23), none, none, some (vr x3), some (vi x4)] [] (hp L b I J) = gd (0 ≤ (x4 : Int) ∧ (x4 : Int) < 80) ((evc 57 [vr 23, vi (I 26 x4), vr 31] (hp L b I J)).bind (fun q => ev 59 113 [some (vr 23), none, none, some (vr x3), some (vi x4)] ([]) q.2)) := by
  refine (e59_98 x3 x4).trans ?_
  simp only [e59_99, e59_100, e59_103, e59_105, e59_106, e59_107, e59_110]
theorem s59_113 {L : Nat} {b : Bool} {I : AI} {J : AJ} (x3 : Nat) (x4 : Int)  : ev 59 113 [some (vr 23), none, none, some (vr x3), some (vi x4)] [] (hp L b I J) = gd (-2147483648 ≤ (x4 + 1 : Int) ∧ (x4 + 1 : Int) ≤ 2147483647) (ev 59 65 [some (vr 23), none, none, some (vr x3), some (vi (x4 + 1))] [] (hp L b I J)) := by
  refine (e59_113 x3 x4).trans ?_
  simp only [e59_116]
theorem s59_127 {L : Nat} {b : Bool} {I : AI} {J : AJ} (x3 : Nat)  : ev 59 127 [some (vr 23), none, none, some (vr x3), none] [] (hp L b I J) = some (vi 0, hp L b I J) := by
  refine (e59_127 x3).trans ?_
  rfl
/-! 60: VersionVault$Steps.leastBad()I -/
theorem s60_0 {L : Nat} {b : Bool} {I : AI} {J : AJ}   : ev 60 0 [some (vr 23), none] [] (hp L b I J) = ev 60 2 [some (vr 23), some (vi 0)] [] (hp L b I J) := by
  refine (e60_0 ).trans ?_
  simp only [e60_1]
theorem s60_2 {L : Nat} {b : Bool} {I : AI} {J : AJ} (x1 : Int)  : ev 60 2 [some (vr 23), some (vi x1)] [] (hp L b I J) = if (I 23 8) ≤ (x1 : Int) then (some (vi ((-1)), hp L b I J)) else (gd (0 ≤ (x1 : Int) ∧ (x1 : Int) < 80) (if ¬ (I 27 x1 : Int) = 2 then (gd (-2147483648 ≤ (x1 + 1 : Int) ∧ (x1 + 1 : Int) ≤ 2147483647) (ev 60 2 [some (vr 23), some (vi (x1 + 1))] [] (hp L b I J))) else (some (vi x1, hp L b I J)))) := by
  refine (e60_2 x1).trans ?_
  simp only [e60_3, e60_4, e60_7, e60_10, e60_11, e60_14, e60_15, e60_16, e60_17, e60_20, e60_21, e60_22, e60_25, e60_28, e60_29]
/-! 61: VersionVault$Steps.putQuestioned(LVersionVault$StepSet;)V -/
theorem s61_0 {L : Nat} {b : Bool} {I : AI} {J : AJ} (x1 : Nat) (hx1 : isSet x1 = true) : ev 61 0 [some (vr 23), some (vr x1), none] [] (hp L b I J) = (evc 49 [vr x1] (hp L b I J)).bind (fun q => ev 61 4 [some (vr 23), some (vr x1), none] ([]) q.2) := by
  refine (e61_0 x1).trans ?_
  simp only [e61_1, hx1]
theorem s61_4 {L : Nat} {b : Bool} {I : AI} {J : AJ} (x1 : Nat)  : ev 61 4 [some (vr 23), some (vr x1), none] [] (hp L b I J) = (evc 60 [vr 23] (hp L b I J)).bind (fun q => ev 61 9 [some (vr 23), some (vr x1), none] (q.1 :: [vr 23]) q.2) := by
  refine (e61_4 x1).trans ?_
  simp only [e61_5, e61_6]
theorem s61_9 {L : Nat} {b : Bool} {I : AI} {J : AJ} (x1 : Nat) (y0 : Int)  : ev 61 9 [some (vr 23), some (vr x1), none] [vi y0, vr 23] (hp L b I J) = (evc 57 [vr 23, vi y0, vr x1] (hp L b I J)).bind (fun q => ev 61 13 [some (vr 23), some (vr x1), none] ([]) q.2) := by
  refine (e61_9 x1 y0).trans ?_
  simp only [e61_10]
theorem s61_13 {L : Nat} {b : Bool} {I : AI} {J : AJ} (x1 : Nat)  : ev 61 13 [some (vr 23), some (vr x1), none] [] (hp L b I J) = (evc 49 [vr 31] (hp L b I J)).bind (fun q => ev 61 20 [some (vr 23), some (vr x1), none] ([]) q.2) := by
  refine (e61_13 x1).trans ?_
  simp only [e61_14, e61_17]
theorem s61_20 {L : Nat} {b : Bool} {I : AI} {J : AJ} (x1 : Nat)  : ev 61 20 [some (vr 23), some (vr x1), none] [] (hp L b I J) = ev 61 22 [some (vr 23), some (vr x1), some (vi 0)] [] (hp L b I J) := by
  refine (e61_20 x1).trans ?_
  simp only [e61_21]
theorem s61_22 {L : Nat} {b : Bool} {I : AI} {J : AJ} (x1 : Nat) (x2 : Int) (hx1 : isSet x1 = true) : ev 61 22 [some (vr 23), some (vr x1), some (vi x2)] [] (hp L b I J) = if (I 23 8) ≤ (x2 : Int) then ((evc 52 [vr x1, vr 31] (hp L b I J)).bind (fun q => ev 61 63 [some (vr 23), some (vr x1), none] ([]) q.2)) else (gd (0 ≤ (x2 : Int) ∧ (x2 : Int) < 80) (if ¬ (I 27 x2 : Int) = 1 then (ev 61 49 [some (vr 23), some (vr x1), some (vi x2)] [] (hp L b I J)) else ((evc 57 [vr 23, vi x2, vr 31] (hp L b I J)).bind (fun q => ev 61 49 [some (vr 23), some (vr x1), some (vi x2)] ([]) q.2)))) := by
  refine (e61_22 x1 x2).trans ?_
  simp only [e61_23, e61_24, e61_27, e61_30, e61_31, e61_34, e61_35, e61_36, e61_37, e61_40, e61_41, e61_42, e61_43, e61_46, e61_55, e61_56, e61_57, e61_60, hx1]
theorem s61_49 {L : Nat} {b : Bool} {I : AI} {J : AJ} (x1 : Nat) (x2 : Int)  : ev 61 49 [some (vr 23), some (vr x1), some (vi x2)] [] (hp L b I J) = gd (-2147483648 ≤ (x2 + 1 : Int) ∧ (x2 + 1 : Int) ≤ 2147483647) (ev 61 22 [some (vr 23), some (vr x1), some (vi (x2 + 1))] [] (hp L b I J)) := by
  refine (e61_49 x1 x2).trans ?_
  simp only [e61_52]
theorem s61_63 {L : Nat} {b : Bool} {I : AI} {J : AJ} (x1 : Nat)  : ev 61 63 [some (vr 23), some (vr x1), none] [] (hp L b I J) = some (vi 0, hp L b I J) := by
  refine (e61_63 x1).trans ?_
  rfl
/-! 62: VersionVault$Steps.bestAsk(LVersionVault$StepSet;)I -/
theorem s62_0 {L : Nat} {b : Bool} {I : AI} {J : AJ} (x1 : Nat) (hx1 : isSet x1 = true) : ev 62 0 [some (vr 23), some (vr x1), none, none, none, none, none, none, none] [] (hp L b I J) = (evc 51 [vr x1] (hp L b I J)).bind (fun q => ev 62 4 [some (vr 23), some (vr x1), none, none, none, none, none, none, none] (q.1 :: []) q.2) := by
  refine (e62_0 x1).trans ?_
  simp only [e62_1, hx1]
theorem s62_4 {L : Nat} {b : Bool} {I : AI} {J : AJ} (x1 : Nat) (y0 : Int)  : ev 62 4 [some (vr 23), some (vr x1), none, none, none, none, none, none, none] [vi y0] (hp L b I J) = (evc 60 [vr 23] (hp L b I J)).bind (fun q => ev 62 9 [some (vr 23), some (vr x1), some (vi y0), none, none, none, none, none, none] (q.1 :: []) q.2) := by
  refine (e62_4 x1 y0).trans ?_
  simp only [e62_5, e62_6]
theorem s62_9 {L : Nat} {b : Bool} {I : AI} {J : AJ} (x1 : Nat) (x2 : Int) (y0 : Int)  : ev 62 9 [some (vr 23), some (vr x1), some (vi x2), none, none, none, none, none, none] [vi y0] (hp L b I J) = gd (-2147483648 ≤ (x2 + 1 : Int) ∧ (x2 + 1 : Int) ≤ 2147483647) (ev 62 21 [some (vr 23), some (vr x1), some (vi x2), some (vi y0), some (vi ((-1))), some (vi (x2 + 1)), some (vi 0), none, none] [] (hp L b I J)) := by
  refine (e62_9 x1 x2 y0).trans ?_
  simp only [e62_10, e62_11, e62_13, e62_14, e62_15, e62_16, e62_18, e62_19]
theorem s62_21 {L : Nat} {b : Bool} {I : AI} {J : AJ} (x1 : Nat) (x2 : Int) (x3 : Int) (x4 : Int) (x5 : Int) (x6 : Int) (hx1 : isSet x1 = true) : ev 62 21 [some (vr 23), some (vr x1), some (vi x2), some (vi x3), some (vi x4), some (vi x5), some (vi x6), none, none] [] (hp L b I J) = if (I 23 8) ≤ (x6 : Int) then (some (vi x4, hp L b I J)) else (if (x6 : Int) = x3 then (ev 62 104 [some (vr 23), some (vr x1), some (vi x2), some (vi x3), some (vi x4), some (vi x5), some (vi x6), none, none] [] (hp L b I J)) else ((evc 50 [vr x1, vi x6] (hp L b I J)).bind (fun q => ev 62 42 [some (vr 23), some (vr x1), some (vi x2), some (vi x3), some (vi x4), some (vi x5), some (vi x6), none, none] (q.1 :: []) q.2))) := by
  refine (e62_21 x1 x2 x3 x4 x5 x6).trans ?_
  simp only [e62_23, e62_24, e62_27, e62_30, e62_32, e62_33, e62_36, e62_37, e62_39, e62_110, e62_112, hx1]
theorem s62_42 {L : Nat} {b : Bool} {I : AI} {J : AJ} (x1 : Nat) (x2 : Int) (x3 : Int) (x4 : Int) (x5 : Int) (x6 : Int) (y0 : Int) (hx1 : isSet x1 = true) : ev 62 42 [some (vr 23), some (vr x1), some (vi x2), some (vi x3), some (vi x4), some (vi x5), some (vi x6), none, none] [vi y0] (hp L b I J) = if (y0 : Int) = 0 then (ev 62 104 [some (vr 23), some (vr x1), some (vi x2), some (vi x3), some (vi x4), some (vi x5), some (vi x6), none, none] [] (hp L b I J)) else (gd (0 ≤ (x6 : Int) ∧ (x6 : Int) < 80) ((evc 230 [vl ((J x1 0) &&& (J 28 x6))] (hp L b I J)).bind (fun q => ev 62 60 [some (vr 23), some (vr x1), some (vi x2), some (vi x3), some (vi x4), some (vi x5), some (vi x6), none, none] (q.1 :: []) q.2))) := by
  refine (e62_42 x1 x2 x3 x4 x5 x6 y0).trans ?_
  simp only [e62_45, e62_46, e62_49, e62_50, e62_53, e62_55, e62_56, e62_57, hx1]
theorem s62_60 {L : Nat} {b : Bool} {I : AI} {J : AJ} (x1 : Nat) (x2 : Int) (x3 : Int) (x4 : Int) (x5 : Int) (x6 : Int) (y0 : Int) (hx1 : isSet x1 = true) : ev 62 60 [some (vr 23), some (vr x1), some (vi x2), some (vi x3), some (vi x4), some (vi x5), some (vi x6), none, none] [vi y0] (hp L b I J) = gd (0 ≤ (x6 : Int) ∧ (x6 : Int) < 80) ((evc 230 [vl ((J x1 1) &&& (J 29 x6))] (hp L b I J)).bind (fun q => ev 62 75 [some (vr 23), some (vr x1), some (vi x2), some (vi x3), some (vi x4), some (vi x5), some (vi x6), none, none] (q.1 :: [vi y0]) q.2)) := by
  refine (e62_60 x1 x2 x3 x4 x5 x6 y0).trans ?_
  simp only [e62_61, e62_64, e62_65, e62_68, e62_70, e62_71, e62_72, hx1]
theorem s62_75 {L : Nat} {b : Bool} {I : AI} {J : AJ} (x1 : Nat) (x2 : Int) (x3 : Int) (x4 : Int) (x5 : Int) (x6 : Int) (y0 : Int) (y1 : Int)  : ev 62 75 [some (vr 23), some (vr x1), some (vi x2), some (vi x3), some (vi x4), some (vi x5), some (vi x6), none, none] [vi y0, vi y1] (hp L b I J) = gd (-2147483648 ≤ (y1 + y0 : Int) ∧ (y1 + y0 : Int) ≤ 2147483647) (gd (-2147483648 ≤ (x2 - (y1 + y0) : Int) ∧ (x2 - (y1 + y0) : Int) ≤ 2147483647) (if x5 ≤ (if y1 + y0 < x2 - (y1 + y0) then x2 - (y1 + y0) else y1 + y0 : Int) then (ev 62 104 [some (vr 23), some (vr x1), some (vi x2), some (vi x3), some (vi x4), some (vi x5), some (vi x6), none, none] [] (hp L b I J)) else (ev 62 104 [some (vr 23), some (vr x1), some (vi x2), some (vi x3), some (vi x6), some (vi (if y1 + y0 < x2 - (y1 + y0) then x2 - (y1 + y0) else y1 + y0)), some (vi x6), none, none] [] (hp L b I J)))) := by
  refine (e62_75 x1 x2 x3 x4 x5 x6 y0 y1).trans ?_
  simp only [e62_76, e62_78, e62_80, e62_81, e62_83, e62_84, e62_87, e62_89, e62_91, e62_93, e62_96, e62_98, e62_100, e62_102]
theorem s62_104 {L : Nat} {b : Bool} {I : AI} {J : AJ} (x1 : Nat) (x2 : Int) (x3 : Int) (x4 : Int) (x5 : Int) (x6 : Int)  : ev 62 104 [some (vr 23), some (vr x1), some (vi x2), some (vi x3), some (vi x4), some (vi x5), some (vi x6), none, none] [] (hp L b I J) = gd (-2147483648 ≤ (x6 + 1 : Int) ∧ (x6 + 1 : Int) ≤ 2147483647) (ev 62 21 [some (vr 23), some (vr x1), some (vi x2), some (vi x3), some (vi x4), some (vi x5), some (vi (x6 + 1)), none, none] [] (hp L b I J)) := by
  refine (e62_104 x1 x2 x3 x4 x5 x6).trans ?_
  simp only [e62_107]
/-! 64: VersionVault$Texts.isText(I)Z -/
theorem s64_0 {L : Nat} {b : Bool} {I : AI} {J : AJ} (x1 : Int)  : ev 64 0 [some (vr 6), some (vi x1)] [] (hp L b I J) = if (x1 : Int) < 0 then (ev 64 16 [none, none] [] (hp L b I J)) else (if (I 6 9) ≤ (x1 : Int) then (ev 64 16 [none, none] [] (hp L b I J)) else (gd ((1 : Int) = 0 ∨ (1 : Int) = 1) (some (vi 1, hp L b I J)))) := by
  refine (e64_0 x1).trans ?_
  simp only [e64_1, e64_4, e64_5, e64_6, e64_9, e64_12, e64_13, e64_17]
theorem s64_16 {L : Nat} {b : Bool} {I : AI} {J : AJ}   : ev 64 16 [none, none] [] (hp L b I J) = gd ((0 : Int) = 0 ∨ (0 : Int) = 1) (some (vi 0, hp L b I J)) := by
  refine (e64_16 ).trans ?_
  simp only [e64_17]
/-! 65: VersionVault$Texts.isThere(I)Z -/
theorem s65_0 {L : Nat} {b : Bool} {I : AI} {J : AJ} (x1 : Int)  : ev 65 0 [some (vr 6), some (vi x1)] [] (hp L b I J) = (evc 64 [vr 6, vi x1] (hp L b I J)).bind (fun q => ev 65 5 [some (vr 6), some (vi x1)] (q.1 :: []) q.2) := by
  refine (e65_0 x1).trans ?_
  simp only [e65_1, e65_2]
theorem s65_5 {L : Nat} {b : Bool} {I : AI} {J : AJ} (x1 : Int) (y0 : Int)  : ev 65 5 [some (vr 6), some (vi x1)] [vi y0] (hp L b I J) = if (y0 : Int) = 0 then (ev 65 22 [none, none] [] (hp L b I J)) else (gd (0 ≤ (x1 : Int) ∧ (x1 : Int) < 120) (if (I 9 x1 : Int) = 3 then (ev 65 22 [none, none] [] (hp L b I J)) else (gd ((1 : Int) = 0 ∨ (1 : Int) = 1) (some (vi 1, hp L b I J))))) := by
  refine (e65_5 x1 y0).trans ?_
  simp only [e65_8, e65_9, e65_12, e65_13, e65_14, e65_15, e65_18, e65_19, e65_23]
theorem s65_22 {L : Nat} {b : Bool} {I : AI} {J : AJ}   : ev 65 22 [none, none] [] (hp L b I J) = gd ((0 : Int) = 0 ∨ (0 : Int) = 1) (some (vi 0, hp L b I J)) := by
  refine (e65_22 ).trans ?_
  simp only [e65_23]
/-! 66: VersionVault$Texts.isReadable(I)Z -/
theorem s66_0 {L : Nat} {b : Bool} {I : AI} {J : AJ} (x1 : Int)  : ev 66 0 [some (vr 6), some (vi x1)] [] (hp L b I J) = (evc 65 [vr 6, vi x1] (hp L b I J)).bind (fun q => ev 66 5 [some (vr 6), some (vi x1)] (q.1 :: []) q.2) := by
  refine (e66_0 x1).trans ?_
  simp only [e66_1, e66_2]
theorem s66_5 {L : Nat} {b : Bool} {I : AI} {J : AJ} (x1 : Int) (y0 : Int)  : ev 66 5 [some (vr 6), some (vi x1)] [vi y0] (hp L b I J) = if (y0 : Int) = 0 then (ev 66 21 [none, none] [] (hp L b I J)) else ((evc 68 [vr 6, vi x1] (hp L b I J)).bind (fun q => ev 66 13 [none, none] (q.1 :: []) q.2)) := by
  refine (e66_5 x1 y0).trans ?_
  simp only [e66_8, e66_9, e66_10]
theorem s66_13 {L : Nat} {b : Bool} {I : AI} {J : AJ} (y0 : Int)  : ev 66 13 [none, none] [vi y0] (hp L b I J) = if ¬ (y0 : Int) = ((-1)) then (ev 66 21 [none, none] [] (hp L b I J)) else (gd ((1 : Int) = 0 ∨ (1 : Int) = 1) (some (vi 1, hp L b I J))) := by
  refine (e66_13 y0).trans ?_
  simp only [e66_14, e66_17, e66_18, e66_22]
theorem s66_21 {L : Nat} {b : Bool} {I : AI} {J : AJ}   : ev 66 21 [none, none] [] (hp L b I J) = gd ((0 : Int) = 0 ∨ (0 : Int) = 1) (some (vi 0, hp L b I J)) := by
  refine (e66_21 ).trans ?_
  simp only [e66_22]
/-! 67: VersionVault$Texts.areThere([I)Z -/
theorem s67_0 {L : Nat} {b : Bool} {I : AI} {J : AJ} (x1 : Nat)  : ev 67 0 [some (vr 6), some (vr x1), none] [] (hp L b I J) = ev 67 2 [some (vr 6), some (vr x1), some (vi 0)] [] (hp L b I J) := by
  refine (e67_0 x1).trans ?_
  simp only [e67_1]
theorem s67_2 {L : Nat} {b : Bool} {I : AI} {J : AJ} (x1 : Nat) (x2 : Int) (hx1 : (hk L b)[x1]? = some (0, 16)) (h0x1 : 0 < x1) : ev 67 2 [some (vr 6), some (vr x1), some (vi x2)] [] (hp L b I J) = if ((16 : Int)) ≤ (x2 : Int) then (gd ((1 : Int) = 0 ∨ (1 : Int) = 1) (some (vi 1, hp L b I J))) else (gd (0 ≤ (x2 : Int) ∧ (x2 : Int) < 16) (if (I x1 x2 : Int) = ((-1)) then (ev 67 27 [some (vr 6), some (vr x1), some (vi x2)] [] (hp L b I J)) else (gd (0 ≤ (x2 : Int) ∧ (x2 : Int) < 16) ((evc 65 [vr 6, vi (I x1 x2)] (hp L b I J)).bind (fun q => ev 67 22 [some (vr 6), some (vr x1), some (vi x2)] (q.1 :: []) q.2))))) := by
  refine (e67_2 x1 x2).trans ?_
  simp only [e67_3, e67_4, e67_5, e67_8, e67_9, e67_10, e67_11, e67_12, e67_15, e67_16, e67_17, e67_18, e67_19, e67_33, e67_34, h0x1, hx1]
theorem s67_22 {L : Nat} {b : Bool} {I : AI} {J : AJ} (x1 : Nat) (x2 : Int) (y0 : Int)  : ev 67 22 [some (vr 6), some (vr x1), some (vi x2)] [vi y0] (hp L b I J) = if ¬ (y0 : Int) = 0 then (ev 67 27 [some (vr 6), some (vr x1), some (vi x2)] [] (hp L b I J)) else (gd ((0 : Int) = 0 ∨ (0 : Int) = 1) (some (vi 0, hp L b I J))) := by
  refine (e67_22 x1 x2 y0).trans ?_
  simp only [e67_25, e67_26]
theorem s67_27 {L : Nat} {b : Bool} {I : AI} {J : AJ} (x1 : Nat) (x2 : Int)  : ev 67 27 [some (vr 6), some (vr x1), some (vi x2)] [] (hp L b I J) = gd (-2147483648 ≤ (x2 + 1 : Int) ∧ (x2 + 1 : Int) ≤ 2147483647) (ev 67 2 [some (vr 6), some (vr x1), some (vi (x2 + 1))] [] (hp L b I J)) := by
  refine (e67_27 x1 x2).trans ?_
  simp only [e67_30]
/-! 68: VersionVault$Texts.firstLost(I)I -/
theorem s68_0 {L : Nat} {b : Bool} {I : AI} {J : AJ} (x1 : Int)  : ev 68 0 [some (vr 6), some (vi x1), none, none] [] (hp L b I J) = ev 68 4 [some (vr 6), none, some (vi x1), some (vi 0)] [] (hp L b I J) := by
  refine (e68_0 x1).trans ?_
  simp only [e68_1, e68_2, e68_3]
theorem s68_4 {L : Nat} {b : Bool} {I : AI} {J : AJ} (x2 : Int) (x3 : Int)  : ev 68 4 [some (vr 6), none, some (vi x2), some (vi x3)] [] (hp L b I J) = if 120 ≤ (x3 : Int) then (ev 68 43 [none, none, none, none] [] (hp L b I J)) else ((evc 64 [vr 6, vi x2] (hp L b I J)).bind (fun q => ev 68 15 [some (vr 6), none, some (vi x2), some (vi x3)] (q.1 :: []) q.2)) := by
  refine (e68_4 x2 x3).trans ?_
  simp only [e68_5, e68_7, e68_10, e68_11, e68_12]
theorem s68_15 {L : Nat} {b : Bool} {I : AI} {J : AJ} (x2 : Int) (x3 : Int) (y0 : Int)  : ev 68 15 [some (vr 6), none, some (vi x2), some (vi x3)] [vi y0] (hp L b I J) = if (y0 : Int) = 0 then (ev 68 43 [none, none, none, none] [] (hp L b I J)) else (gd (0 ≤ (x2 : Int) ∧ (x2 : Int) < 120) (if ¬ (I 9 x2 : Int) = 2 then (gd (0 ≤ (x2 : Int) ∧ (x2 : Int) < 120) (gd (-2147483648 ≤ (x3 + 1 : Int) ∧ (x3 + 1 : Int) ≤ 2147483647) (ev 68 4 [some (vr 6), none, some (vi (I 10 x2)), some (vi (x3 + 1))] [] (hp L b I J)))) else (some (vi x2, hp L b I J)))) := by
  refine (e68_15 x2 x3 y0).trans ?_
  simp only [e68_18, e68_19, e68_22, e68_23, e68_24, e68_25, e68_28, e68_29, e68_30, e68_31, e68_34, e68_35, e68_36, e68_37, e68_40]
theorem s68_43 {L : Nat} {b : Bool} {I : AI} {J : AJ}   : ev 68 43 [none, none, none, none] [] (hp L b I J) = some (vi ((-1)), hp L b I J) := by
  refine (e68_43 ).trans ?_
  simp only [e68_44]
/-! 69: VersionVault$Texts.depthOf(I)I -/
theorem s69_0 {L : Nat} {b : Bool} {I : AI} {J : AJ} (x1 : Int)  : ev 69 0 [some (vr 6), some (vi x1), none, none, none] [] (hp L b I J) = ev 69 7 [some (vr 6), none, some (vi 0), some (vi x1), some (vi 0)] [] (hp L b I J) := by
  refine (e69_0 x1).trans ?_
  simp only [e69_1, e69_2, e69_3, e69_4, e69_5]
theorem s69_7 {L : Nat} {b : Bool} {I : AI} {J : AJ} (x2 : Int) (x3 : Int) (x4 : Int)  : ev 69 7 [some (vr 6), none, some (vi x2), some (vi x3), some (vi x4)] [] (hp L b I J) = if 120 ≤ (x4 : Int) then (ev 69 48 [none, none, some (vi x2), none, none] [] (hp L b I J)) else ((evc 64 [vr 6, vi x3] (hp L b I J)).bind (fun q => ev 69 19 [some (vr 6), none, some (vi x2), some (vi x3), some (vi x4)] (q.1 :: []) q.2)) := by
  refine (e69_7 x2 x3 x4).trans ?_
  simp only [e69_9, e69_11, e69_14, e69_15, e69_16]
theorem s69_19 {L : Nat} {b : Bool} {I : AI} {J : AJ} (x2 : Int) (x3 : Int) (x4 : Int) (y0 : Int)  : ev 69 19 [some (vr 6), none, some (vi x2), some (vi x3), some (vi x4)] [vi y0] (hp L b I J) = if (y0 : Int) = 0 then (ev 69 48 [none, none, some (vi x2), none, none] [] (hp L b I J)) else (gd (0 ≤ (x3 : Int) ∧ (x3 : Int) < 120) (if ¬ (I 9 x3 : Int) = 1 then (ev 69 48 [none, none, some (vi x2), none, none] [] (hp L b I J)) else (gd (-2147483648 ≤ (x2 + 1 : Int) ∧ (x2 + 1 : Int) ≤ 2147483647) (gd (0 ≤ (x3 : Int) ∧ (x3 : Int) < 120) (gd (-2147483648 ≤ (x4 + 1 : Int) ∧ (x4 + 1 : Int) ≤ 2147483647) (ev 69 7 [some (vr 6), none, some (vi (x2 + 1)), some (vi (I 10 x3)), some (vi (x4 + 1))] [] (hp L b I J))))))) := by
  refine (e69_19 x2 x3 x4 y0).trans ?_
  simp only [e69_22, e69_23, e69_26, e69_27, e69_28, e69_29, e69_32, e69_35, e69_36, e69_39, e69_40, e69_41, e69_42, e69_45]
theorem s69_48 {L : Nat} {b : Bool} {I : AI} {J : AJ} (x2 : Int)  : ev 69 48 [none, none, some (vi x2), none, none] [] (hp L b I J) = some (vi x2, hp L b I J) := by
  refine (e69_48 x2).trans ?_
  simp only [e69_49]
/-! 70: VersionVault$Texts.at(II)I -/
theorem s70_0 {L : Nat} {b : Bool} {I : AI} {J : AJ} (x1 : Int) (x2 : Int)  : ev 70 0 [some (vr 6), some (vi x1), some (vi x2)] [] (hp L b I J) = (evc 64 [vr 6, vi x1] (hp L b I J)).bind (fun q => ev 70 5 [some (vr 6), some (vi x1), some (vi x2)] (q.1 :: []) q.2) := by
  refine (e70_0 x1 x2).trans ?_
  simp only [e70_1, e70_2]
theorem s70_5 {L : Nat} {b : Bool} {I : AI} {J : AJ} (x1 : Int) (x2 : Int) (y0 : Int)  : ev 70 5 [some (vr 6), some (vi x1), some (vi x2)] [vi y0] (hp L b I J) = if (y0 : Int) = 0 then (ev 70 36 [none, none, none] [] (hp L b I J)) else (if (x2 : Int) < 0 then (ev 70 36 [none, none, none] [] (hp L b I J)) else (gd (0 ≤ (x1 : Int) ∧ (x1 : Int) < 120) (if (I 8 x1) ≤ (x2 : Int) then (ev 70 36 [none, none, none] [] (hp L b I J)) else (gd (-2147483648 ≤ (x1 * 24 : Int) ∧ (x1 * 24 : Int) ≤ 2147483647) (gd (-2147483648 ≤ ((x1 * 24) + x2 : Int) ∧ ((x1 * 24) + x2 : Int) ≤ 2147483647) (gd (0 ≤ ((x1 * 24) + x2 : Int) ∧ ((x1 * 24) + x2 : Int) < 2880) (some (vi (I 7 ((x1 * 24) + x2)), hp L b I J)))))))) := by
  refine (e70_5 x1 x2 y0).trans ?_
  simp only [e70_8, e70_9, e70_12, e70_13, e70_14, e70_17, e70_18, e70_19, e70_22, e70_23, e70_26, e70_27, e70_29, e70_30, e70_31, e70_32, e70_33, e70_37]
theorem s70_36 {L : Nat} {b : Bool} {I : AI} {J : AJ}   : ev 70 36 [none, none, none] [] (hp L b I J) = some (vi 0, hp L b I J) := by
  refine (e70_36 ).trans ?_
  simp only [e70_37]
/-! 71: VersionVault$Texts.fetch(ILVersionVault$Row;)V -/
theorem s71_0 {L : Nat} {b : Bool} {I : AI} {J : AJ} (x1 : Int) (x2 : Nat) (hx2 : isRow x2 = true) : ev 71 0 [some (vr 6), some (vi x1), some (vr x2), none, none] [] (hp L b I J) = (evc 37 [vr x2] (hp L b I J)).bind (fun q => ev 71 4 [some (vr 6), some (vi x1), some (vr x2), none, none] ([]) q.2) := by
  refine (e71_0 x1 x2).trans ?_
  simp only [e71_1, hx2]
theorem s71_4 {L : Nat} {b : Bool} {I : AI} {J : AJ} (x1 : Int) (x2 : Nat)  : ev 71 4 [some (vr 6), some (vi x1), some (vr x2), none, none] [] (hp L b I J) = (evc 64 [vr 6, vi x1] (hp L b I J)).bind (fun q => ev 71 9 [some (vr 6), some (vi x1), some (vr x2), none, none] (q.1 :: []) q.2) := by
  refine (e71_4 x1 x2).trans ?_
  simp only [e71_5, e71_6]
theorem s71_9 {L : Nat} {b : Bool} {I : AI} {J : AJ} (x1 : Int) (x2 : Nat) (y0 : Int)  : ev 71 9 [some (vr 6), some (vi x1), some (vr x2), none, none] [vi y0] (hp L b I J) = if (y0 : Int) = 0 then (some (vi 0, hp L b I J)) else (gd (-2147483648 ≤ (x1 * 24 : Int) ∧ (x1 * 24 : Int) ≤ 2147483647) (ev 71 20 [some (vr 6), some (vi x1), some (vr x2), some (vi (x1 * 24)), some (vi 0)] [] (hp L b I J))) := by
  refine (e71_9 x1 x2 y0).trans ?_
  simp only [e71_12, e71_13, e71_15, e71_16, e71_17, e71_18, e71_51]
theorem s71_20 {L : Nat} {b : Bool} {I : AI} {J : AJ} (x1 : Int) (x2 : Nat) (x3 : Int) (x4 : Int) (hx2 : isRow x2 = true) : ev 71 20 [some (vr 6), some (vi x1), some (vr x2), some (vi x3), some (vi x4)] [] (hp L b I J) = gd (0 ≤ (x1 : Int) ∧ (x1 : Int) < 120) (if (I 8 x1) ≤ (x4 : Int) then (some (vi 0, hp L b I J)) else (gd (-2147483648 ≤ (x3 + x4 : Int) ∧ (x3 + x4 : Int) ≤ 2147483647) (gd (0 ≤ (x3 + x4 : Int) ∧ (x3 + x4 : Int) < 2880) ((evc 38 [vr x2, vi (I 7 (x3 + x4))] (hp L b I J)).bind (fun q => ev 71 44 [some (vr 6), some (vi x1), some (vr x2), some (vi x3), some (vi x4)] (q.1 :: []) q.2))))) := by
  refine (e71_20 x1 x2 x3 x4).trans ?_
  simp only [e71_22, e71_23, e71_26, e71_27, e71_28, e71_31, e71_32, e71_33, e71_36, e71_37, e71_39, e71_40, e71_41, e71_51, hx2]
theorem s71_44 {L : Nat} {b : Bool} {I : AI} {J : AJ} (x1 : Int) (x2 : Nat) (x3 : Int) (x4 : Int) (y0 : Int)  : ev 71 44 [some (vr 6), some (vi x1), some (vr x2), some (vi x3), some (vi x4)] [vi y0] (hp L b I J) = gd (-2147483648 ≤ (x4 + 1 : Int) ∧ (x4 + 1 : Int) ≤ 2147483647) (ev 71 20 [some (vr 6), some (vi x1), some (vr x2), some (vi x3), some (vi (x4 + 1))] [] (hp L b I J)) := by
  refine (e71_44 x1 x2 x3 x4 y0).trans ?_
  simp only [e71_45, e71_48]
/-! 72: VersionVault$Texts.find(LVersionVault$Row;)I -/
theorem s72_0 {L : Nat} {b : Bool} {I : AI} {J : AJ} (x1 : Nat)  : ev 72 0 [some (vr 6), some (vr x1), none] [] (hp L b I J) = ev 72 2 [some (vr 6), some (vr x1), some (vi 0)] [] (hp L b I J) := by
  refine (e72_0 x1).trans ?_
  simp only [e72_1]
theorem s72_2 {L : Nat} {b : Bool} {I : AI} {J : AJ} (x1 : Nat) (x2 : Int)  : ev 72 2 [some (vr 6), some (vr x1), some (vi x2)] [] (hp L b I J) = if (I 6 9) ≤ (x2 : Int) then (some (vi ((-1)), hp L b I J)) else (gd (0 ≤ (x2 : Int) ∧ (x2 : Int) < 120) (if (I 9 x2 : Int) = 3 then (ev 72 31 [some (vr 6), some (vr x1), some (vi x2)] [] (hp L b I J)) else ((evc 73 [vr 6, vi x2, vr x1] (hp L b I J)).bind (fun q => ev 72 26 [some (vr 6), some (vr x1), some (vi x2)] (q.1 :: []) q.2)))) := by
  refine (e72_2 x1 x2).trans ?_
  simp only [e72_3, e72_4, e72_7, e72_10, e72_11, e72_14, e72_15, e72_16, e72_17, e72_20, e72_21, e72_22, e72_23, e72_37, e72_38]
theorem s72_26 {L : Nat} {b : Bool} {I : AI} {J : AJ} (x1 : Nat) (x2 : Int) (y0 : Int)  : ev 72 26 [some (vr 6), some (vr x1), some (vi x2)] [vi y0] (hp L b I J) = if (y0 : Int) = 0 then (ev 72 31 [some (vr 6), some (vr x1), some (vi x2)] [] (hp L b I J)) else (some (vi x2, hp L b I J)) := by
  refine (e72_26 x1 x2 y0).trans ?_
  simp only [e72_29, e72_30]
theorem s72_31 {L : Nat} {b : Bool} {I : AI} {J : AJ} (x1 : Nat) (x2 : Int)  : ev 72 31 [some (vr 6), some (vr x1), some (vi x2)] [] (hp L b I J) = gd (-2147483648 ≤ (x2 + 1 : Int) ∧ (x2 + 1 : Int) ≤ 2147483647) (ev 72 2 [some (vr 6), some (vr x1), some (vi (x2 + 1))] [] (hp L b I J)) := by
  refine (e72_31 x1 x2).trans ?_
  simp only [e72_34]
/-! 73: VersionVault$Texts.hasLines(ILVersionVault$Row;)Z -/
theorem s73_0 {L : Nat} {b : Bool} {I : AI} {J : AJ} (x1 : Int) (x2 : Nat) (hx2 : isRow x2 = true) : ev 73 0 [some (vr 6), some (vi x1), some (vr x2), none, none] [] (hp L b I J) = gd (0 ≤ (x1 : Int) ∧ (x1 : Int) < 120) (if (I 8 x1 : Int) = (I x2 1) then (gd (-2147483648 ≤ (x1 * 24 : Int) ∧ (x1 * 24 : Int) ≤ 2147483647) (ev 73 23 [some (vr 6), none, some (vr x2), some (vi (x1 * 24)), some (vi 0)] [] (hp L b I J))) else (gd ((0 : Int) = 0 ∨ (0 : Int) = 1) (some (vi 0, hp L b I J)))) := by
  refine (e73_0 x1 x2).trans ?_
  simp only [e73_1, e73_4, e73_5, e73_6, e73_7, e73_10, e73_13, e73_14, e73_15, e73_16, e73_18, e73_19, e73_20, e73_21, hx2]
theorem s73_23 {L : Nat} {b : Bool} {I : AI} {J : AJ} (x2 : Nat) (x3 : Int) (x4 : Int) (hx2 : isRow x2 = true) : ev 73 23 [some (vr 6), none, some (vr x2), some (vi x3), some (vi x4)] [] (hp L b I J) = if (I x2 1) ≤ (x4 : Int) then (gd ((1 : Int) = 0 ∨ (1 : Int) = 1) (some (vi 1, hp L b I J))) else (gd (-2147483648 ≤ (x3 + x4 : Int) ∧ (x3 + x4 : Int) ≤ 2147483647) (gd (0 ≤ (x3 + x4 : Int) ∧ (x3 + x4 : Int) < 2880) (gd (0 ≤ (x4 : Int) ∧ (x4 : Int) < 24) (if (I 7 (x3 + x4) : Int) = (I (x2 + 1) x4) then (gd (-2147483648 ≤ (x4 + 1 : Int) ∧ (x4 + 1 : Int) ≤ 2147483647) (ev 73 23 [some (vr 6), none, some (vr x2), some (vi x3), some (vi (x4 + 1))] [] (hp L b I J))) else (gd ((0 : Int) = 0 ∨ (0 : Int) = 1) (some (vi 0, hp L b I J))))))) := by
  refine (e73_23 x2 x3 x4).trans ?_
  simp only [e73_25, e73_26, e73_29, e73_32, e73_33, e73_36, e73_37, e73_39, e73_40, e73_41, e73_42, e73_45, e73_47, e73_48, e73_51, e73_52, e73_53, e73_56, e73_59, e73_60, hx2]
/-! 74: VersionVault$Texts.keep(LVersionVault$Row;)I -/
theorem s74_0 {L : Nat} {b : Bool} {I : AI} {J : AJ} (x1 : Nat)  : ev 74 0 [some (vr 6), some (vr x1), none] [] (hp L b I J) = (evc 72 [vr 6, vr x1] (hp L b I J)).bind (fun q => ev 74 5 [some (vr 6), some (vr x1), none] (q.1 :: []) q.2) := by
  refine (e74_0 x1).trans ?_
  simp only [e74_1, e74_2]
theorem s74_5 {L : Nat} {b : Bool} {I : AI} {J : AJ} (x1 : Nat) (y0 : Int)  : ev 74 5 [some (vr 6), some (vr x1), none] [vi y0] (hp L b I J) = if ¬ (y0 : Int) = ((-1)) then ((evc 68 [vr 6, vi y0] (hp L b I J)).bind (fun q => ev 74 22 [some (vr 6), none, some (vi y0)] (q.1 :: []) q.2)) else ((evc 75 [vr 6, vr x1] (hp L b I J)).bind (fun q => ev 74 16 [some (vr 6), some (vr x1), none] (q.1 :: []) q.2)) := by
  refine (e74_5 x1 y0).trans ?_
  simp only [e74_6, e74_7, e74_8, e74_11, e74_12, e74_13, e74_17, e74_18, e74_19]
theorem s74_16 {L : Nat} {b : Bool} {I : AI} {J : AJ} (x1 : Nat) (y0 : Int)  : ev 74 16 [some (vr 6), some (vr x1), none] [vi y0] (hp L b I J) = some (vi y0, hp L b I J) := by
  refine (e74_16 x1 y0).trans ?_
  rfl
theorem s74_22 {L : Nat} {b : Bool} {I : AI} {J : AJ} (x2 : Int) (y0 : Int)  : ev 74 22 [some (vr 6), none, some (vi x2)] [vi y0] (hp L b I J) = if (y0 : Int) = ((-1)) then (ev 74 40 [none, none, some (vi x2)] [] (hp L b I J)) else (gd (0 ≤ (x2 : Int) ∧ (x2 : Int) < 120) (gd (0 ≤ (x2 : Int) ∧ (x2 : Int) < 120) (ev 74 40 [none, none, some (vi x2)] [] (hp L b (upI (upI I 9 x2 0) 10 x2 ((-1))) J)))) := by
  refine (e74_22 x2 y0).trans ?_
  simp only [e74_23, e74_26, e74_27, e74_30, e74_31, e74_32, e74_33, e74_34, e74_37, e74_38, e74_39]
theorem s74_40 {L : Nat} {b : Bool} {I : AI} {J : AJ} (x2 : Int)  : ev 74 40 [none, none, some (vi x2)] [] (hp L b I J) = some (vi x2, hp L b I J) := by
  refine (e74_40 x2).trans ?_
  simp only [e74_41]
/-! 75: VersionVault$Texts.make(LVersionVault$Row;)I -/
theorem s75_0 {L : Nat} {b : Bool} {I : AI} {J : AJ} (x1 : Nat)  : ev 75 0 [some (vr 6), some (vr x1), none, none] [] (hp L b I J) = if (I 6 9 : Int) < 120 then (gd (-2147483648 ≤ ((I 6 9) + 1 : Int) ∧ ((I 6 9) + 1 : Int) ≤ 2147483647) (ev 75 29 [some (vr 6), some (vr x1), some (vi (I 6 9)), some (vi 0)] [] (hp L b (upI I 6 9 ((I 6 9) + 1)) J))) else (some (vi ((-2)), hp L b I J)) := by
  refine (e75_0 x1).trans ?_
  simp only [e75_1, e75_4, e75_6, e75_9, e75_11, e75_12, e75_13, e75_16, e75_17, e75_18, e75_19, e75_22, e75_23, e75_24, e75_27, e75_28]
theorem s75_29 {L : Nat} {b : Bool} {I : AI} {J : AJ} (x1 : Nat) (x2 : Int) (x3 : Int) (hx1 : isRow x1 = true) : ev 75 29 [some (vr 6), some (vr x1), some (vi x2), some (vi x3)] [] (hp L b I J) = if (I x1 1) ≤ (x3 : Int) then (gd (0 ≤ (x2 : Int) ∧ (x2 : Int) < 120) (gd (0 ≤ (x2 : Int) ∧ (x2 : Int) < 120) (gd (0 ≤ (x2 : Int) ∧ (x2 : Int) < 120) (some (vi x2, hp L b (upI (upI (upI I 8 x2 (I x1 1)) 9 x2 0) 10 x2 ((-1))) J))))) else (gd (-2147483648 ≤ (x2 * 24 : Int) ∧ (x2 * 24 : Int) ≤ 2147483647) (gd (-2147483648 ≤ ((x2 * 24) + x3 : Int) ∧ ((x2 * 24) + x3 : Int) ≤ 2147483647) (gd (0 ≤ (x3 : Int) ∧ (x3 : Int) < 24) (gd (0 ≤ ((x2 * 24) + x3 : Int) ∧ ((x2 * 24) + x3 : Int) < 2880) (gd (-2147483648 ≤ (x3 + 1 : Int) ∧ (x3 + 1 : Int) ≤ 2147483647) (ev 75 29 [some (vr 6), some (vr x1), some (vi x2), some (vi (x3 + 1))] [] (hp L b (upI I 7 ((x2 * 24) + x3) (I (x1 + 1) x3)) J))))))) := by
  refine (e75_29 x1 x2 x3).trans ?_
  simp only [e75_30, e75_31, e75_34, e75_37, e75_38, e75_41, e75_42, e75_44, e75_45, e75_46, e75_47, e75_48, e75_51, e75_52, e75_53, e75_54, e75_57, e75_60, e75_61, e75_64, e75_65, e75_66, e75_69, e75_70, e75_71, e75_74, e75_75, e75_76, e75_77, e75_78, e75_81, e75_82, e75_83, e75_84, e75_85, hx1]
/-! 76: VersionVault$Texts.compareTexts(IILVersionVault$Diff;)V -/
theorem s76_0 {L : Nat} {b : Bool} {I : AI} {J : AJ} (x1 : Int) (x2 : Int) (x3 : Nat)  : ev 76 0 [some (vr 6), some (vi x1), some (vi x2), some (vr x3)] [] (hp L b I J) = (evc 71 [vr 6, vi x1, vr 13] (hp L b I J)).bind (fun q => ev 76 9 [some (vr 6), none, some (vi x2), some (vr x3)] ([]) q.2) := by
  refine (e76_0 x1 x2 x3).trans ?_
  simp only [e76_1, e76_2, e76_3, e76_6]
theorem s76_9 {L : Nat} {b : Bool} {I : AI} {J : AJ} (x2 : Int) (x3 : Nat)  : ev 76 9 [some (vr 6), none, some (vi x2), some (vr x3)] [] (hp L b I J) = (evc 71 [vr 6, vi x2, vr 15] (hp L b I J)).bind (fun q => ev 76 18 [some (vr 6), none, none, some (vr x3)] ([]) q.2) := by
  refine (e76_9 x2 x3).trans ?_
  simp only [e76_10, e76_11, e76_12, e76_15]
theorem s76_18 {L : Nat} {b : Bool} {I : AI} {J : AJ} (x3 : Nat) (hx3 : isDiff x3 = true) : ev 76 18 [some (vr 6), none, none, some (vr x3)] [] (hp L b I J) = (evc 14 [vr x3, vr 13, vr 15] (hp L b I J)).bind (fun q => ev 76 30 [some (vr 6), none, none, some (vr x3)] ([]) q.2) := by
  refine (e76_18 x3).trans ?_
  simp only [e76_19, e76_20, e76_23, e76_24, e76_27, hx3]
theorem s76_30 {L : Nat} {b : Bool} {I : AI} {J : AJ} (x3 : Nat)  : ev 76 30 [some (vr 6), none, none, some (vr x3)] [] (hp L b I J) = some (vi 0, hp L b I J) := by
  refine (e76_30 x3).trans ?_
  rfl
/-! 77: VersionVault$Texts.commonLines(II)I -/
theorem s77_0 {L : Nat} {b : Bool} {I : AI} {J : AJ} (x1 : Int) (x2 : Int)  : ev 77 0 [some (vr 6), some (vi x1), some (vi x2), none, none] [] (hp L b I J) = (evc 64 [vr 6, vi x1] (hp L b I J)).bind (fun q => ev 77 5 [some (vr 6), some (vi x1), some (vi x2), none, none] (q.1 :: []) q.2) := by
  refine (e77_0 x1 x2).trans ?_
  simp only [e77_1, e77_2]
theorem s77_5 {L : Nat} {b : Bool} {I : AI} {J : AJ} (x1 : Int) (x2 : Int) (y0 : Int)  : ev 77 5 [some (vr 6), some (vi x1), some (vi x2), none, none] [vi y0] (hp L b I J) = if (y0 : Int) = 0 then (ev 77 16 [none, none, none, none, none] [] (hp L b I J)) else ((evc 64 [vr 6, vi x2] (hp L b I J)).bind (fun q => ev 77 13 [some (vr 6), some (vi x1), some (vi x2), none, none] (q.1 :: []) q.2)) := by
  refine (e77_5 x1 x2 y0).trans ?_
  simp only [e77_8, e77_9, e77_10]
theorem s77_13 {L : Nat} {b : Bool} {I : AI} {J : AJ} (x1 : Int) (x2 : Int) (y0 : Int)  : ev 77 13 [some (vr 6), some (vi x1), some (vi x2), none, none] [vi y0] (hp L b I J) = if ¬ (y0 : Int) = 0 then (if ¬ (x1 : Int) = x2 then (gd (-2147483648 ≤ ((if x1 < x2 then x2 else x1) - 1 : Int) ∧ ((if x1 < x2 then x2 else x1) - 1 : Int) ≤ 2147483647) (gd (-2147483648 ≤ ((if x1 < x2 then x2 else x1) * ((if x1 < x2 then x2 else x1) - 1) : Int) ∧ ((if x1 < x2 then x2 else x1) * ((if x1 < x2 then x2 else x1) - 1) : Int) ≤ 2147483647) (gd (0 ≤ ((if x1 < x2 then x2 else x1) * ((if x1 < x2 then x2 else x1) - 1) : Int) ∧ 0 < (2 : Int)) (gd (-2147483648 ≤ ((((if x1 < x2 then x2 else x1) * ((if x1 < x2 then x2 else x1) - 1)) / 2) + (if x2 < x1 then x2 else x1) : Int) ∧ ((((if x1 < x2 then x2 else x1) * ((if x1 < x2 then x2 else x1) - 1)) / 2) + (if x2 < x1 then x2 else x1) : Int) ≤ 2147483647) (if ¬ ((((cl b : Nat) : Int) : Int) : Int) = 0 then (ev 77 68 [some (vr 6), some (vi x1), some (vi x2), none, some (vi ((((if x1 < x2 then x2 else x1) * ((if x1 < x2 then x2 else x1) - 1)) / 2) + (if x2 < x1 then x2 else x1)))] [] (hp L b I J)) else (ev 77 63 [some (vr 6), some (vi x1), some (vi x2), none, some (vi ((((if x1 < x2 then x2 else x1) * ((if x1 < x2 then x2 else x1) - 1)) / 2) + (if x2 < x1 then x2 else x1)))] [vi 7140, vr 6] (hp L b I J))))))) else (gd (0 ≤ (x1 : Int) ∧ (x1 : Int) < 120) (some (vi (I 8 x1), hp L b I J)))) else (ev 77 16 [none, none, none, none, none] [] (hp L b I J)) := by
  refine (e77_13 x1 x2 y0).trans ?_
  simp only [e77_18, e77_19, e77_20, e77_23, e77_24, e77_27, e77_28, e77_29, e77_30, e77_31, e77_32, e77_35, e77_36, e77_37, e77_38, e77_39, e77_40, e77_41, e77_42, e77_43, e77_44, e77_45, e77_48, e77_49, e77_51, e77_52, e77_55, e77_56, e77_59, e77_60]
theorem s77_16 {L : Nat} {b : Bool} {I : AI} {J : AJ}   : ev 77 16 [none, none, none, none, none] [] (hp L b I J) = some (vi 0, hp L b I J) := by
  refine (e77_16 ).trans ?_
  simp only [e77_17]
-- s77_63 is e77_63
theorem s77_68 {L : Nat} {b : Bool} {I : AI} {J : AJ} (x1 : Int) (x2 : Int) (x4 : Int)  : ev 77 68 [some (vr 6), some (vi x1), some (vi x2), none, some (vi x4)] [] (hp L b I J) = gd (0 ≤ (x4 : Int) ∧ (x4 : Int) < ((cl b : Nat) : Int)) (if ¬ (I (cm b) x4 : Int) = 0 then (ev 77 121 [some (vr 6), none, none, none, some (vi x4)] [] (hp L b I J)) else ((evc 71 [vr 6, vi x1, vr 13] (hp L b I J)).bind (fun q => ev 77 87 [some (vr 6), none, some (vi x2), none, some (vi x4)] ([]) q.2))) := by
  refine (e77_68 x1 x2 x4).trans ?_
  simp only [e77_69, e77_72, e77_74, e77_75, e77_78, e77_79, e77_80, e77_81, e77_84]
theorem s77_87 {L : Nat} {b : Bool} {I : AI} {J : AJ} (x2 : Int) (x4 : Int)  : ev 77 87 [some (vr 6), none, some (vi x2), none, some (vi x4)] [] (hp L b I J) = (evc 71 [vr 6, vi x2, vr 15] (hp L b I J)).bind (fun q => ev 77 96 [some (vr 6), none, none, none, some (vi x4)] ([]) q.2) := by
  refine (e77_87 x2 x4).trans ?_
  simp only [e77_88, e77_89, e77_90, e77_93]
theorem s77_96 {L : Nat} {b : Bool} {I : AI} {J : AJ} (x4 : Int)  : ev 77 96 [some (vr 6), none, none, none, some (vi x4)] [] (hp L b I J) = (evc 13 [vr 17, vr 13, vr 15] (hp L b I J)).bind (fun q => ev 77 117 [some (vr 6), none, none, none, some (vi x4)] (q.1 :: [vi x4, vr (cm b)]) q.2) := by
  refine (e77_96 x4).trans ?_
  simp only [e77_97, e77_100, e77_102, e77_103, e77_106, e77_107, e77_110, e77_111, e77_114]
theorem s77_117 {L : Nat} {b : Bool} {I : AI} {J : AJ} (x4 : Int) (y0 : Int) (y1 : Int)  : ev 77 117 [some (vr 6), none, none, none, some (vi x4)] [vi y0, vi y1, vr (cm b)] (hp L b I J) = gd (-2147483648 ≤ (y0 + 1 : Int) ∧ (y0 + 1 : Int) ≤ 2147483647) (gd (-128 ≤ (y0 + 1 : Int) ∧ (y0 + 1 : Int) ≤ 127) (gd ((-128 ≤ (y0 + 1 : Int) ∧ (y0 + 1 : Int) ≤ 127) ∧ 0 ≤ (y1 : Int) ∧ (y1 : Int) < ((cl b : Nat) : Int)) (ev 77 121 [some (vr 6), none, none, none, some (vi x4)] [] (hp L b (upI I (cm b) y1 (y0 + 1)) J)))) := by
  refine (e77_117 x4 y0 y1).trans ?_
  simp only [e77_118, e77_119, e77_120]
theorem s77_121 {L : Nat} {b : Bool} {I : AI} {J : AJ} (x4 : Int)  : ev 77 121 [some (vr 6), none, none, none, some (vi x4)] [] (hp L b I J) = gd (0 ≤ (x4 : Int) ∧ (x4 : Int) < ((cl b : Nat) : Int)) (gd (-2147483648 ≤ ((I (cm b) x4) - 1 : Int) ∧ ((I (cm b) x4) - 1 : Int) ≤ 2147483647) (some (vi ((I (cm b) x4) - 1), hp L b I J))) := by
  refine (e77_121 x4).trans ?_
  simp only [e77_122, e77_125, e77_127, e77_128, e77_129, e77_130]
/-! 78: VersionVault$Texts.packAll()V -/
theorem s78_0 {L : Nat} {b : Bool} {I : AI} {J : AJ}   : ev 78 0 [some (vr 6), none] [] (hp L b I J) = ev 78 2 [some (vr 6), some (vi 0)] [] (hp L b I J) := by
  refine (e78_0 ).trans ?_
  simp only [e78_1]
theorem s78_2 {L : Nat} {b : Bool} {I : AI} {J : AJ} (x1 : Int)  : ev 78 2 [some (vr 6), some (vi x1)] [] (hp L b I J) = if (I 6 9) ≤ (x1 : Int) then (some (vi 0, hp L b I J)) else ((evc 66 [vr 6, vi x1] (hp L b I J)).bind (fun q => ev 78 15 [some (vr 6), some (vi x1)] (q.1 :: []) q.2)) := by
  refine (e78_2 x1).trans ?_
  simp only [e78_3, e78_4, e78_7, e78_10, e78_11, e78_12, e78_29]
theorem s78_15 {L : Nat} {b : Bool} {I : AI} {J : AJ} (x1 : Int) (y0 : Int)  : ev 78 15 [some (vr 6), some (vi x1)] [vi y0] (hp L b I J) = if (y0 : Int) = 0 then (ev 78 23 [some (vr 6), some (vi x1)] [] (hp L b I J)) else ((evc 79 [vr 6, vi x1] (hp L b I J)).bind (fun q => ev 78 23 [some (vr 6), some (vi x1)] ([]) q.2)) := by
  refine (e78_15 x1 y0).trans ?_
  simp only [e78_18, e78_19, e78_20]
theorem s78_23 {L : Nat} {b : Bool} {I : AI} {J : AJ} (x1 : Int)  : ev 78 23 [some (vr 6), some (vi x1)] [] (hp L b I J) = gd (-2147483648 ≤ (x1 + 1 : Int) ∧ (x1 + 1 : Int) ≤ 2147483647) (ev 78 2 [some (vr 6), some (vi (x1 + 1))] [] (hp L b I J)) := by
  refine (e78_23 x1).trans ?_
  simp only [e78_26]
/-! 79: VersionVault$Texts.packAnew(I)V -/
theorem s79_0 {L : Nat} {b : Bool} {I : AI} {J : AJ} (x1 : Int)  : ev 79 0 [some (vr 6), some (vi x1), none, none, none, none, none] [] (hp L b I J) = gd (0 ≤ (x1 : Int) ∧ (x1 : Int) < 120) (gd (-2147483648 ≤ (1 + (I 8 x1) : Int) ∧ (1 + (I 8 x1) : Int) ≤ 2147483647) (ev 79 14 [some (vr 6), some (vi x1), some (vi (1 + (I 8 x1))), some (vi ((-1))), some (vi 0), none, none] [] (hp L b I J))) := by
  refine (e79_0 x1).trans ?_
  simp only [e79_1, e79_2, e79_5, e79_6, e79_7, e79_8, e79_9, e79_10, e79_11, e79_12]
theorem s79_14 {L : Nat} {b : Bool} {I : AI} {J : AJ} (x1 : Int) (x2 : Int) (x3 : Int) (x4 : Int)  : ev 79 14 [some (vr 6), some (vi x1), some (vi x2), some (vi x3), some (vi x4), none, none] [] (hp L b I J) = if x1 ≤ (x4 : Int) then (if ¬ (x3 : Int) = ((-1)) then (ev 79 127 [some (vr 6), some (vi x1), some (vi x2), some (vi x3), none, none, none] [vi 1, vi x1, vr 9] (hp L b I J)) else (ev 79 127 [some (vr 6), some (vi x1), some (vi x2), some (vi x3), none, none, none] [vi 0, vi x1, vr 9] (hp L b I J))) else (gd (0 ≤ (x4 : Int) ∧ (x4 : Int) < 120) (gd (0 ≤ (x1 : Int) ∧ (x1 : Int) < 120) (gd (-2147483648 ≤ ((I 8 x4) - (I 8 x1) : Int) ∧ ((I 8 x4) - (I 8 x1) : Int) ≤ 2147483647) (gd (-2147483647 ≤ ((I 8 x4) - (I 8 x1) : Int)) (gd (-2147483648 ≤ (2 + (if 0 ≤ (I 8 x4) - (I 8 x1) then (I 8 x4) - (I 8 x1) else -((I 8 x4) - (I 8 x1))) : Int) ∧ (2 + (if 0 ≤ (I 8 x4) - (I 8 x1) then (I 8 x4) - (I 8 x1) else -((I 8 x4) - (I 8 x1))) : Int) ≤ 2147483647) (if x2 ≤ (2 + (if 0 ≤ (I 8 x4) - (I 8 x1) then (I 8 x4) - (I 8 x1) else -((I 8 x4) - (I 8 x1))) : Int) then (ev 79 106 [some (vr 6), some (vi x1), some (vi x2), some (vi x3), some (vi x4), none, none] [] (hp L b I J)) else ((evc 66 [vr 6, vi x4] (hp L b I J)).bind (fun q => ev 79 53 [some (vr 6), some (vi x1), some (vi x2), some (vi x3), some (vi x4), none, none] (q.1 :: []) q.2)))))))) := by
  refine (e79_14 x1 x2 x3 x4).trans ?_
  simp only [e79_16, e79_17, e79_20, e79_21, e79_22, e79_25, e79_27, e79_28, e79_29, e79_32, e79_33, e79_34, e79_35, e79_38, e79_39, e79_41, e79_43, e79_44, e79_47, e79_48, e79_50, e79_112, e79_113, e79_116, e79_117, e79_118, e79_119, e79_122, e79_123, e79_126]
theorem s79_53 {L : Nat} {b : Bool} {I : AI} {J : AJ} (x1 : Int) (x2 : Int) (x3 : Int) (x4 : Int) (y0 : Int)  : ev 79 53 [some (vr 6), some (vi x1), some (vi x2), some (vi x3), some (vi x4), none, none] [vi y0] (hp L b I J) = if (y0 : Int) = 0 then (ev 79 106 [some (vr 6), some (vi x1), some (vi x2), some (vi x3), some (vi x4), none, none] [] (hp L b I J)) else ((evc 69 [vr 6, vi x4] (hp L b I J)).bind (fun q => ev 79 62 [some (vr 6), some (vi x1), some (vi x2), some (vi x3), some (vi x4), none, none] (q.1 :: []) q.2)) := by
  refine (e79_53 x1 x2 x3 x4 y0).trans ?_
  simp only [e79_56, e79_57, e79_59]
theorem s79_62 {L : Nat} {b : Bool} {I : AI} {J : AJ} (x1 : Int) (x2 : Int) (x3 : Int) (x4 : Int) (y0 : Int)  : ev 79 62 [some (vr 6), some (vi x1), some (vi x2), some (vi x3), some (vi x4), none, none] [vi y0] (hp L b I J) = if 3 < (y0 : Int) then (ev 79 106 [some (vr 6), some (vi x1), some (vi x2), some (vi x3), some (vi x4), none, none] [] (hp L b I J)) else (gd (0 ≤ (x4 : Int) ∧ (x4 : Int) < 120) (gd (-2147483648 ≤ (2 + (I 8 x4) : Int) ∧ (2 + (I 8 x4) : Int) ≤ 2147483647) (gd (0 ≤ (x1 : Int) ∧ (x1 : Int) < 120) (gd (-2147483648 ≤ ((2 + (I 8 x4)) + (I 8 x1) : Int) ∧ ((2 + (I 8 x4)) + (I 8 x1) : Int) ≤ 2147483647) ((evc 77 [vr 6, vi x4, vi x1] (hp L b I J)).bind (fun q => ev 79 90 [some (vr 6), some (vi x1), some (vi x2), some (vi x3), some (vi x4), none, none] (q.1 :: [vi 2, vi ((2 + (I 8 x4)) + (I 8 x1))]) q.2)))))) := by
  refine (e79_62 x1 x2 x3 x4 y0).trans ?_
  simp only [e79_63, e79_66, e79_67, e79_68, e79_71, e79_73, e79_74, e79_75, e79_76, e79_79, e79_80, e79_81, e79_82, e79_83, e79_84, e79_86, e79_87]
theorem s79_90 {L : Nat} {b : Bool} {I : AI} {J : AJ} (x1 : Int) (x2 : Int) (x3 : Int) (x4 : Int) (y0 : Int) (y1 : Int) (y2 : Int)  : ev 79 90 [some (vr 6), some (vi x1), some (vi x2), some (vi x3), some (vi x4), none, none] [vi y0, vi y1, vi y2] (hp L b I J) = gd (-2147483648 ≤ (y1 * y0 : Int) ∧ (y1 * y0 : Int) ≤ 2147483647) (gd (-2147483648 ≤ (y2 - (y1 * y0) : Int) ∧ (y2 - (y1 * y0) : Int) ≤ 2147483647) (if x2 ≤ (y2 - (y1 * y0) : Int) then (ev 79 106 [some (vr 6), some (vi x1), some (vi x2), some (vi x3), some (vi x4), none, none] [] (hp L b I J)) else (ev 79 106 [some (vr 6), some (vi x1), some (vi (y2 - (y1 * y0))), some (vi x4), some (vi x4), none, none] [] (hp L b I J)))) := by
  refine (e79_90 x1 x2 x3 x4 y0 y1 y2).trans ?_
  simp only [e79_91, e79_92, e79_94, e79_96, e79_97, e79_100, e79_102, e79_103, e79_105]
theorem s79_106 {L : Nat} {b : Bool} {I : AI} {J : AJ} (x1 : Int) (x2 : Int) (x3 : Int) (x4 : Int)  : ev 79 106 [some (vr 6), some (vi x1), some (vi x2), some (vi x3), some (vi x4), none, none] [] (hp L b I J) = gd (-2147483648 ≤ (x4 + 1 : Int) ∧ (x4 + 1 : Int) ≤ 2147483647) (ev 79 14 [some (vr 6), some (vi x1), some (vi x2), some (vi x3), some (vi (x4 + 1)), none, none] [] (hp L b I J)) := by
  refine (e79_106 x1 x2 x3 x4).trans ?_
  simp only [e79_109]
theorem s79_127 {L : Nat} {b : Bool} {I : AI} {J : AJ} (x1 : Int) (x2 : Int) (x3 : Int) (y0 : Int) (y1 : Int)  : ev 79 127 [some (vr 6), some (vi x1), some (vi x2), some (vi x3), none, none, none] [vi y0, vi y1, vr 9] (hp L b I J) = gd (0 ≤ (y1 : Int) ∧ (y1 : Int) < 120) (gd (0 ≤ (x1 : Int) ∧ (x1 : Int) < 120) (gd (0 ≤ (x1 : Int) ∧ (x1 : Int) < 120) (some (vi 0, hp L b (upI (upI (upI I 9 y1 y0) 10 x1 x3) 11 x1 x2) J)))) := by
  refine (e79_127 x1 x2 x3 y0 y1).trans ?_
  simp only [e79_128, e79_129, e79_132, e79_133, e79_134, e79_135, e79_136, e79_139, e79_140, e79_141, e79_142]
/-! 80: VersionVault$Texts.allUnits()I -/
theorem s80_0 {L : Nat} {b : Bool} {I : AI} {J : AJ}   : ev 80 0 [some (vr 6), none, none] [] (hp L b I J) = ev 80 4 [some (vr 6), some (vi 0), some (vi 0)] [] (hp L b I J) := by
  refine (e80_0 ).trans ?_
  simp only [e80_1, e80_2, e80_3]
theorem s80_4 {L : Nat} {b : Bool} {I : AI} {J : AJ} (x1 : Int) (x2 : Int)  : ev 80 4 [some (vr 6), some (vi x1), some (vi x2)] [] (hp L b I J) = if (I 6 9) ≤ (x2 : Int) then (some (vi x1, hp L b I J)) else (gd (0 ≤ (x2 : Int) ∧ (x2 : Int) < 120) (if ¬ (I 9 x2 : Int) = 0 then (gd (0 ≤ (x2 : Int) ∧ (x2 : Int) < 120) (if ¬ (I 9 x2 : Int) = 1 then (ev 80 67 [some (vr 6), some (vi x1), some (vi x2)] [] (hp L b I J)) else ((evc 68 [vr 6, vi x2] (hp L b I J)).bind (fun q => ev 80 51 [some (vr 6), none, some (vi x2)] (q.1 :: [vi x1]) q.2)))) else (gd (0 ≤ (x2 : Int) ∧ (x2 : Int) < 120) (gd (-2147483648 ≤ (1 + (I 8 x2) : Int) ∧ (1 + (I 8 x2) : Int) ≤ 2147483647) (gd (-2147483648 ≤ (x1 + (1 + (I 8 x2)) : Int) ∧ (x1 + (1 + (I 8 x2)) : Int) ≤ 2147483647) (ev 80 67 [some (vr 6), some (vi (x1 + (1 + (I 8 x2)))), some (vi x2)] [] (hp L b I J))))))) := by
  refine (e80_4 x1 x2).trans ?_
  simp only [e80_5, e80_6, e80_9, e80_12, e80_13, e80_16, e80_17, e80_18, e80_21, e80_22, e80_23, e80_24, e80_27, e80_28, e80_29, e80_30, e80_31, e80_32, e80_35, e80_36, e80_39, e80_40, e80_41, e80_42, e80_45, e80_46, e80_47, e80_48, e80_73, e80_74]
theorem s80_51 {L : Nat} {b : Bool} {I : AI} {J : AJ} (x2 : Int) (y0 : Int) (y1 : Int)  : ev 80 51 [some (vr 6), none, some (vi x2)] [vi y0, vi y1] (hp L b I J) = if ¬ (y0 : Int) = ((-1)) then (ev 80 65 [some (vr 6), none, some (vi x2)] [vi 2, vi y1] (hp L b I J)) else (gd (0 ≤ (x2 : Int) ∧ (x2 : Int) < 120) (ev 80 65 [some (vr 6), none, some (vi x2)] [vi (I 11 x2), vi y1] (hp L b I J))) := by
  refine (e80_51 x2 y0 y1).trans ?_
  simp only [e80_52, e80_55, e80_56, e80_59, e80_60, e80_61, e80_64]
theorem s80_65 {L : Nat} {b : Bool} {I : AI} {J : AJ} (x2 : Int) (y0 : Int) (y1 : Int)  : ev 80 65 [some (vr 6), none, some (vi x2)] [vi y0, vi y1] (hp L b I J) = gd (-2147483648 ≤ (y1 + y0 : Int) ∧ (y1 + y0 : Int) ≤ 2147483647) (ev 80 67 [some (vr 6), some (vi (y1 + y0)), some (vi x2)] [] (hp L b I J)) := by
  refine (e80_65 x2 y0 y1).trans ?_
  simp only [e80_66]
theorem s80_67 {L : Nat} {b : Bool} {I : AI} {J : AJ} (x1 : Int) (x2 : Int)  : ev 80 67 [some (vr 6), some (vi x1), some (vi x2)] [] (hp L b I J) = gd (-2147483648 ≤ (x2 + 1 : Int) ∧ (x2 + 1 : Int) ≤ 2147483647) (ev 80 4 [some (vr 6), some (vi x1), some (vi (x2 + 1))] [] (hp L b I J)) := by
  refine (e80_67 x1 x2).trans ?_
  simp only [e80_70]
/-! 81: VersionVault$Texts.inCondition(I)I -/
theorem s81_0 {L : Nat} {b : Bool} {I : AI} {J : AJ} (x1 : Int)  : ev 81 0 [some (vr 6), some (vi x1), none, none] [] (hp L b I J) = ev 81 4 [some (vr 6), some (vi x1), some (vi 0), some (vi 0)] [] (hp L b I J) := by
  refine (e81_0 x1).trans ?_
  simp only [e81_1, e81_2, e81_3]
theorem s81_4 {L : Nat} {b : Bool} {I : AI} {J : AJ} (x1 : Int) (x2 : Int) (x3 : Int)  : ev 81 4 [some (vr 6), some (vi x1), some (vi x2), some (vi x3)] [] (hp L b I J) = if (I 6 9) ≤ (x3 : Int) then (some (vi x2, hp L b I J)) else (gd (0 ≤ (x3 : Int) ∧ (x3 : Int) < 120) (if ¬ (I 9 x3 : Int) = x1 then (ev 81 25 [some (vr 6), some (vi x1), some (vi x2), some (vi x3)] [] (hp L b I J)) else (gd (-2147483648 ≤ (x2 + 1 : Int) ∧ (x2 + 1 : Int) ≤ 2147483647) (ev 81 25 [some (vr 6), some (vi x1), some (vi (x2 + 1)), some (vi x3)] [] (hp L b I J))))) := by
  refine (e81_4 x1 x2 x3).trans ?_
  simp only [e81_5, e81_6, e81_9, e81_12, e81_13, e81_16, e81_17, e81_18, e81_19, e81_22, e81_31, e81_32]
theorem s81_25 {L : Nat} {b : Bool} {I : AI} {J : AJ} (x1 : Int) (x2 : Int) (x3 : Int)  : ev 81 25 [some (vr 6), some (vi x1), some (vi x2), some (vi x3)] [] (hp L b I J) = gd (-2147483648 ≤ (x3 + 1 : Int) ∧ (x3 + 1 : Int) ≤ 2147483647) (ev 81 4 [some (vr 6), some (vi x1), some (vi x2), some (vi (x3 + 1))] [] (hp L b I J)) := by
  refine (e81_25 x1 x2 x3).trans ?_
  simp only [e81_28]
/-! 83: VersionVault$Tracer.bringer(III)I -/
theorem s83_0 {L : Nat} {b : Bool} {I : AI} {J : AJ} (x1 : Int) (x2 : Int) (x3 : Int)  : ev 83 0 [some (vr 104), some (vi x1), some (vi x2), some (vi x3), none] [] (hp L b I J) = gd (0 ≤ (x1 : Int) ∧ (x1 : Int) < 80) ((evc 42 [vr 20, vi (I 24 x1)] (hp L b I J)).bind (fun q => ev 83 16 [some (vr 104), some (vi x1), some (vi x2), some (vi x3), none] (q.1 :: []) q.2)) := by
  refine (e83_0 x1 x2 x3).trans ?_
  simp only [e83_1, e83_4, e83_5, e83_8, e83_11, e83_12, e83_13]
theorem s83_16 {L : Nat} {b : Bool} {I : AI} {J : AJ} (x1 : Int) (x2 : Int) (x3 : Int) (y0 : Int)  : ev 83 16 [some (vr 104), some (vi x1), some (vi x2), some (vi x3), none] [vi y0] (hp L b I J) = if ¬ (y0 : Int) = 0 then (gd (0 ≤ (x1 : Int) ∧ (x1 : Int) < 80) ((evc 43 [vr 20, vi (I 24 x1), vi x2] (hp L b I J)).bind (fun q => ev 83 39 [some (vr 104), some (vi x1), some (vi x2), some (vi x3), none] (q.1 :: []) q.2))) else (some (vi ((-2)), hp L b I J)) := by
  refine (e83_16 x1 x2 x3 y0).trans ?_
  simp only [e83_19, e83_21, e83_22, e83_23, e83_26, e83_27, e83_30, e83_33, e83_34, e83_35, e83_36]
theorem s83_39 {L : Nat} {b : Bool} {I : AI} {J : AJ} (x1 : Int) (x2 : Int) (x3 : Int) (y0 : Int)  : ev 83 39 [some (vr 104), some (vi x1), some (vi x2), some (vi x3), none] [vi y0] (hp L b I J) = if ¬ (y0 : Int) = ((-1)) then ((evc 66 [vr 6, vi y0] (hp L b I J)).bind (fun q => ev 83 58 [some (vr 104), some (vi x1), some (vi x2), some (vi x3), some (vi y0)] (q.1 :: []) q.2)) else (some (vi ((-1)), hp L b I J)) := by
  refine (e83_39 x1 x2 x3 y0).trans ?_
  simp only [e83_41, e83_43, e83_44, e83_47, e83_48, e83_49, e83_50, e83_53, e83_55]
theorem s83_58 {L : Nat} {b : Bool} {I : AI} {J : AJ} (x1 : Int) (x2 : Int) (x3 : Int) (x4 : Int) (y0 : Int)  : ev 83 58 [some (vr 104), some (vi x1), some (vi x2), some (vi x3), some (vi x4)] [vi y0] (hp L b I J) = if ¬ (y0 : Int) = 0 then (if (x3 : Int) < 0 then (ev 83 94 [none, none, none, none, none] [] (hp L b I J)) else (gd (0 ≤ (x4 : Int) ∧ (x4 : Int) < 120) (if (I 8 x4) ≤ (x3 : Int) then (ev 83 94 [none, none, none, none, none] [] (hp L b I J)) else ((evc 84 [vr 104, vi x1, vi x2, vi x4, vi x3] (hp L b I J)).bind (fun q => ev 83 91 [none, none, none, none, none] (q.1 :: []) q.2))))) else (some (vi ((-2)), hp L b I J)) := by
  refine (e83_58 x1 x2 x3 x4 y0).trans ?_
  simp only [e83_61, e83_63, e83_64, e83_65, e83_68, e83_69, e83_70, e83_73, e83_76, e83_78, e83_79, e83_82, e83_83, e83_84, e83_85, e83_87, e83_88]
theorem s83_91 {L : Nat} {b : Bool} {I : AI} {J : AJ} (y0 : Int)  : ev 83 91 [none, none, none, none, none] [vi y0] (hp L b I J) = some (vi y0, hp L b I J) := by
  refine (e83_91 y0).trans ?_
  simp only [e83_95]
theorem s83_94 {L : Nat} {b : Bool} {I : AI} {J : AJ}   : ev 83 94 [none, none, none, none, none] [] (hp L b I J) = some (vi ((-1)), hp L b I J) := by
  refine (e83_94 ).trans ?_
  simp only [e83_95]
/-! 84: VersionVault$Tracer.followBack(IIII)I -/
theorem s84_0 {L : Nat} {b : Bool} {I : AI} {J : AJ} (x1 : Int) (x2 : Int) (x3 : Int) (x4 : Int)  : ev 84 0 [some (vr 104), some (vi x1), some (vi x2), some (vi x3), some (vi x4), none, none, none, none, none, none] [] (hp L b I J) = ev 84 13 [some (vr 104), none, some (vi x2), none, none, some (vi x1), some (vi x3), some (vi x4), some (vi 0), none, none] [] (hp L b I J) := by
  refine (e84_0 x1 x2 x3 x4).trans ?_
  simp only [e84_1, e84_3, e84_4, e84_6, e84_8, e84_10, e84_11]
theorem s84_13 {L : Nat} {b : Bool} {I : AI} {J : AJ} (x2 : Int) (x5 : Int) (x6 : Int) (x7 : Int) (x8 : Int)  : ev 84 13 [some (vr 104), none, some (vi x2), none, none, some (vi x5), some (vi x6), some (vi x7), some (vi x8), none, none] [] (hp L b I J) = if 80 ≤ (x8 : Int) then (some (vi x5, hp L b I J)) else (gd (0 ≤ (x5 : Int) ∧ (x5 : Int) < 80) ((evc 54 [vr 23, vi (I 25 x5)] (hp L b I J)).bind (fun q => ev 84 41 [some (vr 104), none, some (vi x2), none, none, some (vi x5), some (vi x6), some (vi x7), some (vi x8), some (vi (I 25 x5)), none] (q.1 :: []) q.2))) := by
  refine (e84_13 x2 x5 x6 x7 x8).trans ?_
  simp only [e84_15, e84_17, e84_20, e84_21, e84_24, e84_27, e84_29, e84_30, e84_32, e84_33, e84_36, e84_38, e84_170, e84_172]
theorem s84_41 {L : Nat} {b : Bool} {I : AI} {J : AJ} (x2 : Int) (x5 : Int) (x6 : Int) (x7 : Int) (x8 : Int) (x9 : Int) (y0 : Int)  : ev 84 41 [some (vr 104), none, some (vi x2), none, none, some (vi x5), some (vi x6), some (vi x7), some (vi x8), some (vi x9), none] [vi y0] (hp L b I J) = if ¬ (y0 : Int) = 0 then (gd (0 ≤ (x9 : Int) ∧ (x9 : Int) < 80) ((evc 42 [vr 20, vi (I 24 x9)] (hp L b I J)).bind (fun q => ev 84 64 [some (vr 104), none, some (vi x2), none, none, some (vi x5), some (vi x6), some (vi x7), some (vi x8), some (vi x9), none] (q.1 :: []) q.2))) else (some (vi x5, hp L b I J)) := by
  refine (e84_41 x2 x5 x6 x7 x8 x9 y0).trans ?_
  simp only [e84_44, e84_46, e84_47, e84_48, e84_51, e84_52, e84_55, e84_58, e84_60, e84_61]
theorem s84_64 {L : Nat} {b : Bool} {I : AI} {J : AJ} (x2 : Int) (x5 : Int) (x6 : Int) (x7 : Int) (x8 : Int) (x9 : Int) (y0 : Int)  : ev 84 64 [some (vr 104), none, some (vi x2), none, none, some (vi x5), some (vi x6), some (vi x7), some (vi x8), some (vi x9), none] [vi y0] (hp L b I J) = if ¬ (y0 : Int) = 0 then (gd (0 ≤ (x9 : Int) ∧ (x9 : Int) < 80) ((evc 43 [vr 20, vi (I 24 x9), vi x2] (hp L b I J)).bind (fun q => ev 84 88 [some (vr 104), none, some (vi x2), none, none, some (vi x5), some (vi x6), some (vi x7), some (vi x8), some (vi x9), none] (q.1 :: []) q.2))) else (some (vi ((-2)), hp L b I J)) := by
  refine (e84_64 x2 x5 x6 x7 x8 x9 y0).trans ?_
  simp only [e84_67, e84_69, e84_70, e84_71, e84_74, e84_75, e84_78, e84_81, e84_83, e84_84, e84_85]
theorem s84_88 {L : Nat} {b : Bool} {I : AI} {J : AJ} (x2 : Int) (x5 : Int) (x6 : Int) (x7 : Int) (x8 : Int) (x9 : Int) (y0 : Int)  : ev 84 88 [some (vr 104), none, some (vi x2), none, none, some (vi x5), some (vi x6), some (vi x7), some (vi x8), some (vi x9), none] [vi y0] (hp L b I J) = if ¬ (y0 : Int) = ((-1)) then ((evc 66 [vr 6, vi y0] (hp L b I J)).bind (fun q => ev 84 108 [some (vr 104), none, some (vi x2), none, none, some (vi x5), some (vi x6), some (vi x7), some (vi x8), some (vi x9), some (vi y0)] (q.1 :: []) q.2)) else (some (vi x5, hp L b I J)) := by
  refine (e84_88 x2 x5 x6 x7 x8 x9 y0).trans ?_
  simp only [e84_90, e84_92, e84_93, e84_96, e84_98, e84_99, e84_100, e84_103, e84_105]
theorem s84_108 {L : Nat} {b : Bool} {I : AI} {J : AJ} (x2 : Int) (x5 : Int) (x6 : Int) (x7 : Int) (x8 : Int) (x9 : Int) (x10 : Int) (y0 : Int)  : ev 84 108 [some (vr 104), none, some (vi x2), none, none, some (vi x5), some (vi x6), some (vi x7), some (vi x8), some (vi x9), some (vi x10)] [vi y0] (hp L b I J) = if ¬ (y0 : Int) = 0 then (if (x10 : Int) = x6 then (ev 84 156 [some (vr 104), none, some (vi x2), none, none, none, none, some (vi x7), some (vi x8), some (vi x9), some (vi x10)] [] (hp L b I J)) else ((evc 76 [vr 6, vi x10, vi x6, vr 107] (hp L b I J)).bind (fun q => ev 84 136 [some (vr 104), none, some (vi x2), none, none, some (vi x5), none, some (vi x7), some (vi x8), some (vi x9), some (vi x10)] ([]) q.2))) else (some (vi ((-2)), hp L b I J)) := by
  refine (e84_108 x2 x5 x6 x7 x8 x9 x10 y0).trans ?_
  simp only [e84_111, e84_113, e84_114, e84_116, e84_118, e84_121, e84_122, e84_125, e84_127, e84_129, e84_130, e84_133]
theorem s84_136 {L : Nat} {b : Bool} {I : AI} {J : AJ} (x2 : Int) (x5 : Int) (x7 : Int) (x8 : Int) (x9 : Int) (x10 : Int)  : ev 84 136 [some (vr 104), none, some (vi x2), none, none, some (vi x5), none, some (vi x7), some (vi x8), some (vi x9), some (vi x10)] [] (hp L b I J) = (evc 17 [vr 107, vi x7] (hp L b I J)).bind (fun q => ev 84 145 [some (vr 104), none, some (vi x2), none, none, some (vi x5), none, none, some (vi x8), some (vi x9), some (vi x10)] (q.1 :: []) q.2) := by
  refine (e84_136 x2 x5 x7 x8 x9 x10).trans ?_
  simp only [e84_137, e84_140, e84_142]
theorem s84_145 {L : Nat} {b : Bool} {I : AI} {J : AJ} (x2 : Int) (x5 : Int) (x8 : Int) (x9 : Int) (x10 : Int) (y0 : Int)  : ev 84 145 [some (vr 104), none, some (vi x2), none, none, some (vi x5), none, none, some (vi x8), some (vi x9), some (vi x10)] [vi y0] (hp L b I J) = if ¬ (y0 : Int) = ((-1)) then (ev 84 156 [some (vr 104), none, some (vi x2), none, none, none, none, some (vi y0), some (vi x8), some (vi x9), some (vi x10)] [] (hp L b I J)) else (some (vi x5, hp L b I J)) := by
  refine (e84_145 x2 x5 x8 x9 x10 y0).trans ?_
  simp only [e84_147, e84_149, e84_150, e84_153, e84_155]
theorem s84_156 {L : Nat} {b : Bool} {I : AI} {J : AJ} (x2 : Int) (x7 : Int) (x8 : Int) (x9 : Int) (x10 : Int)  : ev 84 156 [some (vr 104), none, some (vi x2), none, none, none, none, some (vi x7), some (vi x8), some (vi x9), some (vi x10)] [] (hp L b I J) = gd (-2147483648 ≤ (x8 + 1 : Int) ∧ (x8 + 1 : Int) ≤ 2147483647) (ev 84 13 [some (vr 104), none, some (vi x2), none, none, some (vi x9), some (vi x10), some (vi x7), some (vi (x8 + 1)), none, none] [] (hp L b I J)) := by
  refine (e84_156 x2 x7 x8 x9 x10).trans ?_
  simp only [e84_158, e84_160, e84_162, e84_164, e84_167]
/-! 85: VersionVault$Tracer.formerName(II)I -/
theorem s85_0 {L : Nat} {b : Bool} {I : AI} {J : AJ} (x1 : Int) (x2 : Int)  : ev 85 0 [some (vr 104), some (vi x1), some (vi x2), none, none, none, none, none] [] (hp L b I J) = gd (0 ≤ (x1 : Int) ∧ (x1 : Int) < 80) ((evc 54 [vr 23, vi (I 25 x1)] (hp L b I J)).bind (fun q => ev 85 18 [some (vr 104), some (vi x1), some (vi x2), some (vi (I 25 x1)), none, none, none, none] (q.1 :: []) q.2)) := by
  refine (e85_0 x1 x2).trans ?_
  simp only [e85_1, e85_4, e85_7, e85_8, e85_9, e85_10, e85_11, e85_14, e85_15]
theorem s85_18 {L : Nat} {b : Bool} {I : AI} {J : AJ} (x1 : Int) (x2 : Int) (x3 : Int) (y0 : Int)  : ev 85 18 [some (vr 104), some (vi x1), some (vi x2), some (vi x3), none, none, none, none] [vi y0] (hp L b I J) = if ¬ (y0 : Int) = 0 then (gd (0 ≤ (x1 : Int) ∧ (x1 : Int) < 80) (gd (0 ≤ (x3 : Int) ∧ (x3 : Int) < 80) ((evc 42 [vr 20, vi (I 24 x1)] (hp L b I J)).bind (fun q => ev 85 55 [some (vr 104), none, some (vi x2), none, some (vi (I 24 x1)), some (vi (I 24 x3)), none, none] (q.1 :: []) q.2)))) else (some (vi ((-2)), hp L b I J)) := by
  refine (e85_18 x1 x2 x3 y0).trans ?_
  simp only [e85_21, e85_23, e85_24, e85_25, e85_28, e85_31, e85_32, e85_33, e85_35, e85_36, e85_39, e85_42, e85_43, e85_44, e85_46, e85_47, e85_50, e85_52]
theorem s85_55 {L : Nat} {b : Bool} {I : AI} {J : AJ} (x2 : Int) (x4 : Int) (x5 : Int) (y0 : Int)  : ev 85 55 [some (vr 104), none, some (vi x2), none, some (vi x4), some (vi x5), none, none] [vi y0] (hp L b I J) = if (y0 : Int) = 0 then (ev 85 81 [none, none, none, none, none, none, none, none] [] (hp L b I J)) else ((evc 42 [vr 20, vi x5] (hp L b I J)).bind (fun q => ev 85 67 [some (vr 104), none, some (vi x2), none, some (vi x4), some (vi x5), none, none] (q.1 :: []) q.2)) := by
  refine (e85_55 x2 x4 x5 y0).trans ?_
  simp only [e85_58, e85_59, e85_62, e85_64]
theorem s85_67 {L : Nat} {b : Bool} {I : AI} {J : AJ} (x2 : Int) (x4 : Int) (x5 : Int) (y0 : Int)  : ev 85 67 [some (vr 104), none, some (vi x2), none, some (vi x4), some (vi x5), none, none] [vi y0] (hp L b I J) = if (y0 : Int) = 0 then (ev 85 81 [none, none, none, none, none, none, none, none] [] (hp L b I J)) else ((evc 86 [vr 104, vi x5, vi x4] (hp L b I J)).bind (fun q => ev 85 78 [some (vr 104), none, some (vi x2), none, some (vi x4), some (vi x5), none, none] (q.1 :: []) q.2)) := by
  refine (e85_67 x2 x4 x5 y0).trans ?_
  simp only [e85_70, e85_71, e85_73, e85_75]
theorem s85_78 {L : Nat} {b : Bool} {I : AI} {J : AJ} (x2 : Int) (x4 : Int) (x5 : Int) (y0 : Int)  : ev 85 78 [some (vr 104), none, some (vi x2), none, some (vi x4), some (vi x5), none, none] [vi y0] (hp L b I J) = if ¬ (y0 : Int) = 0 then (ev 85 87 [some (vr 104), none, some (vi x2), none, some (vi x4), some (vi x5), some (vi 0), none] [] (hp L b I J)) else (ev 85 81 [none, none, none, none, none, none, none, none] [] (hp L b I J)) := by
  refine (e85_78 x2 x4 x5 y0).trans ?_
  simp only [e85_84, e85_85]
theorem s85_81 {L : Nat} {b : Bool} {I : AI} {J : AJ}   : ev 85 81 [none, none, none, none, none, none, none, none] [] (hp L b I J) = some (vi ((-2)), hp L b I J) := by
  refine (e85_81 ).trans ?_
  simp only [e85_83]
theorem s85_87 {L : Nat} {b : Bool} {I : AI} {J : AJ} (x2 : Int) (x4 : Int) (x5 : Int) (x6 : Int)  : ev 85 87 [some (vr 104), none, some (vi x2), none, some (vi x4), some (vi x5), some (vi x6), none] [] (hp L b I J) = if 16 ≤ (x6 : Int) then (some (vi ((-1)), hp L b I J)) else ((evc 87 [vr 104, vi x5, vi x4] (hp L b I J)).bind (fun q => ev 85 102 [some (vr 104), none, some (vi x2), none, some (vi x4), some (vi x5), some (vi x6), none] (q.1 :: []) q.2)) := by
  refine (e85_87 x2 x4 x5 x6).trans ?_
  simp only [e85_89, e85_91, e85_94, e85_95, e85_97, e85_99, e85_155, e85_156]
theorem s85_102 {L : Nat} {b : Bool} {I : AI} {J : AJ} (x2 : Int) (x4 : Int) (x5 : Int) (x6 : Int) (y0 : Int)  : ev 85 102 [some (vr 104), none, some (vi x2), none, some (vi x4), some (vi x5), some (vi x6), none] [vi y0] (hp L b I J) = if ¬ (y0 : Int) = ((-1)) then (gd (0 ≤ (y0 : Int) ∧ 0 < (16 : Int)) (if ¬ (y0 % 16 : Int) = x2 then (gd (0 ≤ (y0 : Int) ∧ 0 < (16 : Int)) (gd (((0 : Int) = 0 ∨ (0 : Int) = 1) ∧ 0 ≤ (y0 / 16 : Int) ∧ (y0 / 16 : Int) < 16) (gd (0 ≤ (y0 : Int) ∧ 0 < (16 : Int)) (gd (((0 : Int) = 0 ∨ (0 : Int) = 1) ∧ 0 ≤ (y0 % 16 : Int) ∧ (y0 % 16 : Int) < 16) (gd (-2147483648 ≤ (x6 + 1 : Int) ∧ (x6 + 1 : Int) ≤ 2147483647) (ev 85 87 [some (vr 104), none, some (vi x2), none, some (vi x4), some (vi x5), some (vi (x6 + 1)), none] [] (hp L b (upI (upI I 105 (y0 / 16) 0) 106 (y0 % 16) 0) J))))))) else (gd (0 ≤ (y0 : Int) ∧ 0 < (16 : Int)) (some (vi (y0 / 16), hp L b I J))))) else (some (vi ((-1)), hp L b I J)) := by
  refine (e85_102 x2 x4 x5 x6 y0).trans ?_
  simp only [e85_104, e85_106, e85_107, e85_110, e85_111, e85_112, e85_114, e85_116, e85_117, e85_118, e85_121, e85_123, e85_125, e85_126, e85_127, e85_128, e85_131, e85_133, e85_135, e85_136, e85_137, e85_138, e85_139, e85_142, e85_144, e85_146, e85_147, e85_148, e85_149, e85_152]
/-! 86: VersionVault$Tracer.sortNames(II)Z -/
theorem s86_0 {L : Nat} {b : Bool} {I : AI} {J : AJ} (x1 : Int) (x2 : Int)  : ev 86 0 [some (vr 104), some (vi x1), some (vi x2), none, none, none, none] [] (hp L b I J) = ev 86 5 [some (vr 104), some (vi x1), some (vi x2), some (vi 1), some (vi 0), none, none] [] (hp L b I J) := by
  refine (e86_0 x1 x2).trans ?_
  simp only [e86_1, e86_2, e86_3]
theorem s86_5 {L : Nat} {b : Bool} {I : AI} {J : AJ} (x1 : Int) (x2 : Int) (x3 : Int) (x4 : Int)  : ev 86 5 [some (vr 104), some (vi x1), some (vi x2), some (vi x3), some (vi x4), none, none] [] (hp L b I J) = if 16 ≤ (x4 : Int) then (gd ((x3 : Int) = 0 ∨ (x3 : Int) = 1) (some (vi x3, hp L b I J))) else ((evc 43 [vr 20, vi x1, vi x4] (hp L b I J)).bind (fun q => ev 86 22 [some (vr 104), some (vi x1), some (vi x2), some (vi x3), some (vi x4), none, none] (q.1 :: []) q.2)) := by
  refine (e86_5 x1 x2 x3 x4).trans ?_
  simp only [e86_7, e86_9, e86_12, e86_13, e86_16, e86_17, e86_19, e86_136, e86_137]
theorem s86_22 {L : Nat} {b : Bool} {I : AI} {J : AJ} (x1 : Int) (x2 : Int) (x3 : Int) (x4 : Int) (y0 : Int)  : ev 86 22 [some (vr 104), some (vi x1), some (vi x2), some (vi x3), some (vi x4), none, none] [vi y0] (hp L b I J) = (evc 43 [vr 20, vi x2, vi x4] (hp L b I J)).bind (fun q => ev 86 34 [some (vr 104), some (vi x1), some (vi x2), some (vi x3), some (vi x4), some (vi y0), none] (q.1 :: []) q.2) := by
  refine (e86_22 x1 x2 x3 x4 y0).trans ?_
  simp only [e86_24, e86_25, e86_28, e86_29, e86_31]
theorem s86_34 {L : Nat} {b : Bool} {I : AI} {J : AJ} (x1 : Int) (x2 : Int) (x3 : Int) (x4 : Int) (x5 : Int) (y0 : Int)  : ev 86 34 [some (vr 104), some (vi x1), some (vi x2), some (vi x3), some (vi x4), some (vi x5), none] [vi y0] (hp L b I J) = if (x5 : Int) = ((-1)) then (ev 86 58 [some (vr 104), some (vi x1), some (vi x2), some (vi x3), some (vi x4), some (vi x5), some (vi y0)] [vi x4, vr 105] (hp L b I J)) else (if ¬ (y0 : Int) = ((-1)) then (ev 86 58 [some (vr 104), some (vi x1), some (vi x2), some (vi x3), some (vi x4), some (vi x5), some (vi y0)] [vi x4, vr 105] (hp L b I J)) else (ev 86 59 [some (vr 104), some (vi x1), some (vi x2), some (vi x3), some (vi x4), some (vi x5), some (vi y0)] [vi 1, vi x4, vr 105] (hp L b I J))) := by
  refine (e86_34 x1 x2 x3 x4 x5 y0).trans ?_
  simp only [e86_36, e86_37, e86_40, e86_42, e86_44, e86_45, e86_48, e86_50, e86_51, e86_54, e86_55]
theorem s86_58 {L : Nat} {b : Bool} {I : AI} {J : AJ} (x1 : Int) (x2 : Int) (x3 : Int) (x4 : Int) (x5 : Int) (x6 : Int) (y0 : Int)  : ev 86 58 [some (vr 104), some (vi x1), some (vi x2), some (vi x3), some (vi x4), some (vi x5), some (vi x6)] [vi y0, vr 105] (hp L b I J) = ev 86 59 [some (vr 104), some (vi x1), some (vi x2), some (vi x3), some (vi x4), some (vi x5), some (vi x6)] [vi 0, vi y0, vr 105] (hp L b I J) := by
  refine (e86_58 x1 x2 x3 x4 x5 x6 y0).trans ?_
  rfl
theorem s86_59 {L : Nat} {b : Bool} {I : AI} {J : AJ} (x1 : Int) (x2 : Int) (x3 : Int) (x4 : Int) (x5 : Int) (x6 : Int) (y0 : Int) (y1 : Int)  : ev 86 59 [some (vr 104), some (vi x1), some (vi x2), some (vi x3), some (vi x4), some (vi x5), some (vi x6)] [vi y0, vi y1, vr 105] (hp L b I J) = gd (((y0 : Int) = 0 ∨ (y0 : Int) = 1) ∧ 0 ≤ (y1 : Int) ∧ (y1 : Int) < 16) (if ¬ (x5 : Int) = ((-1)) then (ev 86 82 [some (vr 104), some (vi x1), some (vi x2), some (vi x3), some (vi x4), some (vi x5), some (vi x6)] [vi x4, vr 106] (hp L b (upI I 105 y1 y0) J)) else (if (x6 : Int) = ((-1)) then (ev 86 82 [some (vr 104), some (vi x1), some (vi x2), some (vi x3), some (vi x4), some (vi x5), some (vi x6)] [vi x4, vr 106] (hp L b (upI I 105 y1 y0) J)) else (ev 86 83 [some (vr 104), some (vi x1), some (vi x2), some (vi x3), some (vi x4), some (vi x5), some (vi x6)] [vi 1, vi x4, vr 106] (hp L b (upI I 105 y1 y0) J)))) := by
  refine (e86_59 x1 x2 x3 x4 x5 x6 y0 y1).trans ?_
  simp only [e86_60, e86_61, e86_64, e86_66, e86_68, e86_69, e86_72, e86_74, e86_75, e86_78, e86_79]
theorem s86_82 {L : Nat} {b : Bool} {I : AI} {J : AJ} (x1 : Int) (x2 : Int) (x3 : Int) (x4 : Int) (x5 : Int) (x6 : Int) (y0 : Int)  : ev 86 82 [some (vr 104), some (vi x1), some (vi x2), some (vi x3), some (vi x4), some (vi x5), some (vi x6)] [vi y0, vr 106] (hp L b I J) = ev 86 83 [some (vr 104), some (vi x1), some (vi x2), some (vi x3), some (vi x4), some (vi x5), some (vi x6)] [vi 0, vi y0, vr 106] (hp L b I J) := by
  refine (e86_82 x1 x2 x3 x4 x5 x6 y0).trans ?_
  rfl
theorem s86_83 {L : Nat} {b : Bool} {I : AI} {J : AJ} (x1 : Int) (x2 : Int) (x3 : Int) (x4 : Int) (x5 : Int) (x6 : Int) (y0 : Int) (y1 : Int)  : ev 86 83 [some (vr 104), some (vi x1), some (vi x2), some (vi x3), some (vi x4), some (vi x5), some (vi x6)] [vi y0, vi y1, vr 106] (hp L b I J) = gd (((y0 : Int) = 0 ∨ (y0 : Int) = 1) ∧ 0 ≤ (y1 : Int) ∧ (y1 : Int) < 16) (gd (0 ≤ (x4 : Int) ∧ (x4 : Int) < 16) (if ((upI I 106 y1 y0) 105 x4 : Int) = 0 then (ev 86 106 [some (vr 104), some (vi x1), some (vi x2), some (vi x3), some (vi x4), none, some (vi x6)] [] (hp L b (upI I 106 y1 y0) J)) else ((evc 66 [vr 6, vi x5] (hp L b (upI I 106 y1 y0) J)).bind (fun q => ev 86 103 [some (vr 104), some (vi x1), some (vi x2), some (vi x3), some (vi x4), none, some (vi x6)] (q.1 :: []) q.2)))) := by
  refine (e86_83 x1 x2 x3 x4 x5 x6 y0 y1).trans ?_
  simp only [e86_84, e86_85, e86_88, e86_90, e86_91, e86_94, e86_95, e86_98, e86_100]
theorem s86_103 {L : Nat} {b : Bool} {I : AI} {J : AJ} (x1 : Int) (x2 : Int) (x3 : Int) (x4 : Int) (x6 : Int) (y0 : Int)  : ev 86 103 [some (vr 104), some (vi x1), some (vi x2), some (vi x3), some (vi x4), none, some (vi x6)] [vi y0] (hp L b I J) = if (y0 : Int) = 0 then (ev 86 128 [some (vr 104), some (vi x1), some (vi x2), none, some (vi x4), none, none] [] (hp L b I J)) else (ev 86 106 [some (vr 104), some (vi x1), some (vi x2), some (vi x3), some (vi x4), none, some (vi x6)] [] (hp L b I J)) := by
  refine (e86_103 x1 x2 x3 x4 x6 y0).trans ?_
  rfl
theorem s86_106 {L : Nat} {b : Bool} {I : AI} {J : AJ} (x1 : Int) (x2 : Int) (x3 : Int) (x4 : Int) (x6 : Int)  : ev 86 106 [some (vr 104), some (vi x1), some (vi x2), some (vi x3), some (vi x4), none, some (vi x6)] [] (hp L b I J) = gd (0 ≤ (x4 : Int) ∧ (x4 : Int) < 16) (if (I 106 x4 : Int) = 0 then (ev 86 130 [some (vr 104), some (vi x1), some (vi x2), some (vi x3), some (vi x4), none, none] [] (hp L b I J)) else ((evc 66 [vr 6, vi x6] (hp L b I J)).bind (fun q => ev 86 125 [some (vr 104), some (vi x1), some (vi x2), some (vi x3), some (vi x4), none, none] (q.1 :: []) q.2))) := by
  refine (e86_106 x1 x2 x3 x4 x6).trans ?_
  simp only [e86_107, e86_110, e86_112, e86_113, e86_116, e86_117, e86_120, e86_122]
theorem s86_125 {L : Nat} {b : Bool} {I : AI} {J : AJ} (x1 : Int) (x2 : Int) (x3 : Int) (x4 : Int) (y0 : Int)  : ev 86 125 [some (vr 104), some (vi x1), some (vi x2), some (vi x3), some (vi x4), none, none] [vi y0] (hp L b I J) = if ¬ (y0 : Int) = 0 then (ev 86 130 [some (vr 104), some (vi x1), some (vi x2), some (vi x3), some (vi x4), none, none] [] (hp L b I J)) else (ev 86 128 [some (vr 104), some (vi x1), some (vi x2), none, some (vi x4), none, none] [] (hp L b I J)) := by
  refine (e86_125 x1 x2 x3 x4 y0).trans ?_
  rfl
theorem s86_128 {L : Nat} {b : Bool} {I : AI} {J : AJ} (x1 : Int) (x2 : Int) (x4 : Int)  : ev 86 128 [some (vr 104), some (vi x1), some (vi x2), none, some (vi x4), none, none] [] (hp L b I J) = ev 86 130 [some (vr 104), some (vi x1), some (vi x2), some (vi 0), some (vi x4), none, none] [] (hp L b I J) := by
  refine (e86_128 x1 x2 x4).trans ?_
  simp only [e86_129]
theorem s86_130 {L : Nat} {b : Bool} {I : AI} {J : AJ} (x1 : Int) (x2 : Int) (x3 : Int) (x4 : Int)  : ev 86 130 [some (vr 104), some (vi x1), some (vi x2), some (vi x3), some (vi x4), none, none] [] (hp L b I J) = gd (-2147483648 ≤ (x4 + 1 : Int) ∧ (x4 + 1 : Int) ≤ 2147483647) (ev 86 5 [some (vr 104), some (vi x1), some (vi x2), some (vi x3), some (vi (x4 + 1)), none, none] [] (hp L b I J)) := by
  refine (e86_130 x1 x2 x3 x4).trans ?_
  simp only [e86_133]
/-! 87: VersionVault$Tracer.bestPair(II)I -/
theorem s87_0 {L : Nat} {b : Bool} {I : AI} {J : AJ} (x1 : Int) (x2 : Int)  : ev 87 0 [some (vr 104), some (vi x1), some (vi x2), none, none, none, none, none, none, none] [] (hp L b I J) = ev 87 8 [some (vr 104), some (vi x1), some (vi x2), some (vi ((-1))), some (vi 0), some (vi 0), none, none, none, none] [] (hp L b I J) := by
  refine (e87_0 x1 x2).trans ?_
  simp only [e87_1, e87_2, e87_3, e87_5, e87_6]
theorem s87_8 {L : Nat} {b : Bool} {I : AI} {J : AJ} (x1 : Int) (x2 : Int) (x3 : Int) (x4 : Int) (x5 : Int)  : ev 87 8 [some (vr 104), some (vi x1), some (vi x2), some (vi x3), some (vi x4), some (vi x5), none, none, none, none] [] (hp L b I J) = if 16 ≤ (x5 : Int) then (some (vi x3, hp L b I J)) else (ev 87 18 [some (vr 104), some (vi x1), some (vi x2), some (vi x3), some (vi x4), some (vi x5), some (vi 0), none, none, none] [] (hp L b I J)) := by
  refine (e87_8 x1 x2 x3 x4 x5).trans ?_
  simp only [e87_10, e87_12, e87_15, e87_16, e87_144, e87_145]
theorem s87_18 {L : Nat} {b : Bool} {I : AI} {J : AJ} (x1 : Int) (x2 : Int) (x3 : Int) (x4 : Int) (x5 : Int) (x6 : Int)  : ev 87 18 [some (vr 104), some (vi x1), some (vi x2), some (vi x3), some (vi x4), some (vi x5), some (vi x6), none, none, none] [] (hp L b I J) = if 16 ≤ (x6 : Int) then (ev 87 138 [some (vr 104), some (vi x1), some (vi x2), some (vi x3), some (vi x4), some (vi x5), none, none, none, none] [] (hp L b I J)) else (gd (0 ≤ (x5 : Int) ∧ (x5 : Int) < 16) (if (I 105 x5 : Int) = 0 then (ev 87 138 [some (vr 104), some (vi x1), some (vi x2), some (vi x3), some (vi x4), some (vi x5), none, none, none, none] [] (hp L b I J)) else (gd (0 ≤ (x6 : Int) ∧ (x6 : Int) < 16) (if (I 106 x6 : Int) = 0 then (ev 87 132 [some (vr 104), some (vi x1), some (vi x2), some (vi x3), some (vi x4), some (vi x5), some (vi x6), none, none, none] [] (hp L b I J)) else ((evc 43 [vr 20, vi x1, vi x5] (hp L b I J)).bind (fun q => ev 87 55 [some (vr 104), some (vi x1), some (vi x2), some (vi x3), some (vi x4), some (vi x5), some (vi x6), none, none, none] (q.1 :: []) q.2)))))) := by
  refine (e87_18 x1 x2 x3 x4 x5 x6).trans ?_
  simp only [e87_20, e87_22, e87_25, e87_26, e87_29, e87_31, e87_32, e87_35, e87_36, e87_39, e87_41, e87_42, e87_45, e87_46, e87_49, e87_50, e87_52]
theorem s87_55 {L : Nat} {b : Bool} {I : AI} {J : AJ} (x1 : Int) (x2 : Int) (x3 : Int) (x4 : Int) (x5 : Int) (x6 : Int) (y0 : Int)  : ev 87 55 [some (vr 104), some (vi x1), some (vi x2), some (vi x3), some (vi x4), some (vi x5), some (vi x6), none, none, none] [vi y0] (hp L b I J) = (evc 43 [vr 20, vi x2, vi x6] (hp L b I J)).bind (fun q => ev 87 67 [some (vr 104), some (vi x1), some (vi x2), some (vi x3), some (vi x4), some (vi x5), some (vi x6), some (vi y0), none, none] (q.1 :: []) q.2) := by
  refine (e87_55 x1 x2 x3 x4 x5 x6 y0).trans ?_
  simp only [e87_57, e87_58, e87_61, e87_62, e87_64]
theorem s87_67 {L : Nat} {b : Bool} {I : AI} {J : AJ} (x1 : Int) (x2 : Int) (x3 : Int) (x4 : Int) (x5 : Int) (x6 : Int) (x7 : Int) (y0 : Int)  : ev 87 67 [some (vr 104), some (vi x1), some (vi x2), some (vi x3), some (vi x4), some (vi x5), some (vi x6), some (vi x7), none, none] [vi y0] (hp L b I J) = (evc 77 [vr 6, vi x7, vi y0] (hp L b I J)).bind (fun q => ev 87 80 [some (vr 104), some (vi x1), some (vi x2), some (vi x3), some (vi x4), some (vi x5), some (vi x6), some (vi x7), some (vi y0), none] (q.1 :: []) q.2) := by
  refine (e87_67 x1 x2 x3 x4 x5 x6 x7 y0).trans ?_
  simp only [e87_69, e87_70, e87_73, e87_75, e87_77]
theorem s87_80 {L : Nat} {b : Bool} {I : AI} {J : AJ} (x1 : Int) (x2 : Int) (x3 : Int) (x4 : Int) (x5 : Int) (x6 : Int) (x7 : Int) (x8 : Int) (y0 : Int)  : ev 87 80 [some (vr 104), some (vi x1), some (vi x2), some (vi x3), some (vi x4), some (vi x5), some (vi x6), some (vi x7), some (vi x8), none] [vi y0] (hp L b I J) = if (y0 : Int) ≤ x4 then (ev 87 132 [some (vr 104), some (vi x1), some (vi x2), some (vi x3), some (vi x4), some (vi x5), some (vi x6), none, none, none] [] (hp L b I J)) else (gd (-2147483648 ≤ (2 * y0 : Int) ∧ (2 * y0 : Int) ≤ 2147483647) (gd (0 ≤ (x7 : Int) ∧ (x7 : Int) < 120) (gd (0 ≤ (x8 : Int) ∧ (x8 : Int) < 120) (if (2 * y0 : Int) < (if I 8 x7 < I 8 x8 then I 8 x8 else I 8 x7) then (ev 87 132 [some (vr 104), some (vi x1), some (vi x2), some (vi x3), some (vi x4), some (vi x5), some (vi x6), none, none, none] [] (hp L b I J)) else (gd (-2147483648 ≤ (x5 * 16 : Int) ∧ (x5 * 16 : Int) ≤ 2147483647) (gd (-2147483648 ≤ ((x5 * 16) + x6 : Int) ∧ ((x5 * 16) + x6 : Int) ≤ 2147483647) (ev 87 132 [some (vr 104), some (vi x1), some (vi x2), some (vi ((x5 * 16) + x6)), some (vi y0), some (vi x5), some (vi x6), none, none, none] [] (hp L b I J)))))))) := by
  refine (e87_80 x1 x2 x3 x4 x5 x6 x7 x8 y0).trans ?_
  simp only [e87_82, e87_84, e87_86, e87_89, e87_90, e87_92, e87_93, e87_94, e87_97, e87_100, e87_102, e87_103, e87_104, e87_107, e87_110, e87_112, e87_113, e87_116, e87_119, e87_121, e87_123, e87_125, e87_127, e87_128, e87_130, e87_131]
theorem s87_132 {L : Nat} {b : Bool} {I : AI} {J : AJ} (x1 : Int) (x2 : Int) (x3 : Int) (x4 : Int) (x5 : Int) (x6 : Int)  : ev 87 132 [some (vr 104), some (vi x1), some (vi x2), some (vi x3), some (vi x4), some (vi x5), some (vi x6), none, none, none] [] (hp L b I J) = gd (-2147483648 ≤ (x6 + 1 : Int) ∧ (x6 + 1 : Int) ≤ 2147483647) (ev 87 18 [some (vr 104), some (vi x1), some (vi x2), some (vi x3), some (vi x4), some (vi x5), some (vi (x6 + 1)), none, none, none] [] (hp L b I J)) := by
  refine (e87_132 x1 x2 x3 x4 x5 x6).trans ?_
  simp only [e87_135]
theorem s87_138 {L : Nat} {b : Bool} {I : AI} {J : AJ} (x1 : Int) (x2 : Int) (x3 : Int) (x4 : Int) (x5 : Int)  : ev 87 138 [some (vr 104), some (vi x1), some (vi x2), some (vi x3), some (vi x4), some (vi x5), none, none, none, none] [] (hp L b I J) = gd (-2147483648 ≤ (x5 + 1 : Int) ∧ (x5 + 1 : Int) ≤ 2147483647) (ev 87 8 [some (vr 104), some (vi x1), some (vi x2), some (vi x3), some (vi x4), some (vi (x5 + 1)), none, none, none, none] [] (hp L b I J)) := by
  refine (e87_138 x1 x2 x3 x4 x5).trans ?_
  simp only [e87_141]
/-! 89: VersionVault.add(I)I -/
theorem s89_0 {L : Nat} {b : Bool} {I : AI} {J : AJ} (x1 : Int)  : ev 89 0 [some (vr 1), some (vi x1)] [] (hp L b I J) = (evc 38 [vr 3, vi x1] (hp L b I J)).bind (fun q => ev 89 8 [some (vr 1), none] (q.1 :: []) q.2) := by
  refine (e89_0 x1).trans ?_
  simp only [e89_1, e89_4, e89_5]
theorem s89_8 {L : Nat} {b : Bool} {I : AI} {J : AJ} (y0 : Int)  : ev 89 8 [some (vr 1), none] [vi y0] (hp L b I J) = if (y0 : Int) = 0 then (some (vi ((-2)), hp L b I J)) else (some (vi (I 3 1), hp L b I J)) := by
  refine (e89_8 y0).trans ?_
  simp only [e89_11, e89_12, e89_15, e89_18, e89_21, e89_23]
/-! 90: VersionVault.wipe()I -/
theorem s90_0 {L : Nat} {b : Bool} {I : AI} {J : AJ}   : ev 90 0 [some (vr 1), none] [] (hp L b I J) = (evc 37 [vr 3] (hp L b I J)).bind (fun q => ev 90 15 [none, some (vi (I 3 1))] ([]) q.2) := by
  refine (e90_0 ).trans ?_
  simp only [e90_1, e90_4, e90_7, e90_8, e90_9, e90_12]
theorem s90_15 {L : Nat} {b : Bool} {I : AI} {J : AJ} (x1 : Int)  : ev 90 15 [none, some (vi x1)] [] (hp L b I J) = some (vi x1, hp L b I J) := by
  refine (e90_15 x1).trans ?_
  simp only [e90_16]
/-! 91: VersionVault.draft(I)I -/
theorem s91_0 {L : Nat} {b : Bool} {I : AI} {J : AJ} (x1 : Int)  : ev 91 0 [some (vr 1), some (vi x1)] [] (hp L b I J) = (evc 39 [vr 3, vi x1] (hp L b I J)).bind (fun q => ev 91 8 [some (vr 1), some (vi x1)] (q.1 :: []) q.2) := by
  refine (e91_0 x1).trans ?_
  simp only [e91_1, e91_4, e91_5]
theorem s91_8 {L : Nat} {b : Bool} {I : AI} {J : AJ} (x1 : Int) (y0 : Int)  : ev 91 8 [some (vr 1), some (vi x1)] [vi y0] (hp L b I J) = some (vi y0, hp L b I J) := by
  refine (e91_8 x1 y0).trans ?_
  rfl
/-! 92: VersionVault.text()I -/
theorem s92_0 {L : Nat} {b : Bool} {I : AI} {J : AJ}   : ev 92 0 [some (vr 1), none] [] (hp L b I J) = (evc 74 [vr 6, vr 3] (hp L b I J)).bind (fun q => ev 92 11 [some (vr 1), none] (q.1 :: []) q.2) := by
  refine (e92_0 ).trans ?_
  simp only [e92_1, e92_4, e92_5, e92_8]
theorem s92_11 {L : Nat} {b : Bool} {I : AI} {J : AJ} (y0 : Int)  : ev 92 11 [some (vr 1), none] [vi y0] (hp L b I J) = if (y0 : Int) = ((-2)) then (ev 92 25 [none, some (vi y0)] [] (hp L b I J)) else ((evc 37 [vr 3] (hp L b I J)).bind (fun q => ev 92 25 [none, some (vi y0)] ([]) q.2)) := by
  refine (e92_11 y0).trans ?_
  simp only [e92_12, e92_13, e92_15, e92_18, e92_19, e92_22]
theorem s92_25 {L : Nat} {b : Bool} {I : AI} {J : AJ} (x1 : Int)  : ev 92 25 [none, some (vi x1)] [] (hp L b I J) = some (vi x1, hp L b I J) := by
  refine (e92_25 x1).trans ?_
  simp only [e92_26]
/-! 93: VersionVault.size(I)I -/
theorem s93_0 {L : Nat} {b : Bool} {I : AI} {J : AJ} (x1 : Int)  : ev 93 0 [some (vr 1), some (vi x1)] [] (hp L b I J) = (evc 66 [vr 6, vi x1] (hp L b I J)).bind (fun q => ev 93 8 [some (vr 1), some (vi x1)] (q.1 :: []) q.2) := by
  refine (e93_0 x1).trans ?_
  simp only [e93_1, e93_4, e93_5]
theorem s93_8 {L : Nat} {b : Bool} {I : AI} {J : AJ} (x1 : Int) (y0 : Int)  : ev 93 8 [some (vr 1), some (vi x1)] [vi y0] (hp L b I J) = if (y0 : Int) = 0 then (some (vi ((-2)), hp L b I J)) else (gd (0 ≤ (x1 : Int) ∧ (x1 : Int) < 120) (some (vi (I 8 x1), hp L b I J))) := by
  refine (e93_8 x1 y0).trans ?_
  simp only [e93_11, e93_12, e93_15, e93_18, e93_19, e93_20, e93_23, e93_25]
/-! 94: VersionVault.line(II)I -/
theorem s94_0 {L : Nat} {b : Bool} {I : AI} {J : AJ} (x1 : Int) (x2 : Int)  : ev 94 0 [some (vr 1), some (vi x1), some (vi x2)] [] (hp L b I J) = (evc 66 [vr 6, vi x1] (hp L b I J)).bind (fun q => ev 94 8 [some (vr 1), some (vi x1), some (vi x2)] (q.1 :: []) q.2) := by
  refine (e94_0 x1 x2).trans ?_
  simp only [e94_1, e94_4, e94_5]
theorem s94_8 {L : Nat} {b : Bool} {I : AI} {J : AJ} (x1 : Int) (x2 : Int) (y0 : Int)  : ev 94 8 [some (vr 1), some (vi x1), some (vi x2)] [vi y0] (hp L b I J) = if (y0 : Int) = 0 then (some (vi 0, hp L b I J)) else ((evc 70 [vr 6, vi x1, vi x2] (hp L b I J)).bind (fun q => ev 94 20 [none, none, none] (q.1 :: []) q.2)) := by
  refine (e94_8 x1 x2 y0).trans ?_
  simp only [e94_11, e94_12, e94_15, e94_16, e94_17, e94_23, e94_24]
theorem s94_20 {L : Nat} {b : Bool} {I : AI} {J : AJ} (y0 : Int)  : ev 94 20 [none, none, none] [vi y0] (hp L b I J) = some (vi y0, hp L b I J) := by
  refine (e94_20 y0).trans ?_
  simp only [e94_24]
/-! 95: VersionVault.copy(I)I -/
theorem s95_0 {L : Nat} {b : Bool} {I : AI} {J : AJ} (x1 : Int)  : ev 95 0 [some (vr 1), some (vi x1)] [] (hp L b I J) = (evc 66 [vr 6, vi x1] (hp L b I J)).bind (fun q => ev 95 8 [some (vr 1), some (vi x1)] (q.1 :: []) q.2) := by
  refine (e95_0 x1).trans ?_
  simp only [e95_1, e95_4, e95_5]
theorem s95_8 {L : Nat} {b : Bool} {I : AI} {J : AJ} (x1 : Int) (y0 : Int)  : ev 95 8 [some (vr 1), some (vi x1)] [vi y0] (hp L b I J) = if ¬ (y0 : Int) = 0 then ((evc 71 [vr 6, vi x1, vr 3] (hp L b I J)).bind (fun q => ev 95 26 [some (vr 1), none] ([]) q.2)) else (some (vi ((-2)), hp L b I J)) := by
  refine (e95_8 x1 y0).trans ?_
  simp only [e95_11, e95_13, e95_14, e95_15, e95_18, e95_19, e95_20, e95_23]
theorem s95_26 {L : Nat} {b : Bool} {I : AI} {J : AJ}   : ev 95 26 [some (vr 1), none] [] (hp L b I J) = some (vi (I 3 1), hp L b I J) := by
  refine (e95_26 ).trans ?_
  simp only [e95_27, e95_30, e95_33]
/-! 96: VersionVault.state(I)I -/
theorem s96_0 {L : Nat} {b : Bool} {I : AI} {J : AJ} (x1 : Int)  : ev 96 0 [some (vr 1), some (vi x1)] [] (hp L b I J) = (evc 64 [vr 6, vi x1] (hp L b I J)).bind (fun q => ev 96 8 [some (vr 1), some (vi x1)] (q.1 :: []) q.2) := by
  refine (e96_0 x1).trans ?_
  simp only [e96_1, e96_4, e96_5]
theorem s96_8 {L : Nat} {b : Bool} {I : AI} {J : AJ} (x1 : Int) (y0 : Int)  : ev 96 8 [some (vr 1), some (vi x1)] [vi y0] (hp L b I J) = if (y0 : Int) = 0 then (some (vi ((-2)), hp L b I J)) else (gd (0 ≤ (x1 : Int) ∧ (x1 : Int) < 120) (some (vi (I 9 x1), hp L b I J))) := by
  refine (e96_8 x1 y0).trans ?_
  simp only [e96_11, e96_12, e96_15, e96_18, e96_19, e96_20, e96_23, e96_25]
/-! 97: VersionVault.missing(I)I -/
theorem s97_0 {L : Nat} {b : Bool} {I : AI} {J : AJ} (x1 : Int)  : ev 97 0 [some (vr 1), some (vi x1)] [] (hp L b I J) = (evc 65 [vr 6, vi x1] (hp L b I J)).bind (fun q => ev 97 8 [some (vr 1), some (vi x1)] (q.1 :: []) q.2) := by
  refine (e97_0 x1).trans ?_
  simp only [e97_1, e97_4, e97_5]
theorem s97_8 {L : Nat} {b : Bool} {I : AI} {J : AJ} (x1 : Int) (y0 : Int)  : ev 97 8 [some (vr 1), some (vi x1)] [vi y0] (hp L b I J) = if (y0 : Int) = 0 then (some (vi ((-2)), hp L b I J)) else ((evc 68 [vr 6, vi x1] (hp L b I J)).bind (fun q => ev 97 19 [none, none] (q.1 :: []) q.2)) := by
  refine (e97_8 x1 y0).trans ?_
  simp only [e97_11, e97_12, e97_15, e97_16, e97_22, e97_24]
theorem s97_19 {L : Nat} {b : Bool} {I : AI} {J : AJ} (y0 : Int)  : ev 97 19 [none, none] [vi y0] (hp L b I J) = some (vi y0, hp L b I J) := by
  refine (e97_19 y0).trans ?_
  simp only [e97_24]
/-! 98: VersionVault.lay(II)I -/
theorem s98_0 {L : Nat} {b : Bool} {I : AI} {J : AJ} (x1 : Int) (x2 : Int)  : ev 98 0 [some (vr 1), some (vi x1), some (vi x2), none] [] (hp L b I J) = (evc 131 [vi x1] (hp L b I J)).bind (fun q => ev 98 4 [some (vr 1), some (vi x1), some (vi x2), none] (q.1 :: []) q.2) := by
  refine (e98_0 x1 x2).trans ?_
  simp only [e98_1]
theorem s98_4 {L : Nat} {b : Bool} {I : AI} {J : AJ} (x1 : Int) (x2 : Int) (y0 : Int)  : ev 98 4 [some (vr 1), some (vi x1), some (vi x2), none] [vi y0] (hp L b I J) = if (y0 : Int) = 0 then (ev 98 18 [none, none, none, none] [] (hp L b I J)) else ((evc 65 [vr 6, vi x2] (hp L b I J)).bind (fun q => ev 98 15 [some (vr 1), some (vi x1), some (vi x2), none] (q.1 :: []) q.2)) := by
  refine (e98_4 x1 x2 y0).trans ?_
  simp only [e98_7, e98_8, e98_11, e98_12]
theorem s98_15 {L : Nat} {b : Bool} {I : AI} {J : AJ} (x1 : Int) (x2 : Int) (y0 : Int)  : ev 98 15 [some (vr 1), some (vi x1), some (vi x2), none] [vi y0] (hp L b I J) = if ¬ (y0 : Int) = 0 then (gd (0 ≤ (x1 : Int) ∧ (x1 : Int) < 16) (gd (0 ≤ (x1 : Int) ∧ (x1 : Int) < 16) (some (vi (I 5 x1), hp L b (upI I 5 x1 x2) J)))) else (ev 98 18 [none, none, none, none] [] (hp L b I J)) := by
  refine (e98_15 x1 x2 y0).trans ?_
  simp only [e98_21, e98_22, e98_25, e98_26, e98_27, e98_28, e98_29, e98_32, e98_33, e98_34, e98_35, e98_36]
theorem s98_18 {L : Nat} {b : Bool} {I : AI} {J : AJ}   : ev 98 18 [none, none, none, none] [] (hp L b I J) = some (vi ((-2)), hp L b I J) := by
  refine (e98_18 ).trans ?_
  simp only [e98_20]
/-! 99: VersionVault.take(I)I -/
theorem s99_0 {L : Nat} {b : Bool} {I : AI} {J : AJ} (x1 : Int)  : ev 99 0 [some (vr 1), some (vi x1), none] [] (hp L b I J) = (evc 131 [vi x1] (hp L b I J)).bind (fun q => ev 99 4 [some (vr 1), some (vi x1), none] (q.1 :: []) q.2) := by
  refine (e99_0 x1).trans ?_
  simp only [e99_1]
theorem s99_4 {L : Nat} {b : Bool} {I : AI} {J : AJ} (x1 : Int) (y0 : Int)  : ev 99 4 [some (vr 1), some (vi x1), none] [vi y0] (hp L b I J) = if ¬ (y0 : Int) = 0 then (gd (0 ≤ (x1 : Int) ∧ (x1 : Int) < 16) (gd (0 ≤ (x1 : Int) ∧ (x1 : Int) < 16) (some (vi (I 5 x1), hp L b (upI I 5 x1 ((-1))) J)))) else (some (vi ((-2)), hp L b I J)) := by
  refine (e99_4 x1 y0).trans ?_
  simp only [e99_7, e99_9, e99_10, e99_11, e99_14, e99_15, e99_16, e99_17, e99_18, e99_21, e99_22, e99_23, e99_24, e99_25]
/-! 100: VersionVault.load(I)I -/
theorem s100_0 {L : Nat} {b : Bool} {I : AI} {J : AJ} (x1 : Int)  : ev 100 0 [some (vr 1), some (vi x1), none] [] (hp L b I J) = (evc 42 [vr 20, vi x1] (hp L b I J)).bind (fun q => ev 100 8 [some (vr 1), some (vi x1), none] (q.1 :: []) q.2) := by
  refine (e100_0 x1).trans ?_
  simp only [e100_1, e100_4, e100_5]
theorem s100_8 {L : Nat} {b : Bool} {I : AI} {J : AJ} (x1 : Int) (y0 : Int)  : ev 100 8 [some (vr 1), some (vi x1), none] [vi y0] (hp L b I J) = if ¬ (y0 : Int) = 0 then (ev 100 16 [some (vr 1), some (vi x1), some (vi 0)] [] (hp L b I J)) else (some (vi ((-2)), hp L b I J)) := by
  refine (e100_8 x1 y0).trans ?_
  simp only [e100_11, e100_13, e100_14, e100_15]
theorem s100_16 {L : Nat} {b : Bool} {I : AI} {J : AJ} (x1 : Int) (x2 : Int)  : ev 100 16 [some (vr 1), some (vi x1), some (vi x2)] [] (hp L b I J) = if 16 ≤ (x2 : Int) then ((evc 132 [vr 5] (hp L b I J)).bind (fun q => ev 100 50 [some (vr 1), none, none] (q.1 :: []) q.2)) else ((evc 43 [vr 20, vi x1, vi x2] (hp L b I J)).bind (fun q => ev 100 36 [some (vr 1), some (vi x1), some (vi x2)] (q.1 :: [vi x2, vr 5]) q.2)) := by
  refine (e100_16 x1 x2).trans ?_
  simp only [e100_17, e100_19, e100_22, e100_23, e100_26, e100_27, e100_28, e100_31, e100_32, e100_33, e100_43, e100_44, e100_47]
theorem s100_36 {L : Nat} {b : Bool} {I : AI} {J : AJ} (x1 : Int) (x2 : Int) (y0 : Int) (y1 : Int)  : ev 100 36 [some (vr 1), some (vi x1), some (vi x2)] [vi y0, vi y1, vr 5] (hp L b I J) = gd (0 ≤ (y1 : Int) ∧ (y1 : Int) < 16) (gd (-2147483648 ≤ (x2 + 1 : Int) ∧ (x2 + 1 : Int) ≤ 2147483647) (ev 100 16 [some (vr 1), some (vi x1), some (vi (x2 + 1))] [] (hp L b (upI I 5 y1 y0) J))) := by
  refine (e100_36 x1 x2 y0 y1).trans ?_
  simp only [e100_37, e100_40]
theorem s100_50 {L : Nat} {b : Bool} {I : AI} {J : AJ} (y0 : Int)  : ev 100 50 [some (vr 1), none, none] [vi y0] (hp L b I J) = some (vi y0, hp L b I J) := by
  refine (e100_50 y0).trans ?_
  rfl
/-! 101: VersionVault.shelf()I -/
theorem s101_0 {L : Nat} {b : Bool} {I : AI} {J : AJ}   : ev 101 0 [some (vr 1), none, none] [] (hp L b I J) = (evc 67 [vr 6, vr 5] (hp L b I J)).bind (fun q => ev 101 11 [some (vr 1), none, none] (q.1 :: []) q.2) := by
  refine (e101_0 ).trans ?_
  simp only [e101_1, e101_4, e101_5, e101_8]
theorem s101_11 {L : Nat} {b : Bool} {I : AI} {J : AJ} (y0 : Int)  : ev 101 11 [some (vr 1), none, none] [vi y0] (hp L b I J) = if ¬ (y0 : Int) = 0 then ((evc 46 [vr 20, vr 5] (hp L b I J)).bind (fun q => ev 101 28 [some (vr 1), none, none] (q.1 :: []) q.2)) else (some (vi ((-2)), hp L b I J)) := by
  refine (e101_11 y0).trans ?_
  simp only [e101_14, e101_16, e101_17, e101_18, e101_21, e101_22, e101_25]
theorem s101_28 {L : Nat} {b : Bool} {I : AI} {J : AJ} (y0 : Int)  : ev 101 28 [some (vr 1), none, none] [vi y0] (hp L b I J) = if (y0 : Int) = ((-2)) then (ev 101 56 [none, some (vi y0), none] [] (hp L b I J)) else (ev 101 37 [some (vr 1), some (vi y0), some (vi 0)] [] (hp L b I J)) := by
  refine (e101_28 y0).trans ?_
  simp only [e101_29, e101_30, e101_32, e101_35, e101_36]
theorem s101_37 {L : Nat} {b : Bool} {I : AI} {J : AJ} (x1 : Int) (x2 : Int)  : ev 101 37 [some (vr 1), some (vi x1), some (vi x2)] [] (hp L b I J) = if 16 ≤ (x2 : Int) then (ev 101 56 [none, some (vi x1), none] [] (hp L b I J)) else (gd (0 ≤ (x2 : Int) ∧ (x2 : Int) < 16) (gd (-2147483648 ≤ (x2 + 1 : Int) ∧ (x2 + 1 : Int) ≤ 2147483647) (ev 101 37 [some (vr 1), some (vi x1), some (vi (x2 + 1))] [] (hp L b (upI I 5 x2 ((-1))) J)))) := by
  refine (e101_37 x1 x2).trans ?_
  simp only [e101_38, e101_40, e101_43, e101_44, e101_47, e101_48, e101_49, e101_50, e101_53]
theorem s101_56 {L : Nat} {b : Bool} {I : AI} {J : AJ} (x1 : Int)  : ev 101 56 [none, some (vi x1), none] [] (hp L b I J) = some (vi x1, hp L b I J) := by
  refine (e101_56 x1).trans ?_
  simp only [e101_57]
/-! 102: VersionVault.on(II)I -/
theorem s102_0 {L : Nat} {b : Bool} {I : AI} {J : AJ} (x1 : Int) (x2 : Int)  : ev 102 0 [some (vr 1), some (vi x1), some (vi x2)] [] (hp L b I J) = (evc 42 [vr 20, vi x1] (hp L b I J)).bind (fun q => ev 102 8 [some (vr 1), some (vi x1), some (vi x2)] (q.1 :: []) q.2) := by
  refine (e102_0 x1 x2).trans ?_
  simp only [e102_1, e102_4, e102_5]
theorem s102_8 {L : Nat} {b : Bool} {I : AI} {J : AJ} (x1 : Int) (x2 : Int) (y0 : Int)  : ev 102 8 [some (vr 1), some (vi x1), some (vi x2)] [vi y0] (hp L b I J) = if (y0 : Int) = 0 then (ev 102 30 [none, none, none] [] (hp L b I J)) else ((evc 131 [vi x2] (hp L b I J)).bind (fun q => ev 102 15 [some (vr 1), some (vi x1), some (vi x2)] (q.1 :: []) q.2)) := by
  refine (e102_8 x1 x2 y0).trans ?_
  simp only [e102_11, e102_12]
theorem s102_15 {L : Nat} {b : Bool} {I : AI} {J : AJ} (x1 : Int) (x2 : Int) (y0 : Int)  : ev 102 15 [some (vr 1), some (vi x1), some (vi x2)] [vi y0] (hp L b I J) = if (y0 : Int) = 0 then (ev 102 30 [none, none, none] [] (hp L b I J)) else ((evc 43 [vr 20, vi x1, vi x2] (hp L b I J)).bind (fun q => ev 102 27 [none, none, none] (q.1 :: []) q.2)) := by
  refine (e102_15 x1 x2 y0).trans ?_
  simp only [e102_18, e102_19, e102_22, e102_23, e102_24]
theorem s102_27 {L : Nat} {b : Bool} {I : AI} {J : AJ} (y0 : Int)  : ev 102 27 [none, none, none] [vi y0] (hp L b I J) = some (vi y0, hp L b I J) := by
  refine (e102_27 y0).trans ?_
  simp only [e102_32]
theorem s102_30 {L : Nat} {b : Bool} {I : AI} {J : AJ}   : ev 102 30 [none, none, none] [] (hp L b I J) = some (vi ((-2)), hp L b I J) := by
  refine (e102_30 ).trans ?_
  simp only [e102_32]
/-! 103: VersionVault.step(III)I -/
theorem s103_0 {L : Nat} {b : Bool} {I : AI} {J : AJ} (x1 : Int) (x2 : Int) (x3 : Int)  : ev 103 0 [some (vr 1), some (vi x1), some (vi x2), some (vi x3)] [] (hp L b I J) = (evc 42 [vr 20, vi x1] (hp L b I J)).bind (fun q => ev 103 8 [some (vr 1), some (vi x1), some (vi x2), some (vi x3)] (q.1 :: []) q.2) := by
  refine (e103_0 x1 x2 x3).trans ?_
  simp only [e103_1, e103_4, e103_5]
theorem s103_8 {L : Nat} {b : Bool} {I : AI} {J : AJ} (x1 : Int) (x2 : Int) (x3 : Int) (y0 : Int)  : ev 103 8 [some (vr 1), some (vi x1), some (vi x2), some (vi x3)] [vi y0] (hp L b I J) = if (y0 : Int) = 0 then (ev 103 33 [none, none, none, none] [] (hp L b I J)) else ((evc 55 [vr 23, vi x2] (hp L b I J)).bind (fun q => ev 103 19 [some (vr 1), some (vi x1), some (vi x2), some (vi x3)] (q.1 :: []) q.2)) := by
  refine (e103_8 x1 x2 x3 y0).trans ?_
  simp only [e103_11, e103_12, e103_15, e103_16]
theorem s103_19 {L : Nat} {b : Bool} {I : AI} {J : AJ} (x1 : Int) (x2 : Int) (x3 : Int) (y0 : Int)  : ev 103 19 [some (vr 1), some (vi x1), some (vi x2), some (vi x3)] [vi y0] (hp L b I J) = if (y0 : Int) = 0 then (ev 103 33 [none, none, none, none] [] (hp L b I J)) else ((evc 55 [vr 23, vi x3] (hp L b I J)).bind (fun q => ev 103 30 [some (vr 1), some (vi x1), some (vi x2), some (vi x3)] (q.1 :: []) q.2)) := by
  refine (e103_19 x1 x2 x3 y0).trans ?_
  simp only [e103_22, e103_23, e103_26, e103_27]
theorem s103_30 {L : Nat} {b : Bool} {I : AI} {J : AJ} (x1 : Int) (x2 : Int) (x3 : Int) (y0 : Int)  : ev 103 30 [some (vr 1), some (vi x1), some (vi x2), some (vi x3)] [vi y0] (hp L b I J) = if ¬ (y0 : Int) = 0 then (if (x3 : Int) = ((-1)) then (ev 103 54 [some (vr 1), some (vi x1), some (vi x2), some (vi x3)] [] (hp L b I J)) else (if (x2 : Int) = ((-1)) then (ev 103 51 [none, none, none, none] [] (hp L b I J)) else (if ¬ (x2 : Int) = x3 then (ev 103 54 [some (vr 1), some (vi x1), some (vi x2), some (vi x3)] [] (hp L b I J)) else (ev 103 51 [none, none, none, none] [] (hp L b I J))))) else (ev 103 33 [none, none, none, none] [] (hp L b I J)) := by
  refine (e103_30 x1 x2 x3 y0).trans ?_
  simp only [e103_36, e103_37, e103_38, e103_41, e103_42, e103_43, e103_46, e103_47, e103_48]
theorem s103_33 {L : Nat} {b : Bool} {I : AI} {J : AJ}   : ev 103 33 [none, none, none, none] [] (hp L b I J) = some (vi ((-2)), hp L b I J) := by
  refine (e103_33 ).trans ?_
  simp only [e103_35]
theorem s103_51 {L : Nat} {b : Bool} {I : AI} {J : AJ}   : ev 103 51 [none, none, none, none] [] (hp L b I J) = some (vi ((-2)), hp L b I J) := by
  refine (e103_51 ).trans ?_
  simp only [e103_53]
theorem s103_54 {L : Nat} {b : Bool} {I : AI} {J : AJ} (x1 : Int) (x2 : Int) (x3 : Int)  : ev 103 54 [some (vr 1), some (vi x1), some (vi x2), some (vi x3)] [] (hp L b I J) = (evc 56 [vr 23, vi x1, vi x2, vi x3] (hp L b I J)).bind (fun q => ev 103 64 [some (vr 1), some (vi x1), some (vi x2), some (vi x3)] (q.1 :: []) q.2) := by
  refine (e103_54 x1 x2 x3).trans ?_
  simp only [e103_55, e103_58, e103_59, e103_60, e103_61]
theorem s103_64 {L : Nat} {b : Bool} {I : AI} {J : AJ} (x1 : Int) (x2 : Int) (x3 : Int) (y0 : Int)  : ev 103 64 [some (vr 1), some (vi x1), some (vi x2), some (vi x3)] [vi y0] (hp L b I J) = some (vi y0, hp L b I J) := by
  refine (e103_64 x1 x2 x3 y0).trans ?_
  rfl
/-! 104: VersionVault.of(II)I -/
theorem s104_0 {L : Nat} {b : Bool} {I : AI} {J : AJ} (x1 : Int) (x2 : Int)  : ev 104 0 [some (vr 1), some (vi x1), some (vi x2)] [] (hp L b I J) = (evc 54 [vr 23, vi x1] (hp L b I J)).bind (fun q => ev 104 8 [some (vr 1), some (vi x1), some (vi x2)] (q.1 :: []) q.2) := by
  refine (e104_0 x1 x2).trans ?_
  simp only [e104_1, e104_4, e104_5]
theorem s104_8 {L : Nat} {b : Bool} {I : AI} {J : AJ} (x1 : Int) (x2 : Int) (y0 : Int)  : ev 104 8 [some (vr 1), some (vi x1), some (vi x2)] [vi y0] (hp L b I J) = if ¬ (y0 : Int) = 0 then (if (x2 : Int) = 0 then (gd (0 ≤ (x1 : Int) ∧ (x1 : Int) < 80) (some (vi (I 24 x1), hp L b I J))) else (if (x2 : Int) = 1 then (gd (0 ≤ (x1 : Int) ∧ (x1 : Int) < 80) (some (vi (I 25 x1), hp L b I J))) else (if (x2 : Int) = 2 then (gd (0 ≤ (x1 : Int) ∧ (x1 : Int) < 80) (some (vi (I 26 x1), hp L b I J))) else (if (x2 : Int) = 3 then ((evc 49 [vr 114] (hp L b I J)).bind (fun q => ev 104 81 [some (vr 1), some (vi x1), none] ([]) q.2)) else (some (vi ((-2)), hp L b I J)))))) else (some (vi ((-2)), hp L b I J)) := by
  refine (e104_8 x1 x2 y0).trans ?_
  simp only [e104_11, e104_13, e104_14, e104_15, e104_44, e104_45, e104_48, e104_51, e104_52, e104_53, e104_54, e104_55, e104_58, e104_61, e104_62, e104_63, e104_64, e104_65, e104_68, e104_71, e104_72, e104_73, e104_74, e104_75, e104_78, e104_101, e104_103]
theorem s104_81 {L : Nat} {b : Bool} {I : AI} {J : AJ} (x1 : Int)  : ev 104 81 [some (vr 1), some (vi x1), none] [] (hp L b I J) = (evc 57 [vr 23, vi x1, vr 114] (hp L b I J)).bind (fun q => ev 104 93 [some (vr 1), none, none] ([]) q.2) := by
  refine (e104_81 x1).trans ?_
  simp only [e104_82, e104_85, e104_86, e104_87, e104_90]
theorem s104_93 {L : Nat} {b : Bool} {I : AI} {J : AJ}   : ev 104 93 [some (vr 1), none, none] [] (hp L b I J) = (evc 51 [vr 114] (hp L b I J)).bind (fun q => ev 104 100 [some (vr 1), none, none] (q.1 :: []) q.2) := by
  refine (e104_93 ).trans ?_
  simp only [e104_94, e104_97]
theorem s104_100 {L : Nat} {b : Bool} {I : AI} {J : AJ} (y0 : Int)  : ev 104 100 [some (vr 1), none, none] [vi y0] (hp L b I J) = some (vi y0, hp L b I J) := by
  refine (e104_100 y0).trans ?_
  rfl
/-! 105: VersionVault.reaches(II)I -/
theorem s105_0 {L : Nat} {b : Bool} {I : AI} {J : AJ} (x1 : Int) (x2 : Int)  : ev 105 0 [some (vr 1), some (vi x1), some (vi x2)] [] (hp L b I J) = (evc 54 [vr 23, vi x1] (hp L b I J)).bind (fun q => ev 105 8 [some (vr 1), some (vi x1), some (vi x2)] (q.1 :: []) q.2) := by
  refine (e105_0 x1 x2).trans ?_
  simp only [e105_1, e105_4, e105_5]
theorem s105_8 {L : Nat} {b : Bool} {I : AI} {J : AJ} (x1 : Int) (x2 : Int) (y0 : Int)  : ev 105 8 [some (vr 1), some (vi x1), some (vi x2)] [vi y0] (hp L b I J) = if (y0 : Int) = 0 then (ev 105 22 [none, none, none] [] (hp L b I J)) else ((evc 54 [vr 23, vi x2] (hp L b I J)).bind (fun q => ev 105 19 [some (vr 1), some (vi x1), some (vi x2)] (q.1 :: []) q.2)) := by
  refine (e105_8 x1 x2 y0).trans ?_
  simp only [e105_11, e105_12, e105_15, e105_16]
theorem s105_19 {L : Nat} {b : Bool} {I : AI} {J : AJ} (x1 : Int) (x2 : Int) (y0 : Int)  : ev 105 19 [some (vr 1), some (vi x1), some (vi x2)] [vi y0] (hp L b I J) = if ¬ (y0 : Int) = 0 then ((evc 58 [vr 23, vi x1, vi x2] (hp L b I J)).bind (fun q => ev 105 34 [none, none, none] (q.1 :: []) q.2)) else (ev 105 22 [none, none, none] [] (hp L b I J)) := by
  refine (e105_19 x1 x2 y0).trans ?_
  simp only [e105_25, e105_26, e105_29, e105_30, e105_31]
theorem s105_22 {L : Nat} {b : Bool} {I : AI} {J : AJ}   : ev 105 22 [none, none, none] [] (hp L b I J) = some (vi ((-2)), hp L b I J) := by
  refine (e105_22 ).trans ?_
  simp only [e105_24]
theorem s105_34 {L : Nat} {b : Bool} {I : AI} {J : AJ} (y0 : Int)  : ev 105 34 [none, none, none] [vi y0] (hp L b I J) = if (y0 : Int) = 0 then (some (vi 0, hp L b I J)) else (some (vi 1, hp L b I J)) := by
  refine (e105_34 y0).trans ?_
  simp only [e105_37, e105_38, e105_41, e105_42]
/-! 106: VersionVault.base(III)I -/
theorem s106_0 {L : Nat} {b : Bool} {I : AI} {J : AJ} (x1 : Int) (x2 : Int) (x3 : Int)  : ev 106 0 [some (vr 1), some (vi x1), some (vi x2), some (vi x3), none, none] [] (hp L b I J) = (evc 54 [vr 23, vi x1] (hp L b I J)).bind (fun q => ev 106 8 [some (vr 1), some (vi x1), some (vi x2), some (vi x3), none, none] (q.1 :: []) q.2) := by
  refine (e106_0 x1 x2 x3).trans ?_
  simp only [e106_1, e106_4, e106_5]
theorem s106_8 {L : Nat} {b : Bool} {I : AI} {J : AJ} (x1 : Int) (x2 : Int) (x3 : Int) (y0 : Int)  : ev 106 8 [some (vr 1), some (vi x1), some (vi x2), some (vi x3), none, none] [vi y0] (hp L b I J) = if (y0 : Int) = 0 then (ev 106 26 [none, none, none, none, none, none] [] (hp L b I J)) else ((evc 54 [vr 23, vi x2] (hp L b I J)).bind (fun q => ev 106 19 [some (vr 1), some (vi x1), some (vi x2), some (vi x3), none, none] (q.1 :: []) q.2)) := by
  refine (e106_8 x1 x2 x3 y0).trans ?_
  simp only [e106_11, e106_12, e106_15, e106_16]
theorem s106_19 {L : Nat} {b : Bool} {I : AI} {J : AJ} (x1 : Int) (x2 : Int) (x3 : Int) (y0 : Int)  : ev 106 19 [some (vr 1), some (vi x1), some (vi x2), some (vi x3), none, none] [vi y0] (hp L b I J) = if (y0 : Int) = 0 then (ev 106 26 [none, none, none, none, none, none] [] (hp L b I J)) else (if 0 ≤ (x3 : Int) then ((evc 59 [vr 23, vi x1, vi x2, vr 114] (hp L b I J)).bind (fun q => ev 106 42 [some (vr 1), none, none, some (vi x3), none, none] ([]) q.2)) else (ev 106 26 [none, none, none, none, none, none] [] (hp L b I J))) := by
  refine (e106_19 x1 x2 x3 y0).trans ?_
  simp only [e106_22, e106_23, e106_29, e106_30, e106_33, e106_34, e106_35, e106_36, e106_39]
theorem s106_26 {L : Nat} {b : Bool} {I : AI} {J : AJ}   : ev 106 26 [none, none, none, none, none, none] [] (hp L b I J) = some (vi ((-2)), hp L b I J) := by
  refine (e106_26 ).trans ?_
  simp only [e106_28]
theorem s106_42 {L : Nat} {b : Bool} {I : AI} {J : AJ} (x3 : Int)  : ev 106 42 [some (vr 1), none, none, some (vi x3), none, none] [] (hp L b I J) = ev 106 48 [some (vr 1), none, none, some (vi x3), some (vi 0), some (vi 0)] [] (hp L b I J) := by
  refine (e106_42 x3).trans ?_
  simp only [e106_43, e106_45, e106_46]
theorem s106_48 {L : Nat} {b : Bool} {I : AI} {J : AJ} (x3 : Int) (x4 : Int) (x5 : Int)  : ev 106 48 [some (vr 1), none, none, some (vi x3), some (vi x4), some (vi x5)] [] (hp L b I J) = if 80 ≤ (x5 : Int) then (some (vi ((-1)), hp L b I J)) else ((evc 50 [vr 114, vi x5] (hp L b I J)).bind (fun q => ev 106 64 [some (vr 1), none, none, some (vi x3), some (vi x4), some (vi x5)] (q.1 :: []) q.2)) := by
  refine (e106_48 x3 x4 x5).trans ?_
  simp only [e106_50, e106_52, e106_55, e106_56, e106_59, e106_61, e106_85, e106_86]
theorem s106_64 {L : Nat} {b : Bool} {I : AI} {J : AJ} (x3 : Int) (x4 : Int) (x5 : Int) (y0 : Int)  : ev 106 64 [some (vr 1), none, none, some (vi x3), some (vi x4), some (vi x5)] [vi y0] (hp L b I J) = if (y0 : Int) = 0 then (ev 106 79 [some (vr 1), none, none, some (vi x3), some (vi x4), some (vi x5)] [] (hp L b I J)) else (if ¬ (x4 : Int) = x3 then (gd (-2147483648 ≤ (x4 + 1 : Int) ∧ (x4 + 1 : Int) ≤ 2147483647) (ev 106 79 [some (vr 1), none, none, some (vi x3), some (vi (x4 + 1)), some (vi x5)] [] (hp L b I J))) else (some (vi x5, hp L b I J))) := by
  refine (e106_64 x3 x4 x5 y0).trans ?_
  simp only [e106_67, e106_69, e106_70, e106_73, e106_75, e106_76]
theorem s106_79 {L : Nat} {b : Bool} {I : AI} {J : AJ} (x3 : Int) (x4 : Int) (x5 : Int)  : ev 106 79 [some (vr 1), none, none, some (vi x3), some (vi x4), some (vi x5)] [] (hp L b I J) = gd (-2147483648 ≤ (x5 + 1 : Int) ∧ (x5 + 1 : Int) ≤ 2147483647) (ev 106 48 [some (vr 1), none, none, some (vi x3), some (vi x4), some (vi (x5 + 1))] [] (hp L b I J)) := by
  refine (e106_79 x3 x4 x5).trans ?_
  simp only [e106_82]
/-! 107: VersionVault.head(II)I -/
theorem s107_0 {L : Nat} {b : Bool} {I : AI} {J : AJ} (x1 : Int) (x2 : Int)  : ev 107 0 [some (vr 1), some (vi x1), some (vi x2), none] [] (hp L b I J) = if (x1 : Int) < 0 then (ev 107 21 [none, none, none, none] [] (hp L b I J)) else (if 8 ≤ (x1 : Int) then (ev 107 21 [none, none, none, none] [] (hp L b I J)) else ((evc 55 [vr 23, vi x2] (hp L b I J)).bind (fun q => ev 107 18 [some (vr 1), some (vi x1), some (vi x2), none] (q.1 :: []) q.2))) := by
  refine (e107_0 x1 x2).trans ?_
  simp only [e107_1, e107_4, e107_5, e107_7, e107_10, e107_11, e107_14, e107_15]
theorem s107_18 {L : Nat} {b : Bool} {I : AI} {J : AJ} (x1 : Int) (x2 : Int) (y0 : Int)  : ev 107 18 [some (vr 1), some (vi x1), some (vi x2), none] [vi y0] (hp L b I J) = if ¬ (y0 : Int) = 0 then (if (x2 : Int) = ((-1)) then (ev 107 43 [some (vr 1), some (vi x1), some (vi x2), none] [] (hp L b I J)) else ((evc 31 [vr 110, vi x2] (hp L b I J)).bind (fun q => ev 107 37 [some (vr 1), some (vi x1), some (vi x2), none] (q.1 :: []) q.2))) else (ev 107 21 [none, none, none, none] [] (hp L b I J)) := by
  refine (e107_18 x1 x2 y0).trans ?_
  simp only [e107_24, e107_25, e107_26, e107_29, e107_30, e107_33, e107_34]
theorem s107_21 {L : Nat} {b : Bool} {I : AI} {J : AJ}   : ev 107 21 [none, none, none, none] [] (hp L b I J) = some (vi ((-2)), hp L b I J) := by
  refine (e107_21 ).trans ?_
  simp only [e107_23]
theorem s107_37 {L : Nat} {b : Bool} {I : AI} {J : AJ} (x1 : Int) (x2 : Int) (y0 : Int)  : ev 107 37 [some (vr 1), some (vi x1), some (vi x2), none] [vi y0] (hp L b I J) = if (y0 : Int) = 0 then (ev 107 43 [some (vr 1), some (vi x1), some (vi x2), none] [] (hp L b I J)) else (some (vi ((-2)), hp L b I J)) := by
  refine (e107_37 x1 x2 y0).trans ?_
  simp only [e107_40, e107_42]
theorem s107_43 {L : Nat} {b : Bool} {I : AI} {J : AJ} (x1 : Int) (x2 : Int)  : ev 107 43 [some (vr 1), some (vi x1), some (vi x2), none] [] (hp L b I J) = gd (0 ≤ (x1 : Int) ∧ (x1 : Int) < 8) (gd (0 ≤ (x1 : Int) ∧ (x1 : Int) < 8) (some (vi (I 30 x1), hp L b (upI I 30 x1 x2) J))) := by
  refine (e107_43 x1 x2).trans ?_
  simp only [e107_44, e107_47, e107_50, e107_51, e107_52, e107_53, e107_54, e107_57, e107_60, e107_61, e107_62, e107_63, e107_64]
/-! 108: VersionVault.diff(II)I -/
theorem s108_0 {L : Nat} {b : Bool} {I : AI} {J : AJ} (x1 : Int) (x2 : Int)  : ev 108 0 [some (vr 1), some (vi x1), some (vi x2)] [] (hp L b I J) = (evc 66 [vr 6, vi x1] (hp L b I J)).bind (fun q => ev 108 8 [some (vr 1), some (vi x1), some (vi x2)] (q.1 :: []) q.2) := by
  refine (e108_0 x1 x2).trans ?_
  simp only [e108_1, e108_4, e108_5]
theorem s108_8 {L : Nat} {b : Bool} {I : AI} {J : AJ} (x1 : Int) (x2 : Int) (y0 : Int)  : ev 108 8 [some (vr 1), some (vi x1), some (vi x2)] [vi y0] (hp L b I J) = if (y0 : Int) = 0 then (ev 108 22 [none, none, none] [] (hp L b I J)) else ((evc 66 [vr 6, vi x2] (hp L b I J)).bind (fun q => ev 108 19 [some (vr 1), some (vi x1), some (vi x2)] (q.1 :: []) q.2)) := by
  refine (e108_8 x1 x2 y0).trans ?_
  simp only [e108_11, e108_12, e108_15, e108_16]
theorem s108_19 {L : Nat} {b : Bool} {I : AI} {J : AJ} (x1 : Int) (x2 : Int) (y0 : Int)  : ev 108 19 [some (vr 1), some (vi x1), some (vi x2)] [vi y0] (hp L b I J) = if ¬ (y0 : Int) = 0 then ((evc 76 [vr 6, vi x1, vi x2, vr 32] (hp L b I J)).bind (fun q => ev 108 38 [some (vr 1), some (vi x1), some (vi x2)] ([]) q.2)) else (ev 108 22 [none, none, none] [] (hp L b I J)) := by
  refine (e108_19 x1 x2 y0).trans ?_
  simp only [e108_25, e108_26, e108_29, e108_30, e108_31, e108_32, e108_35]
theorem s108_22 {L : Nat} {b : Bool} {I : AI} {J : AJ}   : ev 108 22 [none, none, none] [] (hp L b I J) = some (vi ((-2)), hp L b I J) := by
  refine (e108_22 ).trans ?_
  simp only [e108_24]
theorem s108_38 {L : Nat} {b : Bool} {I : AI} {J : AJ} (x1 : Int) (x2 : Int)  : ev 108 38 [some (vr 1), some (vi x1), some (vi x2)] [] (hp L b I J) = gd (0 ≤ (x1 : Int) ∧ (x1 : Int) < 120) (gd (0 ≤ (x2 : Int) ∧ (x2 : Int) < 120) (gd (-2147483648 ≤ ((I 8 x1) + (I 8 x2) : Int) ∧ ((I 8 x1) + (I 8 x2) : Int) ≤ 2147483647) (gd (-2147483648 ≤ (2 * (I 32 3) : Int) ∧ (2 * (I 32 3) : Int) ≤ 2147483647) (gd (-2147483648 ≤ (((I 8 x1) + (I 8 x2)) - (2 * (I 32 3)) : Int) ∧ (((I 8 x1) + (I 8 x2)) - (2 * (I 32 3)) : Int) ≤ 2147483647) (some (vi (((I 8 x1) + (I 8 x2)) - (2 * (I 32 3))), hp L b I J)))))) := by
  refine (e108_38 x1 x2).trans ?_
  simp only [e108_39, e108_42, e108_45, e108_46, e108_47, e108_48, e108_51, e108_54, e108_55, e108_56, e108_57, e108_58, e108_59, e108_62, e108_65, e108_66, e108_67]
/-! 109: VersionVault.kept(II)I -/
theorem s109_0 {L : Nat} {b : Bool} {I : AI} {J : AJ} (x1 : Int) (x2 : Int)  : ev 109 0 [some (vr 1), some (vi x1), some (vi x2)] [] (hp L b I J) = if (x1 : Int) < 0 then (ev 109 15 [none, none, none] [] (hp L b I J)) else (if (x1 : Int) < (I 32 3) then (if ¬ (x2 : Int) = 0 then (if ¬ (x2 : Int) = 1 then (some (vi ((-1)), hp L b I J)) else (gd (0 ≤ (x1 : Int) ∧ (x1 : Int) < 24) (some (vi (I 34 x1), hp L b I J)))) else (gd (0 ≤ (x1 : Int) ∧ (x1 : Int) < 24) (some (vi (I 33 x1), hp L b I J)))) else (ev 109 15 [none, none, none] [] (hp L b I J))) := by
  refine (e109_0 x1 x2).trans ?_
  simp only [e109_1, e109_4, e109_5, e109_6, e109_9, e109_12, e109_17, e109_18, e109_21, e109_22, e109_25, e109_28, e109_29, e109_30, e109_31, e109_32, e109_33, e109_36, e109_37, e109_40, e109_43, e109_44, e109_45, e109_48, e109_49]
theorem s109_15 {L : Nat} {b : Bool} {I : AI} {J : AJ}   : ev 109 15 [none, none, none] [] (hp L b I J) = some (vi ((-1)), hp L b I J) := by
  refine (e109_15 ).trans ?_
  simp only [e109_16]
/-! 110: VersionVault.merge(III)I -/
theorem s110_0 {L : Nat} {b : Bool} {I : AI} {J : AJ} (x1 : Int) (x2 : Int) (x3 : Int)  : ev 110 0 [some (vr 1), some (vi x1), some (vi x2), some (vi x3)] [] (hp L b I J) = (evc 66 [vr 6, vi x1] (hp L b I J)).bind (fun q => ev 110 8 [some (vr 1), some (vi x1), some (vi x2), some (vi x3)] (q.1 :: []) q.2) := by
  refine (e110_0 x1 x2 x3).trans ?_
  simp only [e110_1, e110_4, e110_5]
theorem s110_8 {L : Nat} {b : Bool} {I : AI} {J : AJ} (x1 : Int) (x2 : Int) (x3 : Int) (y0 : Int)  : ev 110 8 [some (vr 1), some (vi x1), some (vi x2), some (vi x3)] [vi y0] (hp L b I J) = if (y0 : Int) = 0 then (ev 110 33 [none, none, none, none] [] (hp L b I J)) else ((evc 66 [vr 6, vi x2] (hp L b I J)).bind (fun q => ev 110 19 [some (vr 1), some (vi x1), some (vi x2), some (vi x3)] (q.1 :: []) q.2)) := by
  refine (e110_8 x1 x2 x3 y0).trans ?_
  simp only [e110_11, e110_12, e110_15, e110_16]
theorem s110_19 {L : Nat} {b : Bool} {I : AI} {J : AJ} (x1 : Int) (x2 : Int) (x3 : Int) (y0 : Int)  : ev 110 19 [some (vr 1), some (vi x1), some (vi x2), some (vi x3)] [vi y0] (hp L b I J) = if (y0 : Int) = 0 then (ev 110 33 [none, none, none, none] [] (hp L b I J)) else ((evc 66 [vr 6, vi x3] (hp L b I J)).bind (fun q => ev 110 30 [some (vr 1), some (vi x1), some (vi x2), some (vi x3)] (q.1 :: []) q.2)) := by
  refine (e110_19 x1 x2 x3 y0).trans ?_
  simp only [e110_22, e110_23, e110_26, e110_27]
theorem s110_30 {L : Nat} {b : Bool} {I : AI} {J : AJ} (x1 : Int) (x2 : Int) (x3 : Int) (y0 : Int)  : ev 110 30 [some (vr 1), some (vi x1), some (vi x2), some (vi x3)] [vi y0] (hp L b I J) = if ¬ (y0 : Int) = 0 then ((evc 1 [vr 35, vr 6, vi x1, vi x2, vi x3] (hp L b I J)).bind (fun q => ev 110 50 [some (vr 1), none, none, none] ([]) q.2)) else (ev 110 33 [none, none, none, none] [] (hp L b I J)) := by
  refine (e110_30 x1 x2 x3 y0).trans ?_
  simp only [e110_36, e110_37, e110_40, e110_41, e110_44, e110_45, e110_46, e110_47]
theorem s110_33 {L : Nat} {b : Bool} {I : AI} {J : AJ}   : ev 110 33 [none, none, none, none] [] (hp L b I J) = some (vi ((-2)), hp L b I J) := by
  refine (e110_33 ).trans ?_
  simp only [e110_35]
theorem s110_50 {L : Nat} {b : Bool} {I : AI} {J : AJ}   : ev 110 50 [some (vr 1), none, none, none] [] (hp L b I J) = some (vi (I 35 9), hp L b I J) := by
  refine (e110_50 ).trans ?_
  simp only [e110_51, e110_54, e110_57]
/-! 111: VersionVault.conflict(III)I -/
theorem s111_0 {L : Nat} {b : Bool} {I : AI} {J : AJ} (x1 : Int) (x2 : Int) (x3 : Int)  : ev 111 0 [some (vr 1), some (vi x1), some (vi x2), some (vi x3), none] [] (hp L b I J) = (evc 7 [vr 35, vi x1] (hp L b I J)).bind (fun q => ev 111 8 [some (vr 1), some (vi x1), some (vi x2), some (vi x3), none] (q.1 :: []) q.2) := by
  refine (e111_0 x1 x2 x3).trans ?_
  simp only [e111_1, e111_4, e111_5]
theorem s111_8 {L : Nat} {b : Bool} {I : AI} {J : AJ} (x1 : Int) (x2 : Int) (x3 : Int) (y0 : Int)  : ev 111 8 [some (vr 1), some (vi x1), some (vi x2), some (vi x3), none] [vi y0] (hp L b I J) = if (y0 : Int) = 0 then (ev 111 20 [none, none, none, none, none] [] (hp L b I J)) else (if (x2 : Int) < 0 then (ev 111 20 [none, none, none, none, none] [] (hp L b I J)) else (if (x2 : Int) ≤ 5 then (gd (0 ≤ (x1 : Int) ∧ (x1 : Int) < 25) (if (x2 : Int) < 3 then (if (x3 : Int) < 0 then (ev 111 70 [none, none, none, none, none] [] (hp L b I J)) else ((evc 4 [vr 35, vi (I 44 x1), vi x2] (hp L b I J)).bind (fun q => ev 111 67 [some (vr 1), none, some (vi x2), some (vi x3), some (vi (I 44 x1))] (q.1 :: [vi x3]) q.2))) else (gd (-2147483648 ≤ (x2 - 3 : Int) ∧ (x2 - 3 : Int) ≤ 2147483647) ((evc 4 [vr 35, vi (I 44 x1), vi (x2 - 3)] (hp L b I J)).bind (fun q => ev 111 51 [some (vr 1), none, some (vi x2), none, some (vi (I 44 x1))] (q.1 :: []) q.2))))) else (ev 111 20 [none, none, none, none, none] [] (hp L b I J)))) := by
  refine (e111_8 x1 x2 x3 y0).trans ?_
  simp only [e111_11, e111_12, e111_15, e111_16, e111_17, e111_23, e111_24, e111_27, e111_30, e111_31, e111_32, e111_34, e111_35, e111_36, e111_39, e111_40, e111_43, e111_45, e111_46, e111_47, e111_48, e111_52, e111_53, e111_56, e111_57, e111_58, e111_61, e111_63, e111_64]
theorem s111_20 {L : Nat} {b : Bool} {I : AI} {J : AJ}   : ev 111 20 [none, none, none, none, none] [] (hp L b I J) = some (vi ((-2000000000)), hp L b I J) := by
  refine (e111_20 ).trans ?_
  simp only [e111_22]
theorem s111_51 {L : Nat} {b : Bool} {I : AI} {J : AJ} (x2 : Int) (x4 : Int) (y0 : Int)  : ev 111 51 [some (vr 1), none, some (vi x2), none, some (vi x4)] [vi y0] (hp L b I J) = some (vi y0, hp L b I J) := by
  refine (e111_51 x2 x4 y0).trans ?_
  rfl
theorem s111_67 {L : Nat} {b : Bool} {I : AI} {J : AJ} (x2 : Int) (x3 : Int) (x4 : Int) (y0 : Int) (y1 : Int)  : ev 111 67 [some (vr 1), none, some (vi x2), some (vi x3), some (vi x4)] [vi y0, vi y1] (hp L b I J) = if (y1 : Int) < y0 then ((evc 5 [vr 35, vi x4, vi x2, vi x3] (hp L b I J)).bind (fun q => ev 111 84 [some (vr 1), none, some (vi x2), some (vi x3), some (vi x4)] (q.1 :: []) q.2)) else (ev 111 70 [none, none, none, none, none] [] (hp L b I J)) := by
  refine (e111_67 x2 x3 x4 y0 y1).trans ?_
  simp only [e111_73, e111_74, e111_77, e111_79, e111_80, e111_81]
theorem s111_70 {L : Nat} {b : Bool} {I : AI} {J : AJ}   : ev 111 70 [none, none, none, none, none] [] (hp L b I J) = some (vi ((-2000000000)), hp L b I J) := by
  refine (e111_70 ).trans ?_
  simp only [e111_72]
theorem s111_84 {L : Nat} {b : Bool} {I : AI} {J : AJ} (x2 : Int) (x3 : Int) (x4 : Int) (y0 : Int)  : ev 111 84 [some (vr 1), none, some (vi x2), some (vi x3), some (vi x4)] [vi y0] (hp L b I J) = some (vi y0, hp L b I J) := by
  refine (e111_84 x2 x3 x4 y0).trans ?_
  rfl
/-! 112: VersionVault.settle(II)I -/
theorem s112_0 {L : Nat} {b : Bool} {I : AI} {J : AJ} (x1 : Int) (x2 : Int)  : ev 112 0 [some (vr 1), some (vi x1), some (vi x2), none, none] [] (hp L b I J) = (evc 7 [vr 35, vi x1] (hp L b I J)).bind (fun q => ev 112 8 [some (vr 1), some (vi x1), some (vi x2), none, none] (q.1 :: []) q.2) := by
  refine (e112_0 x1 x2).trans ?_
  simp only [e112_1, e112_4, e112_5]
theorem s112_8 {L : Nat} {b : Bool} {I : AI} {J : AJ} (x1 : Int) (x2 : Int) (y0 : Int)  : ev 112 8 [some (vr 1), some (vi x1), some (vi x2), none, none] [vi y0] (hp L b I J) = if (y0 : Int) = 0 then (ev 112 21 [none, none, none, none, none] [] (hp L b I J)) else (if (x2 : Int) < ((-1)) then (ev 112 21 [none, none, none, none, none] [] (hp L b I J)) else (if (x2 : Int) ≤ 4 then (gd (0 ≤ (x1 : Int) ∧ (x1 : Int) < 25) (gd (0 ≤ (I 44 x1 : Int) ∧ (I 44 x1 : Int) < 25) (gd (0 ≤ (I 44 x1 : Int) ∧ (I 44 x1 : Int) < 25) (some (vi (I 43 (I 44 x1)), hp L b (upI I 43 (I 44 x1) x2) J))))) else (ev 112 21 [none, none, none, none, none] [] (hp L b I J)))) := by
  refine (e112_8 x1 x2 y0).trans ?_
  simp only [e112_11, e112_12, e112_13, e112_16, e112_17, e112_18, e112_24, e112_25, e112_28, e112_31, e112_32, e112_33, e112_34, e112_35, e112_38, e112_41, e112_42, e112_43, e112_45, e112_46, e112_49, e112_52, e112_53, e112_54, e112_55, e112_57]
theorem s112_21 {L : Nat} {b : Bool} {I : AI} {J : AJ}   : ev 112 21 [none, none, none, none, none] [] (hp L b I J) = some (vi ((-2)), hp L b I J) := by
  refine (e112_21 ).trans ?_
  simp only [e112_23]
/-! 113: VersionVault.merged()I -/
theorem s113_0 {L : Nat} {b : Bool} {I : AI} {J : AJ}   : ev 113 0 [some (vr 1)] [] (hp L b I J) = (evc 8 [vr 35] (hp L b I J)).bind (fun q => ev 113 7 [some (vr 1)] (q.1 :: []) q.2) := by
  refine (e113_0 ).trans ?_
  simp only [e113_1, e113_4]
theorem s113_7 {L : Nat} {b : Bool} {I : AI} {J : AJ} (y0 : Int)  : ev 113 7 [some (vr 1)] [vi y0] (hp L b I J) = if ¬ (y0 : Int) = 0 then ((evc 10 [vr 35, vr 3] (hp L b I J)).bind (fun q => ev 113 24 [some (vr 1)] ([]) q.2)) else (some (vi ((-2)), hp L b I J)) := by
  refine (e113_7 y0).trans ?_
  simp only [e113_10, e113_12, e113_13, e113_14, e113_17, e113_18, e113_21]
theorem s113_24 {L : Nat} {b : Bool} {I : AI} {J : AJ}   : ev 113 24 [some (vr 1)] [] (hp L b I J) = some (vi (I 3 1), hp L b I J) := by
  refine (e113_24 ).trans ?_
  simp only [e113_25, e113_28, e113_31]
/-! 114: VersionVault.join(II)I -/
theorem s114_0 {L : Nat} {b : Bool} {I : AI} {J : AJ} (x1 : Int) (x2 : Int)  : ev 114 0 [some (vr 1), some (vi x1), some (vi x2)] [] (hp L b I J) = (evc 19 [vr 51, vi x1, vi x2] (hp L b I J)).bind (fun q => ev 114 9 [some (vr 1), some (vi x1), some (vi x2)] (q.1 :: []) q.2) := by
  refine (e114_0 x1 x2).trans ?_
  simp only [e114_1, e114_4, e114_5, e114_6]
theorem s114_9 {L : Nat} {b : Bool} {I : AI} {J : AJ} (x1 : Int) (x2 : Int) (y0 : Int)  : ev 114 9 [some (vr 1), some (vi x1), some (vi x2)] [vi y0] (hp L b I J) = some (vi y0, hp L b I J) := by
  refine (e114_9 x1 x2 y0).trans ?_
  rfl
/-! 115: VersionVault.joining(I)I -/
theorem s115_0 {L : Nat} {b : Bool} {I : AI} {J : AJ} (x1 : Int)  : ev 115 0 [some (vr 1), some (vi x1)] [] (hp L b I J) = if ¬ (I 51 8 : Int) = 0 then (if (x1 : Int) = 0 then (some (vi (I 51 9), hp L b I J)) else (if (x1 : Int) = 1 then ((evc 27 [vr 51] (hp L b I J)).bind (fun q => ev 115 55 [some (vr 1), none] (q.1 :: []) q.2)) else (if (x1 : Int) = 2 then ((evc 28 [vr 51] (hp L b I J)).bind (fun q => ev 115 63 [some (vr 1), none] (q.1 :: []) q.2)) else (some (vi ((-2)), hp L b I J))))) else (some (vi ((-2)), hp L b I J)) := by
  refine (e115_0 x1).trans ?_
  simp only [e115_1, e115_4, e115_7, e115_10, e115_12, e115_13, e115_14, e115_40, e115_41, e115_44, e115_47, e115_48, e115_49, e115_52, e115_56, e115_57, e115_60, e115_64, e115_66]
theorem s115_55 {L : Nat} {b : Bool} {I : AI} {J : AJ} (y0 : Int)  : ev 115 55 [some (vr 1), none] [vi y0] (hp L b I J) = some (vi y0, hp L b I J) := by
  refine (e115_55 y0).trans ?_
  rfl
theorem s115_63 {L : Nat} {b : Bool} {I : AI} {J : AJ} (y0 : Int)  : ev 115 63 [some (vr 1), none] [vi y0] (hp L b I J) = some (vi y0, hp L b I J) := by
  refine (e115_63 y0).trans ?_
  rfl
/-! 116: VersionVault.becomes(I)I -/
theorem s116_0 {L : Nat} {b : Bool} {I : AI} {J : AJ} (x1 : Int)  : ev 116 0 [some (vr 1), some (vi x1)] [] (hp L b I J) = if (I 51 8 : Int) = 0 then (ev 116 29 [none, none] [] (hp L b I J)) else ((evc 131 [vi x1] (hp L b I J)).bind (fun q => ev 116 14 [some (vr 1), some (vi x1)] (q.1 :: []) q.2)) := by
  refine (e116_0 x1).trans ?_
  simp only [e116_1, e116_4, e116_7, e116_10, e116_11]
theorem s116_14 {L : Nat} {b : Bool} {I : AI} {J : AJ} (x1 : Int) (y0 : Int)  : ev 116 14 [some (vr 1), some (vi x1)] [vi y0] (hp L b I J) = if (y0 : Int) = 0 then (ev 116 29 [none, none] [] (hp L b I J)) else (gd (0 ≤ (x1 : Int) ∧ (x1 : Int) < 16) (some (vi (I 55 x1), hp L b I J))) := by
  refine (e116_14 x1 y0).trans ?_
  simp only [e116_17, e116_18, e116_21, e116_24, e116_25, e116_26, e116_31]
theorem s116_29 {L : Nat} {b : Bool} {I : AI} {J : AJ}   : ev 116 29 [none, none] [] (hp L b I J) = some (vi ((-2)), hp L b I J) := by
  refine (e116_29 ).trans ?_
  simp only [e116_31]
/-! 117: VersionVault.mend(II)I -/
theorem s117_0 {L : Nat} {b : Bool} {I : AI} {J : AJ} (x1 : Int) (x2 : Int)  : ev 117 0 [some (vr 1), some (vi x1), some (vi x2), none] [] (hp L b I J) = if (I 51 8 : Int) = 0 then (ev 117 33 [none, none, none, none] [] (hp L b I J)) else ((evc 131 [vi x1] (hp L b I J)).bind (fun q => ev 117 14 [some (vr 1), some (vi x1), some (vi x2), none] (q.1 :: []) q.2)) := by
  refine (e117_0 x1 x2).trans ?_
  simp only [e117_1, e117_4, e117_7, e117_10, e117_11]
theorem s117_14 {L : Nat} {b : Bool} {I : AI} {J : AJ} (x1 : Int) (x2 : Int) (y0 : Int)  : ev 117 14 [some (vr 1), some (vi x1), some (vi x2), none] [vi y0] (hp L b I J) = if (y0 : Int) = 0 then (ev 117 33 [none, none, none, none] [] (hp L b I J)) else (if (x2 : Int) = ((-1)) then (ev 117 36 [some (vr 1), some (vi x1), some (vi x2), none] [] (hp L b I J)) else ((evc 65 [vr 6, vi x2] (hp L b I J)).bind (fun q => ev 117 30 [some (vr 1), some (vi x1), some (vi x2), none] (q.1 :: []) q.2))) := by
  refine (e117_14 x1 x2 y0).trans ?_
  simp only [e117_17, e117_18, e117_19, e117_22, e117_23, e117_26, e117_27]
theorem s117_30 {L : Nat} {b : Bool} {I : AI} {J : AJ} (x1 : Int) (x2 : Int) (y0 : Int)  : ev 117 30 [some (vr 1), some (vi x1), some (vi x2), none] [vi y0] (hp L b I J) = if ¬ (y0 : Int) = 0 then (ev 117 36 [some (vr 1), some (vi x1), some (vi x2), none] [] (hp L b I J)) else (ev 117 33 [none, none, none, none] [] (hp L b I J)) := by
  refine (e117_30 x1 x2 y0).trans ?_
  rfl
theorem s117_33 {L : Nat} {b : Bool} {I : AI} {J : AJ}   : ev 117 33 [none, none, none, none] [] (hp L b I J) = some (vi ((-2)), hp L b I J) := by
  refine (e117_33 ).trans ?_
  simp only [e117_35]
theorem s117_36 {L : Nat} {b : Bool} {I : AI} {J : AJ} (x1 : Int) (x2 : Int)  : ev 117 36 [some (vr 1), some (vi x1), some (vi x2), none] [] (hp L b I J) = gd (0 ≤ (x1 : Int) ∧ (x1 : Int) < 16) (gd (0 ≤ (x1 : Int) ∧ (x1 : Int) < 16) (some (vi (I 55 x1), hp L b (upI I 55 x1 x2) J))) := by
  refine (e117_36 x1 x2).trans ?_
  simp only [e117_37, e117_40, e117_43, e117_44, e117_45, e117_46, e117_47, e117_50, e117_53, e117_54, e117_55, e117_56, e117_57]
/-! 118: VersionVault.joined()I -/
theorem s118_0 {L : Nat} {b : Bool} {I : AI} {J : AJ}   : ev 118 0 [some (vr 1)] [] (hp L b I J) = (evc 29 [vr 51] (hp L b I J)).bind (fun q => ev 118 7 [some (vr 1)] (q.1 :: []) q.2) := by
  refine (e118_0 ).trans ?_
  simp only [e118_1, e118_4]
theorem s118_7 {L : Nat} {b : Bool} {I : AI} {J : AJ} (y0 : Int)  : ev 118 7 [some (vr 1)] [vi y0] (hp L b I J) = some (vi y0, hp L b I J) := by
  refine (e118_7 y0).trans ?_
  rfl
/-! 119: VersionVault.blame(III)I -/
theorem s119_0 {L : Nat} {b : Bool} {I : AI} {J : AJ} (x1 : Int) (x2 : Int) (x3 : Int)  : ev 119 0 [some (vr 1), some (vi x1), some (vi x2), some (vi x3)] [] (hp L b I J) = (evc 54 [vr 23, vi x1] (hp L b I J)).bind (fun q => ev 119 8 [some (vr 1), some (vi x1), some (vi x2), some (vi x3)] (q.1 :: []) q.2) := by
  refine (e119_0 x1 x2 x3).trans ?_
  simp only [e119_1, e119_4, e119_5]
theorem s119_8 {L : Nat} {b : Bool} {I : AI} {J : AJ} (x1 : Int) (x2 : Int) (x3 : Int) (y0 : Int)  : ev 119 8 [some (vr 1), some (vi x1), some (vi x2), some (vi x3)] [vi y0] (hp L b I J) = if (y0 : Int) = 0 then (ev 119 31 [none, none, none, none] [] (hp L b I J)) else ((evc 131 [vi x2] (hp L b I J)).bind (fun q => ev 119 15 [some (vr 1), some (vi x1), some (vi x2), some (vi x3)] (q.1 :: []) q.2)) := by
  refine (e119_8 x1 x2 x3 y0).trans ?_
  simp only [e119_11, e119_12]
theorem s119_15 {L : Nat} {b : Bool} {I : AI} {J : AJ} (x1 : Int) (x2 : Int) (x3 : Int) (y0 : Int)  : ev 119 15 [some (vr 1), some (vi x1), some (vi x2), some (vi x3)] [vi y0] (hp L b I J) = if (y0 : Int) = 0 then (ev 119 31 [none, none, none, none] [] (hp L b I J)) else ((evc 83 [vr 104, vi x1, vi x2, vi x3] (hp L b I J)).bind (fun q => ev 119 28 [none, none, none, none] (q.1 :: []) q.2)) := by
  refine (e119_15 x1 x2 x3 y0).trans ?_
  simp only [e119_18, e119_19, e119_22, e119_23, e119_24, e119_25]
theorem s119_28 {L : Nat} {b : Bool} {I : AI} {J : AJ} (y0 : Int)  : ev 119 28 [none, none, none, none] [vi y0] (hp L b I J) = some (vi y0, hp L b I J) := by
  refine (e119_28 y0).trans ?_
  simp only [e119_33]
theorem s119_31 {L : Nat} {b : Bool} {I : AI} {J : AJ}   : ev 119 31 [none, none, none, none] [] (hp L b I J) = some (vi ((-2)), hp L b I J) := by
  refine (e119_31 ).trans ?_
  simp only [e119_33]
/-! 120: VersionVault.renamed(II)I -/
theorem s120_0 {L : Nat} {b : Bool} {I : AI} {J : AJ} (x1 : Int) (x2 : Int)  : ev 120 0 [some (vr 1), some (vi x1), some (vi x2)] [] (hp L b I J) = (evc 54 [vr 23, vi x1] (hp L b I J)).bind (fun q => ev 120 8 [some (vr 1), some (vi x1), some (vi x2)] (q.1 :: []) q.2) := by
  refine (e120_0 x1 x2).trans ?_
  simp only [e120_1, e120_4, e120_5]
theorem s120_8 {L : Nat} {b : Bool} {I : AI} {J : AJ} (x1 : Int) (x2 : Int) (y0 : Int)  : ev 120 8 [some (vr 1), some (vi x1), some (vi x2)] [vi y0] (hp L b I J) = if (y0 : Int) = 0 then (ev 120 30 [none, none, none] [] (hp L b I J)) else ((evc 131 [vi x2] (hp L b I J)).bind (fun q => ev 120 15 [some (vr 1), some (vi x1), some (vi x2)] (q.1 :: []) q.2)) := by
  refine (e120_8 x1 x2 y0).trans ?_
  simp only [e120_11, e120_12]
theorem s120_15 {L : Nat} {b : Bool} {I : AI} {J : AJ} (x1 : Int) (x2 : Int) (y0 : Int)  : ev 120 15 [some (vr 1), some (vi x1), some (vi x2)] [vi y0] (hp L b I J) = if (y0 : Int) = 0 then (ev 120 30 [none, none, none] [] (hp L b I J)) else ((evc 85 [vr 104, vi x1, vi x2] (hp L b I J)).bind (fun q => ev 120 27 [none, none, none] (q.1 :: []) q.2)) := by
  refine (e120_15 x1 x2 y0).trans ?_
  simp only [e120_18, e120_19, e120_22, e120_23, e120_24]
theorem s120_27 {L : Nat} {b : Bool} {I : AI} {J : AJ} (y0 : Int)  : ev 120 27 [none, none, none] [vi y0] (hp L b I J) = some (vi y0, hp L b I J) := by
  refine (e120_27 y0).trans ?_
  simp only [e120_32]
theorem s120_30 {L : Nat} {b : Bool} {I : AI} {J : AJ}   : ev 120 30 [none, none, none] [] (hp L b I J) = some (vi ((-2)), hp L b I J) := by
  refine (e120_30 ).trans ?_
  simp only [e120_32]
/-! 121: VersionVault.mark(II)I -/
theorem s121_0 {L : Nat} {b : Bool} {I : AI} {J : AJ} (x1 : Int) (x2 : Int)  : ev 121 0 [some (vr 1), some (vi x1), some (vi x2), none] [] (hp L b I J) = (evc 54 [vr 23, vi x1] (hp L b I J)).bind (fun q => ev 121 8 [some (vr 1), some (vi x1), some (vi x2), none] (q.1 :: []) q.2) := by
  refine (e121_0 x1 x2).trans ?_
  simp only [e121_1, e121_4, e121_5]
theorem s121_8 {L : Nat} {b : Bool} {I : AI} {J : AJ} (x1 : Int) (x2 : Int) (y0 : Int)  : ev 121 8 [some (vr 1), some (vi x1), some (vi x2), none] [vi y0] (hp L b I J) = if (y0 : Int) = 0 then (ev 121 20 [none, none, none, none] [] (hp L b I J)) else (if (x2 : Int) < 0 then (ev 121 20 [none, none, none, none] [] (hp L b I J)) else (if (x2 : Int) ≤ 2 then (gd (0 ≤ (x1 : Int) ∧ (x1 : Int) < 80) (gd (0 ≤ (x1 : Int) ∧ (x1 : Int) < 80) (some (vi (I 27 x1), hp L b (upI I 27 x1 x2) J)))) else (ev 121 20 [none, none, none, none] [] (hp L b I J)))) := by
  refine (e121_8 x1 x2 y0).trans ?_
  simp only [e121_11, e121_12, e121_15, e121_16, e121_17, e121_23, e121_24, e121_27, e121_30, e121_31, e121_32, e121_33, e121_34, e121_37, e121_40, e121_41, e121_42, e121_43, e121_44]
theorem s121_20 {L : Nat} {b : Bool} {I : AI} {J : AJ}   : ev 121 20 [none, none, none, none] [] (hp L b I J) = some (vi ((-2)), hp L b I J) := by
  refine (e121_20 ).trans ?_
  simp only [e121_22]
/-! 122: VersionVault.question()I -/
theorem s122_0 {L : Nat} {b : Bool} {I : AI} {J : AJ}   : ev 122 0 [some (vr 1)] [] (hp L b I J) = (evc 61 [vr 23, vr 114] (hp L b I J)).bind (fun q => ev 122 11 [some (vr 1)] ([]) q.2) := by
  refine (e122_0 ).trans ?_
  simp only [e122_1, e122_4, e122_5, e122_8]
theorem s122_11 {L : Nat} {b : Bool} {I : AI} {J : AJ}   : ev 122 11 [some (vr 1)] [] (hp L b I J) = (evc 51 [vr 114] (hp L b I J)).bind (fun q => ev 122 18 [some (vr 1)] (q.1 :: []) q.2) := by
  refine (e122_11 ).trans ?_
  simp only [e122_12, e122_15]
theorem s122_18 {L : Nat} {b : Bool} {I : AI} {J : AJ} (y0 : Int)  : ev 122 18 [some (vr 1)] [vi y0] (hp L b I J) = some (vi y0, hp L b I J) := by
  refine (e122_18 y0).trans ?_
  rfl
/-! 123: VersionVault.ask()I -/
theorem s123_0 {L : Nat} {b : Bool} {I : AI} {J : AJ}   : ev 123 0 [some (vr 1)] [] (hp L b I J) = (evc 61 [vr 23, vr 114] (hp L b I J)).bind (fun q => ev 123 11 [some (vr 1)] ([]) q.2) := by
  refine (e123_0 ).trans ?_
  simp only [e123_1, e123_4, e123_5, e123_8]
theorem s123_11 {L : Nat} {b : Bool} {I : AI} {J : AJ}   : ev 123 11 [some (vr 1)] [] (hp L b I J) = (evc 51 [vr 114] (hp L b I J)).bind (fun q => ev 123 18 [some (vr 1)] (q.1 :: []) q.2) := by
  refine (e123_11 ).trans ?_
  simp only [e123_12, e123_15]
theorem s123_18 {L : Nat} {b : Bool} {I : AI} {J : AJ} (y0 : Int)  : ev 123 18 [some (vr 1)] [vi y0] (hp L b I J) = if 2 ≤ (y0 : Int) then ((evc 62 [vr 23, vr 114] (hp L b I J)).bind (fun q => ev 123 37 [some (vr 1)] (q.1 :: []) q.2)) else (ev 123 37 [none] [vi ((-1))] (hp L b I J)) := by
  refine (e123_18 y0).trans ?_
  simp only [e123_19, e123_22, e123_23, e123_26, e123_27, e123_30, e123_31, e123_34]
theorem s123_37 {L : Nat} {b : Bool} {I : AI} {J : AJ} (x0 : Option AV) (y0 : Int)  : ev 123 37 [x0] [vi y0] (hp L b I J) = some (vi y0, hp L b I J) := by
  refine (e123_37 x0 y0).trans ?_
  rfl
/-! 124: VersionVault.found()I -/
theorem s124_0 {L : Nat} {b : Bool} {I : AI} {J : AJ}   : ev 124 0 [some (vr 1)] [] (hp L b I J) = (evc 61 [vr 23, vr 114] (hp L b I J)).bind (fun q => ev 124 11 [some (vr 1)] ([]) q.2) := by
  refine (e124_0 ).trans ?_
  simp only [e124_1, e124_4, e124_5, e124_8]
theorem s124_11 {L : Nat} {b : Bool} {I : AI} {J : AJ}   : ev 124 11 [some (vr 1)] [] (hp L b I J) = (evc 51 [vr 114] (hp L b I J)).bind (fun q => ev 124 18 [some (vr 1)] (q.1 :: []) q.2) := by
  refine (e124_11 ).trans ?_
  simp only [e124_12, e124_15]
theorem s124_18 {L : Nat} {b : Bool} {I : AI} {J : AJ} (y0 : Int)  : ev 124 18 [some (vr 1)] [vi y0] (hp L b I J) = if ¬ (y0 : Int) = 1 then (some (vi ((-1)), hp L b I J)) else ((evc 60 [vr 23] (hp L b I J)).bind (fun q => ev 124 29 [none] (q.1 :: []) q.2)) := by
  refine (e124_18 y0).trans ?_
  simp only [e124_19, e124_22, e124_23, e124_26, e124_32, e124_33]
theorem s124_29 {L : Nat} {b : Bool} {I : AI} {J : AJ} (y0 : Int)  : ev 124 29 [none] [vi y0] (hp L b I J) = some (vi y0, hp L b I J) := by
  refine (e124_29 y0).trans ?_
  simp only [e124_33]
/-! 125: VersionVault.pack()I -/
theorem s125_0 {L : Nat} {b : Bool} {I : AI} {J : AJ}   : ev 125 0 [some (vr 1)] [] (hp L b I J) = (evc 78 [vr 6] (hp L b I J)).bind (fun q => ev 125 7 [some (vr 1)] ([]) q.2) := by
  refine (e125_0 ).trans ?_
  simp only [e125_1, e125_4]
theorem s125_7 {L : Nat} {b : Bool} {I : AI} {J : AJ}   : ev 125 7 [some (vr 1)] [] (hp L b I J) = (evc 81 [vr 6, vi 1] (hp L b I J)).bind (fun q => ev 125 15 [some (vr 1)] (q.1 :: []) q.2) := by
  refine (e125_7 ).trans ?_
  simp only [e125_8, e125_11, e125_12]
theorem s125_15 {L : Nat} {b : Bool} {I : AI} {J : AJ} (y0 : Int)  : ev 125 15 [some (vr 1)] [vi y0] (hp L b I J) = some (vi y0, hp L b I J) := by
  refine (e125_15 y0).trans ?_
  rfl
/-! 126: VersionVault.stem(I)I -/
theorem s126_0 {L : Nat} {b : Bool} {I : AI} {J : AJ} (x1 : Int)  : ev 126 0 [some (vr 1), some (vi x1)] [] (hp L b I J) = (evc 65 [vr 6, vi x1] (hp L b I J)).bind (fun q => ev 126 8 [some (vr 1), some (vi x1)] (q.1 :: []) q.2) := by
  refine (e126_0 x1).trans ?_
  simp only [e126_1, e126_4, e126_5]
theorem s126_8 {L : Nat} {b : Bool} {I : AI} {J : AJ} (x1 : Int) (y0 : Int)  : ev 126 8 [some (vr 1), some (vi x1)] [vi y0] (hp L b I J) = if (y0 : Int) = 0 then (some (vi ((-2)), hp L b I J)) else (gd (0 ≤ (x1 : Int) ∧ (x1 : Int) < 120) (some (vi (I 10 x1), hp L b I J))) := by
  refine (e126_8 x1 y0).trans ?_
  simp only [e126_11, e126_12, e126_15, e126_18, e126_19, e126_20, e126_23, e126_25]
/-! 127: VersionVault.units()I -/
theorem s127_0 {L : Nat} {b : Bool} {I : AI} {J : AJ}   : ev 127 0 [some (vr 1)] [] (hp L b I J) = (evc 80 [vr 6] (hp L b I J)).bind (fun q => ev 127 7 [some (vr 1)] (q.1 :: []) q.2) := by
  refine (e127_0 ).trans ?_
  simp only [e127_1, e127_4]
theorem s127_7 {L : Nat} {b : Bool} {I : AI} {J : AJ} (y0 : Int)  : ev 127 7 [some (vr 1)] [vi y0] (hp L b I J) = some (vi y0, hp L b I J) := by
  refine (e127_7 y0).trans ?_
  rfl
/-! 128: VersionVault.sweep()I -/
theorem s128_0 {L : Nat} {b : Bool} {I : AI} {J : AJ}   : ev 128 0 [some (vr 1)] [] (hp L b I J) = (evc 35 [vr 110] (hp L b I J)).bind (fun q => ev 128 7 [some (vr 1)] (q.1 :: []) q.2) := by
  refine (e128_0 ).trans ?_
  simp only [e128_1, e128_4]
theorem s128_7 {L : Nat} {b : Bool} {I : AI} {J : AJ} (y0 : Int)  : ev 128 7 [some (vr 1)] [vi y0] (hp L b I J) = some (vi y0, hp L b I J) := by
  refine (e128_7 y0).trans ?_
  rfl
/-! 129: VersionVault.lose(I)I -/
theorem s129_0 {L : Nat} {b : Bool} {I : AI} {J : AJ} (x1 : Int)  : ev 129 0 [some (vr 1), some (vi x1)] [] (hp L b I J) = (evc 65 [vr 6, vi x1] (hp L b I J)).bind (fun q => ev 129 8 [some (vr 1), some (vi x1)] (q.1 :: []) q.2) := by
  refine (e129_0 x1).trans ?_
  simp only [e129_1, e129_4, e129_5]
theorem s129_8 {L : Nat} {b : Bool} {I : AI} {J : AJ} (x1 : Int) (y0 : Int)  : ev 129 8 [some (vr 1), some (vi x1)] [vi y0] (hp L b I J) = if ¬ (y0 : Int) = 0 then (gd (0 ≤ (x1 : Int) ∧ (x1 : Int) < 120) (if ¬ (I 9 x1 : Int) = 2 then (gd (0 ≤ (x1 : Int) ∧ (x1 : Int) < 120) (gd (0 ≤ (x1 : Int) ∧ (x1 : Int) < 120) (some (vi 1, hp L b (upI (upI I 9 x1 2) 10 x1 ((-1))) J)))) else (some (vi 0, hp L b I J)))) else (some (vi ((-2)), hp L b I J)) := by
  refine (e129_8 x1 y0).trans ?_
  simp only [e129_11, e129_13, e129_14, e129_15, e129_18, e129_21, e129_22, e129_23, e129_24, e129_27, e129_28, e129_29, e129_30, e129_33, e129_36, e129_37, e129_38, e129_39, e129_40, e129_43, e129_46, e129_47, e129_48, e129_49, e129_50]
/-! 130: VersionVault.count(I)I -/
theorem s130_0 {L : Nat} {b : Bool} {I : AI} {J : AJ} (x1 : Int)  : ev 130 0 [some (vr 1), some (vi x1)] [] (hp L b I J) = if (x1 : Int) = 0 then (some (vi (I 6 9), hp L b I J)) else (if (x1 : Int) = 1 then (some (vi (I 20 2), hp L b I J)) else (if (x1 : Int) = 2 then (some (vi (I 23 8), hp L b I J)) else (if (x1 : Int) = 3 then ((evc 81 [vr 6, vi 3] (hp L b I J)).bind (fun q => ev 130 91 [none, none] (q.1 :: [vi (I 6 9)]) q.2)) else (if (x1 : Int) = 4 then ((evc 47 [vr 20] (hp L b I J)).bind (fun q => ev 130 100 [some (vr 1), none] (q.1 :: []) q.2)) else (if (x1 : Int) = 5 then (some (vi (I 3 1), hp L b I J)) else (if (x1 : Int) = 6 then ((evc 132 [vr 5] (hp L b I J)).bind (fun q => ev 130 116 [some (vr 1), none] (q.1 :: []) q.2)) else (if (x1 : Int) = 7 then ((evc 81 [vr 6, vi 2] (hp L b I J)).bind (fun q => ev 130 125 [some (vr 1), none] (q.1 :: []) q.2)) else (if (x1 : Int) = 8 then ((evc 34 [vr 110] (hp L b I J)).bind (fun q => ev 130 133 [some (vr 1), none] (q.1 :: []) q.2)) else (some (vi ((-2)), hp L b I J)))))))))) := by
  refine (e130_0 x1).trans ?_
  simp only [e130_1, e130_52, e130_53, e130_56, e130_59, e130_60, e130_61, e130_64, e130_67, e130_68, e130_69, e130_72, e130_75, e130_76, e130_77, e130_80, e130_83, e130_84, e130_87, e130_88, e130_93, e130_94, e130_97, e130_101, e130_102, e130_105, e130_108, e130_109, e130_110, e130_113, e130_117, e130_118, e130_121, e130_122, e130_126, e130_127, e130_130, e130_134, e130_136]
theorem s130_91 {L : Nat} {b : Bool} {I : AI} {J : AJ} (y0 : Int) (y1 : Int)  : ev 130 91 [none, none] [vi y0, vi y1] (hp L b I J) = gd (-2147483648 ≤ (y1 - y0 : Int) ∧ (y1 - y0 : Int) ≤ 2147483647) (some (vi (y1 - y0), hp L b I J)) := by
  refine (e130_91 y0 y1).trans ?_
  simp only [e130_92]
theorem s130_100 {L : Nat} {b : Bool} {I : AI} {J : AJ} (y0 : Int)  : ev 130 100 [some (vr 1), none] [vi y0] (hp L b I J) = some (vi y0, hp L b I J) := by
  refine (e130_100 y0).trans ?_
  rfl
theorem s130_116 {L : Nat} {b : Bool} {I : AI} {J : AJ} (y0 : Int)  : ev 130 116 [some (vr 1), none] [vi y0] (hp L b I J) = some (vi y0, hp L b I J) := by
  refine (e130_116 y0).trans ?_
  rfl
theorem s130_125 {L : Nat} {b : Bool} {I : AI} {J : AJ} (y0 : Int)  : ev 130 125 [some (vr 1), none] [vi y0] (hp L b I J) = some (vi y0, hp L b I J) := by
  refine (e130_125 y0).trans ?_
  rfl
theorem s130_133 {L : Nat} {b : Bool} {I : AI} {J : AJ} (y0 : Int)  : ev 130 133 [some (vr 1), none] [vi y0] (hp L b I J) = some (vi y0, hp L b I J) := by
  refine (e130_133 y0).trans ?_
  rfl
/-! 131: VersionVault.isName(I)Z -/
theorem s131_0 {L : Nat} {b : Bool} {I : AI} {J : AJ} (x0 : Int)  : ev 131 0 [some (vi x0)] [] (hp L b I J) = if (x0 : Int) < 0 then (ev 131 14 [none] [] (hp L b I J)) else (if 16 ≤ (x0 : Int) then (ev 131 14 [none] [] (hp L b I J)) else (gd ((1 : Int) = 0 ∨ (1 : Int) = 1) (some (vi 1, hp L b I J)))) := by
  refine (e131_0 x0).trans ?_
  simp only [e131_1, e131_4, e131_5, e131_7, e131_10, e131_11, e131_15]
theorem s131_14 {L : Nat} {b : Bool} {I : AI} {J : AJ}   : ev 131 14 [none] [] (hp L b I J) = gd ((0 : Int) = 0 ∨ (0 : Int) = 1) (some (vi 0, hp L b I J)) := by
  refine (e131_14 ).trans ?_
  simp only [e131_15]
/-! 132: VersionVault.namesIn([I)I -/
theorem s132_0 {L : Nat} {b : Bool} {I : AI} {J : AJ} (x0 : Nat)  : ev 132 0 [some (vr x0), none, none] [] (hp L b I J) = ev 132 4 [some (vr x0), some (vi 0), some (vi 0)] [] (hp L b I J) := by
  refine (e132_0 x0).trans ?_
  simp only [e132_1, e132_2, e132_3]
theorem s132_4 {L : Nat} {b : Bool} {I : AI} {J : AJ} (x0 : Nat) (x1 : Int) (x2 : Int) (hx0 : (hk L b)[x0]? = some (0, 16)) (h0x0 : 0 < x0) : ev 132 4 [some (vr x0), some (vi x1), some (vi x2)] [] (hp L b I J) = if 16 ≤ (x2 : Int) then (ev 132 32 [none, some (vi x1), none] [] (hp L b I J)) else (if ((16 : Int)) ≤ (x2 : Int) then (ev 132 32 [none, some (vi x1), none] [] (hp L b I J)) else (gd (0 ≤ (x2 : Int) ∧ (x2 : Int) < 16) (if (I x0 x2 : Int) = ((-1)) then (ev 132 26 [some (vr x0), some (vi x1), some (vi x2)] [] (hp L b I J)) else (gd (-2147483648 ≤ (x1 + 1 : Int) ∧ (x1 + 1 : Int) ≤ 2147483647) (ev 132 26 [some (vr x0), some (vi (x1 + 1)), some (vi x2)] [] (hp L b I J)))))) := by
  refine (e132_4 x0 x1 x2).trans ?_
  simp only [e132_5, e132_7, e132_10, e132_11, e132_12, e132_13, e132_16, e132_17, e132_18, e132_19, e132_20, e132_23, h0x0, hx0]
theorem s132_26 {L : Nat} {b : Bool} {I : AI} {J : AJ} (x0 : Nat) (x1 : Int) (x2 : Int)  : ev 132 26 [some (vr x0), some (vi x1), some (vi x2)] [] (hp L b I J) = gd (-2147483648 ≤ (x2 + 1 : Int) ∧ (x2 + 1 : Int) ≤ 2147483647) (ev 132 4 [some (vr x0), some (vi x1), some (vi (x2 + 1))] [] (hp L b I J)) := by
  refine (e132_26 x0 x1 x2).trans ?_
  simp only [e132_29]
theorem s132_32 {L : Nat} {b : Bool} {I : AI} {J : AJ} (x1 : Int)  : ev 132 32 [none, some (vi x1), none] [] (hp L b I J) = some (vi x1, hp L b I J) := by
  refine (e132_32 x1).trans ?_
  simp only [e132_33]
/-! 134: VersionVaultModel.isText(I)Z -/
theorem s134_0 {L : Nat} {b : Bool} {I : AI} {J : AJ} (x1 : Int)  : ev 134 0 [some (vr 115), some (vi x1)] [] (hp L b I J) = if (x1 : Int) < 0 then (ev 134 16 [none, none] [] (hp L b I J)) else (if (I 115 5) ≤ (x1 : Int) then (ev 134 16 [none, none] [] (hp L b I J)) else (gd ((1 : Int) = 0 ∨ (1 : Int) = 1) (some (vi 1, hp L b I J)))) := by
  refine (e134_0 x1).trans ?_
  simp only [e134_1, e134_4, e134_5, e134_6, e134_9, e134_12, e134_13, e134_17]
theorem s134_16 {L : Nat} {b : Bool} {I : AI} {J : AJ}   : ev 134 16 [none, none] [] (hp L b I J) = gd ((0 : Int) = 0 ∨ (0 : Int) = 1) (some (vi 0, hp L b I J)) := by
  refine (e134_16 ).trans ?_
  simp only [e134_17]
/-! 135: VersionVaultModel.isThere(I)Z -/
theorem s135_0 {L : Nat} {b : Bool} {I : AI} {J : AJ} (x1 : Int)  : ev 135 0 [some (vr 115), some (vi x1)] [] (hp L b I J) = (evc 134 [vr 115, vi x1] (hp L b I J)).bind (fun q => ev 135 5 [some (vr 115), some (vi x1)] (q.1 :: []) q.2) := by
  refine (e135_0 x1).trans ?_
  simp only [e135_1, e135_2]
theorem s135_5 {L : Nat} {b : Bool} {I : AI} {J : AJ} (x1 : Int) (y0 : Int)  : ev 135 5 [some (vr 115), some (vi x1)] [vi y0] (hp L b I J) = if (y0 : Int) = 0 then (ev 135 21 [none, none] [] (hp L b I J)) else (gd (0 ≤ (x1 : Int) ∧ (x1 : Int) < 120) (if ¬ (I 119 x1 : Int) = 0 then (ev 135 21 [none, none] [] (hp L b I J)) else (gd ((1 : Int) = 0 ∨ (1 : Int) = 1) (some (vi 1, hp L b I J))))) := by
  refine (e135_5 x1 y0).trans ?_
  simp only [e135_8, e135_9, e135_12, e135_13, e135_14, e135_17, e135_18, e135_22]
theorem s135_21 {L : Nat} {b : Bool} {I : AI} {J : AJ}   : ev 135 21 [none, none] [] (hp L b I J) = gd ((0 : Int) = 0 ∨ (0 : Int) = 1) (some (vi 0, hp L b I J)) := by
  refine (e135_21 ).trans ?_
  simp only [e135_22]
/-! 136: VersionVaultModel.lostFor(I)I -/
theorem s136_0 {L : Nat} {b : Bool} {I : AI} {J : AJ} (x1 : Int)  : ev 136 0 [some (vr 115), some (vi x1), none] [] (hp L b I J) = ev 136 2 [some (vr 115), none, some (vi x1)] [] (hp L b I J) := by
  refine (e136_0 x1).trans ?_
  simp only [e136_1]
theorem s136_2 {L : Nat} {b : Bool} {I : AI} {J : AJ} (x2 : Int)  : ev 136 2 [some (vr 115), none, some (vi x2)] [] (hp L b I J) = if (x2 : Int) < 0 then (ev 136 25 [none, none, some (vi x2)] [] (hp L b I J)) else (gd (0 ≤ (x2 : Int) ∧ (x2 : Int) < 120) (if ¬ (I 118 x2 : Int) = 0 then (ev 136 25 [none, none, some (vi x2)] [] (hp L b I J)) else (gd (0 ≤ (x2 : Int) ∧ (x2 : Int) < 120) (ev 136 2 [some (vr 115), none, some (vi (I 120 x2))] [] (hp L b I J))))) := by
  refine (e136_2 x2).trans ?_
  simp only [e136_3, e136_6, e136_7, e136_10, e136_11, e136_12, e136_15, e136_16, e136_19, e136_20, e136_21, e136_22]
theorem s136_25 {L : Nat} {b : Bool} {I : AI} {J : AJ} (x2 : Int)  : ev 136 25 [none, none, some (vi x2)] [] (hp L b I J) = some (vi x2, hp L b I J) := by
  refine (e136_25 x2).trans ?_
  simp only [e136_26]
/-! 137: VersionVaultModel.canRead(I)Z -/
theorem s137_0 {L : Nat} {b : Bool} {I : AI} {J : AJ} (x1 : Int)  : ev 137 0 [some (vr 115), some (vi x1)] [] (hp L b I J) = (evc 135 [vr 115, vi x1] (hp L b I J)).bind (fun q => ev 137 5 [some (vr 115), some (vi x1)] (q.1 :: []) q.2) := by
  refine (e137_0 x1).trans ?_
  simp only [e137_1, e137_2]
theorem s137_5 {L : Nat} {b : Bool} {I : AI} {J : AJ} (x1 : Int) (y0 : Int)  : ev 137 5 [some (vr 115), some (vi x1)] [vi y0] (hp L b I J) = if (y0 : Int) = 0 then (ev 137 20 [none, none] [] (hp L b I J)) else ((evc 136 [vr 115, vi x1] (hp L b I J)).bind (fun q => ev 137 13 [none, none] (q.1 :: []) q.2)) := by
  refine (e137_5 x1 y0).trans ?_
  simp only [e137_8, e137_9, e137_10]
theorem s137_13 {L : Nat} {b : Bool} {I : AI} {J : AJ} (y0 : Int)  : ev 137 13 [none, none] [vi y0] (hp L b I J) = if 0 ≤ (y0 : Int) then (ev 137 20 [none, none] [] (hp L b I J)) else (gd ((1 : Int) = 0 ∨ (1 : Int) = 1) (some (vi 1, hp L b I J))) := by
  refine (e137_13 y0).trans ?_
  simp only [e137_16, e137_17, e137_21]
theorem s137_20 {L : Nat} {b : Bool} {I : AI} {J : AJ}   : ev 137 20 [none, none] [] (hp L b I J) = gd ((0 : Int) = 0 ∨ (0 : Int) = 1) (some (vi 0, hp L b I J)) := by
  refine (e137_20 ).trans ?_
  simp only [e137_21]
/-! 138: VersionVaultModel.add(I)I -/
theorem s138_0 {L : Nat} {b : Bool} {I : AI} {J : AJ} (x1 : Int)  : ev 138 0 [some (vr 115), some (vi x1)] [] (hp L b I J) = if ¬ (I 115 7 : Int) = 24 then (gd (0 ≤ (I 115 7 : Int) ∧ (I 115 7 : Int) < 24) (gd (-2147483648 ≤ (((upI I 121 (I 115 7) x1) 115 7) + 1 : Int) ∧ (((upI I 121 (I 115 7) x1) 115 7) + 1 : Int) ≤ 2147483647) (some (vi ((upI (upI I 121 (I 115 7) x1) 115 7 (((upI I 121 (I 115 7) x1) 115 7) + 1)) 115 7), hp L b (upI (upI I 121 (I 115 7) x1) 115 7 (((upI I 121 (I 115 7) x1) 115 7) + 1)) J)))) else (some (vi ((-2)), hp L b I J)) := by
  refine (e138_0 x1).trans ?_
  simp only [e138_1, e138_4, e138_6, e138_9, e138_11, e138_12, e138_13, e138_16, e138_17, e138_20, e138_21, e138_22, e138_23, e138_24, e138_27, e138_28, e138_29, e138_32, e138_33, e138_36]
/-! 139: VersionVaultModel.wipe()I -/
theorem s139_0 {L : Nat} {b : Bool} {I : AI} {J : AJ}   : ev 139 0 [some (vr 115), none] [] (hp L b I J) = some (vi (I 115 7), hp L b (upI I 115 7 0) J) := by
  refine (e139_0 ).trans ?_
  simp only [e139_1, e139_4, e139_5, e139_6, e139_7, e139_10, e139_11]
/-! 140: VersionVaultModel.draft(I)I -/
theorem s140_0 {L : Nat} {b : Bool} {I : AI} {J : AJ} (x1 : Int)  : ev 140 0 [some (vr 115), some (vi x1)] [] (hp L b I J) = if (x1 : Int) < 0 then (ev 140 21 [none, none] [] (hp L b I J)) else (if (I 115 7) ≤ (x1 : Int) then (ev 140 21 [none, none] [] (hp L b I J)) else (gd (0 ≤ (x1 : Int) ∧ (x1 : Int) < 24) (some (vi (I 121 x1), hp L b I J)))) := by
  refine (e140_0 x1).trans ?_
  simp only [e140_1, e140_4, e140_5, e140_6, e140_9, e140_12, e140_13, e140_16, e140_17, e140_18, e140_22]
theorem s140_21 {L : Nat} {b : Bool} {I : AI} {J : AJ}   : ev 140 21 [none, none] [] (hp L b I J) = some (vi 0, hp L b I J) := by
  refine (e140_21 ).trans ?_
  simp only [e140_22]
/-! 141: VersionVaultModel.findText([III)I -/
theorem s141_0 {L : Nat} {b : Bool} {I : AI} {J : AJ} (x1 : Nat) (x2 : Int) (x3 : Int)  : ev 141 0 [some (vr 115), some (vr x1), some (vi x2), some (vi x3), none, none, none, none] [] (hp L b I J) = ev 141 6 [some (vr 115), some (vr x1), some (vi x2), some (vi x3), some (vi ((-1))), some (vi 0), none, none] [] (hp L b I J) := by
  refine (e141_0 x1 x2 x3).trans ?_
  simp only [e141_1, e141_3, e141_4]
theorem s141_6 {L : Nat} {b : Bool} {I : AI} {J : AJ} (x1 : Nat) (x2 : Int) (x3 : Int) (x4 : Int) (x5 : Int)  : ev 141 6 [some (vr 115), some (vr x1), some (vi x2), some (vi x3), some (vi x4), some (vi x5), none, none] [] (hp L b I J) = if (I 115 5) ≤ (x5 : Int) then (ev 141 116 [none, none, none, none, some (vi x4), none, none, none] [] (hp L b I J)) else (if 0 ≤ (x4 : Int) then (ev 141 116 [none, none, none, none, some (vi x4), none, none, none] [] (hp L b I J)) else (gd (0 ≤ (x5 : Int) ∧ (x5 : Int) < 120) (if ¬ (I 119 x5 : Int) = 0 then (ev 141 45 [some (vr 115), some (vr x1), some (vi x2), some (vi x3), none, some (vi x5), none, none] [] (hp L b I J)) else (gd (0 ≤ (x5 : Int) ∧ (x5 : Int) < 120) (if ¬ (I 117 x5 : Int) = x3 then (ev 141 45 [some (vr 115), some (vr x1), some (vi x2), some (vi x3), none, some (vi x5), none, none] [] (hp L b I J)) else (ev 141 46 [some (vr 115), some (vr x1), some (vi x2), some (vi x3), none, some (vi x5), none, none] [vi 1] (hp L b I J))))))) := by
  refine (e141_6 x1 x2 x3 x4 x5).trans ?_
  simp only [e141_8, e141_9, e141_12, e141_15, e141_17, e141_20, e141_21, e141_24, e141_26, e141_27, e141_30, e141_31, e141_34, e141_36, e141_37, e141_38, e141_41, e141_42]
theorem s141_45 {L : Nat} {b : Bool} {I : AI} {J : AJ} (x1 : Nat) (x2 : Int) (x3 : Int) (x5 : Int)  : ev 141 45 [some (vr 115), some (vr x1), some (vi x2), some (vi x3), none, some (vi x5), none, none] [] (hp L b I J) = ev 141 46 [some (vr 115), some (vr x1), some (vi x2), some (vi x3), none, some (vi x5), none, none] [vi 0] (hp L b I J) := by
  refine (e141_45 x1 x2 x3 x5).trans ?_
  rfl
theorem s141_46 {L : Nat} {b : Bool} {I : AI} {J : AJ} (x1 : Nat) (x2 : Int) (x3 : Int) (x5 : Int) (y0 : Int)  : ev 141 46 [some (vr 115), some (vr x1), some (vi x2), some (vi x3), none, some (vi x5), none, none] [vi y0] (hp L b I J) = ev 141 51 [some (vr 115), some (vr x1), some (vi x2), some (vi x3), none, some (vi x5), some (vi y0), some (vi 0)] [] (hp L b I J) := by
  refine (e141_46 x1 x2 x3 x5 y0).trans ?_
  simp only [e141_48, e141_49]
theorem s141_51 {L : Nat} {b : Bool} {I : AI} {J : AJ} (x1 : Nat) (x2 : Int) (x3 : Int) (x5 : Int) (x6 : Int) (x7 : Int) (hx1 : (hk L b)[x1]? = some (0, aL x1)) (h0x1 : 0 < x1) : ev 141 51 [some (vr 115), some (vr x1), some (vi x2), some (vi x3), none, some (vi x5), some (vi x6), some (vi x7)] [] (hp L b I J) = if x3 ≤ (x7 : Int) then (ev 141 97 [some (vr 115), some (vr x1), some (vi x2), some (vi x3), none, some (vi x5), some (vi x6), none] [] (hp L b I J)) else (if (x6 : Int) = 0 then (ev 141 97 [some (vr 115), some (vr x1), some (vi x2), some (vi x3), none, some (vi x5), some (vi x6), none] [] (hp L b I J)) else (gd (-2147483648 ≤ (24 * x5 : Int) ∧ (24 * x5 : Int) ≤ 2147483647) (gd (-2147483648 ≤ ((24 * x5) + x7 : Int) ∧ ((24 * x5) + x7 : Int) ≤ 2147483647) (gd (0 ≤ ((24 * x5) + x7 : Int) ∧ ((24 * x5) + x7 : Int) < 2880) (gd (-2147483648 ≤ (x2 + x7 : Int) ∧ (x2 + x7 : Int) ≤ 2147483647) (gd (0 ≤ (x2 + x7 : Int) ∧ (x2 + x7 : Int) < ((aL x1 : Nat) : Int)) (if ¬ (I 116 ((24 * x5) + x7) : Int) = (I x1 (x2 + x7)) then (ev 141 89 [some (vr 115), some (vr x1), some (vi x2), some (vi x3), none, some (vi x5), none, some (vi x7)] [vi 0] (hp L b I J)) else (ev 141 89 [some (vr 115), some (vr x1), some (vi x2), some (vi x3), none, some (vi x5), none, some (vi x7)] [vi 1] (hp L b I J))))))))) := by
  refine (e141_51 x1 x2 x3 x5 x6 x7).trans ?_
  simp only [e141_53, e141_54, e141_57, e141_59, e141_62, e141_63, e141_66, e141_68, e141_70, e141_71, e141_73, e141_74, e141_75, e141_76, e141_77, e141_79, e141_80, e141_81, e141_84, e141_85, e141_88, h0x1, hx1]
theorem s141_89 {L : Nat} {b : Bool} {I : AI} {J : AJ} (x1 : Nat) (x2 : Int) (x3 : Int) (x5 : Int) (x7 : Int) (y0 : Int)  : ev 141 89 [some (vr 115), some (vr x1), some (vi x2), some (vi x3), none, some (vi x5), none, some (vi x7)] [vi y0] (hp L b I J) = gd (-2147483648 ≤ (x7 + 1 : Int) ∧ (x7 + 1 : Int) ≤ 2147483647) (ev 141 51 [some (vr 115), some (vr x1), some (vi x2), some (vi x3), none, some (vi x5), some (vi y0), some (vi (x7 + 1))] [] (hp L b I J)) := by
  refine (e141_89 x1 x2 x3 x5 x7 y0).trans ?_
  simp only [e141_91, e141_94]
theorem s141_97 {L : Nat} {b : Bool} {I : AI} {J : AJ} (x1 : Nat) (x2 : Int) (x3 : Int) (x5 : Int) (x6 : Int)  : ev 141 97 [some (vr 115), some (vr x1), some (vi x2), some (vi x3), none, some (vi x5), some (vi x6), none] [] (hp L b I J) = if (x6 : Int) = 0 then (ev 141 108 [some (vr 115), some (vr x1), some (vi x2), some (vi x3), none, some (vi x5), none, none] [vi ((-1))] (hp L b I J)) else (ev 141 108 [some (vr 115), some (vr x1), some (vi x2), some (vi x3), none, some (vi x5), none, none] [vi x5] (hp L b I J)) := by
  refine (e141_97 x1 x2 x3 x5 x6).trans ?_
  simp only [e141_99, e141_102, e141_104, e141_107]
theorem s141_108 {L : Nat} {b : Bool} {I : AI} {J : AJ} (x1 : Nat) (x2 : Int) (x3 : Int) (x5 : Int) (y0 : Int)  : ev 141 108 [some (vr 115), some (vr x1), some (vi x2), some (vi x3), none, some (vi x5), none, none] [vi y0] (hp L b I J) = gd (-2147483648 ≤ (x5 + 1 : Int) ∧ (x5 + 1 : Int) ≤ 2147483647) (ev 141 6 [some (vr 115), some (vr x1), some (vi x2), some (vi x3), some (vi y0), some (vi (x5 + 1)), none, none] [] (hp L b I J)) := by
  refine (e141_108 x1 x2 x3 x5 y0).trans ?_
  simp only [e141_110, e141_113]
theorem s141_116 {L : Nat} {b : Bool} {I : AI} {J : AJ} (x4 : Int)  : ev 141 116 [none, none, none, none, some (vi x4), none, none, none] [] (hp L b I J) = some (vi x4, hp L b I J) := by
  refine (e141_116 x4).trans ?_
  simp only [e141_118]
/-! 142: VersionVaultModel.makeText([III)I -/
theorem s142_0 {L : Nat} {b : Bool} {I : AI} {J : AJ} (x1 : Nat) (x2 : Int) (x3 : Int)  : ev 142 0 [some (vr 115), some (vr x1), some (vi x2), some (vi x3), none, none] [] (hp L b I J) = (evc 141 [vr 115, vr x1, vi x2, vi x3] (hp L b I J)).bind (fun q => ev 142 7 [some (vr 115), some (vr x1), some (vi x2), some (vi x3), none, none] (q.1 :: []) q.2) := by
  refine (e142_0 x1 x2 x3).trans ?_
  simp only [e142_1, e142_2, e142_3, e142_4]
theorem s142_7 {L : Nat} {b : Bool} {I : AI} {J : AJ} (x1 : Nat) (x2 : Int) (x3 : Int) (y0 : Int)  : ev 142 7 [some (vr 115), some (vr x1), some (vi x2), some (vi x3), none, none] [vi y0] (hp L b I J) = if (y0 : Int) < 0 then (gd (0 ≤ (I 115 5 : Int) ∧ (I 115 5 : Int) < 120) (gd (0 ≤ ((upI I 117 (I 115 5) x3) 115 5 : Int) ∧ ((upI I 117 (I 115 5) x3) 115 5 : Int) < 120) (gd (((0 : Int) = 0 ∨ (0 : Int) = 1) ∧ 0 ≤ ((upI (upI I 117 (I 115 5) x3) 120 ((upI I 117 (I 115 5) x3) 115 5) ((-1))) 115 5 : Int) ∧ ((upI (upI I 117 (I 115 5) x3) 120 ((upI I 117 (I 115 5) x3) 115 5) ((-1))) 115 5 : Int) < 120) (gd (((0 : Int) = 0 ∨ (0 : Int) = 1) ∧ 0 ≤ ((upI (upI (upI I 117 (I 115 5) x3) 120 ((upI I 117 (I 115 5) x3) 115 5) ((-1))) 118 ((upI (upI I 117 (I 115 5) x3) 120 ((upI I 117 (I 115 5) x3) 115 5) ((-1))) 115 5) 0) 115 5 : Int) ∧ ((upI (upI (upI I 117 (I 115 5) x3) 120 ((upI I 117 (I 115 5) x3) 115 5) ((-1))) 118 ((upI (upI I 117 (I 115 5) x3) 120 ((upI I 117 (I 115 5) x3) 115 5) ((-1))) 115 5) 0) 115 5 : Int) < 120) (ev 142 85 [some (vr 115), some (vr x1), some (vi x2), some (vi x3), none, some (vi 0)] [] (hp L b (upI (upI (upI (upI I 117 (I 115 5) x3) 120 ((upI I 117 (I 115 5) x3) 115 5) ((-1))) 118 ((upI (upI I 117 (I 115 5) x3) 120 ((upI I 117 (I 115 5) x3) 115 5) ((-1))) 115 5) 0) 119 ((upI (upI (upI I 117 (I 115 5) x3) 120 ((upI I 117 (I 115 5) x3) 115 5) ((-1))) 118 ((upI (upI I 117 (I 115 5) x3) 120 ((upI I 117 (I 115 5) x3) 115 5) ((-1))) 115 5) 0) 115 5) 0) J)))))) else ((evc 136 [vr 115, vi y0] (hp L b I J)).bind (fun q => ev 142 20 [some (vr 115), none, none, none, some (vi y0), none] (q.1 :: []) q.2)) := by
  refine (e142_7 x1 x2 x3 y0).trans ?_
  simp only [e142_9, e142_11, e142_14, e142_15, e142_17, e142_42, e142_43, e142_46, e142_47, e142_50, e142_51, e142_52, e142_53, e142_56, e142_57, e142_60, e142_61, e142_62, e142_63, e142_66, e142_67, e142_70, e142_71, e142_72, e142_73, e142_76, e142_77, e142_80, e142_81, e142_82, e142_83]
theorem s142_20 {L : Nat} {b : Bool} {I : AI} {J : AJ} (x4 : Int) (y0 : Int)  : ev 142 20 [some (vr 115), none, none, none, some (vi x4), none] [vi y0] (hp L b I J) = if (y0 : Int) < 0 then (ev 142 39 [none, none, none, none, some (vi x4), none] [] (hp L b I J)) else (gd (((0 : Int) = 0 ∨ (0 : Int) = 1) ∧ 0 ≤ (x4 : Int) ∧ (x4 : Int) < 120) (gd (0 ≤ (x4 : Int) ∧ (x4 : Int) < 120) (ev 142 39 [none, none, none, none, some (vi x4), none] [] (hp L b (upI (upI I 118 x4 0) 120 x4 ((-1))) J)))) := by
  refine (e142_20 x4 y0).trans ?_
  simp only [e142_23, e142_24, e142_27, e142_29, e142_30, e142_31, e142_32, e142_35, e142_37, e142_38]
theorem s142_39 {L : Nat} {b : Bool} {I : AI} {J : AJ} (x4 : Int)  : ev 142 39 [none, none, none, none, some (vi x4), none] [] (hp L b I J) = some (vi x4, hp L b I J) := by
  refine (e142_39 x4).trans ?_
  simp only [e142_41]
theorem s142_85 {L : Nat} {b : Bool} {I : AI} {J : AJ} (x1 : Nat) (x2 : Int) (x3 : Int) (x5 : Int) (hx1 : (hk L b)[x1]? = some (0, aL x1)) (h0x1 : 0 < x1) : ev 142 85 [some (vr 115), some (vr x1), some (vi x2), some (vi x3), none, some (vi x5)] [] (hp L b I J) = if x3 ≤ (x5 : Int) then (gd (-2147483648 ≤ ((I 115 5) + 1 : Int) ∧ ((I 115 5) + 1 : Int) ≤ 2147483647) (gd (-2147483648 ≤ (((upI I 115 5 ((I 115 5) + 1)) 115 5) - 1 : Int) ∧ (((upI I 115 5 ((I 115 5) + 1)) 115 5) - 1 : Int) ≤ 2147483647) (some (vi (((upI I 115 5 ((I 115 5) + 1)) 115 5) - 1), hp L b (upI I 115 5 ((I 115 5) + 1)) J)))) else (gd (-2147483648 ≤ (24 * (I 115 5) : Int) ∧ (24 * (I 115 5) : Int) ≤ 2147483647) (gd (-2147483648 ≤ ((24 * (I 115 5)) + x5 : Int) ∧ ((24 * (I 115 5)) + x5 : Int) ≤ 2147483647) (gd (-2147483648 ≤ (x2 + x5 : Int) ∧ (x2 + x5 : Int) ≤ 2147483647) (gd (0 ≤ (x2 + x5 : Int) ∧ (x2 + x5 : Int) < ((aL x1 : Nat) : Int)) (gd (0 ≤ ((24 * (I 115 5)) + x5 : Int) ∧ ((24 * (I 115 5)) + x5 : Int) < 2880) (gd (-2147483648 ≤ (x5 + 1 : Int) ∧ (x5 + 1 : Int) ≤ 2147483647) (ev 142 85 [some (vr 115), some (vr x1), some (vi x2), some (vi x3), none, some (vi (x5 + 1))] [] (hp L b (upI I 116 ((24 * (I 115 5)) + x5) (I x1 (x2 + x5))) J)))))))) := by
  refine (e142_85 x1 x2 x3 x5).trans ?_
  simp only [e142_87, e142_88, e142_91, e142_92, e142_95, e142_97, e142_98, e142_101, e142_102, e142_104, e142_105, e142_106, e142_107, e142_109, e142_110, e142_111, e142_112, e142_115, e142_118, e142_119, e142_120, e142_123, e142_124, e142_125, e142_128, e142_129, e142_132, e142_133, e142_134, h0x1, hx1]
/-! 143: VersionVaultModel.text()I -/
theorem s143_0 {L : Nat} {b : Bool} {I : AI} {J : AJ}   : ev 143 0 [some (vr 115), none] [] (hp L b I J) = if ¬ (I 115 5 : Int) = 120 then (ev 143 28 [some (vr 115), none] [] (hp L b I J)) else ((evc 141 [vr 115, vr 121, vi 0, vi (I 115 7)] (hp L b I J)).bind (fun q => ev 143 22 [some (vr 115), none] (q.1 :: []) q.2)) := by
  refine (e143_0 ).trans ?_
  simp only [e143_1, e143_4, e143_6, e143_9, e143_10, e143_11, e143_14, e143_15, e143_16, e143_19]
theorem s143_22 {L : Nat} {b : Bool} {I : AI} {J : AJ} (y0 : Int)  : ev 143 22 [some (vr 115), none] [vi y0] (hp L b I J) = if 0 ≤ (y0 : Int) then (ev 143 28 [some (vr 115), none] [] (hp L b I J)) else (some (vi ((-2)), hp L b I J)) := by
  refine (e143_22 y0).trans ?_
  simp only [e143_25, e143_27]
theorem s143_28 {L : Nat} {b : Bool} {I : AI} {J : AJ}   : ev 143 28 [some (vr 115), none] [] (hp L b I J) = (evc 142 [vr 115, vr 121, vi 0, vi (I 115 7)] (hp L b I J)).bind (fun q => ev 143 41 [some (vr 115), none] (q.1 :: []) q.2) := by
  refine (e143_28 ).trans ?_
  simp only [e143_29, e143_30, e143_33, e143_34, e143_35, e143_38]
theorem s143_41 {L : Nat} {b : Bool} {I : AI} {J : AJ} (y0 : Int)  : ev 143 41 [some (vr 115), none] [vi y0] (hp L b I J) = some (vi y0, hp L b (upI I 115 7 0) J) := by
  refine (e143_41 y0).trans ?_
  simp only [e143_42, e143_43, e143_44, e143_47, e143_48]
/-! 144: VersionVaultModel.size(I)I -/
theorem s144_0 {L : Nat} {b : Bool} {I : AI} {J : AJ} (x1 : Int)  : ev 144 0 [some (vr 115), some (vi x1)] [] (hp L b I J) = (evc 137 [vr 115, vi x1] (hp L b I J)).bind (fun q => ev 144 5 [some (vr 115), some (vi x1)] (q.1 :: []) q.2) := by
  refine (e144_0 x1).trans ?_
  simp only [e144_1, e144_2]
theorem s144_5 {L : Nat} {b : Bool} {I : AI} {J : AJ} (x1 : Int) (y0 : Int)  : ev 144 5 [some (vr 115), some (vi x1)] [vi y0] (hp L b I J) = if (y0 : Int) = 0 then (some (vi ((-2)), hp L b I J)) else (gd (0 ≤ (x1 : Int) ∧ (x1 : Int) < 120) (some (vi (I 117 x1), hp L b I J))) := by
  refine (e144_5 x1 y0).trans ?_
  simp only [e144_8, e144_9, e144_12, e144_13, e144_14, e144_17, e144_19]
/-! 145: VersionVaultModel.line(II)I -/
theorem s145_0 {L : Nat} {b : Bool} {I : AI} {J : AJ} (x1 : Int) (x2 : Int)  : ev 145 0 [some (vr 115), some (vi x1), some (vi x2)] [] (hp L b I J) = (evc 137 [vr 115, vi x1] (hp L b I J)).bind (fun q => ev 145 5 [some (vr 115), some (vi x1), some (vi x2)] (q.1 :: []) q.2) := by
  refine (e145_0 x1 x2).trans ?_
  simp only [e145_1, e145_2]
theorem s145_5 {L : Nat} {b : Bool} {I : AI} {J : AJ} (x1 : Int) (x2 : Int) (y0 : Int)  : ev 145 5 [some (vr 115), some (vi x1), some (vi x2)] [vi y0] (hp L b I J) = if (y0 : Int) = 0 then (ev 145 36 [none, none, none] [] (hp L b I J)) else (if (x2 : Int) < 0 then (ev 145 36 [none, none, none] [] (hp L b I J)) else (gd (0 ≤ (x1 : Int) ∧ (x1 : Int) < 120) (if (I 117 x1) ≤ (x2 : Int) then (ev 145 36 [none, none, none] [] (hp L b I J)) else (gd (-2147483648 ≤ (24 * x1 : Int) ∧ (24 * x1 : Int) ≤ 2147483647) (gd (-2147483648 ≤ ((24 * x1) + x2 : Int) ∧ ((24 * x1) + x2 : Int) ≤ 2147483647) (gd (0 ≤ ((24 * x1) + x2 : Int) ∧ ((24 * x1) + x2 : Int) < 2880) (some (vi (I 116 ((24 * x1) + x2)), hp L b I J)))))))) := by
  refine (e145_5 x1 x2 y0).trans ?_
  simp only [e145_8, e145_9, e145_12, e145_13, e145_14, e145_17, e145_18, e145_19, e145_22, e145_23, e145_26, e145_28, e145_29, e145_30, e145_31, e145_32, e145_33, e145_37]
theorem s145_36 {L : Nat} {b : Bool} {I : AI} {J : AJ}   : ev 145 36 [none, none, none] [] (hp L b I J) = some (vi 0, hp L b I J) := by
  refine (e145_36 ).trans ?_
  simp only [e145_37]
/-! 146: VersionVaultModel.copy(I)I -/
theorem s146_0 {L : Nat} {b : Bool} {I : AI} {J : AJ} (x1 : Int)  : ev 146 0 [some (vr 115), some (vi x1), none] [] (hp L b I J) = (evc 137 [vr 115, vi x1] (hp L b I J)).bind (fun q => ev 146 5 [some (vr 115), some (vi x1), none] (q.1 :: []) q.2) := by
  refine (e146_0 x1).trans ?_
  simp only [e146_1, e146_2]
theorem s146_5 {L : Nat} {b : Bool} {I : AI} {J : AJ} (x1 : Int) (y0 : Int)  : ev 146 5 [some (vr 115), some (vi x1), none] [vi y0] (hp L b I J) = if ¬ (y0 : Int) = 0 then (gd (0 ≤ (x1 : Int) ∧ (x1 : Int) < 120) (ev 146 23 [some (vr 115), some (vi x1), some (vi 0)] [] (hp L b (upI I 115 7 (I 117 x1)) J))) else (some (vi ((-2)), hp L b I J)) := by
  refine (e146_5 x1 y0).trans ?_
  simp only [e146_8, e146_10, e146_11, e146_12, e146_13, e146_16, e146_17, e146_18, e146_21, e146_22]
theorem s146_23 {L : Nat} {b : Bool} {I : AI} {J : AJ} (x1 : Int) (x2 : Int)  : ev 146 23 [some (vr 115), some (vi x1), some (vi x2)] [] (hp L b I J) = if (I 115 7) ≤ (x2 : Int) then (some (vi (I 115 7), hp L b I J)) else (gd (-2147483648 ≤ (24 * x1 : Int) ∧ (24 * x1 : Int) ≤ 2147483647) (gd (-2147483648 ≤ ((24 * x1) + x2 : Int) ∧ ((24 * x1) + x2 : Int) ≤ 2147483647) (gd (0 ≤ ((24 * x1) + x2 : Int) ∧ ((24 * x1) + x2 : Int) < 2880) (gd (0 ≤ (x2 : Int) ∧ (x2 : Int) < 24) (gd (-2147483648 ≤ (x2 + 1 : Int) ∧ (x2 + 1 : Int) ≤ 2147483647) (ev 146 23 [some (vr 115), some (vi x1), some (vi (x2 + 1))] [] (hp L b (upI I 121 x2 (I 116 ((24 * x1) + x2))) J))))))) := by
  refine (e146_23 x1 x2).trans ?_
  simp only [e146_24, e146_25, e146_28, e146_31, e146_32, e146_35, e146_36, e146_37, e146_40, e146_42, e146_43, e146_44, e146_45, e146_46, e146_47, e146_48, e146_51, e146_54, e146_55, e146_58]
/-! 147: VersionVaultModel.state(I)I -/
theorem s147_0 {L : Nat} {b : Bool} {I : AI} {J : AJ} (x1 : Int)  : ev 147 0 [some (vr 115), some (vi x1)] [] (hp L b I J) = (evc 134 [vr 115, vi x1] (hp L b I J)).bind (fun q => ev 147 5 [some (vr 115), some (vi x1)] (q.1 :: []) q.2) := by
  refine (e147_0 x1).trans ?_
  simp only [e147_1, e147_2]
theorem s147_5 {L : Nat} {b : Bool} {I : AI} {J : AJ} (x1 : Int) (y0 : Int)  : ev 147 5 [some (vr 115), some (vi x1)] [vi y0] (hp L b I J) = if ¬ (y0 : Int) = 0 then (gd (0 ≤ (x1 : Int) ∧ (x1 : Int) < 120) (if (I 119 x1 : Int) = 0 then (gd (0 ≤ (x1 : Int) ∧ (x1 : Int) < 120) (if (I 118 x1 : Int) = 0 then (gd (0 ≤ (x1 : Int) ∧ (x1 : Int) < 120) (if (I 120 x1 : Int) < 0 then (some (vi 0, hp L b I J)) else (some (vi 1, hp L b I J)))) else (some (vi 2, hp L b I J)))) else (some (vi 3, hp L b I J)))) else (some (vi ((-2)), hp L b I J)) := by
  refine (e147_5 x1 y0).trans ?_
  simp only [e147_8, e147_10, e147_13, e147_14, e147_17, e147_18, e147_19, e147_22, e147_23, e147_26, e147_27, e147_30, e147_31, e147_32, e147_35, e147_36, e147_39, e147_40, e147_43, e147_44, e147_45, e147_48, e147_49, e147_52, e147_53]
/-! 148: VersionVaultModel.missing(I)I -/
theorem s148_0 {L : Nat} {b : Bool} {I : AI} {J : AJ} (x1 : Int)  : ev 148 0 [some (vr 115), some (vi x1)] [] (hp L b I J) = (evc 135 [vr 115, vi x1] (hp L b I J)).bind (fun q => ev 148 5 [some (vr 115), some (vi x1)] (q.1 :: []) q.2) := by
  refine (e148_0 x1).trans ?_
  simp only [e148_1, e148_2]
theorem s148_5 {L : Nat} {b : Bool} {I : AI} {J : AJ} (x1 : Int) (y0 : Int)  : ev 148 5 [some (vr 115), some (vi x1)] [vi y0] (hp L b I J) = if (y0 : Int) = 0 then (some (vi ((-2)), hp L b I J)) else ((evc 136 [vr 115, vi x1] (hp L b I J)).bind (fun q => ev 148 13 [none, none] (q.1 :: []) q.2)) := by
  refine (e148_5 x1 y0).trans ?_
  simp only [e148_8, e148_9, e148_10, e148_16, e148_18]
theorem s148_13 {L : Nat} {b : Bool} {I : AI} {J : AJ} (y0 : Int)  : ev 148 13 [none, none] [vi y0] (hp L b I J) = some (vi y0, hp L b I J) := by
  refine (e148_13 y0).trans ?_
  simp only [e148_18]
/-! 149: VersionVaultModel.isName(I)Z -/
theorem s149_0 {L : Nat} {b : Bool} {I : AI} {J : AJ} (x0 : Int)  : ev 149 0 [some (vi x0)] [] (hp L b I J) = if (x0 : Int) < 0 then (ev 149 14 [none] [] (hp L b I J)) else (if 16 ≤ (x0 : Int) then (ev 149 14 [none] [] (hp L b I J)) else (gd ((1 : Int) = 0 ∨ (1 : Int) = 1) (some (vi 1, hp L b I J)))) := by
  refine (e149_0 x0).trans ?_
  simp only [e149_1, e149_4, e149_5, e149_7, e149_10, e149_11, e149_15]
theorem s149_14 {L : Nat} {b : Bool} {I : AI} {J : AJ}   : ev 149 14 [none] [] (hp L b I J) = gd ((0 : Int) = 0 ∨ (0 : Int) = 1) (some (vi 0, hp L b I J)) := by
  refine (e149_14 ).trans ?_
  simp only [e149_15]
/-! 150: VersionVaultModel.isShelf(I)Z -/
theorem s150_0 {L : Nat} {b : Bool} {I : AI} {J : AJ} (x1 : Int)  : ev 150 0 [some (vr 115), some (vi x1)] [] (hp L b I J) = if (x1 : Int) < 0 then (ev 150 25 [none, none] [] (hp L b I J)) else (if (I 115 10) ≤ (x1 : Int) then (ev 150 25 [none, none] [] (hp L b I J)) else (gd (0 ≤ (x1 : Int) ∧ (x1 : Int) < 100) (if ¬ (I 123 x1 : Int) = 0 then (ev 150 25 [none, none] [] (hp L b I J)) else (gd ((1 : Int) = 0 ∨ (1 : Int) = 1) (some (vi 1, hp L b I J)))))) := by
  refine (e150_0 x1).trans ?_
  simp only [e150_1, e150_4, e150_5, e150_6, e150_9, e150_12, e150_13, e150_16, e150_17, e150_18, e150_21, e150_22, e150_26]
theorem s150_25 {L : Nat} {b : Bool} {I : AI} {J : AJ}   : ev 150 25 [none, none] [] (hp L b I J) = gd ((0 : Int) = 0 ∨ (0 : Int) = 1) (some (vi 0, hp L b I J)) := by
  refine (e150_25 ).trans ?_
  simp only [e150_26]
/-! 151: VersionVaultModel.lay(II)I -/
theorem s151_0 {L : Nat} {b : Bool} {I : AI} {J : AJ} (x1 : Int) (x2 : Int)  : ev 151 0 [some (vr 115), some (vi x1), some (vi x2), none] [] (hp L b I J) = (evc 149 [vi x1] (hp L b I J)).bind (fun q => ev 151 4 [some (vr 115), some (vi x1), some (vi x2), none] (q.1 :: []) q.2) := by
  refine (e151_0 x1 x2).trans ?_
  simp only [e151_1]
theorem s151_4 {L : Nat} {b : Bool} {I : AI} {J : AJ} (x1 : Int) (x2 : Int) (y0 : Int)  : ev 151 4 [some (vr 115), some (vi x1), some (vi x2), none] [vi y0] (hp L b I J) = if (y0 : Int) = 0 then (ev 151 15 [none, none, none, none] [] (hp L b I J)) else ((evc 135 [vr 115, vi x2] (hp L b I J)).bind (fun q => ev 151 12 [some (vr 115), some (vi x1), some (vi x2), none] (q.1 :: []) q.2)) := by
  refine (e151_4 x1 x2 y0).trans ?_
  simp only [e151_7, e151_8, e151_9]
theorem s151_12 {L : Nat} {b : Bool} {I : AI} {J : AJ} (x1 : Int) (x2 : Int) (y0 : Int)  : ev 151 12 [some (vr 115), some (vi x1), some (vi x2), none] [vi y0] (hp L b I J) = if ¬ (y0 : Int) = 0 then (gd (0 ≤ (x1 : Int) ∧ (x1 : Int) < 16) (gd (0 ≤ (x1 : Int) ∧ (x1 : Int) < 16) (some (vi (I 124 x1), hp L b (upI I 124 x1 x2) J)))) else (ev 151 15 [none, none, none, none] [] (hp L b I J)) := by
  refine (e151_12 x1 x2 y0).trans ?_
  simp only [e151_18, e151_19, e151_22, e151_23, e151_24, e151_25, e151_26, e151_29, e151_30, e151_31, e151_32, e151_33]
theorem s151_15 {L : Nat} {b : Bool} {I : AI} {J : AJ}   : ev 151 15 [none, none, none, none] [] (hp L b I J) = some (vi ((-2)), hp L b I J) := by
  refine (e151_15 ).trans ?_
  simp only [e151_17]
/-! 152: VersionVaultModel.take(I)I -/
theorem s152_0 {L : Nat} {b : Bool} {I : AI} {J : AJ} (x1 : Int)  : ev 152 0 [some (vr 115), some (vi x1), none] [] (hp L b I J) = (evc 149 [vi x1] (hp L b I J)).bind (fun q => ev 152 4 [some (vr 115), some (vi x1), none] (q.1 :: []) q.2) := by
  refine (e152_0 x1).trans ?_
  simp only [e152_1]
theorem s152_4 {L : Nat} {b : Bool} {I : AI} {J : AJ} (x1 : Int) (y0 : Int)  : ev 152 4 [some (vr 115), some (vi x1), none] [vi y0] (hp L b I J) = if ¬ (y0 : Int) = 0 then (gd (0 ≤ (x1 : Int) ∧ (x1 : Int) < 16) (gd (0 ≤ (x1 : Int) ∧ (x1 : Int) < 16) (some (vi (I 124 x1), hp L b (upI I 124 x1 ((-1))) J)))) else (some (vi ((-2)), hp L b I J)) := by
  refine (e152_4 x1 y0).trans ?_
  simp only [e152_7, e152_9, e152_10, e152_11, e152_14, e152_15, e152_16, e152_17, e152_18, e152_21, e152_22, e152_23, e152_24, e152_25]
/-! 153: VersionVaultModel.countOf([II)I -/
theorem s153_0 {L : Nat} {b : Bool} {I : AI} {J : AJ} (x0 : Nat) (x1 : Int)  : ev 153 0 [some (vr x0), some (vi x1), none, none] [] (hp L b I J) = ev 153 4 [some (vr x0), some (vi x1), some (vi 0), some (vi 0)] [] (hp L b I J) := by
  refine (e153_0 x0 x1).trans ?_
  simp only [e153_1, e153_2, e153_3]
theorem s153_4 {L : Nat} {b : Bool} {I : AI} {J : AJ} (x0 : Nat) (x1 : Int) (x2 : Int) (x3 : Int) (hx0 : (hk L b)[x0]? = some (0, 16)) (h0x0 : 0 < x0) : ev 153 4 [some (vr x0), some (vi x1), some (vi x2), some (vi x3)] [] (hp L b I J) = if 16 ≤ (x3 : Int) then (some (vi x2, hp L b I J)) else (gd (-2147483648 ≤ (x1 + x3 : Int) ∧ (x1 + x3 : Int) ≤ 2147483647) (gd (0 ≤ (x1 + x3 : Int) ∧ (x1 + x3 : Int) < 16) (if (I x0 (x1 + x3) : Int) < 0 then (ev 153 24 [some (vr x0), some (vi x1), none, some (vi x3)] [vi 0, vi x2] (hp L b I J)) else (ev 153 24 [some (vr x0), some (vi x1), none, some (vi x3)] [vi 1, vi x2] (hp L b I J))))) := by
  refine (e153_4 x0 x1 x2 x3).trans ?_
  simp only [e153_5, e153_7, e153_10, e153_11, e153_12, e153_13, e153_14, e153_15, e153_16, e153_19, e153_20, e153_23, e153_32, e153_33, h0x0, hx0]
theorem s153_24 {L : Nat} {b : Bool} {I : AI} {J : AJ} (x0 : Nat) (x1 : Int) (x3 : Int) (y0 : Int) (y1 : Int)  : ev 153 24 [some (vr x0), some (vi x1), none, some (vi x3)] [vi y0, vi y1] (hp L b I J) = gd (-2147483648 ≤ (y1 + y0 : Int) ∧ (y1 + y0 : Int) ≤ 2147483647) (gd (-2147483648 ≤ (x3 + 1 : Int) ∧ (x3 + 1 : Int) ≤ 2147483647) (ev 153 4 [some (vr x0), some (vi x1), some (vi (y1 + y0)), some (vi (x3 + 1))] [] (hp L b I J))) := by
  refine (e153_24 x0 x1 x3 y0 y1).trans ?_
  simp only [e153_25, e153_26, e153_29]
/-! 154: VersionVaultModel.load(I)I -/
theorem s154_0 {L : Nat} {b : Bool} {I : AI} {J : AJ} (x1 : Int)  : ev 154 0 [some (vr 115), some (vi x1), none] [] (hp L b I J) = (evc 150 [vr 115, vi x1] (hp L b I J)).bind (fun q => ev 154 5 [some (vr 115), some (vi x1), none] (q.1 :: []) q.2) := by
  refine (e154_0 x1).trans ?_
  simp only [e154_1, e154_2]
theorem s154_5 {L : Nat} {b : Bool} {I : AI} {J : AJ} (x1 : Int) (y0 : Int)  : ev 154 5 [some (vr 115), some (vi x1), none] [vi y0] (hp L b I J) = if ¬ (y0 : Int) = 0 then (ev 154 13 [some (vr 115), some (vi x1), some (vi 0)] [] (hp L b I J)) else (some (vi ((-2)), hp L b I J)) := by
  refine (e154_5 x1 y0).trans ?_
  simp only [e154_8, e154_10, e154_11, e154_12]
theorem s154_13 {L : Nat} {b : Bool} {I : AI} {J : AJ} (x1 : Int) (x2 : Int)  : ev 154 13 [some (vr 115), some (vi x1), some (vi x2)] [] (hp L b I J) = if 16 ≤ (x2 : Int) then ((evc 153 [vr 124, vi 0] (hp L b I J)).bind (fun q => ev 154 50 [some (vr 115), none, none] (q.1 :: []) q.2)) else (gd (-2147483648 ≤ (16 * x1 : Int) ∧ (16 * x1 : Int) ≤ 2147483647) (gd (-2147483648 ≤ ((16 * x1) + x2 : Int) ∧ ((16 * x1) + x2 : Int) ≤ 2147483647) (gd (0 ≤ ((16 * x1) + x2 : Int) ∧ ((16 * x1) + x2 : Int) < 1600) (gd (0 ≤ (x2 : Int) ∧ (x2 : Int) < 16) (gd (-2147483648 ≤ (x2 + 1 : Int) ∧ (x2 + 1 : Int) ≤ 2147483647) (ev 154 13 [some (vr 115), some (vi x1), some (vi (x2 + 1))] [] (hp L b (upI I 124 x2 (I 122 ((16 * x1) + x2))) J))))))) := by
  refine (e154_13 x1 x2).trans ?_
  simp only [e154_14, e154_16, e154_19, e154_20, e154_23, e154_24, e154_25, e154_28, e154_30, e154_31, e154_32, e154_33, e154_34, e154_35, e154_36, e154_39, e154_42, e154_43, e154_46, e154_47]
theorem s154_50 {L : Nat} {b : Bool} {I : AI} {J : AJ} (y0 : Int)  : ev 154 50 [some (vr 115), none, none] [vi y0] (hp L b I J) = some (vi y0, hp L b I J) := by
  refine (e154_50 y0).trans ?_
  rfl
/-! 155: VersionVaultModel.findShelf([I)I -/
theorem s155_0 {L : Nat} {b : Bool} {I : AI} {J : AJ} (x1 : Nat)  : ev 155 0 [some (vr 115), some (vr x1), none, none, none, none] [] (hp L b I J) = ev 155 4 [some (vr 115), some (vr x1), some (vi ((-1))), some (vi 0), none, none] [] (hp L b I J) := by
  refine (e155_0 x1).trans ?_
  simp only [e155_1, e155_2, e155_3]
theorem s155_4 {L : Nat} {b : Bool} {I : AI} {J : AJ} (x1 : Nat) (x2 : Int) (x3 : Int)  : ev 155 4 [some (vr 115), some (vr x1), some (vi x2), some (vi x3), none, none] [] (hp L b I J) = if (I 115 10) ≤ (x3 : Int) then (ev 155 96 [none, none, some (vi x2), none, none, none] [] (hp L b I J)) else (if 0 ≤ (x2 : Int) then (ev 155 96 [none, none, some (vi x2), none, none, none] [] (hp L b I J)) else (gd (0 ≤ (x3 : Int) ∧ (x3 : Int) < 100) (if ¬ (I 123 x3 : Int) = 0 then (ev 155 30 [some (vr 115), some (vr x1), none, some (vi x3), none, none] [vi 0] (hp L b I J)) else (ev 155 30 [some (vr 115), some (vr x1), none, some (vi x3), none, none] [vi 1] (hp L b I J))))) := by
  refine (e155_4 x1 x2 x3).trans ?_
  simp only [e155_5, e155_6, e155_9, e155_12, e155_13, e155_16, e155_17, e155_20, e155_21, e155_22, e155_25, e155_26, e155_29]
theorem s155_30 {L : Nat} {b : Bool} {I : AI} {J : AJ} (x1 : Nat) (x3 : Int) (y0 : Int)  : ev 155 30 [some (vr 115), some (vr x1), none, some (vi x3), none, none] [vi y0] (hp L b I J) = ev 155 35 [some (vr 115), some (vr x1), none, some (vi x3), some (vi y0), some (vi 0)] [] (hp L b I J) := by
  refine (e155_30 x1 x3 y0).trans ?_
  simp only [e155_32, e155_33]
theorem s155_35 {L : Nat} {b : Bool} {I : AI} {J : AJ} (x1 : Nat) (x3 : Int) (x4 : Int) (x5 : Int) (hx1 : (hk L b)[x1]? = some (0, 16)) (h0x1 : 0 < x1) : ev 155 35 [some (vr 115), some (vr x1), none, some (vi x3), some (vi x4), some (vi x5)] [] (hp L b I J) = if 16 ≤ (x5 : Int) then (ev 155 79 [some (vr 115), some (vr x1), none, some (vi x3), some (vi x4), none] [] (hp L b I J)) else (if (x4 : Int) = 0 then (ev 155 79 [some (vr 115), some (vr x1), none, some (vi x3), some (vi x4), none] [] (hp L b I J)) else (gd (-2147483648 ≤ (16 * x3 : Int) ∧ (16 * x3 : Int) ≤ 2147483647) (gd (-2147483648 ≤ ((16 * x3) + x5 : Int) ∧ ((16 * x3) + x5 : Int) ≤ 2147483647) (gd (0 ≤ ((16 * x3) + x5 : Int) ∧ ((16 * x3) + x5 : Int) < 1600) (gd (0 ≤ (x5 : Int) ∧ (x5 : Int) < 16) (if ¬ (I 122 ((16 * x3) + x5) : Int) = (I x1 x5) then (ev 155 71 [some (vr 115), some (vr x1), none, some (vi x3), none, some (vi x5)] [vi 0] (hp L b I J)) else (ev 155 71 [some (vr 115), some (vr x1), none, some (vi x3), none, some (vi x5)] [vi 1] (hp L b I J)))))))) := by
  refine (e155_35 x1 x3 x4 x5).trans ?_
  simp only [e155_37, e155_39, e155_42, e155_44, e155_47, e155_48, e155_51, e155_53, e155_54, e155_55, e155_57, e155_58, e155_59, e155_60, e155_62, e155_63, e155_66, e155_67, e155_70, h0x1, hx1]
theorem s155_71 {L : Nat} {b : Bool} {I : AI} {J : AJ} (x1 : Nat) (x3 : Int) (x5 : Int) (y0 : Int)  : ev 155 71 [some (vr 115), some (vr x1), none, some (vi x3), none, some (vi x5)] [vi y0] (hp L b I J) = gd (-2147483648 ≤ (x5 + 1 : Int) ∧ (x5 + 1 : Int) ≤ 2147483647) (ev 155 35 [some (vr 115), some (vr x1), none, some (vi x3), some (vi y0), some (vi (x5 + 1))] [] (hp L b I J)) := by
  refine (e155_71 x1 x3 x5 y0).trans ?_
  simp only [e155_73, e155_76]
theorem s155_79 {L : Nat} {b : Bool} {I : AI} {J : AJ} (x1 : Nat) (x3 : Int) (x4 : Int)  : ev 155 79 [some (vr 115), some (vr x1), none, some (vi x3), some (vi x4), none] [] (hp L b I J) = if (x4 : Int) = 0 then (ev 155 89 [some (vr 115), some (vr x1), none, some (vi x3), none, none] [vi ((-1))] (hp L b I J)) else (ev 155 89 [some (vr 115), some (vr x1), none, some (vi x3), none, none] [vi x3] (hp L b I J)) := by
  refine (e155_79 x1 x3 x4).trans ?_
  simp only [e155_81, e155_84, e155_85, e155_88]
theorem s155_89 {L : Nat} {b : Bool} {I : AI} {J : AJ} (x1 : Nat) (x3 : Int) (y0 : Int)  : ev 155 89 [some (vr 115), some (vr x1), none, some (vi x3), none, none] [vi y0] (hp L b I J) = gd (-2147483648 ≤ (x3 + 1 : Int) ∧ (x3 + 1 : Int) ≤ 2147483647) (ev 155 4 [some (vr 115), some (vr x1), some (vi y0), some (vi (x3 + 1)), none, none] [] (hp L b I J)) := by
  refine (e155_89 x1 x3 y0).trans ?_
  simp only [e155_90, e155_93]
theorem s155_96 {L : Nat} {b : Bool} {I : AI} {J : AJ} (x2 : Int)  : ev 155 96 [none, none, some (vi x2), none, none, none] [] (hp L b I J) = some (vi x2, hp L b I J) := by
  refine (e155_96 x2).trans ?_
  simp only [e155_97]
/-! 156: VersionVaultModel.hasGone([I)Z -/
theorem s156_0 {L : Nat} {b : Bool} {I : AI} {J : AJ} (x1 : Nat)  : ev 156 0 [some (vr 115), some (vr x1), none, none] [] (hp L b I J) = ev 156 4 [some (vr 115), some (vr x1), some (vi 0), some (vi 0)] [] (hp L b I J) := by
  refine (e156_0 x1).trans ?_
  simp only [e156_1, e156_2, e156_3]
theorem s156_4 {L : Nat} {b : Bool} {I : AI} {J : AJ} (x1 : Nat) (x2 : Int) (x3 : Int) (hx1 : (hk L b)[x1]? = some (0, 16)) (h0x1 : 0 < x1) : ev 156 4 [some (vr 115), some (vr x1), some (vi x2), some (vi x3)] [] (hp L b I J) = if 16 ≤ (x3 : Int) then (gd ((x2 : Int) = 0 ∨ (x2 : Int) = 1) (some (vi x2, hp L b I J))) else (if ¬ (x2 : Int) = 0 then (ev 156 31 [some (vr 115), some (vr x1), none, some (vi x3)] [] (hp L b I J)) else (gd (0 ≤ (x3 : Int) ∧ (x3 : Int) < 16) (if (I x1 x3 : Int) < 0 then (ev 156 35 [some (vr 115), some (vr x1), none, some (vi x3)] [] (hp L b I J)) else (gd (0 ≤ (x3 : Int) ∧ (x3 : Int) < 16) (gd (0 ≤ (I x1 x3 : Int) ∧ (I x1 x3 : Int) < 120) (if (I 119 (I x1 x3) : Int) = 0 then (ev 156 35 [some (vr 115), some (vr x1), none, some (vi x3)] [] (hp L b I J)) else (ev 156 31 [some (vr 115), some (vr x1), none, some (vi x3)] [] (hp L b I J)))))))) := by
  refine (e156_4 x1 x2 x3).trans ?_
  simp only [e156_5, e156_7, e156_10, e156_11, e156_14, e156_15, e156_16, e156_17, e156_20, e156_21, e156_24, e156_25, e156_26, e156_27, e156_28, e156_43, e156_44, h0x1, hx1]
theorem s156_31 {L : Nat} {b : Bool} {I : AI} {J : AJ} (x1 : Nat) (x3 : Int)  : ev 156 31 [some (vr 115), some (vr x1), none, some (vi x3)] [] (hp L b I J) = ev 156 36 [some (vr 115), some (vr x1), none, some (vi x3)] [vi 1] (hp L b I J) := by
  refine (e156_31 x1 x3).trans ?_
  simp only [e156_32]
theorem s156_35 {L : Nat} {b : Bool} {I : AI} {J : AJ} (x1 : Nat) (x3 : Int)  : ev 156 35 [some (vr 115), some (vr x1), none, some (vi x3)] [] (hp L b I J) = ev 156 36 [some (vr 115), some (vr x1), none, some (vi x3)] [vi 0] (hp L b I J) := by
  refine (e156_35 x1 x3).trans ?_
  rfl
theorem s156_36 {L : Nat} {b : Bool} {I : AI} {J : AJ} (x1 : Nat) (x3 : Int) (y0 : Int)  : ev 156 36 [some (vr 115), some (vr x1), none, some (vi x3)] [vi y0] (hp L b I J) = gd (-2147483648 ≤ (x3 + 1 : Int) ∧ (x3 + 1 : Int) ≤ 2147483647) (ev 156 4 [some (vr 115), some (vr x1), some (vi y0), some (vi (x3 + 1))] [] (hp L b I J)) := by
  refine (e156_36 x1 x3 y0).trans ?_
  simp only [e156_37, e156_40]
/-! 157: VersionVaultModel.makeShelf([I)I -/
theorem s157_0 {L : Nat} {b : Bool} {I : AI} {J : AJ} (x1 : Nat)  : ev 157 0 [some (vr 115), some (vr x1), none, none] [] (hp L b I J) = (evc 156 [vr 115, vr x1] (hp L b I J)).bind (fun q => ev 157 5 [some (vr 115), some (vr x1), none, none] (q.1 :: []) q.2) := by
  refine (e157_0 x1).trans ?_
  simp only [e157_1, e157_2]
theorem s157_5 {L : Nat} {b : Bool} {I : AI} {J : AJ} (x1 : Nat) (y0 : Int)  : ev 157 5 [some (vr 115), some (vr x1), none, none] [vi y0] (hp L b I J) = if (y0 : Int) = 0 then ((evc 155 [vr 115, vr x1] (hp L b I J)).bind (fun q => ev 157 16 [some (vr 115), some (vr x1), none, none] (q.1 :: []) q.2)) else (some (vi ((-2)), hp L b I J)) := by
  refine (e157_5 x1 y0).trans ?_
  simp only [e157_8, e157_10, e157_11, e157_12, e157_13]
theorem s157_16 {L : Nat} {b : Bool} {I : AI} {J : AJ} (x1 : Nat) (y0 : Int)  : ev 157 16 [some (vr 115), some (vr x1), none, none] [vi y0] (hp L b I J) = if (y0 : Int) < 0 then (if ¬ (I 115 10 : Int) = 100 then (ev 157 37 [some (vr 115), some (vr x1), none, some (vi 0)] [] (hp L b I J)) else (some (vi ((-2)), hp L b I J))) else (some (vi y0, hp L b I J)) := by
  refine (e157_16 x1 y0).trans ?_
  simp only [e157_17, e157_18, e157_21, e157_22, e157_23, e157_24, e157_27, e157_29, e157_32, e157_34, e157_35, e157_36]
theorem s157_37 {L : Nat} {b : Bool} {I : AI} {J : AJ} (x1 : Nat) (x3 : Int) (hx1 : (hk L b)[x1]? = some (0, 16)) (h0x1 : 0 < x1) : ev 157 37 [some (vr 115), some (vr x1), none, some (vi x3)] [] (hp L b I J) = if 16 ≤ (x3 : Int) then (gd (((0 : Int) = 0 ∨ (0 : Int) = 1) ∧ 0 ≤ (I 115 10 : Int) ∧ (I 115 10 : Int) < 100) (gd (-2147483648 ≤ (((upI I 123 (I 115 10) 0) 115 10) + 1 : Int) ∧ (((upI I 123 (I 115 10) 0) 115 10) + 1 : Int) ≤ 2147483647) (gd (-2147483648 ≤ (((upI (upI I 123 (I 115 10) 0) 115 10 (((upI I 123 (I 115 10) 0) 115 10) + 1)) 115 10) - 1 : Int) ∧ (((upI (upI I 123 (I 115 10) 0) 115 10 (((upI I 123 (I 115 10) 0) 115 10) + 1)) 115 10) - 1 : Int) ≤ 2147483647) (some (vi (((upI (upI I 123 (I 115 10) 0) 115 10 (((upI I 123 (I 115 10) 0) 115 10) + 1)) 115 10) - 1), hp L b (upI (upI I 123 (I 115 10) 0) 115 10 (((upI I 123 (I 115 10) 0) 115 10) + 1)) J))))) else (gd (-2147483648 ≤ (16 * (I 115 10) : Int) ∧ (16 * (I 115 10) : Int) ≤ 2147483647) (gd (-2147483648 ≤ ((16 * (I 115 10)) + x3 : Int) ∧ ((16 * (I 115 10)) + x3 : Int) ≤ 2147483647) (gd (0 ≤ (x3 : Int) ∧ (x3 : Int) < 16) (gd (0 ≤ ((16 * (I 115 10)) + x3 : Int) ∧ ((16 * (I 115 10)) + x3 : Int) < 1600) (gd (-2147483648 ≤ (x3 + 1 : Int) ∧ (x3 + 1 : Int) ≤ 2147483647) (ev 157 37 [some (vr 115), some (vr x1), none, some (vi (x3 + 1))] [] (hp L b (upI I 122 ((16 * (I 115 10)) + x3) (I x1 x3)) J))))))) := by
  refine (e157_37 x1 x3).trans ?_
  simp only [e157_38, e157_40, e157_43, e157_44, e157_47, e157_49, e157_50, e157_53, e157_54, e157_55, e157_56, e157_57, e157_58, e157_59, e157_60, e157_63, e157_66, e157_67, e157_70, e157_71, e157_74, e157_75, e157_76, e157_77, e157_78, e157_81, e157_82, e157_83, e157_86, e157_87, e157_90, e157_91, e157_92, h0x1, hx1]
/-! 158: VersionVaultModel.shelf()I -/
theorem s158_0 {L : Nat} {b : Bool} {I : AI} {J : AJ}   : ev 158 0 [some (vr 115), none, none] [] (hp L b I J) = (evc 157 [vr 115, vr 124] (hp L b I J)).bind (fun q => ev 158 8 [some (vr 115), none, none] (q.1 :: []) q.2) := by
  refine (e158_0 ).trans ?_
  simp only [e158_1, e158_2, e158_5]
theorem s158_8 {L : Nat} {b : Bool} {I : AI} {J : AJ} (y0 : Int)  : ev 158 8 [some (vr 115), none, none] [vi y0] (hp L b I J) = ev 158 11 [some (vr 115), some (vi y0), some (vi 0)] [] (hp L b I J) := by
  refine (e158_8 y0).trans ?_
  simp only [e158_9, e158_10]
theorem s158_11 {L : Nat} {b : Bool} {I : AI} {J : AJ} (x1 : Int) (x2 : Int)  : ev 158 11 [some (vr 115), some (vi x1), some (vi x2)] [] (hp L b I J) = if 16 ≤ (x2 : Int) then (ev 158 34 [none, some (vi x1), none] [] (hp L b I J)) else (if (x1 : Int) < 0 then (ev 158 34 [none, some (vi x1), none] [] (hp L b I J)) else (gd (0 ≤ (x2 : Int) ∧ (x2 : Int) < 16) (gd (-2147483648 ≤ (x2 + 1 : Int) ∧ (x2 + 1 : Int) ≤ 2147483647) (ev 158 11 [some (vr 115), some (vi x1), some (vi (x2 + 1))] [] (hp L b (upI I 124 x2 ((-1))) J))))) := by
  refine (e158_11 x1 x2).trans ?_
  simp only [e158_12, e158_14, e158_17, e158_18, e158_21, e158_22, e158_25, e158_26, e158_27, e158_28, e158_31]
theorem s158_34 {L : Nat} {b : Bool} {I : AI} {J : AJ} (x1 : Int)  : ev 158 34 [none, some (vi x1), none] [] (hp L b I J) = some (vi x1, hp L b I J) := by
  refine (e158_34 x1).trans ?_
  simp only [e158_35]
/-! 159: VersionVaultModel.on(II)I -/
theorem s159_0 {L : Nat} {b : Bool} {I : AI} {J : AJ} (x1 : Int) (x2 : Int)  : ev 159 0 [some (vr 115), some (vi x1), some (vi x2)] [] (hp L b I J) = (evc 150 [vr 115, vi x1] (hp L b I J)).bind (fun q => ev 159 5 [some (vr 115), some (vi x1), some (vi x2)] (q.1 :: []) q.2) := by
  refine (e159_0 x1 x2).trans ?_
  simp only [e159_1, e159_2]
theorem s159_5 {L : Nat} {b : Bool} {I : AI} {J : AJ} (x1 : Int) (x2 : Int) (y0 : Int)  : ev 159 5 [some (vr 115), some (vi x1), some (vi x2)] [vi y0] (hp L b I J) = if (y0 : Int) = 0 then (ev 159 29 [none, none, none] [] (hp L b I J)) else ((evc 149 [vi x2] (hp L b I J)).bind (fun q => ev 159 12 [some (vr 115), some (vi x1), some (vi x2)] (q.1 :: []) q.2)) := by
  refine (e159_5 x1 x2 y0).trans ?_
  simp only [e159_8, e159_9]
theorem s159_12 {L : Nat} {b : Bool} {I : AI} {J : AJ} (x1 : Int) (x2 : Int) (y0 : Int)  : ev 159 12 [some (vr 115), some (vi x1), some (vi x2)] [vi y0] (hp L b I J) = if (y0 : Int) = 0 then (ev 159 29 [none, none, none] [] (hp L b I J)) else (gd (-2147483648 ≤ (16 * x1 : Int) ∧ (16 * x1 : Int) ≤ 2147483647) (gd (-2147483648 ≤ ((16 * x1) + x2 : Int) ∧ ((16 * x1) + x2 : Int) ≤ 2147483647) (gd (0 ≤ ((16 * x1) + x2 : Int) ∧ ((16 * x1) + x2 : Int) < 1600) (some (vi (I 122 ((16 * x1) + x2)), hp L b I J))))) := by
  refine (e159_12 x1 x2 y0).trans ?_
  simp only [e159_15, e159_16, e159_19, e159_21, e159_22, e159_23, e159_24, e159_25, e159_26, e159_31]
theorem s159_29 {L : Nat} {b : Bool} {I : AI} {J : AJ}   : ev 159 29 [none, none, none] [] (hp L b I J) = some (vi ((-2)), hp L b I J) := by
  refine (e159_29 ).trans ?_
  simp only [e159_31]
/-! 160: VersionVaultModel.isStep(I)Z -/
theorem s160_0 {L : Nat} {b : Bool} {I : AI} {J : AJ} (x1 : Int)  : ev 160 0 [some (vr 115), some (vi x1)] [] (hp L b I J) = if (x1 : Int) < 0 then (ev 160 16 [none, none] [] (hp L b I J)) else (if (I 115 16) ≤ (x1 : Int) then (ev 160 16 [none, none] [] (hp L b I J)) else (gd ((1 : Int) = 0 ∨ (1 : Int) = 1) (some (vi 1, hp L b I J)))) := by
  refine (e160_0 x1).trans ?_
  simp only [e160_1, e160_4, e160_5, e160_6, e160_9, e160_12, e160_13, e160_17]
theorem s160_16 {L : Nat} {b : Bool} {I : AI} {J : AJ}   : ev 160 16 [none, none] [] (hp L b I J) = gd ((0 : Int) = 0 ∨ (0 : Int) = 1) (some (vi 0, hp L b I J)) := by
  refine (e160_16 ).trans ?_
  simp only [e160_17]
/-! 161: VersionVaultModel.makeStep(III)I -/
theorem s161_0 {L : Nat} {b : Bool} {I : AI} {J : AJ} (x1 : Int) (x2 : Int) (x3 : Int)  : ev 161 0 [some (vr 115), some (vi x1), some (vi x2), some (vi x3)] [] (hp L b I J) = gd (0 ≤ (I 115 16 : Int) ∧ (I 115 16 : Int) < 80) (gd (0 ≤ ((upI I 125 (I 115 16) x1) 115 16 : Int) ∧ ((upI I 125 (I 115 16) x1) 115 16 : Int) < 80) (gd (0 ≤ ((upI (upI I 125 (I 115 16) x1) 126 ((upI I 125 (I 115 16) x1) 115 16) x2) 115 16 : Int) ∧ ((upI (upI I 125 (I 115 16) x1) 126 ((upI I 125 (I 115 16) x1) 115 16) x2) 115 16 : Int) < 80) (gd (0 ≤ ((upI (upI (upI I 125 (I 115 16) x1) 126 ((upI I 125 (I 115 16) x1) 115 16) x2) 127 ((upI (upI I 125 (I 115 16) x1) 126 ((upI I 125 (I 115 16) x1) 115 16) x2) 115 16) x3) 115 16 : Int) ∧ ((upI (upI (upI I 125 (I 115 16) x1) 126 ((upI I 125 (I 115 16) x1) 115 16) x2) 127 ((upI (upI I 125 (I 115 16) x1) 126 ((upI I 125 (I 115 16) x1) 115 16) x2) 115 16) x3) 115 16 : Int) < 80) (gd (-2147483648 ≤ (((upI (upI (upI (upI I 125 (I 115 16) x1) 126 ((upI I 125 (I 115 16) x1) 115 16) x2) 127 ((upI (upI I 125 (I 115 16) x1) 126 ((upI I 125 (I 115 16) x1) 115 16) x2) 115 16) x3) 128 ((upI (upI (upI I 125 (I 115 16) x1) 126 ((upI I 125 (I 115 16) x1) 115 16) x2) 127 ((upI (upI I 125 (I 115 16) x1) 126 ((upI I 125 (I 115 16) x1) 115 16) x2) 115 16) x3) 115 16) 0) 115 16) + 1 : Int) ∧ (((upI (upI (upI (upI I 125 (I 115 16) x1) 126 ((upI I 125 (I 115 16) x1) 115 16) x2) 127 ((upI (upI I 125 (I 115 16) x1) 126 ((upI I 125 (I 115 16) x1) 115 16) x2) 115 16) x3) 128 ((upI (upI (upI I 125 (I 115 16) x1) 126 ((upI I 125 (I 115 16) x1) 115 16) x2) 127 ((upI (upI I 125 (I 115 16) x1) 126 ((upI I 125 (I 115 16) x1) 115 16) x2) 115 16) x3) 115 16) 0) 115 16) + 1 : Int) ≤ 2147483647) (gd (-2147483648 ≤ (((upI (upI (upI (upI (upI I 125 (I 115 16) x1) 126 ((upI I 125 (I 115 16) x1) 115 16) x2) 127 ((upI (upI I 125 (I 115 16) x1) 126 ((upI I 125 (I 115 16) x1) 115 16) x2) 115 16) x3) 128 ((upI (upI (upI I 125 (I 115 16) x1) 126 ((upI I 125 (I 115 16) x1) 115 16) x2) 127 ((upI (upI I 125 (I 115 16) x1) 126 ((upI I 125 (I 115 16) x1) 115 16) x2) 115 16) x3) 115 16) 0) 115 16 (((upI (upI (upI (upI I 125 (I 115 16) x1) 126 ((upI I 125 (I 115 16) x1) 115 16) x2) 127 ((upI (upI I 125 (I 115 16) x1) 126 ((upI I 125 (I 115 16) x1) 115 16) x2) 115 16) x3) 128 ((upI (upI (upI I 125 (I 115 16) x1) 126 ((upI I 125 (I 115 16) x1) 115 16) x2) 127 ((upI (upI I 125 (I 115 16) x1) 126 ((upI I 125 (I 115 16) x1) 115 16) x2) 115 16) x3) 115 16) 0) 115 16) + 1)) 115 16) - 1 : Int) ∧ (((upI (upI (upI (upI (upI I 125 (I 115 16) x1) 126 ((upI I 125 (I 115 16) x1) 115 16) x2) 127 ((upI (upI I 125 (I 115 16) x1) 126 ((upI I 125 (I 115 16) x1) 115 16) x2) 115 16) x3) 128 ((upI (upI (upI I 125 (I 115 16) x1) 126 ((upI I 125 (I 115 16) x1) 115 16) x2) 127 ((upI (upI I 125 (I 115 16) x1) 126 ((upI I 125 (I 115 16) x1) 115 16) x2) 115 16) x3) 115 16) 0) 115 16 (((upI (upI (upI (upI I 125 (I 115 16) x1) 126 ((upI I 125 (I 115 16) x1) 115 16) x2) 127 ((upI (upI I 125 (I 115 16) x1) 126 ((upI I 125 (I 115 16) x1) 115 16) x2) 115 16) x3) 128 ((upI (upI (upI I 125 (I 115 16) x1) 126 ((upI I 125 (I 115 16) x1) 115 16) x2) 127 ((upI (upI I 125 (I 115 16) x1) 126 ((upI I 125 (I 115 16) x1) 115 16) x2) 115 16) x3) 115 16) 0) 115 16) + 1)) 115 16) - 1 : Int) ≤ 2147483647) (some (vi (((upI (upI (upI (upI (upI I 125 (I 115 16) x1) 126 ((upI I 125 (I 115 16) x1) 115 16) x2) 127 ((upI (upI I 125 (I 115 16) x1) 126 ((upI I 125 (I 115 16) x1) 115 16) x2) 115 16) x3) 128 ((upI (upI (upI I 125 (I 115 16) x1) 126 ((upI I 125 (I 115 16) x1) 115 16) x2) 127 ((upI (upI I 125 (I 115 16) x1) 126 ((upI I 125 (I 115 16) x1) 115 16) x2) 115 16) x3) 115 16) 0) 115 16 (((upI (upI (upI (upI I 125 (I 115 16) x1) 126 ((upI I 125 (I 115 16) x1) 115 16) x2) 127 ((upI (upI I 125 (I 115 16) x1) 126 ((upI I 125 (I 115 16) x1) 115 16) x2) 115 16) x3) 128 ((upI (upI (upI I 125 (I 115 16) x1) 126 ((upI I 125 (I 115 16) x1) 115 16) x2) 127 ((upI (upI I 125 (I 115 16) x1) 126 ((upI I 125 (I 115 16) x1) 115 16) x2) 115 16) x3) 115 16) 0) 115 16) + 1)) 115 16) - 1), hp L b (upI (upI (upI (upI (upI I 125 (I 115 16) x1) 126 ((upI I 125 (I 115 16) x1) 115 16) x2) 127 ((upI (upI I 125 (I 115 16) x1) 126 ((upI I 125 (I 115 16) x1) 115 16) x2) 115 16) x3) 128 ((upI (upI (upI I 125 (I 115 16) x1) 126 ((upI I 125 (I 115 16) x1) 115 16) x2) 127 ((upI (upI I 125 (I 115 16) x1) 126 ((upI I 125 (I 115 16) x1) 115 16) x2) 115 16) x3) 115 16) 0) 115 16 (((upI (upI (upI (upI I 125 (I 115 16) x1) 126 ((upI I 125 (I 115 16) x1) 115 16) x2) 127 ((upI (upI I 125 (I 115 16) x1) 126 ((upI I 125 (I 115 16) x1) 115 16) x2) 115 16) x3) 128 ((upI (upI (upI I 125 (I 115 16) x1) 126 ((upI I 125 (I 115 16) x1) 115 16) x2) 127 ((upI (upI I 125 (I 115 16) x1) 126 ((upI I 125 (I 115 16) x1) 115 16) x2) 115 16) x3) 115 16) 0) 115 16) + 1)) J))))))) := by
  refine (e161_0 x1 x2 x3).trans ?_
  simp only [e161_1, e161_4, e161_5, e161_8, e161_9, e161_10, e161_11, e161_14, e161_15, e161_18, e161_19, e161_20, e161_21, e161_24, e161_25, e161_28, e161_29, e161_30, e161_31, e161_34, e161_35, e161_38, e161_39, e161_40, e161_41, e161_42, e161_45, e161_46, e161_47, e161_50, e161_51, e161_54, e161_55, e161_56]
/-! 162: VersionVaultModel.step(III)I -/
theorem s162_0 {L : Nat} {b : Bool} {I : AI} {J : AJ} (x1 : Int) (x2 : Int) (x3 : Int)  : ev 162 0 [some (vr 115), some (vi x1), some (vi x2), some (vi x3)] [] (hp L b I J) = (evc 150 [vr 115, vi x1] (hp L b I J)).bind (fun q => ev 162 5 [some (vr 115), some (vi x1), some (vi x2), some (vi x3)] (q.1 :: []) q.2) := by
  refine (e162_0 x1 x2 x3).trans ?_
  simp only [e162_1, e162_2]
theorem s162_5 {L : Nat} {b : Bool} {I : AI} {J : AJ} (x1 : Int) (x2 : Int) (x3 : Int) (y0 : Int)  : ev 162 5 [some (vr 115), some (vi x1), some (vi x2), some (vi x3)] [vi y0] (hp L b I J) = if (y0 : Int) = 0 then (ev 162 58 [none, none, none, none] [] (hp L b I J)) else (if (x2 : Int) = ((-1)) then (ev 162 21 [some (vr 115), some (vi x1), some (vi x2), some (vi x3)] [] (hp L b I J)) else ((evc 160 [vr 115, vi x2] (hp L b I J)).bind (fun q => ev 162 18 [some (vr 115), some (vi x1), some (vi x2), some (vi x3)] (q.1 :: []) q.2))) := by
  refine (e162_5 x1 x2 x3 y0).trans ?_
  simp only [e162_8, e162_9, e162_10, e162_13, e162_14, e162_15]
theorem s162_18 {L : Nat} {b : Bool} {I : AI} {J : AJ} (x1 : Int) (x2 : Int) (x3 : Int) (y0 : Int)  : ev 162 18 [some (vr 115), some (vi x1), some (vi x2), some (vi x3)] [vi y0] (hp L b I J) = if (y0 : Int) = 0 then (ev 162 58 [none, none, none, none] [] (hp L b I J)) else (ev 162 21 [some (vr 115), some (vi x1), some (vi x2), some (vi x3)] [] (hp L b I J)) := by
  refine (e162_18 x1 x2 x3 y0).trans ?_
  rfl
theorem s162_21 {L : Nat} {b : Bool} {I : AI} {J : AJ} (x1 : Int) (x2 : Int) (x3 : Int)  : ev 162 21 [some (vr 115), some (vi x1), some (vi x2), some (vi x3)] [] (hp L b I J) = if (x3 : Int) = ((-1)) then (ev 162 34 [some (vr 115), some (vi x1), some (vi x2), some (vi x3)] [] (hp L b I J)) else ((evc 160 [vr 115, vi x3] (hp L b I J)).bind (fun q => ev 162 31 [some (vr 115), some (vi x1), some (vi x2), some (vi x3)] (q.1 :: []) q.2)) := by
  refine (e162_21 x1 x2 x3).trans ?_
  simp only [e162_22, e162_23, e162_26, e162_27, e162_28]
theorem s162_31 {L : Nat} {b : Bool} {I : AI} {J : AJ} (x1 : Int) (x2 : Int) (x3 : Int) (y0 : Int)  : ev 162 31 [some (vr 115), some (vi x1), some (vi x2), some (vi x3)] [vi y0] (hp L b I J) = if (y0 : Int) = 0 then (ev 162 58 [none, none, none, none] [] (hp L b I J)) else (ev 162 34 [some (vr 115), some (vi x1), some (vi x2), some (vi x3)] [] (hp L b I J)) := by
  refine (e162_31 x1 x2 x3 y0).trans ?_
  rfl
theorem s162_34 {L : Nat} {b : Bool} {I : AI} {J : AJ} (x1 : Int) (x2 : Int) (x3 : Int)  : ev 162 34 [some (vr 115), some (vi x1), some (vi x2), some (vi x3)] [] (hp L b I J) = if (x3 : Int) = ((-1)) then (ev 162 49 [some (vr 115), some (vi x1), some (vi x2), some (vi x3)] [] (hp L b I J)) else (if (x2 : Int) = ((-1)) then (ev 162 58 [none, none, none, none] [] (hp L b I J)) else (if (x2 : Int) = x3 then (ev 162 58 [none, none, none, none] [] (hp L b I J)) else (ev 162 49 [some (vr 115), some (vi x1), some (vi x2), some (vi x3)] [] (hp L b I J)))) := by
  refine (e162_34 x1 x2 x3).trans ?_
  simp only [e162_35, e162_36, e162_39, e162_40, e162_41, e162_44, e162_45, e162_46]
theorem s162_49 {L : Nat} {b : Bool} {I : AI} {J : AJ} (x1 : Int) (x2 : Int) (x3 : Int)  : ev 162 49 [some (vr 115), some (vi x1), some (vi x2), some (vi x3)] [] (hp L b I J) = if ¬ (I 115 16 : Int) = 80 then ((evc 161 [vr 115, vi x1, vi x2, vi x3] (hp L b I J)).bind (fun q => ev 162 68 [some (vr 115), some (vi x1), some (vi x2), some (vi x3)] (q.1 :: []) q.2)) else (ev 162 58 [none, none, none, none] [] (hp L b I J)) := by
  refine (e162_49 x1 x2 x3).trans ?_
  simp only [e162_50, e162_53, e162_55, e162_61, e162_62, e162_63, e162_64, e162_65]
theorem s162_58 {L : Nat} {b : Bool} {I : AI} {J : AJ}   : ev 162 58 [none, none, none, none] [] (hp L b I J) = some (vi ((-2)), hp L b I J) := by
  refine (e162_58 ).trans ?_
  simp only [e162_60]
theorem s162_68 {L : Nat} {b : Bool} {I : AI} {J : AJ} (x1 : Int) (x2 : Int) (x3 : Int) (y0 : Int)  : ev 162 68 [some (vr 115), some (vi x1), some (vi x2), some (vi x3)] [vi y0] (hp L b I J) = some (vi y0, hp L b I J) := by
  refine (e162_68 x1 x2 x3 y0).trans ?_
  rfl
/-! 163: VersionVaultModel.addAncestors(I[Z)V -/
theorem s163_0 {L : Nat} {b : Bool} {I : AI} {J : AJ} (x1 : Int) (x2 : Nat)  : ev 163 0 [some (vr 115), some (vi x1), some (vr x2), none] [] (hp L b I J) = (evc 164 [vr 130] (hp L b I J)).bind (fun q => ev 163 7 [some (vr 115), some (vi x1), some (vr x2), none] ([]) q.2) := by
  refine (e163_0 x1 x2).trans ?_
  simp only [e163_1, e163_4]
theorem s163_7 {L : Nat} {b : Bool} {I : AI} {J : AJ} (x1 : Int) (x2 : Nat)  : ev 163 7 [some (vr 115), some (vi x1), some (vr x2), none] [] (hp L b I J) = gd (((1 : Int) = 0 ∨ (1 : Int) = 1) ∧ 0 ≤ (x1 : Int) ∧ (x1 : Int) < 80) (ev 163 16 [some (vr 115), none, some (vr x2), some (vi x1)] [] (hp L b (upI I 130 x1 1) J)) := by
  refine (e163_7 x1 x2).trans ?_
  simp only [e163_8, e163_11, e163_12, e163_13, e163_14, e163_15]
theorem s163_16 {L : Nat} {b : Bool} {I : AI} {J : AJ} (x2 : Nat) (x3 : Int) (hx2 : (hk L b)[x2]? = some (1, 80)) (h0x2 : 0 < x2) : ev 163 16 [some (vr 115), none, some (vr x2), some (vi x3)] [] (hp L b I J) = if (x3 : Int) < 0 then (some (vi 0, hp L b I J)) else (gd (0 ≤ (x3 : Int) ∧ (x3 : Int) < 80) (if (I 130 x3 : Int) = 0 then (ev 163 75 [some (vr 115), none, some (vr x2), some (vi x3)] [] (hp L b I J)) else (gd (((1 : Int) = 0 ∨ (1 : Int) = 1) ∧ 0 ≤ (x3 : Int) ∧ (x3 : Int) < 80) (gd (0 ≤ (x3 : Int) ∧ (x3 : Int) < 80) (if ((upI I x2 x3 1) 126 x3 : Int) < 0 then (ev 163 54 [some (vr 115), none, some (vr x2), some (vi x3)] [] (hp L b (upI I x2 x3 1) J)) else (gd (0 ≤ (x3 : Int) ∧ (x3 : Int) < 80) (gd (((1 : Int) = 0 ∨ (1 : Int) = 1) ∧ 0 ≤ ((upI I x2 x3 1) 126 x3 : Int) ∧ ((upI I x2 x3 1) 126 x3 : Int) < 80) (ev 163 54 [some (vr 115), none, some (vr x2), some (vi x3)] [] (hp L b (upI (upI I x2 x3 1) 130 ((upI I x2 x3 1) 126 x3) 1) J))))))))) := by
  refine (e163_16 x2 x3).trans ?_
  simp only [e163_17, e163_20, e163_21, e163_24, e163_25, e163_26, e163_29, e163_30, e163_31, e163_32, e163_33, e163_34, e163_37, e163_38, e163_39, e163_42, e163_43, e163_46, e163_47, e163_50, e163_51, e163_52, e163_53, e163_81, h0x2, hx2]
theorem s163_54 {L : Nat} {b : Bool} {I : AI} {J : AJ} (x2 : Nat) (x3 : Int)  : ev 163 54 [some (vr 115), none, some (vr x2), some (vi x3)] [] (hp L b I J) = gd (0 ≤ (x3 : Int) ∧ (x3 : Int) < 80) (if (I 127 x3 : Int) < 0 then (ev 163 75 [some (vr 115), none, some (vr x2), some (vi x3)] [] (hp L b I J)) else (gd (0 ≤ (x3 : Int) ∧ (x3 : Int) < 80) (gd (((1 : Int) = 0 ∨ (1 : Int) = 1) ∧ 0 ≤ (I 127 x3 : Int) ∧ (I 127 x3 : Int) < 80) (ev 163 75 [some (vr 115), none, some (vr x2), some (vi x3)] [] (hp L b (upI I 130 (I 127 x3) 1) J))))) := by
  refine (e163_54 x2 x3).trans ?_
  simp only [e163_55, e163_58, e163_59, e163_60, e163_63, e163_64, e163_67, e163_68, e163_71, e163_72, e163_73, e163_74]
theorem s163_75 {L : Nat} {b : Bool} {I : AI} {J : AJ} (x2 : Nat) (x3 : Int)  : ev 163 75 [some (vr 115), none, some (vr x2), some (vi x3)] [] (hp L b I J) = gd (-2147483648 ≤ (x3 + (-1) : Int) ∧ (x3 + (-1) : Int) ≤ 2147483647) (ev 163 16 [some (vr 115), none, some (vr x2), some (vi (x3 + (-1)))] [] (hp L b I J)) := by
  refine (e163_75 x2 x3).trans ?_
  simp only [e163_78]
/-! 164: VersionVaultModel.fresh([Z)V -/
theorem s164_0 {L : Nat} {b : Bool} {I : AI} {J : AJ} (x0 : Nat)  : ev 164 0 [some (vr x0), none] [] (hp L b I J) = ev 164 2 [some (vr x0), some (vi 0)] [] (hp L b I J) := by
  refine (e164_0 x0).trans ?_
  simp only [e164_1]
theorem s164_2 {L : Nat} {b : Bool} {I : AI} {J : AJ} (x0 : Nat) (x1 : Int) (hx0 : (hk L b)[x0]? = some (1, 80)) (h0x0 : 0 < x0) : ev 164 2 [some (vr x0), some (vi x1)] [] (hp L b I J) = if 80 ≤ (x1 : Int) then (some (vi 0, hp L b I J)) else (gd (((0 : Int) = 0 ∨ (0 : Int) = 1) ∧ 0 ≤ (x1 : Int) ∧ (x1 : Int) < 80) (gd (-2147483648 ≤ (x1 + 1 : Int) ∧ (x1 + 1 : Int) ≤ 2147483647) (ev 164 2 [some (vr x0), some (vi (x1 + 1))] [] (hp L b (upI I x0 x1 0) J)))) := by
  refine (e164_2 x0 x1).trans ?_
  simp only [e164_3, e164_5, e164_8, e164_9, e164_10, e164_11, e164_12, e164_15, e164_18, h0x0, hx0]
/-! 165: VersionVaultModel.isAncestor(II)Z -/
theorem s165_0 {L : Nat} {b : Bool} {I : AI} {J : AJ} (x1 : Int) (x2 : Int)  : ev 165 0 [some (vr 115), some (vi x1), some (vi x2)] [] (hp L b I J) = (evc 164 [vr 133] (hp L b I J)).bind (fun q => ev 165 7 [some (vr 115), some (vi x1), some (vi x2)] ([]) q.2) := by
  refine (e165_0 x1 x2).trans ?_
  simp only [e165_1, e165_4]
theorem s165_7 {L : Nat} {b : Bool} {I : AI} {J : AJ} (x1 : Int) (x2 : Int)  : ev 165 7 [some (vr 115), some (vi x1), some (vi x2)] [] (hp L b I J) = (evc 163 [vr 115, vi x2, vr 133] (hp L b I J)).bind (fun q => ev 165 16 [some (vr 115), some (vi x1), none] ([]) q.2) := by
  refine (e165_7 x1 x2).trans ?_
  simp only [e165_8, e165_9, e165_10, e165_13]
theorem s165_16 {L : Nat} {b : Bool} {I : AI} {J : AJ} (x1 : Int)  : ev 165 16 [some (vr 115), some (vi x1), none] [] (hp L b I J) = gd (0 ≤ (x1 : Int) ∧ (x1 : Int) < 80) (gd ((I 133 x1 : Int) = 0 ∨ (I 133 x1 : Int) = 1) (some (vi (I 133 x1), hp L b I J))) := by
  refine (e165_16 x1).trans ?_
  simp only [e165_17, e165_20, e165_21, e165_22]
/-! 166: VersionVaultModel.ancestors(I)I -/
theorem s166_0 {L : Nat} {b : Bool} {I : AI} {J : AJ} (x1 : Int)  : ev 166 0 [some (vr 115), some (vi x1), none, none] [] (hp L b I J) = (evc 164 [vr 131] (hp L b I J)).bind (fun q => ev 166 7 [some (vr 115), some (vi x1), none, none] ([]) q.2) := by
  refine (e166_0 x1).trans ?_
  simp only [e166_1, e166_4]
theorem s166_7 {L : Nat} {b : Bool} {I : AI} {J : AJ} (x1 : Int)  : ev 166 7 [some (vr 115), some (vi x1), none, none] [] (hp L b I J) = (evc 163 [vr 115, vi x1, vr 131] (hp L b I J)).bind (fun q => ev 166 16 [some (vr 115), none, none, none] ([]) q.2) := by
  refine (e166_7 x1).trans ?_
  simp only [e166_8, e166_9, e166_10, e166_13]
theorem s166_16 {L : Nat} {b : Bool} {I : AI} {J : AJ}   : ev 166 16 [some (vr 115), none, none, none] [] (hp L b I J) = ev 166 20 [some (vr 115), none, some (vi 0), some (vi 0)] [] (hp L b I J) := by
  refine (e166_16 ).trans ?_
  simp only [e166_17, e166_18, e166_19]
theorem s166_20 {L : Nat} {b : Bool} {I : AI} {J : AJ} (x2 : Int) (x3 : Int)  : ev 166 20 [some (vr 115), none, some (vi x2), some (vi x3)] [] (hp L b I J) = if (I 115 16) ≤ (x3 : Int) then (some (vi x2, hp L b I J)) else (gd (0 ≤ (x3 : Int) ∧ (x3 : Int) < 80) (if (I 131 x3 : Int) = 0 then (ev 166 43 [some (vr 115), none, none, some (vi x3)] [vi 0, vi x2] (hp L b I J)) else (ev 166 43 [some (vr 115), none, none, some (vi x3)] [vi 1, vi x2] (hp L b I J)))) := by
  refine (e166_20 x2 x3).trans ?_
  simp only [e166_21, e166_22, e166_25, e166_28, e166_29, e166_30, e166_33, e166_34, e166_35, e166_38, e166_39, e166_42, e166_51, e166_52]
theorem s166_43 {L : Nat} {b : Bool} {I : AI} {J : AJ} (x3 : Int) (y0 : Int) (y1 : Int)  : ev 166 43 [some (vr 115), none, none, some (vi x3)] [vi y0, vi y1] (hp L b I J) = gd (-2147483648 ≤ (y1 + y0 : Int) ∧ (y1 + y0 : Int) ≤ 2147483647) (gd (-2147483648 ≤ (x3 + 1 : Int) ∧ (x3 + 1 : Int) ≤ 2147483647) (ev 166 20 [some (vr 115), none, some (vi (y1 + y0)), some (vi (x3 + 1))] [] (hp L b I J))) := by
  refine (e166_43 x3 y0 y1).trans ?_
  simp only [e166_44, e166_45, e166_48]
/-! 167: VersionVaultModel.of(II)I -/
theorem s167_0 {L : Nat} {b : Bool} {I : AI} {J : AJ} (x1 : Int) (x2 : Int)  : ev 167 0 [some (vr 115), some (vi x1), some (vi x2)] [] (hp L b I J) = (evc 160 [vr 115, vi x1] (hp L b I J)).bind (fun q => ev 167 5 [some (vr 115), some (vi x1), some (vi x2)] (q.1 :: []) q.2) := by
  refine (e167_0 x1 x2).trans ?_
  simp only [e167_1, e167_2]
theorem s167_5 {L : Nat} {b : Bool} {I : AI} {J : AJ} (x1 : Int) (x2 : Int) (y0 : Int)  : ev 167 5 [some (vr 115), some (vi x1), some (vi x2)] [vi y0] (hp L b I J) = if ¬ (y0 : Int) = 0 then (if (x2 : Int) = 0 then (gd (0 ≤ (x1 : Int) ∧ (x1 : Int) < 80) (some (vi (I 125 x1), hp L b I J))) else (if (x2 : Int) = 1 then (gd (0 ≤ (x1 : Int) ∧ (x1 : Int) < 80) (some (vi (I 126 x1), hp L b I J))) else (if (x2 : Int) = 2 then (gd (0 ≤ (x1 : Int) ∧ (x1 : Int) < 80) (some (vi (I 127 x1), hp L b I J))) else (if (x2 : Int) = 3 then ((evc 166 [vr 115, vi x1] (hp L b I J)).bind (fun q => ev 167 70 [some (vr 115), some (vi x1), none] (q.1 :: []) q.2)) else (some (vi ((-2)), hp L b I J)))))) else (some (vi ((-2)), hp L b I J)) := by
  refine (e167_5 x1 x2 y0).trans ?_
  simp only [e167_8, e167_10, e167_11, e167_12, e167_44, e167_45, e167_48, e167_49, e167_50, e167_51, e167_52, e167_55, e167_56, e167_57, e167_58, e167_59, e167_62, e167_63, e167_64, e167_65, e167_66, e167_67, e167_71, e167_73]
theorem s167_70 {L : Nat} {b : Bool} {I : AI} {J : AJ} (x1 : Int) (y0 : Int)  : ev 167 70 [some (vr 115), some (vi x1), none] [vi y0] (hp L b I J) = some (vi y0, hp L b I J) := by
  refine (e167_70 x1 y0).trans ?_
  rfl
/-! 168: VersionVaultModel.reaches(II)I -/
theorem s168_0 {L : Nat} {b : Bool} {I : AI} {J : AJ} (x1 : Int) (x2 : Int)  : ev 168 0 [some (vr 115), some (vi x1), some (vi x2)] [] (hp L b I J) = (evc 160 [vr 115, vi x1] (hp L b I J)).bind (fun q => ev 168 5 [some (vr 115), some (vi x1), some (vi x2)] (q.1 :: []) q.2) := by
  refine (e168_0 x1 x2).trans ?_
  simp only [e168_1, e168_2]
theorem s168_5 {L : Nat} {b : Bool} {I : AI} {J : AJ} (x1 : Int) (x2 : Int) (y0 : Int)  : ev 168 5 [some (vr 115), some (vi x1), some (vi x2)] [vi y0] (hp L b I J) = if (y0 : Int) = 0 then (ev 168 33 [none, none, none] [] (hp L b I J)) else ((evc 160 [vr 115, vi x2] (hp L b I J)).bind (fun q => ev 168 13 [some (vr 115), some (vi x1), some (vi x2)] (q.1 :: []) q.2)) := by
  refine (e168_5 x1 x2 y0).trans ?_
  simp only [e168_8, e168_9, e168_10]
theorem s168_13 {L : Nat} {b : Bool} {I : AI} {J : AJ} (x1 : Int) (x2 : Int) (y0 : Int)  : ev 168 13 [some (vr 115), some (vi x1), some (vi x2)] [vi y0] (hp L b I J) = if (y0 : Int) = 0 then (ev 168 33 [none, none, none] [] (hp L b I J)) else ((evc 165 [vr 115, vi x2, vi x1] (hp L b I J)).bind (fun q => ev 168 22 [none, none, none] (q.1 :: []) q.2)) := by
  refine (e168_13 x1 x2 y0).trans ?_
  simp only [e168_16, e168_17, e168_18, e168_19]
theorem s168_22 {L : Nat} {b : Bool} {I : AI} {J : AJ} (y0 : Int)  : ev 168 22 [none, none, none] [vi y0] (hp L b I J) = if (y0 : Int) = 0 then (some (vi 0, hp L b I J)) else (some (vi 1, hp L b I J)) := by
  refine (e168_22 y0).trans ?_
  simp only [e168_25, e168_26, e168_29, e168_30, e168_35]
theorem s168_33 {L : Nat} {b : Bool} {I : AI} {J : AJ}   : ev 168 33 [none, none, none] [] (hp L b I J) = some (vi ((-2)), hp L b I J) := by
  refine (e168_33 ).trans ?_
  simp only [e168_35]
/-! 169: VersionVaultModel.findBases(II)V -/
theorem s169_0 {L : Nat} {b : Bool} {I : AI} {J : AJ} (x1 : Int) (x2 : Int)  : ev 169 0 [some (vr 115), some (vi x1), some (vi x2), none, none, none] [] (hp L b I J) = (evc 164 [vr 131] (hp L b I J)).bind (fun q => ev 169 7 [some (vr 115), some (vi x1), some (vi x2), none, none, none] ([]) q.2) := by
  refine (e169_0 x1 x2).trans ?_
  simp only [e169_1, e169_4]
theorem s169_7 {L : Nat} {b : Bool} {I : AI} {J : AJ} (x1 : Int) (x2 : Int)  : ev 169 7 [some (vr 115), some (vi x1), some (vi x2), none, none, none] [] (hp L b I J) = (evc 164 [vr 132] (hp L b I J)).bind (fun q => ev 169 14 [some (vr 115), some (vi x1), some (vi x2), none, none, none] ([]) q.2) := by
  refine (e169_7 x1 x2).trans ?_
  simp only [e169_8, e169_11]
theorem s169_14 {L : Nat} {b : Bool} {I : AI} {J : AJ} (x1 : Int) (x2 : Int)  : ev 169 14 [some (vr 115), some (vi x1), some (vi x2), none, none, none] [] (hp L b I J) = (evc 163 [vr 115, vi x1, vr 131] (hp L b I J)).bind (fun q => ev 169 23 [some (vr 115), none, some (vi x2), none, none, none] ([]) q.2) := by
  refine (e169_14 x1 x2).trans ?_
  simp only [e169_15, e169_16, e169_17, e169_20]
theorem s169_23 {L : Nat} {b : Bool} {I : AI} {J : AJ} (x2 : Int)  : ev 169 23 [some (vr 115), none, some (vi x2), none, none, none] [] (hp L b I J) = (evc 163 [vr 115, vi x2, vr 132] (hp L b I J)).bind (fun q => ev 169 32 [some (vr 115), none, none, none, none, none] ([]) q.2) := by
  refine (e169_23 x2).trans ?_
  simp only [e169_24, e169_25, e169_26, e169_29]
theorem s169_32 {L : Nat} {b : Bool} {I : AI} {J : AJ}   : ev 169 32 [some (vr 115), none, none, none, none, none] [] (hp L b I J) = ev 169 39 [some (vr 115), none, none, some (vi 0), none, none] [] (hp L b (upI I 115 23 0) J) := by
  refine (e169_32 ).trans ?_
  simp only [e169_33, e169_34, e169_37, e169_38]
theorem s169_39 {L : Nat} {b : Bool} {I : AI} {J : AJ} (x3 : Int)  : ev 169 39 [some (vr 115), none, none, some (vi x3), none, none] [] (hp L b I J) = if (I 115 16) ≤ (x3 : Int) then (some (vi 0, hp L b I J)) else (gd (0 ≤ (x3 : Int) ∧ (x3 : Int) < 80) (if (I 131 x3 : Int) = 0 then (ev 169 69 [some (vr 115), none, none, some (vi x3), none, none] [] (hp L b I J)) else (gd (0 ≤ (x3 : Int) ∧ (x3 : Int) < 80) (if (I 132 x3 : Int) = 0 then (ev 169 69 [some (vr 115), none, none, some (vi x3), none, none] [] (hp L b I J)) else (ev 169 70 [some (vr 115), none, none, some (vi x3), none, none] [vi 1] (hp L b I J)))))) := by
  refine (e169_39 x3).trans ?_
  simp only [e169_40, e169_41, e169_44, e169_47, e169_48, e169_51, e169_52, e169_53, e169_56, e169_57, e169_60, e169_61, e169_62, e169_65, e169_66, e169_169]
theorem s169_69 {L : Nat} {b : Bool} {I : AI} {J : AJ} (x3 : Int)  : ev 169 69 [some (vr 115), none, none, some (vi x3), none, none] [] (hp L b I J) = ev 169 70 [some (vr 115), none, none, some (vi x3), none, none] [vi 0] (hp L b I J) := by
  refine (e169_69 x3).trans ?_
  rfl
theorem s169_70 {L : Nat} {b : Bool} {I : AI} {J : AJ} (x3 : Int) (y0 : Int)  : ev 169 70 [some (vr 115), none, none, some (vi x3), none, none] [vi y0] (hp L b I J) = ev 169 75 [some (vr 115), none, none, some (vi x3), some (vi y0), some (vi 0)] [] (hp L b I J) := by
  refine (e169_70 x3 y0).trans ?_
  simp only [e169_72, e169_73]
theorem s169_75 {L : Nat} {b : Bool} {I : AI} {J : AJ} (x3 : Int) (x4 : Int) (x5 : Int)  : ev 169 75 [some (vr 115), none, none, some (vi x3), some (vi x4), some (vi x5)] [] (hp L b I J) = if (I 115 16) ≤ (x5 : Int) then (ev 169 138 [some (vr 115), none, none, some (vi x3), some (vi x4), none] [] (hp L b I J)) else (if (x4 : Int) = 0 then (ev 169 138 [some (vr 115), none, none, some (vi x3), some (vi x4), none] [] (hp L b I J)) else (if (x5 : Int) = x3 then (ev 169 125 [some (vr 115), none, none, some (vi x3), none, some (vi x5)] [] (hp L b I J)) else (gd (0 ≤ (x5 : Int) ∧ (x5 : Int) < 80) (if (I 131 x5 : Int) = 0 then (ev 169 125 [some (vr 115), none, none, some (vi x3), none, some (vi x5)] [] (hp L b I J)) else (gd (0 ≤ (x5 : Int) ∧ (x5 : Int) < 80) (if (I 132 x5 : Int) = 0 then (ev 169 125 [some (vr 115), none, none, some (vi x3), none, some (vi x5)] [] (hp L b I J)) else ((evc 165 [vr 115, vi x3, vi x5] (hp L b I J)).bind (fun q => ev 169 122 [some (vr 115), none, none, some (vi x3), none, some (vi x5)] (q.1 :: []) q.2)))))))) := by
  refine (e169_75 x3 x4 x5).trans ?_
  simp only [e169_77, e169_78, e169_81, e169_84, e169_86, e169_89, e169_91, e169_92, e169_95, e169_96, e169_99, e169_101, e169_102, e169_105, e169_106, e169_109, e169_111, e169_112, e169_115, e169_116, e169_117, e169_119]
theorem s169_122 {L : Nat} {b : Bool} {I : AI} {J : AJ} (x3 : Int) (x5 : Int) (y0 : Int)  : ev 169 122 [some (vr 115), none, none, some (vi x3), none, some (vi x5)] [vi y0] (hp L b I J) = if ¬ (y0 : Int) = 0 then (ev 169 130 [some (vr 115), none, none, some (vi x3), none, some (vi x5)] [vi 0] (hp L b I J)) else (ev 169 125 [some (vr 115), none, none, some (vi x3), none, some (vi x5)] [] (hp L b I J)) := by
  refine (e169_122 x3 x5 y0).trans ?_
  simp only [e169_129]
theorem s169_125 {L : Nat} {b : Bool} {I : AI} {J : AJ} (x3 : Int) (x5 : Int)  : ev 169 125 [some (vr 115), none, none, some (vi x3), none, some (vi x5)] [] (hp L b I J) = ev 169 130 [some (vr 115), none, none, some (vi x3), none, some (vi x5)] [vi 1] (hp L b I J) := by
  refine (e169_125 x3 x5).trans ?_
  simp only [e169_126]
theorem s169_130 {L : Nat} {b : Bool} {I : AI} {J : AJ} (x3 : Int) (x5 : Int) (y0 : Int)  : ev 169 130 [some (vr 115), none, none, some (vi x3), none, some (vi x5)] [vi y0] (hp L b I J) = gd (-2147483648 ≤ (x5 + 1 : Int) ∧ (x5 + 1 : Int) ≤ 2147483647) (ev 169 75 [some (vr 115), none, none, some (vi x3), some (vi y0), some (vi (x5 + 1))] [] (hp L b I J)) := by
  refine (e169_130 x3 x5 y0).trans ?_
  simp only [e169_132, e169_135]
theorem s169_138 {L : Nat} {b : Bool} {I : AI} {J : AJ} (x3 : Int) (x4 : Int)  : ev 169 138 [some (vr 115), none, none, some (vi x3), some (vi x4), none] [] (hp L b I J) = if (x4 : Int) = 0 then (ev 169 163 [some (vr 115), none, none, some (vi x3), none, none] [] (hp L b I J)) else (gd (0 ≤ (I 115 23 : Int) ∧ (I 115 23 : Int) < 80) (gd (-2147483648 ≤ (((upI I 134 (I 115 23) x3) 115 23) + 1 : Int) ∧ (((upI I 134 (I 115 23) x3) 115 23) + 1 : Int) ≤ 2147483647) (ev 169 163 [some (vr 115), none, none, some (vi x3), none, none] [] (hp L b (upI (upI I 134 (I 115 23) x3) 115 23 (((upI I 134 (I 115 23) x3) 115 23) + 1)) J)))) := by
  refine (e169_138 x3 x4).trans ?_
  simp only [e169_140, e169_143, e169_144, e169_147, e169_148, e169_151, e169_152, e169_153, e169_154, e169_155, e169_158, e169_159, e169_160]
theorem s169_163 {L : Nat} {b : Bool} {I : AI} {J : AJ} (x3 : Int)  : ev 169 163 [some (vr 115), none, none, some (vi x3), none, none] [] (hp L b I J) = gd (-2147483648 ≤ (x3 + 1 : Int) ∧ (x3 + 1 : Int) ≤ 2147483647) (ev 169 39 [some (vr 115), none, none, some (vi (x3 + 1)), none, none] [] (hp L b I J)) := by
  refine (e169_163 x3).trans ?_
  simp only [e169_166]
/-! 170: VersionVaultModel.base(III)I -/
theorem s170_0 {L : Nat} {b : Bool} {I : AI} {J : AJ} (x1 : Int) (x2 : Int) (x3 : Int)  : ev 170 0 [some (vr 115), some (vi x1), some (vi x2), some (vi x3)] [] (hp L b I J) = (evc 160 [vr 115, vi x1] (hp L b I J)).bind (fun q => ev 170 5 [some (vr 115), some (vi x1), some (vi x2), some (vi x3)] (q.1 :: []) q.2) := by
  refine (e170_0 x1 x2 x3).trans ?_
  simp only [e170_1, e170_2]
theorem s170_5 {L : Nat} {b : Bool} {I : AI} {J : AJ} (x1 : Int) (x2 : Int) (x3 : Int) (y0 : Int)  : ev 170 5 [some (vr 115), some (vi x1), some (vi x2), some (vi x3)] [vi y0] (hp L b I J) = if (y0 : Int) = 0 then (ev 170 20 [none, none, none, none] [] (hp L b I J)) else ((evc 160 [vr 115, vi x2] (hp L b I J)).bind (fun q => ev 170 13 [some (vr 115), some (vi x1), some (vi x2), some (vi x3)] (q.1 :: []) q.2)) := by
  refine (e170_5 x1 x2 x3 y0).trans ?_
  simp only [e170_8, e170_9, e170_10]
theorem s170_13 {L : Nat} {b : Bool} {I : AI} {J : AJ} (x1 : Int) (x2 : Int) (x3 : Int) (y0 : Int)  : ev 170 13 [some (vr 115), some (vi x1), some (vi x2), some (vi x3)] [vi y0] (hp L b I J) = if (y0 : Int) = 0 then (ev 170 20 [none, none, none, none] [] (hp L b I J)) else (if 0 ≤ (x3 : Int) then ((evc 169 [vr 115, vi x1, vi x2] (hp L b I J)).bind (fun q => ev 170 29 [some (vr 115), none, none, some (vi x3)] ([]) q.2)) else (ev 170 20 [none, none, none, none] [] (hp L b I J))) := by
  refine (e170_13 x1 x2 x3 y0).trans ?_
  simp only [e170_16, e170_17, e170_23, e170_24, e170_25, e170_26]
theorem s170_20 {L : Nat} {b : Bool} {I : AI} {J : AJ}   : ev 170 20 [none, none, none, none] [] (hp L b I J) = some (vi ((-2)), hp L b I J) := by
  refine (e170_20 ).trans ?_
  simp only [e170_22]
theorem s170_29 {L : Nat} {b : Bool} {I : AI} {J : AJ} (x3 : Int)  : ev 170 29 [some (vr 115), none, none, some (vi x3)] [] (hp L b I J) = if (I 115 23) ≤ (x3 : Int) then (some (vi ((-1)), hp L b I J)) else (gd (0 ≤ (x3 : Int) ∧ (x3 : Int) < 80) (some (vi (I 134 x3), hp L b I J))) := by
  refine (e170_29 x3).trans ?_
  simp only [e170_30, e170_31, e170_34, e170_37, e170_38, e170_41, e170_42, e170_43, e170_46, e170_47]
/-! 171: VersionVaultModel.head(II)I -/
theorem s171_0 {L : Nat} {b : Bool} {I : AI} {J : AJ} (x1 : Int) (x2 : Int)  : ev 171 0 [some (vr 115), some (vi x1), some (vi x2), none] [] (hp L b I J) = if (x1 : Int) < 0 then (ev 171 23 [none, none, none, none] [] (hp L b I J)) else (if 8 ≤ (x1 : Int) then (ev 171 23 [none, none, none, none] [] (hp L b I J)) else (if (x2 : Int) = ((-1)) then (ev 171 26 [some (vr 115), some (vi x1), some (vi x2), none] [] (hp L b I J)) else ((evc 160 [vr 115, vi x2] (hp L b I J)).bind (fun q => ev 171 20 [some (vr 115), some (vi x1), some (vi x2), none] (q.1 :: []) q.2)))) := by
  refine (e171_0 x1 x2).trans ?_
  simp only [e171_1, e171_4, e171_5, e171_7, e171_10, e171_11, e171_12, e171_15, e171_16, e171_17]
theorem s171_20 {L : Nat} {b : Bool} {I : AI} {J : AJ} (x1 : Int) (x2 : Int) (y0 : Int)  : ev 171 20 [some (vr 115), some (vi x1), some (vi x2), none] [vi y0] (hp L b I J) = if ¬ (y0 : Int) = 0 then (ev 171 26 [some (vr 115), some (vi x1), some (vi x2), none] [] (hp L b I J)) else (ev 171 23 [none, none, none, none] [] (hp L b I J)) := by
  refine (e171_20 x1 x2 y0).trans ?_
  rfl
theorem s171_23 {L : Nat} {b : Bool} {I : AI} {J : AJ}   : ev 171 23 [none, none, none, none] [] (hp L b I J) = some (vi ((-2)), hp L b I J) := by
  refine (e171_23 ).trans ?_
  simp only [e171_25]
theorem s171_26 {L : Nat} {b : Bool} {I : AI} {J : AJ} (x1 : Int) (x2 : Int)  : ev 171 26 [some (vr 115), some (vi x1), some (vi x2), none] [] (hp L b I J) = if (x2 : Int) < 0 then (ev 171 88 [some (vr 115), some (vi x1), some (vi x2), none] [] (hp L b I J)) else ((evc 164 [vr 131] (hp L b I J)).bind (fun q => ev 171 37 [some (vr 115), some (vi x1), some (vi x2), none] ([]) q.2)) := by
  refine (e171_26 x1 x2).trans ?_
  simp only [e171_27, e171_30, e171_31, e171_34]
theorem s171_37 {L : Nat} {b : Bool} {I : AI} {J : AJ} (x1 : Int) (x2 : Int)  : ev 171 37 [some (vr 115), some (vi x1), some (vi x2), none] [] (hp L b I J) = (evc 163 [vr 115, vi x2, vr 131] (hp L b I J)).bind (fun q => ev 171 46 [some (vr 115), some (vi x1), some (vi x2), none] ([]) q.2) := by
  refine (e171_37 x1 x2).trans ?_
  simp only [e171_38, e171_39, e171_40, e171_43]
theorem s171_46 {L : Nat} {b : Bool} {I : AI} {J : AJ} (x1 : Int) (x2 : Int)  : ev 171 46 [some (vr 115), some (vi x1), some (vi x2), none] [] (hp L b I J) = ev 171 48 [some (vr 115), some (vi x1), some (vi x2), some (vi 0)] [] (hp L b I J) := by
  refine (e171_46 x1 x2).trans ?_
  simp only [e171_47]
theorem s171_48 {L : Nat} {b : Bool} {I : AI} {J : AJ} (x1 : Int) (x2 : Int) (x3 : Int)  : ev 171 48 [some (vr 115), some (vi x1), some (vi x2), some (vi x3)] [] (hp L b I J) = if (I 115 16) ≤ (x3 : Int) then (ev 171 88 [some (vr 115), some (vi x1), some (vi x2), none] [] (hp L b I J)) else (gd (0 ≤ (x3 : Int) ∧ (x3 : Int) < 80) (if (I 131 x3 : Int) = 0 then (ev 171 82 [some (vr 115), some (vi x1), some (vi x2), some (vi x3)] [] (hp L b I J)) else (gd (0 ≤ (x3 : Int) ∧ (x3 : Int) < 80) (gd (0 ≤ (I 125 x3 : Int) ∧ (I 125 x3 : Int) < 100) (if (I 123 (I 125 x3) : Int) = 0 then (ev 171 82 [some (vr 115), some (vi x1), some (vi x2), some (vi x3)] [] (hp L b I J)) else (some (vi ((-2)), hp L b I J))))))) := by
  refine (e171_48 x1 x2 x3).trans ?_
  simp only [e171_49, e171_50, e171_53, e171_56, e171_57, e171_60, e171_61, e171_62, e171_65, e171_66, e171_69, e171_70, e171_73, e171_74, e171_75, e171_76, e171_79, e171_81]
theorem s171_82 {L : Nat} {b : Bool} {I : AI} {J : AJ} (x1 : Int) (x2 : Int) (x3 : Int)  : ev 171 82 [some (vr 115), some (vi x1), some (vi x2), some (vi x3)] [] (hp L b I J) = gd (-2147483648 ≤ (x3 + 1 : Int) ∧ (x3 + 1 : Int) ≤ 2147483647) (ev 171 48 [some (vr 115), some (vi x1), some (vi x2), some (vi (x3 + 1))] [] (hp L b I J)) := by
  refine (e171_82 x1 x2 x3).trans ?_
  simp only [e171_85]
theorem s171_88 {L : Nat} {b : Bool} {I : AI} {J : AJ} (x1 : Int) (x2 : Int)  : ev 171 88 [some (vr 115), some (vi x1), some (vi x2), none] [] (hp L b I J) = gd (0 ≤ (x1 : Int) ∧ (x1 : Int) < 8) (gd (0 ≤ (x1 : Int) ∧ (x1 : Int) < 8) (some (vi (I 129 x1), hp L b (upI I 129 x1 x2) J))) := by
  refine (e171_88 x1 x2).trans ?_
  simp only [e171_89, e171_92, e171_93, e171_94, e171_95, e171_96, e171_99, e171_100, e171_101, e171_102, e171_103]
/-! 172: VersionVaultModel.linesOf(I)I -/
theorem s172_0 {L : Nat} {b : Bool} {I : AI} {J : AJ} (x1 : Int)  : ev 172 0 [some (vr 115), some (vi x1)] [] (hp L b I J) = if 0 ≤ (x1 : Int) then (gd (0 ≤ (x1 : Int) ∧ (x1 : Int) < 120) (some (vi (I 117 x1), hp L b I J))) else (some (vi 0, hp L b I J)) := by
  refine (e172_0 x1).trans ?_
  simp only [e172_1, e172_4, e172_5, e172_8, e172_9, e172_12, e172_13, e172_14]
/-! 173: VersionVaultModel.isLike(IIII)Z -/
theorem s173_0 {L : Nat} {b : Bool} {I : AI} {J : AJ} (x1 : Int) (x2 : Int) (x3 : Int) (x4 : Int)  : ev 173 0 [some (vr 115), some (vi x1), some (vi x2), some (vi x3), some (vi x4)] [] (hp L b I J) = gd (-2147483648 ≤ (24 * x1 : Int) ∧ (24 * x1 : Int) ≤ 2147483647) (gd (-2147483648 ≤ ((24 * x1) + x2 : Int) ∧ ((24 * x1) + x2 : Int) ≤ 2147483647) (gd (0 ≤ ((24 * x1) + x2 : Int) ∧ ((24 * x1) + x2 : Int) < 2880) (gd (-2147483648 ≤ (24 * x3 : Int) ∧ (24 * x3 : Int) ≤ 2147483647) (gd (-2147483648 ≤ ((24 * x3) + x4 : Int) ∧ ((24 * x3) + x4 : Int) ≤ 2147483647) (gd (0 ≤ ((24 * x3) + x4 : Int) ∧ ((24 * x3) + x4 : Int) < 2880) (if ¬ (I 116 ((24 * x1) + x2) : Int) = (I 116 ((24 * x3) + x4)) then (gd ((0 : Int) = 0 ∨ (0 : Int) = 1) (some (vi 0, hp L b I J))) else (gd ((1 : Int) = 0 ∨ (1 : Int) = 1) (some (vi 1, hp L b I J))))))))) := by
  refine (e173_0 x1 x2 x3 x4).trans ?_
  simp only [e173_1, e173_4, e173_6, e173_7, e173_8, e173_9, e173_10, e173_11, e173_12, e173_15, e173_17, e173_18, e173_19, e173_21, e173_22, e173_23, e173_26, e173_27, e173_30, e173_31]
/-! 174: VersionVaultModel.findMost(II)V -/
theorem s174_0 {L : Nat} {b : Bool} {I : AI} {J : AJ} (x1 : Int) (x2 : Int)  : ev 174 0 [some (vr 115), some (vi x1), some (vi x2), none, none, none, none, none] [] (hp L b I J) = (evc 172 [vr 115, vi x1] (hp L b I J)).bind (fun q => ev 174 5 [some (vr 115), some (vi x1), some (vi x2), none, none, none, none, none] (q.1 :: []) q.2) := by
  refine (e174_0 x1 x2).trans ?_
  simp only [e174_1, e174_2]
theorem s174_5 {L : Nat} {b : Bool} {I : AI} {J : AJ} (x1 : Int) (x2 : Int) (y0 : Int)  : ev 174 5 [some (vr 115), some (vi x1), some (vi x2), none, none, none, none, none] [vi y0] (hp L b I J) = ev 174 6 [some (vr 115), some (vi x1), some (vi x2), some (vi y0), none, none, none, none] [] (hp L b I J) := by
  refine (e174_5 x1 x2 y0).trans ?_
  rfl
theorem s174_6 {L : Nat} {b : Bool} {I : AI} {J : AJ} (x1 : Int) (x2 : Int) (x3 : Int)  : ev 174 6 [some (vr 115), some (vi x1), some (vi x2), some (vi x3), none, none, none, none] [] (hp L b I J) = if (x3 : Int) < 0 then (some (vi 0, hp L b I J)) else ((evc 172 [vr 115, vi x2] (hp L b I J)).bind (fun q => ev 174 15 [some (vr 115), some (vi x1), some (vi x2), some (vi x3), none, none, none, none] (q.1 :: []) q.2)) := by
  refine (e174_6 x1 x2 x3).trans ?_
  simp only [e174_7, e174_10, e174_11, e174_12, e174_186]
theorem s174_15 {L : Nat} {b : Bool} {I : AI} {J : AJ} (x1 : Int) (x2 : Int) (x3 : Int) (y0 : Int)  : ev 174 15 [some (vr 115), some (vi x1), some (vi x2), some (vi x3), none, none, none, none] [vi y0] (hp L b I J) = ev 174 17 [some (vr 115), some (vi x1), some (vi x2), some (vi x3), some (vi y0), none, none, none] [] (hp L b I J) := by
  refine (e174_15 x1 x2 x3 y0).trans ?_
  rfl
theorem s174_17 {L : Nat} {b : Bool} {I : AI} {J : AJ} (x1 : Int) (x2 : Int) (x3 : Int) (x4 : Int)  : ev 174 17 [some (vr 115), some (vi x1), some (vi x2), some (vi x3), some (vi x4), none, none, none] [] (hp L b I J) = if (x4 : Int) < 0 then (gd (-2147483648 ≤ (x3 + (-1) : Int) ∧ (x3 + (-1) : Int) ≤ 2147483647) (ev 174 6 [some (vr 115), some (vi x1), some (vi x2), some (vi (x3 + (-1))), none, none, none, none] [] (hp L b I J))) else ((evc 172 [vr 115, vi x1] (hp L b I J)).bind (fun q => ev 174 31 [some (vr 115), some (vi x1), some (vi x2), some (vi x3), some (vi x4), some (vi 0), none, none] (q.1 :: [vi x3]) q.2)) := by
  refine (e174_17 x1 x2 x3 x4).trans ?_
  simp only [e174_19, e174_22, e174_23, e174_25, e174_26, e174_27, e174_28, e174_180, e174_183]
theorem s174_31 {L : Nat} {b : Bool} {I : AI} {J : AJ} (x1 : Int) (x2 : Int) (x3 : Int) (x4 : Int) (x5 : Int) (y0 : Int) (y1 : Int)  : ev 174 31 [some (vr 115), some (vi x1), some (vi x2), some (vi x3), some (vi x4), some (vi x5), none, none] [vi y0, vi y1] (hp L b I J) = if y0 ≤ (y1 : Int) then (ev 174 160 [some (vr 115), some (vi x1), some (vi x2), some (vi x3), some (vi x4), some (vi x5), none, none] [] (hp L b I J)) else ((evc 172 [vr 115, vi x2] (hp L b I J)).bind (fun q => ev 174 41 [some (vr 115), some (vi x1), some (vi x2), some (vi x3), some (vi x4), some (vi x5), none, none] (q.1 :: [vi x4]) q.2)) := by
  refine (e174_31 x1 x2 x3 x4 x5 y0 y1).trans ?_
  simp only [e174_34, e174_36, e174_37, e174_38]
theorem s174_41 {L : Nat} {b : Bool} {I : AI} {J : AJ} (x1 : Int) (x2 : Int) (x3 : Int) (x4 : Int) (x5 : Int) (y0 : Int) (y1 : Int)  : ev 174 41 [some (vr 115), some (vi x1), some (vi x2), some (vi x3), some (vi x4), some (vi x5), none, none] [vi y0, vi y1] (hp L b I J) = if y0 ≤ (y1 : Int) then (ev 174 160 [some (vr 115), some (vi x1), some (vi x2), some (vi x3), some (vi x4), some (vi x5), none, none] [] (hp L b I J)) else (gd (-2147483648 ≤ (x3 + 1 : Int) ∧ (x3 + 1 : Int) ≤ 2147483647) (gd (-2147483648 ≤ (25 * (x3 + 1) : Int) ∧ (25 * (x3 + 1) : Int) ≤ 2147483647) (gd (-2147483648 ≤ ((25 * (x3 + 1)) + x4 : Int) ∧ ((25 * (x3 + 1)) + x4 : Int) ≤ 2147483647) (gd (0 ≤ ((25 * (x3 + 1)) + x4 : Int) ∧ ((25 * (x3 + 1)) + x4 : Int) < 625) (gd (-2147483648 ≤ (25 * x3 : Int) ∧ (25 * x3 : Int) ≤ 2147483647) (gd (-2147483648 ≤ ((25 * x3) + x4 : Int) ∧ ((25 * x3) + x4 : Int) ≤ 2147483647) (gd (-2147483648 ≤ (((25 * x3) + x4) + 1 : Int) ∧ (((25 * x3) + x4) + 1 : Int) ≤ 2147483647) (gd (0 ≤ (((25 * x3) + x4) + 1 : Int) ∧ (((25 * x3) + x4) + 1 : Int) < 625) (if (I 135 ((25 * (x3 + 1)) + x4) : Int) ≤ (I 135 (((25 * x3) + x4) + 1)) then (gd (-2147483648 ≤ (25 * x3 : Int) ∧ (25 * x3 : Int) ≤ 2147483647) (gd (-2147483648 ≤ ((25 * x3) + x4 : Int) ∧ ((25 * x3) + x4 : Int) ≤ 2147483647) (gd (-2147483648 ≤ (((25 * x3) + x4) + 1 : Int) ∧ (((25 * x3) + x4) + 1 : Int) ≤ 2147483647) (gd (0 ≤ (((25 * x3) + x4) + 1 : Int) ∧ (((25 * x3) + x4) + 1 : Int) < 625) (ev 174 106 [some (vr 115), some (vi x1), some (vi x2), some (vi x3), some (vi x4), none, none, none] [vi (I 135 (((25 * x3) + x4) + 1))] (hp L b I J)))))) else (gd (-2147483648 ≤ (x3 + 1 : Int) ∧ (x3 + 1 : Int) ≤ 2147483647) (gd (-2147483648 ≤ (25 * (x3 + 1) : Int) ∧ (25 * (x3 + 1) : Int) ≤ 2147483647) (gd (-2147483648 ≤ ((25 * (x3 + 1)) + x4 : Int) ∧ ((25 * (x3 + 1)) + x4 : Int) ≤ 2147483647) (gd (0 ≤ ((25 * (x3 + 1)) + x4 : Int) ∧ ((25 * (x3 + 1)) + x4 : Int) < 625) (ev 174 106 [some (vr 115), some (vi x1), some (vi x2), some (vi x3), some (vi x4), none, none, none] [vi (I 135 ((25 * (x3 + 1)) + x4))] (hp L b I J))))))))))))))) := by
  refine (e174_41 x1 x2 x3 x4 x5 y0 y1).trans ?_
  simp only [e174_44, e174_45, e174_48, e174_50, e174_51, e174_52, e174_53, e174_54, e174_56, e174_57, e174_58, e174_59, e174_62, e174_64, e174_65, e174_66, e174_68, e174_69, e174_70, e174_71, e174_72, e174_75, e174_76, e174_79, e174_81, e174_82, e174_83, e174_84, e174_85, e174_87, e174_88, e174_89, e174_92, e174_93, e174_96, e174_98, e174_99, e174_100, e174_102, e174_103, e174_104, e174_105]
theorem s174_106 {L : Nat} {b : Bool} {I : AI} {J : AJ} (x1 : Int) (x2 : Int) (x3 : Int) (x4 : Int) (y0 : Int)  : ev 174 106 [some (vr 115), some (vi x1), some (vi x2), some (vi x3), some (vi x4), none, none, none] [vi y0] (hp L b I J) = (evc 173 [vr 115, vi x1, vi x3, vi x2, vi x4] (hp L b I J)).bind (fun q => ev 174 117 [some (vr 115), some (vi x1), some (vi x2), some (vi x3), some (vi x4), none, some (vi y0), none] (q.1 :: []) q.2) := by
  refine (e174_106 x1 x2 x3 x4 y0).trans ?_
  simp only [e174_108, e174_109, e174_110, e174_111, e174_112, e174_114]
theorem s174_117 {L : Nat} {b : Bool} {I : AI} {J : AJ} (x1 : Int) (x2 : Int) (x3 : Int) (x4 : Int) (x6 : Int) (y0 : Int)  : ev 174 117 [some (vr 115), some (vi x1), some (vi x2), some (vi x3), some (vi x4), none, some (vi x6), none] [vi y0] (hp L b I J) = if (y0 : Int) = 0 then (ev 174 142 [some (vr 115), some (vi x1), some (vi x2), some (vi x3), some (vi x4), none, some (vi x6), none] [vi 0] (hp L b I J)) else (gd (-2147483648 ≤ (x3 + 1 : Int) ∧ (x3 + 1 : Int) ≤ 2147483647) (gd (-2147483648 ≤ (25 * (x3 + 1) : Int) ∧ (25 * (x3 + 1) : Int) ≤ 2147483647) (gd (-2147483648 ≤ ((25 * (x3 + 1)) + x4 : Int) ∧ ((25 * (x3 + 1)) + x4 : Int) ≤ 2147483647) (gd (-2147483648 ≤ (((25 * (x3 + 1)) + x4) + 1 : Int) ∧ (((25 * (x3 + 1)) + x4) + 1 : Int) ≤ 2147483647) (gd (0 ≤ (((25 * (x3 + 1)) + x4) + 1 : Int) ∧ (((25 * (x3 + 1)) + x4) + 1 : Int) < 625) (gd (-2147483648 ≤ (1 + (I 135 (((25 * (x3 + 1)) + x4) + 1)) : Int) ∧ (1 + (I 135 (((25 * (x3 + 1)) + x4) + 1)) : Int) ≤ 2147483647) (ev 174 142 [some (vr 115), some (vi x1), some (vi x2), some (vi x3), some (vi x4), none, some (vi x6), none] [vi (1 + (I 135 (((25 * (x3 + 1)) + x4) + 1)))] (hp L b I J)))))))) := by
  refine (e174_117 x1 x2 x3 x4 x6 y0).trans ?_
  simp only [e174_120, e174_121, e174_122, e174_125, e174_127, e174_128, e174_129, e174_130, e174_131, e174_133, e174_134, e174_135, e174_136, e174_137, e174_138, e174_141]
theorem s174_142 {L : Nat} {b : Bool} {I : AI} {J : AJ} (x1 : Int) (x2 : Int) (x3 : Int) (x4 : Int) (x6 : Int) (y0 : Int)  : ev 174 142 [some (vr 115), some (vi x1), some (vi x2), some (vi x3), some (vi x4), none, some (vi x6), none] [vi y0] (hp L b I J) = if (y0 : Int) ≤ x6 then (ev 174 158 [some (vr 115), some (vi x1), some (vi x2), some (vi x3), some (vi x4), none, none, none] [vi x6] (hp L b I J)) else (ev 174 158 [some (vr 115), some (vi x1), some (vi x2), some (vi x3), some (vi x4), none, none, none] [vi y0] (hp L b I J)) := by
  refine (e174_142 x1 x2 x3 x4 x6 y0).trans ?_
  simp only [e174_144, e174_146, e174_148, e174_151, e174_153, e174_156]
theorem s174_158 {L : Nat} {b : Bool} {I : AI} {J : AJ} (x1 : Int) (x2 : Int) (x3 : Int) (x4 : Int) (y0 : Int)  : ev 174 158 [some (vr 115), some (vi x1), some (vi x2), some (vi x3), some (vi x4), none, none, none] [vi y0] (hp L b I J) = ev 174 160 [some (vr 115), some (vi x1), some (vi x2), some (vi x3), some (vi x4), some (vi y0), none, none] [] (hp L b I J) := by
  refine (e174_158 x1 x2 x3 x4 y0).trans ?_
  rfl
theorem s174_160 {L : Nat} {b : Bool} {I : AI} {J : AJ} (x1 : Int) (x2 : Int) (x3 : Int) (x4 : Int) (x5 : Int)  : ev 174 160 [some (vr 115), some (vi x1), some (vi x2), some (vi x3), some (vi x4), some (vi x5), none, none] [] (hp L b I J) = gd (-2147483648 ≤ (25 * x3 : Int) ∧ (25 * x3 : Int) ≤ 2147483647) (gd (-2147483648 ≤ ((25 * x3) + x4 : Int) ∧ ((25 * x3) + x4 : Int) ≤ 2147483647) (gd (0 ≤ ((25 * x3) + x4 : Int) ∧ ((25 * x3) + x4 : Int) < 625) (gd (-2147483648 ≤ (x4 + (-1) : Int) ∧ (x4 + (-1) : Int) ≤ 2147483647) (ev 174 17 [some (vr 115), some (vi x1), some (vi x2), some (vi x3), some (vi (x4 + (-1))), none, none, none] [] (hp L b (upI I 135 ((25 * x3) + x4) x5) J))))) := by
  refine (e174_160 x1 x2 x3 x4 x5).trans ?_
  simp only [e174_161, e174_164, e174_166, e174_167, e174_168, e174_170, e174_171, e174_173, e174_174, e174_177]
/-! 175: VersionVaultModel.findPairs(II)V -/
theorem s175_0 {L : Nat} {b : Bool} {I : AI} {J : AJ} (x1 : Int) (x2 : Int)  : ev 175 0 [some (vr 115), some (vi x1), some (vi x2), none, none, none, none, none, none] [] (hp L b I J) = (evc 174 [vr 115, vi x1, vi x2] (hp L b I J)).bind (fun q => ev 175 6 [some (vr 115), some (vi x1), some (vi x2), none, none, none, none, none, none] ([]) q.2) := by
  refine (e175_0 x1 x2).trans ?_
  simp only [e175_1, e175_2, e175_3]
theorem s175_6 {L : Nat} {b : Bool} {I : AI} {J : AJ} (x1 : Int) (x2 : Int)  : ev 175 6 [some (vr 115), some (vi x1), some (vi x2), none, none, none, none, none, none] [] (hp L b I J) = ev 175 16 [some (vr 115), some (vi x1), some (vi x2), some (vi 0), some (vi 0), none, none, none, none] [] (hp L b (upI I 115 27 0) J) := by
  refine (e175_6 x1 x2).trans ?_
  simp only [e175_7, e175_8, e175_11, e175_12, e175_13, e175_14]
theorem s175_16 {L : Nat} {b : Bool} {I : AI} {J : AJ} (x1 : Int) (x2 : Int) (x3 : Int) (x4 : Int)  : ev 175 16 [some (vr 115), some (vi x1), some (vi x2), some (vi x3), some (vi x4), none, none, none, none] [] (hp L b I J) = gd (-2147483648 ≤ (25 * x3 : Int) ∧ (25 * x3 : Int) ≤ 2147483647) (gd (-2147483648 ≤ ((25 * x3) + x4 : Int) ∧ ((25 * x3) + x4 : Int) ≤ 2147483647) (gd (0 ≤ ((25 * x3) + x4 : Int) ∧ ((25 * x3) + x4 : Int) < 625) (if (I 135 ((25 * x3) + x4) : Int) ≤ 0 then (some (vi 0, hp L b I J)) else (gd (-2147483648 ≤ (25 * x3 : Int) ∧ (25 * x3 : Int) ≤ 2147483647) (gd (-2147483648 ≤ ((25 * x3) + x4 : Int) ∧ ((25 * x3) + x4 : Int) ≤ 2147483647) (gd (0 ≤ ((25 * x3) + x4 : Int) ∧ ((25 * x3) + x4 : Int) < 625) (ev 175 51 [some (vr 115), some (vi x1), some (vi x2), none, some (vi x4), some (vi (I 135 ((25 * x3) + x4))), some (vi x3), some (vi ((-1))), none] [] (hp L b I J)))))))) := by
  refine (e175_16 x1 x2 x3 x4).trans ?_
  simp only [e175_17, e175_20, e175_22, e175_23, e175_24, e175_26, e175_27, e175_28, e175_31, e175_32, e175_35, e175_37, e175_38, e175_39, e175_41, e175_42, e175_43, e175_45, e175_46, e175_48, e175_49, e175_190]
theorem s175_51 {L : Nat} {b : Bool} {I : AI} {J : AJ} (x1 : Int) (x2 : Int) (x4 : Int) (x5 : Int) (x6 : Int) (x7 : Int)  : ev 175 51 [some (vr 115), some (vi x1), some (vi x2), none, some (vi x4), some (vi x5), some (vi x6), some (vi x7), none] [] (hp L b I J) = if 0 ≤ (x7 : Int) then (gd (0 ≤ (I 115 27 : Int) ∧ (I 115 27 : Int) < 24) (gd (0 ≤ ((upI I 136 (I 115 27) x6) 115 27 : Int) ∧ ((upI I 136 (I 115 27) x6) 115 27 : Int) < 24) (gd (-2147483648 ≤ (((upI (upI I 136 (I 115 27) x6) 137 ((upI I 136 (I 115 27) x6) 115 27) x7) 115 27) + 1 : Int) ∧ (((upI (upI I 136 (I 115 27) x6) 137 ((upI I 136 (I 115 27) x6) 115 27) x7) 115 27) + 1 : Int) ≤ 2147483647) (gd (-2147483648 ≤ (x6 + 1 : Int) ∧ (x6 + 1 : Int) ≤ 2147483647) (gd (-2147483648 ≤ (x7 + 1 : Int) ∧ (x7 + 1 : Int) ≤ 2147483647) (ev 175 16 [some (vr 115), some (vi x1), some (vi x2), some (vi (x6 + 1)), some (vi (x7 + 1)), none, none, none, none] [] (hp L b (upI (upI (upI I 136 (I 115 27) x6) 137 ((upI I 136 (I 115 27) x6) 115 27) x7) 115 27 (((upI (upI I 136 (I 115 27) x6) 137 ((upI I 136 (I 115 27) x6) 115 27) x7) 115 27) + 1)) J))))))) else (ev 175 60 [some (vr 115), some (vi x1), some (vi x2), none, some (vi x4), some (vi x5), some (vi x6), some (vi x7), some (vi x4)] [] (hp L b I J)) := by
  refine (e175_51 x1 x2 x4 x5 x6 x7).trans ?_
  simp only [e175_53, e175_56, e175_58, e175_144, e175_145, e175_148, e175_149, e175_152, e175_154, e175_155, e175_156, e175_159, e175_160, e175_163, e175_165, e175_166, e175_167, e175_168, e175_171, e175_172, e175_173, e175_176, e175_178, e175_179, e175_180, e175_181, e175_183, e175_184, e175_185, e175_187]
theorem s175_60 {L : Nat} {b : Bool} {I : AI} {J : AJ} (x1 : Int) (x2 : Int) (x4 : Int) (x5 : Int) (x6 : Int) (x7 : Int) (x8 : Int)  : ev 175 60 [some (vr 115), some (vi x1), some (vi x2), none, some (vi x4), some (vi x5), some (vi x6), some (vi x7), some (vi x8)] [] (hp L b I J) = (evc 172 [vr 115, vi x2] (hp L b I J)).bind (fun q => ev 175 67 [some (vr 115), some (vi x1), some (vi x2), none, some (vi x4), some (vi x5), some (vi x6), some (vi x7), some (vi x8)] (q.1 :: [vi x8]) q.2) := by
  refine (e175_60 x1 x2 x4 x5 x6 x7 x8).trans ?_
  simp only [e175_62, e175_63, e175_64]
theorem s175_67 {L : Nat} {b : Bool} {I : AI} {J : AJ} (x1 : Int) (x2 : Int) (x4 : Int) (x5 : Int) (x6 : Int) (x7 : Int) (x8 : Int) (y0 : Int) (y1 : Int)  : ev 175 67 [some (vr 115), some (vi x1), some (vi x2), none, some (vi x4), some (vi x5), some (vi x6), some (vi x7), some (vi x8)] [vi y0, vi y1] (hp L b I J) = if y0 ≤ (y1 : Int) then (ev 175 126 [some (vr 115), some (vi x1), some (vi x2), none, some (vi x4), some (vi x5), some (vi x6), some (vi x7), none] [] (hp L b I J)) else (if 0 ≤ (x7 : Int) then (ev 175 126 [some (vr 115), some (vi x1), some (vi x2), none, some (vi x4), some (vi x5), some (vi x6), some (vi x7), none] [] (hp L b I J)) else ((evc 173 [vr 115, vi x1, vi x6, vi x2, vi x8] (hp L b I J)).bind (fun q => ev 175 85 [some (vr 115), some (vi x1), some (vi x2), none, some (vi x4), some (vi x5), some (vi x6), none, some (vi x8)] (q.1 :: []) q.2))) := by
  refine (e175_67 x1 x2 x4 x5 x6 x7 x8 y0 y1).trans ?_
  simp only [e175_70, e175_72, e175_75, e175_76, e175_77, e175_79, e175_80, e175_82]
theorem s175_85 {L : Nat} {b : Bool} {I : AI} {J : AJ} (x1 : Int) (x2 : Int) (x4 : Int) (x5 : Int) (x6 : Int) (x8 : Int) (y0 : Int)  : ev 175 85 [some (vr 115), some (vi x1), some (vi x2), none, some (vi x4), some (vi x5), some (vi x6), none, some (vi x8)] [vi y0] (hp L b I J) = if (y0 : Int) = 0 then (ev 175 117 [some (vr 115), some (vi x1), some (vi x2), none, some (vi x4), some (vi x5), some (vi x6), none, some (vi x8)] [] (hp L b I J)) else (gd (-2147483648 ≤ (x6 + 1 : Int) ∧ (x6 + 1 : Int) ≤ 2147483647) (gd (-2147483648 ≤ (25 * (x6 + 1) : Int) ∧ (25 * (x6 + 1) : Int) ≤ 2147483647) (gd (-2147483648 ≤ ((25 * (x6 + 1)) + x8 : Int) ∧ ((25 * (x6 + 1)) + x8 : Int) ≤ 2147483647) (gd (-2147483648 ≤ (((25 * (x6 + 1)) + x8) + 1 : Int) ∧ (((25 * (x6 + 1)) + x8) + 1 : Int) ≤ 2147483647) (gd (0 ≤ (((25 * (x6 + 1)) + x8) + 1 : Int) ∧ (((25 * (x6 + 1)) + x8) + 1 : Int) < 625) (gd (-2147483648 ≤ (1 + (I 135 (((25 * (x6 + 1)) + x8) + 1)) : Int) ∧ (1 + (I 135 (((25 * (x6 + 1)) + x8) + 1)) : Int) ≤ 2147483647) (if ¬ (1 + (I 135 (((25 * (x6 + 1)) + x8) + 1)) : Int) = x5 then (ev 175 117 [some (vr 115), some (vi x1), some (vi x2), none, some (vi x4), some (vi x5), some (vi x6), none, some (vi x8)] [] (hp L b I J)) else (ev 175 118 [some (vr 115), some (vi x1), some (vi x2), none, some (vi x4), some (vi x5), some (vi x6), none, some (vi x8)] [vi x8] (hp L b I J))))))))) := by
  refine (e175_85 x1 x2 x4 x5 x6 x8 y0).trans ?_
  simp only [e175_88, e175_89, e175_90, e175_93, e175_95, e175_97, e175_98, e175_99, e175_100, e175_102, e175_103, e175_104, e175_105, e175_106, e175_107, e175_109, e175_112, e175_114]
theorem s175_117 {L : Nat} {b : Bool} {I : AI} {J : AJ} (x1 : Int) (x2 : Int) (x4 : Int) (x5 : Int) (x6 : Int) (x8 : Int)  : ev 175 117 [some (vr 115), some (vi x1), some (vi x2), none, some (vi x4), some (vi x5), some (vi x6), none, some (vi x8)] [] (hp L b I J) = ev 175 118 [some (vr 115), some (vi x1), some (vi x2), none, some (vi x4), some (vi x5), some (vi x6), none, some (vi x8)] [vi ((-1))] (hp L b I J) := by
  refine (e175_117 x1 x2 x4 x5 x6 x8).trans ?_
  rfl
theorem s175_118 {L : Nat} {b : Bool} {I : AI} {J : AJ} (x1 : Int) (x2 : Int) (x4 : Int) (x5 : Int) (x6 : Int) (x8 : Int) (y0 : Int)  : ev 175 118 [some (vr 115), some (vi x1), some (vi x2), none, some (vi x4), some (vi x5), some (vi x6), none, some (vi x8)] [vi y0] (hp L b I J) = gd (-2147483648 ≤ (x8 + 1 : Int) ∧ (x8 + 1 : Int) ≤ 2147483647) (ev 175 60 [some (vr 115), some (vi x1), some (vi x2), none, some (vi x4), some (vi x5), some (vi x6), some (vi y0), some (vi (x8 + 1))] [] (hp L b I J)) := by
  refine (e175_118 x1 x2 x4 x5 x6 x8 y0).trans ?_
  simp only [e175_120, e175_123]
theorem s175_126 {L : Nat} {b : Bool} {I : AI} {J : AJ} (x1 : Int) (x2 : Int) (x4 : Int) (x5 : Int) (x6 : Int) (x7 : Int)  : ev 175 126 [some (vr 115), some (vi x1), some (vi x2), none, some (vi x4), some (vi x5), some (vi x6), some (vi x7), none] [] (hp L b I J) = if 0 ≤ (x7 : Int) then (ev 175 138 [some (vr 115), some (vi x1), some (vi x2), none, some (vi x4), some (vi x5), none, some (vi x7), none] [vi 0, vi x6] (hp L b I J)) else (ev 175 138 [some (vr 115), some (vi x1), some (vi x2), none, some (vi x4), some (vi x5), none, some (vi x7), none] [vi 1, vi x6] (hp L b I J)) := by
  refine (e175_126 x1 x2 x4 x5 x6 x7).trans ?_
  simp only [e175_128, e175_130, e175_133, e175_134, e175_137]
theorem s175_138 {L : Nat} {b : Bool} {I : AI} {J : AJ} (x1 : Int) (x2 : Int) (x4 : Int) (x5 : Int) (x7 : Int) (y0 : Int) (y1 : Int)  : ev 175 138 [some (vr 115), some (vi x1), some (vi x2), none, some (vi x4), some (vi x5), none, some (vi x7), none] [vi y0, vi y1] (hp L b I J) = gd (-2147483648 ≤ (y1 + y0 : Int) ∧ (y1 + y0 : Int) ≤ 2147483647) (ev 175 51 [some (vr 115), some (vi x1), some (vi x2), none, some (vi x4), some (vi x5), some (vi (y1 + y0)), some (vi x7), none] [] (hp L b I J)) := by
  refine (e175_138 x1 x2 x4 x5 x7 y0 y1).trans ?_
  simp only [e175_139, e175_141]
/-! 176: VersionVaultModel.diff(II)I -/
theorem s176_0 {L : Nat} {b : Bool} {I : AI} {J : AJ} (x1 : Int) (x2 : Int)  : ev 176 0 [some (vr 115), some (vi x1), some (vi x2), none] [] (hp L b I J) = (evc 137 [vr 115, vi x1] (hp L b I J)).bind (fun q => ev 176 5 [some (vr 115), some (vi x1), some (vi x2), none] (q.1 :: []) q.2) := by
  refine (e176_0 x1 x2).trans ?_
  simp only [e176_1, e176_2]
theorem s176_5 {L : Nat} {b : Bool} {I : AI} {J : AJ} (x1 : Int) (x2 : Int) (y0 : Int)  : ev 176 5 [some (vr 115), some (vi x1), some (vi x2), none] [vi y0] (hp L b I J) = if (y0 : Int) = 0 then (ev 176 16 [none, none, none, none] [] (hp L b I J)) else ((evc 137 [vr 115, vi x2] (hp L b I J)).bind (fun q => ev 176 13 [some (vr 115), some (vi x1), some (vi x2), none] (q.1 :: []) q.2)) := by
  refine (e176_5 x1 x2 y0).trans ?_
  simp only [e176_8, e176_9, e176_10]
theorem s176_13 {L : Nat} {b : Bool} {I : AI} {J : AJ} (x1 : Int) (x2 : Int) (y0 : Int)  : ev 176 13 [some (vr 115), some (vi x1), some (vi x2), none] [vi y0] (hp L b I J) = if ¬ (y0 : Int) = 0 then ((evc 175 [vr 115, vi x1, vi x2] (hp L b I J)).bind (fun q => ev 176 25 [some (vr 115), some (vi x1), some (vi x2), none] ([]) q.2)) else (ev 176 16 [none, none, none, none] [] (hp L b I J)) := by
  refine (e176_13 x1 x2 y0).trans ?_
  simp only [e176_19, e176_20, e176_21, e176_22]
theorem s176_16 {L : Nat} {b : Bool} {I : AI} {J : AJ}   : ev 176 16 [none, none, none, none] [] (hp L b I J) = some (vi ((-2)), hp L b I J) := by
  refine (e176_16 ).trans ?_
  simp only [e176_18]
theorem s176_25 {L : Nat} {b : Bool} {I : AI} {J : AJ} (x1 : Int) (x2 : Int)  : ev 176 25 [some (vr 115), some (vi x1), some (vi x2), none] [] (hp L b I J) = ev 176 35 [some (vr 115), some (vi x1), some (vi x2), some (vi 0)] [] (hp L b (upI I 115 30 (I 115 27)) J) := by
  refine (e176_25 x1 x2).trans ?_
  simp only [e176_26, e176_27, e176_30, e176_33, e176_34]
theorem s176_35 {L : Nat} {b : Bool} {I : AI} {J : AJ} (x1 : Int) (x2 : Int) (x3 : Int)  : ev 176 35 [some (vr 115), some (vi x1), some (vi x2), some (vi x3)] [] (hp L b I J) = if (I 115 27) ≤ (x3 : Int) then (gd (0 ≤ (x1 : Int) ∧ (x1 : Int) < 120) (gd (0 ≤ (x2 : Int) ∧ (x2 : Int) < 120) (gd (-2147483648 ≤ ((I 117 x1) + (I 117 x2) : Int) ∧ ((I 117 x1) + (I 117 x2) : Int) ≤ 2147483647) (gd (-2147483648 ≤ (2 * (I 115 27) : Int) ∧ (2 * (I 115 27) : Int) ≤ 2147483647) (gd (-2147483648 ≤ (((I 117 x1) + (I 117 x2)) - (2 * (I 115 27)) : Int) ∧ (((I 117 x1) + (I 117 x2)) - (2 * (I 115 27)) : Int) ≤ 2147483647) (some (vi (((I 117 x1) + (I 117 x2)) - (2 * (I 115 27))), hp L b I J))))))) else (gd (0 ≤ (x3 : Int) ∧ (x3 : Int) < 24) (gd (0 ≤ (x3 : Int) ∧ (x3 : Int) < 24) (gd (0 ≤ (x3 : Int) ∧ (x3 : Int) < 24) (gd (0 ≤ (x3 : Int) ∧ (x3 : Int) < 24) (gd (-2147483648 ≤ (x3 + 1 : Int) ∧ (x3 + 1 : Int) ≤ 2147483647) (ev 176 35 [some (vr 115), some (vi x1), some (vi x2), some (vi (x3 + 1))] [] (hp L b (upI (upI I 138 x3 (I 136 x3)) 139 x3 ((upI I 138 x3 (I 136 x3)) 137 x3)) J))))))) := by
  refine (e176_35 x1 x2 x3).trans ?_
  simp only [e176_36, e176_37, e176_40, e176_43, e176_44, e176_47, e176_48, e176_49, e176_52, e176_53, e176_54, e176_55, e176_56, e176_59, e176_60, e176_61, e176_64, e176_65, e176_66, e176_67, e176_70, e176_73, e176_74, e176_77, e176_78, e176_79, e176_80, e176_83, e176_84, e176_85, e176_86, e176_87, e176_88, e176_91, e176_92, e176_93]
/-! 177: VersionVaultModel.kept(II)I -/
theorem s177_0 {L : Nat} {b : Bool} {I : AI} {J : AJ} (x1 : Int) (x2 : Int)  : ev 177 0 [some (vr 115), some (vi x1), some (vi x2)] [] (hp L b I J) = if (x1 : Int) < 0 then (ev 177 21 [none, none, none] [] (hp L b I J)) else (if (I 115 30) ≤ (x1 : Int) then (ev 177 21 [none, none, none] [] (hp L b I J)) else (if (x2 : Int) < 0 then (ev 177 21 [none, none, none] [] (hp L b I J)) else (if (x2 : Int) ≤ 1 then (if ¬ (x2 : Int) = 0 then (gd (0 ≤ (x1 : Int) ∧ (x1 : Int) < 24) (some (vi (I 139 x1), hp L b I J))) else (gd (0 ≤ (x1 : Int) ∧ (x1 : Int) < 24) (some (vi (I 138 x1), hp L b I J)))) else (ev 177 21 [none, none, none] [] (hp L b I J))))) := by
  refine (e177_0 x1 x2).trans ?_
  simp only [e177_1, e177_4, e177_5, e177_6, e177_9, e177_12, e177_13, e177_16, e177_17, e177_18, e177_25, e177_26, e177_29, e177_30, e177_33, e177_34, e177_35, e177_38, e177_39, e177_42, e177_43, e177_44]
theorem s177_21 {L : Nat} {b : Bool} {I : AI} {J : AJ}   : ev 177 21 [none, none, none] [] (hp L b I J) = some (vi ((-1)), hp L b I J) := by
  refine (e177_21 ).trans ?_
  simp only [e177_22, e177_44]
/-! 178: VersionVaultModel.findKept(II[I)V -/
theorem s178_0 {L : Nat} {b : Bool} {I : AI} {J : AJ} (x1 : Int) (x2 : Int) (x3 : Nat)  : ev 178 0 [some (vr 115), some (vi x1), some (vi x2), some (vr x3), none] [] (hp L b I J) = (evc 175 [vr 115, vi x1, vi x2] (hp L b I J)).bind (fun q => ev 178 6 [some (vr 115), none, none, some (vr x3), none] ([]) q.2) := by
  refine (e178_0 x1 x2 x3).trans ?_
  simp only [e178_1, e178_2, e178_3]
theorem s178_6 {L : Nat} {b : Bool} {I : AI} {J : AJ} (x3 : Nat)  : ev 178 6 [some (vr 115), none, none, some (vr x3), none] [] (hp L b I J) = ev 178 9 [some (vr 115), none, none, some (vr x3), some (vi 0)] [] (hp L b I J) := by
  refine (e178_6 x3).trans ?_
  simp only [e178_7]
theorem s178_9 {L : Nat} {b : Bool} {I : AI} {J : AJ} (x3 : Nat) (x4 : Int) (hx3 : (hk L b)[x3]? = some (0, 24)) (h0x3 : 0 < x3) : ev 178 9 [some (vr 115), none, none, some (vr x3), some (vi x4)] [] (hp L b I J) = if 24 ≤ (x4 : Int) then (ev 178 30 [some (vr 115), none, none, some (vr x3), some (vi 0)] [] (hp L b I J)) else (gd (0 ≤ (x4 : Int) ∧ (x4 : Int) < 24) (gd (-2147483648 ≤ (x4 + 1 : Int) ∧ (x4 + 1 : Int) ≤ 2147483647) (ev 178 9 [some (vr 115), none, none, some (vr x3), some (vi (x4 + 1))] [] (hp L b (upI I x3 x4 ((-1))) J)))) := by
  refine (e178_9 x3 x4).trans ?_
  simp only [e178_11, e178_13, e178_16, e178_17, e178_19, e178_20, e178_21, e178_24, e178_27, e178_28, h0x3, hx3]
theorem s178_30 {L : Nat} {b : Bool} {I : AI} {J : AJ} (x3 : Nat) (x4 : Int) (hx3 : (hk L b)[x3]? = some (0, 24)) (h0x3 : 0 < x3) : ev 178 30 [some (vr 115), none, none, some (vr x3), some (vi x4)] [] (hp L b I J) = if (I 115 27) ≤ (x4 : Int) then (some (vi 0, hp L b I J)) else (gd (0 ≤ (x4 : Int) ∧ (x4 : Int) < 24) (gd (0 ≤ (x4 : Int) ∧ (x4 : Int) < 24) (gd (0 ≤ (I 136 x4 : Int) ∧ (I 136 x4 : Int) < 24) (gd (-2147483648 ≤ (x4 + 1 : Int) ∧ (x4 + 1 : Int) ≤ 2147483647) (ev 178 30 [some (vr 115), none, none, some (vr x3), some (vi (x4 + 1))] [] (hp L b (upI I x3 (I 136 x4) (I 137 x4)) J)))))) := by
  refine (e178_30 x3 x4).trans ?_
  simp only [e178_32, e178_33, e178_36, e178_39, e178_40, e178_41, e178_44, e178_46, e178_47, e178_48, e178_51, e178_53, e178_54, e178_55, e178_58, e178_61, h0x3, hx3]
/-! 179: VersionVaultModel.addLines(III)V -/
theorem s179_0 {L : Nat} {b : Bool} {I : AI} {J : AJ} (x1 : Int) (x2 : Int) (x3 : Int)  : ev 179 0 [some (vr 115), some (vi x1), some (vi x2), some (vi x3), none] [] (hp L b I J) = ev 179 3 [some (vr 115), some (vi x1), none, some (vi x3), some (vi x2)] [] (hp L b I J) := by
  refine (e179_0 x1 x2 x3).trans ?_
  simp only [e179_1]
theorem s179_3 {L : Nat} {b : Bool} {I : AI} {J : AJ} (x1 : Int) (x3 : Int) (x4 : Int)  : ev 179 3 [some (vr 115), some (vi x1), none, some (vi x3), some (vi x4)] [] (hp L b I J) = if x3 ≤ (x4 : Int) then (some (vi 0, hp L b I J)) else (gd (-2147483648 ≤ (24 * x1 : Int) ∧ (24 * x1 : Int) ≤ 2147483647) (gd (-2147483648 ≤ ((24 * x1) + x4 : Int) ∧ ((24 * x1) + x4 : Int) ≤ 2147483647) (gd (0 ≤ ((24 * x1) + x4 : Int) ∧ ((24 * x1) + x4 : Int) < 2880) (gd (0 ≤ (I 115 35 : Int) ∧ (I 115 35 : Int) < 128) (gd (0 ≤ ((upI I 142 (I 115 35) (I 116 ((24 * x1) + x4))) 115 35 : Int) ∧ ((upI I 142 (I 115 35) (I 116 ((24 * x1) + x4))) 115 35 : Int) < 128) (gd (-2147483648 ≤ (((upI (upI I 142 (I 115 35) (I 116 ((24 * x1) + x4))) 143 ((upI I 142 (I 115 35) (I 116 ((24 * x1) + x4))) 115 35) ((-1))) 115 35) + 1 : Int) ∧ (((upI (upI I 142 (I 115 35) (I 116 ((24 * x1) + x4))) 143 ((upI I 142 (I 115 35) (I 116 ((24 * x1) + x4))) 115 35) ((-1))) 115 35) + 1 : Int) ≤ 2147483647) (gd (-2147483648 ≤ (x4 + 1 : Int) ∧ (x4 + 1 : Int) ≤ 2147483647) (ev 179 3 [some (vr 115), some (vi x1), none, some (vi x3), some (vi (x4 + 1))] [] (hp L b (upI (upI (upI I 142 (I 115 35) (I 116 ((24 * x1) + x4))) 143 ((upI I 142 (I 115 35) (I 116 ((24 * x1) + x4))) 115 35) ((-1))) 115 35 (((upI (upI I 142 (I 115 35) (I 116 ((24 * x1) + x4))) 143 ((upI I 142 (I 115 35) (I 116 ((24 * x1) + x4))) 115 35) ((-1))) 115 35) + 1)) J))))))))) := by
  refine (e179_3 x1 x3 x4).trans ?_
  simp only [e179_5, e179_6, e179_9, e179_10, e179_13, e179_14, e179_17, e179_18, e179_21, e179_23, e179_24, e179_25, e179_27, e179_28, e179_29, e179_30, e179_31, e179_34, e179_35, e179_38, e179_39, e179_40, e179_41, e179_42, e179_45, e179_46, e179_47, e179_50, e179_53, e179_56]
/-! 180: VersionVaultModel.areLike(IIIIII)Z -/
theorem s180_0 {L : Nat} {b : Bool} {I : AI} {J : AJ} (x1 : Int) (x2 : Int) (x3 : Int) (x4 : Int) (x5 : Int) (x6 : Int)  : ev 180 0 [some (vr 115), some (vi x1), some (vi x2), some (vi x3), some (vi x4), some (vi x5), some (vi x6), none, none] [] (hp L b I J) = if ¬ (x3 : Int) = x6 then (ev 180 11 [some (vr 115), some (vi x1), some (vi x2), some (vi x3), some (vi x4), some (vi x5), none, none, none] [vi 0] (hp L b I J)) else (ev 180 11 [some (vr 115), some (vi x1), some (vi x2), some (vi x3), some (vi x4), some (vi x5), none, none, none] [vi 1] (hp L b I J)) := by
  refine (e180_0 x1 x2 x3 x4 x5 x6).trans ?_
  simp only [e180_1, e180_3, e180_6, e180_7, e180_10]
theorem s180_11 {L : Nat} {b : Bool} {I : AI} {J : AJ} (x1 : Int) (x2 : Int) (x3 : Int) (x4 : Int) (x5 : Int) (y0 : Int)  : ev 180 11 [some (vr 115), some (vi x1), some (vi x2), some (vi x3), some (vi x4), some (vi x5), none, none, none] [vi y0] (hp L b I J) = ev 180 16 [some (vr 115), some (vi x1), some (vi x2), some (vi x3), some (vi x4), some (vi x5), none, some (vi y0), some (vi 0)] [] (hp L b I J) := by
  refine (e180_11 x1 x2 x3 x4 x5 y0).trans ?_
  simp only [e180_13, e180_14]
theorem s180_16 {L : Nat} {b : Bool} {I : AI} {J : AJ} (x1 : Int) (x2 : Int) (x3 : Int) (x4 : Int) (x5 : Int) (x7 : Int) (x8 : Int)  : ev 180 16 [some (vr 115), some (vi x1), some (vi x2), some (vi x3), some (vi x4), some (vi x5), none, some (vi x7), some (vi x8)] [] (hp L b I J) = if x3 ≤ (x8 : Int) then (ev 180 51 [none, none, none, none, none, none, none, some (vi x7), none] [] (hp L b I J)) else (if (x7 : Int) = 0 then (ev 180 51 [none, none, none, none, none, none, none, some (vi x7), none] [] (hp L b I J)) else (gd (-2147483648 ≤ (x2 + x8 : Int) ∧ (x2 + x8 : Int) ≤ 2147483647) (gd (-2147483648 ≤ (x5 + x8 : Int) ∧ (x5 + x8 : Int) ≤ 2147483647) ((evc 173 [vr 115, vi x1, vi (x2 + x8), vi x4, vi (x5 + x8)] (hp L b I J)).bind (fun q => ev 180 43 [some (vr 115), some (vi x1), some (vi x2), some (vi x3), some (vi x4), some (vi x5), none, none, some (vi x8)] (q.1 :: []) q.2))))) := by
  refine (e180_16 x1 x2 x3 x4 x5 x7 x8).trans ?_
  simp only [e180_18, e180_19, e180_22, e180_24, e180_27, e180_28, e180_29, e180_30, e180_32, e180_33, e180_35, e180_37, e180_39, e180_40]
theorem s180_43 {L : Nat} {b : Bool} {I : AI} {J : AJ} (x1 : Int) (x2 : Int) (x3 : Int) (x4 : Int) (x5 : Int) (x8 : Int) (y0 : Int)  : ev 180 43 [some (vr 115), some (vi x1), some (vi x2), some (vi x3), some (vi x4), some (vi x5), none, none, some (vi x8)] [vi y0] (hp L b I J) = gd (-2147483648 ≤ (x8 + 1 : Int) ∧ (x8 + 1 : Int) ≤ 2147483647) (ev 180 16 [some (vr 115), some (vi x1), some (vi x2), some (vi x3), some (vi x4), some (vi x5), none, some (vi y0), some (vi (x8 + 1))] [] (hp L b I J)) := by
  refine (e180_43 x1 x2 x3 x4 x5 x8 y0).trans ?_
  simp only [e180_45, e180_48]
theorem s180_51 {L : Nat} {b : Bool} {I : AI} {J : AJ} (x7 : Int)  : ev 180 51 [none, none, none, none, none, none, none, some (vi x7), none] [] (hp L b I J) = gd ((x7 : Int) = 0 ∨ (x7 : Int) = 1) (some (vi x7, hp L b I J)) := by
  refine (e180_51 x7).trans ?_
  simp only [e180_53]
/-! 181: VersionVaultModel.addSpan(IIII)V -/
theorem s181_0 {L : Nat} {b : Bool} {I : AI} {J : AJ} (x1 : Int) (x2 : Int) (x3 : Int) (x4 : Int)  : ev 181 0 [some (vr 115), some (vi x1), some (vi x2), some (vi x3), some (vi x4), none, none] [] (hp L b I J) = gd (-2147483648 ≤ (4 * (I 115 38) : Int) ∧ (4 * (I 115 38) : Int) ≤ 2147483647) (gd (-2147483648 ≤ ((4 * (I 115 38)) + x1 : Int) ∧ ((4 * (I 115 38)) + x1 : Int) ≤ 2147483647) (gd (-2147483648 ≤ (x4 - x3 : Int) ∧ (x4 - x3 : Int) ≤ 2147483647) (gd (0 ≤ ((4 * (I 115 38)) + x1 : Int) ∧ ((4 * (I 115 38)) + x1 : Int) < 100) (ev 181 24 [some (vr 115), none, some (vi x2), some (vi x3), some (vi x4), some (vi ((4 * (I 115 38)) + x1)), some (vi x3)] [] (hp L b (upI I 145 ((4 * (I 115 38)) + x1) (x4 - x3)) J))))) := by
  refine (e181_0 x1 x2 x3 x4).trans ?_
  simp only [e181_1, e181_2, e181_5, e181_6, e181_7, e181_8, e181_10, e181_11, e181_14, e181_16, e181_18, e181_19, e181_20, e181_21, e181_22]
theorem s181_24 {L : Nat} {b : Bool} {I : AI} {J : AJ} (x2 : Int) (x3 : Int) (x4 : Int) (x5 : Int) (x6 : Int)  : ev 181 24 [some (vr 115), none, some (vi x2), some (vi x3), some (vi x4), some (vi x5), some (vi x6)] [] (hp L b I J) = if x4 ≤ (x6 : Int) then (some (vi 0, hp L b I J)) else (gd (-2147483648 ≤ (24 * x5 : Int) ∧ (24 * x5 : Int) ≤ 2147483647) (gd (-2147483648 ≤ ((24 * x5) + x6 : Int) ∧ ((24 * x5) + x6 : Int) ≤ 2147483647) (gd (-2147483648 ≤ (((24 * x5) + x6) - x3 : Int) ∧ (((24 * x5) + x6) - x3 : Int) ≤ 2147483647) (gd (-2147483648 ≤ (24 * x2 : Int) ∧ (24 * x2 : Int) ≤ 2147483647) (gd (-2147483648 ≤ ((24 * x2) + x6 : Int) ∧ ((24 * x2) + x6 : Int) ≤ 2147483647) (gd (0 ≤ ((24 * x2) + x6 : Int) ∧ ((24 * x2) + x6 : Int) < 2880) (gd (0 ≤ (((24 * x5) + x6) - x3 : Int) ∧ (((24 * x5) + x6) - x3 : Int) < 2400) (gd (-2147483648 ≤ (x6 + 1 : Int) ∧ (x6 + 1 : Int) ≤ 2147483647) (ev 181 24 [some (vr 115), none, some (vi x2), some (vi x3), some (vi x4), some (vi x5), some (vi (x6 + 1))] [] (hp L b (upI I 144 (((24 * x5) + x6) - x3) (I 116 ((24 * x2) + x6))) J)))))))))) := by
  refine (e181_24 x2 x3 x4 x5 x6).trans ?_
  simp only [e181_26, e181_28, e181_31, e181_32, e181_35, e181_37, e181_39, e181_40, e181_42, e181_43, e181_44, e181_45, e181_46, e181_49, e181_51, e181_52, e181_53, e181_55, e181_56, e181_57, e181_58, e181_61, e181_64]
/-! 182: VersionVaultModel.addPlace(IIIIIIIII)V -/
theorem s182_0 {L : Nat} {b : Bool} {I : AI} {J : AJ} (x1 : Int) (x2 : Int) (x3 : Int) (x4 : Int) (x5 : Int) (x6 : Int) (x7 : Int) (x8 : Int) (x9 : Int)  : ev 182 0 [some (vr 115), some (vi x1), some (vi x2), some (vi x3), some (vi x4), some (vi x5), some (vi x6), some (vi x7), some (vi x8), some (vi x9)] [] (hp L b I J) = gd (-2147483648 ≤ (x6 - x5 : Int) ∧ (x6 - x5 : Int) ≤ 2147483647) (gd (-2147483648 ≤ (x3 - x2 : Int) ∧ (x3 - x2 : Int) ≤ 2147483647) ((evc 180 [vr 115, vi x4, vi x5, vi (x6 - x5), vi x1, vi x2, vi (x3 - x2)] (hp L b I J)).bind (fun q => ev 182 18 [some (vr 115), some (vi x1), some (vi x2), some (vi x3), some (vi x4), some (vi x5), some (vi x6), some (vi x7), some (vi x8), some (vi x9)] (q.1 :: []) q.2))) := by
  refine (e182_0 x1 x2 x3 x4 x5 x6 x7 x8 x9).trans ?_
  simp only [e182_1, e182_3, e182_5, e182_7, e182_9, e182_10, e182_11, e182_12, e182_13, e182_14, e182_15]
theorem s182_18 {L : Nat} {b : Bool} {I : AI} {J : AJ} (x1 : Int) (x2 : Int) (x3 : Int) (x4 : Int) (x5 : Int) (x6 : Int) (x7 : Int) (x8 : Int) (x9 : Int) (y0 : Int)  : ev 182 18 [some (vr 115), some (vi x1), some (vi x2), some (vi x3), some (vi x4), some (vi x5), some (vi x6), some (vi x7), some (vi x8), some (vi x9)] [vi y0] (hp L b I J) = if (y0 : Int) = 0 then (gd (-2147483648 ≤ (x9 - x8 : Int) ∧ (x9 - x8 : Int) ≤ 2147483647) (gd (-2147483648 ≤ (x3 - x2 : Int) ∧ (x3 - x2 : Int) ≤ 2147483647) ((evc 180 [vr 115, vi x7, vi x8, vi (x9 - x8), vi x1, vi x2, vi (x3 - x2)] (hp L b I J)).bind (fun q => ev 182 52 [some (vr 115), some (vi x1), some (vi x2), some (vi x3), some (vi x4), some (vi x5), some (vi x6), some (vi x7), some (vi x8), some (vi x9)] (q.1 :: []) q.2)))) else ((evc 179 [vr 115, vi x7, vi x8, vi x9] (hp L b I J)).bind (fun q => ev 182 31 [none, none, none, none, none, none, none, none, none, none] ([]) q.2)) := by
  refine (e182_18 x1 x2 x3 x4 x5 x6 x7 x8 x9 y0).trans ?_
  simp only [e182_21, e182_22, e182_24, e182_26, e182_28, e182_34, e182_35, e182_37, e182_39, e182_41, e182_43, e182_44, e182_45, e182_46, e182_47, e182_48, e182_49]
theorem s182_31 {L : Nat} {b : Bool} {I : AI} {J : AJ}   : ev 182 31 [none, none, none, none, none, none, none, none, none, none] [] (hp L b I J) = some (vi 0, hp L b I J) := by
  refine (e182_31 ).trans ?_
  simp only [e182_166]
theorem s182_52 {L : Nat} {b : Bool} {I : AI} {J : AJ} (x1 : Int) (x2 : Int) (x3 : Int) (x4 : Int) (x5 : Int) (x6 : Int) (x7 : Int) (x8 : Int) (x9 : Int) (y0 : Int)  : ev 182 52 [some (vr 115), some (vi x1), some (vi x2), some (vi x3), some (vi x4), some (vi x5), some (vi x6), some (vi x7), some (vi x8), some (vi x9)] [vi y0] (hp L b I J) = if ¬ (y0 : Int) = 0 then (ev 182 80 [some (vr 115), none, none, none, some (vi x4), some (vi x5), some (vi x6), none, none, none] [] (hp L b I J)) else (gd (-2147483648 ≤ (x6 - x5 : Int) ∧ (x6 - x5 : Int) ≤ 2147483647) (gd (-2147483648 ≤ (x9 - x8 : Int) ∧ (x9 - x8 : Int) ≤ 2147483647) ((evc 180 [vr 115, vi x4, vi x5, vi (x6 - x5), vi x7, vi x8, vi (x9 - x8)] (hp L b I J)).bind (fun q => ev 182 77 [some (vr 115), some (vi x1), some (vi x2), some (vi x3), some (vi x4), some (vi x5), some (vi x6), some (vi x7), some (vi x8), some (vi x9)] (q.1 :: []) q.2)))) := by
  refine (e182_52 x1 x2 x3 x4 x5 x6 x7 x8 x9 y0).trans ?_
  simp only [e182_55, e182_56, e182_58, e182_60, e182_62, e182_64, e182_65, e182_67, e182_69, e182_71, e182_73, e182_74]
theorem s182_77 {L : Nat} {b : Bool} {I : AI} {J : AJ} (x1 : Int) (x2 : Int) (x3 : Int) (x4 : Int) (x5 : Int) (x6 : Int) (x7 : Int) (x8 : Int) (x9 : Int) (y0 : Int)  : ev 182 77 [some (vr 115), some (vi x1), some (vi x2), some (vi x3), some (vi x4), some (vi x5), some (vi x6), some (vi x7), some (vi x8), some (vi x9)] [vi y0] (hp L b I J) = if (y0 : Int) = 0 then ((evc 181 [vr 115, vi 0, vi x1, vi x2, vi x3] (hp L b I J)).bind (fun q => ev 182 101 [some (vr 115), none, none, none, some (vi x4), some (vi x5), some (vi x6), some (vi x7), some (vi x8), some (vi x9)] ([]) q.2)) else (ev 182 80 [some (vr 115), none, none, none, some (vi x4), some (vi x5), some (vi x6), none, none, none] [] (hp L b I J)) := by
  refine (e182_77 x1 x2 x3 x4 x5 x6 x7 x8 x9 y0).trans ?_
  simp only [e182_93, e182_94, e182_95, e182_96, e182_97, e182_98]
theorem s182_80 {L : Nat} {b : Bool} {I : AI} {J : AJ} (x4 : Int) (x5 : Int) (x6 : Int)  : ev 182 80 [some (vr 115), none, none, none, some (vi x4), some (vi x5), some (vi x6), none, none, none] [] (hp L b I J) = (evc 179 [vr 115, vi x4, vi x5, vi x6] (hp L b I J)).bind (fun q => ev 182 90 [none, none, none, none, none, none, none, none, none, none] ([]) q.2) := by
  refine (e182_80 x4 x5 x6).trans ?_
  simp only [e182_81, e182_83, e182_85, e182_87]
theorem s182_90 {L : Nat} {b : Bool} {I : AI} {J : AJ}   : ev 182 90 [none, none, none, none, none, none, none, none, none, none] [] (hp L b I J) = some (vi 0, hp L b I J) := by
  refine (e182_90 ).trans ?_
  simp only [e182_166]
theorem s182_101 {L : Nat} {b : Bool} {I : AI} {J : AJ} (x4 : Int) (x5 : Int) (x6 : Int) (x7 : Int) (x8 : Int) (x9 : Int)  : ev 182 101 [some (vr 115), none, none, none, some (vi x4), some (vi x5), some (vi x6), some (vi x7), some (vi x8), some (vi x9)] [] (hp L b I J) = (evc 181 [vr 115, vi 1, vi x4, vi x5, vi x6] (hp L b I J)).bind (fun q => ev 182 112 [some (vr 115), none, none, none, none, none, none, some (vi x7), some (vi x8), some (vi x9)] ([]) q.2) := by
  refine (e182_101 x4 x5 x6 x7 x8 x9).trans ?_
  simp only [e182_102, e182_103, e182_105, e182_107, e182_109]
theorem s182_112 {L : Nat} {b : Bool} {I : AI} {J : AJ} (x7 : Int) (x8 : Int) (x9 : Int)  : ev 182 112 [some (vr 115), none, none, none, none, none, none, some (vi x7), some (vi x8), some (vi x9)] [] (hp L b I J) = (evc 181 [vr 115, vi 2, vi x7, vi x8, vi x9] (hp L b I J)).bind (fun q => ev 182 123 [some (vr 115), none, none, none, none, none, none, none, none, none] ([]) q.2) := by
  refine (e182_112 x7 x8 x9).trans ?_
  simp only [e182_113, e182_114, e182_116, e182_118, e182_120]
theorem s182_123 {L : Nat} {b : Bool} {I : AI} {J : AJ}   : ev 182 123 [some (vr 115), none, none, none, none, none, none, none, none, none] [] (hp L b I J) = gd (0 ≤ (I 115 35 : Int) ∧ (I 115 35 : Int) < 128) (gd (0 ≤ ((upI I 142 (I 115 35) 0) 115 35 : Int) ∧ ((upI I 142 (I 115 35) 0) 115 35 : Int) < 128) (gd (-2147483648 ≤ (((upI (upI I 142 (I 115 35) 0) 143 ((upI I 142 (I 115 35) 0) 115 35) ((upI I 142 (I 115 35) 0) 115 38)) 115 35) + 1 : Int) ∧ (((upI (upI I 142 (I 115 35) 0) 143 ((upI I 142 (I 115 35) 0) 115 35) ((upI I 142 (I 115 35) 0) 115 38)) 115 35) + 1 : Int) ≤ 2147483647) (gd (-2147483648 ≤ (((upI (upI (upI I 142 (I 115 35) 0) 143 ((upI I 142 (I 115 35) 0) 115 35) ((upI I 142 (I 115 35) 0) 115 38)) 115 35 (((upI (upI I 142 (I 115 35) 0) 143 ((upI I 142 (I 115 35) 0) 115 35) ((upI I 142 (I 115 35) 0) 115 38)) 115 35) + 1)) 115 38) + 1 : Int) ∧ (((upI (upI (upI I 142 (I 115 35) 0) 143 ((upI I 142 (I 115 35) 0) 115 35) ((upI I 142 (I 115 35) 0) 115 38)) 115 35 (((upI (upI I 142 (I 115 35) 0) 143 ((upI I 142 (I 115 35) 0) 115 35) ((upI I 142 (I 115 35) 0) 115 38)) 115 35) + 1)) 115 38) + 1 : Int) ≤ 2147483647) (some (vi 0, hp L b (upI (upI (upI (upI I 142 (I 115 35) 0) 143 ((upI I 142 (I 115 35) 0) 115 35) ((upI I 142 (I 115 35) 0) 115 38)) 115 35 (((upI (upI I 142 (I 115 35) 0) 143 ((upI I 142 (I 115 35) 0) 115 35) ((upI I 142 (I 115 35) 0) 115 38)) 115 35) + 1)) 115 38 (((upI (upI (upI I 142 (I 115 35) 0) 143 ((upI I 142 (I 115 35) 0) 115 35) ((upI I 142 (I 115 35) 0) 115 38)) 115 35 (((upI (upI I 142 (I 115 35) 0) 143 ((upI I 142 (I 115 35) 0) 115 35) ((upI I 142 (I 115 35) 0) 115 38)) 115 35) + 1)) 115 38) + 1)) J))))) := by
  refine (e182_123 ).trans ?_
  simp only [e182_124, e182_127, e182_128, e182_131, e182_132, e182_133, e182_134, e182_137, e182_138, e182_141, e182_142, e182_145, e182_146, e182_147, e182_148, e182_151, e182_152, e182_153, e182_156, e182_157, e182_158, e182_161, e182_162, e182_163, e182_166]
/-! 183: VersionVaultModel.findMerge(III)V -/
theorem s183_0 {L : Nat} {b : Bool} {I : AI} {J : AJ} (x1 : Int) (x2 : Int) (x3 : Int)  : ev 183 0 [some (vr 115), some (vi x1), some (vi x2), some (vi x3), none, none, none, none] [] (hp L b I J) = (evc 178 [vr 115, vi x1, vi x2, vr 140] (hp L b I J)).bind (fun q => ev 183 10 [some (vr 115), some (vi x1), some (vi x2), some (vi x3), none, none, none, none] ([]) q.2) := by
  refine (e183_0 x1 x2 x3).trans ?_
  simp only [e183_1, e183_2, e183_3, e183_4, e183_7]
theorem s183_10 {L : Nat} {b : Bool} {I : AI} {J : AJ} (x1 : Int) (x2 : Int) (x3 : Int)  : ev 183 10 [some (vr 115), some (vi x1), some (vi x2), some (vi x3), none, none, none, none] [] (hp L b I J) = (evc 178 [vr 115, vi x1, vi x3, vr 141] (hp L b I J)).bind (fun q => ev 183 20 [some (vr 115), some (vi x1), some (vi x2), some (vi x3), none, none, none, none] ([]) q.2) := by
  refine (e183_10 x1 x2 x3).trans ?_
  simp only [e183_11, e183_12, e183_13, e183_14, e183_17]
theorem s183_20 {L : Nat} {b : Bool} {I : AI} {J : AJ} (x1 : Int) (x2 : Int) (x3 : Int)  : ev 183 20 [some (vr 115), some (vi x1), some (vi x2), some (vi x3), none, none, none, none] [] (hp L b I J) = ev 183 42 [some (vr 115), some (vi x1), some (vi x2), some (vi x3), some (vi 0), some (vi 0), some (vi 0), some (vi 0)] [] (hp L b (upI (upI I 115 35 0) 115 38 0) J) := by
  refine (e183_20 x1 x2 x3).trans ?_
  simp only [e183_21, e183_22, e183_25, e183_26, e183_27, e183_30, e183_31, e183_33, e183_34, e183_36, e183_37, e183_39, e183_40]
theorem s183_42 {L : Nat} {b : Bool} {I : AI} {J : AJ} (x1 : Int) (x2 : Int) (x3 : Int) (x4 : Int) (x5 : Int) (x6 : Int) (x7 : Int)  : ev 183 42 [some (vr 115), some (vi x1), some (vi x2), some (vi x3), some (vi x4), some (vi x5), some (vi x6), some (vi x7)] [] (hp L b I J) = (evc 172 [vr 115, vi x1] (hp L b I J)).bind (fun q => ev 183 49 [some (vr 115), some (vi x1), some (vi x2), some (vi x3), some (vi x4), some (vi x5), some (vi x6), some (vi x7)] (q.1 :: [vi x7]) q.2) := by
  refine (e183_42 x1 x2 x3 x4 x5 x6 x7).trans ?_
  simp only [e183_44, e183_45, e183_46]
theorem s183_49 {L : Nat} {b : Bool} {I : AI} {J : AJ} (x1 : Int) (x2 : Int) (x3 : Int) (x4 : Int) (x5 : Int) (x6 : Int) (x7 : Int) (y0 : Int) (y1 : Int)  : ev 183 49 [some (vr 115), some (vi x1), some (vi x2), some (vi x3), some (vi x4), some (vi x5), some (vi x6), some (vi x7)] [vi y0, vi y1] (hp L b I J) = if y0 ≤ (y1 : Int) then ((evc 172 [vr 115, vi x1] (hp L b I J)).bind (fun q => ev 183 155 [some (vr 115), none, some (vi x2), some (vi x3), none, some (vi x5), some (vi x6), none] (q.1 :: [vi x4, vi x1, vr 115]) q.2)) else (gd (0 ≤ (x7 : Int) ∧ (x7 : Int) < 24) (if (I 140 x7 : Int) < 0 then (ev 183 140 [some (vr 115), some (vi x1), some (vi x2), some (vi x3), some (vi x4), some (vi x5), some (vi x6), some (vi x7)] [] (hp L b I J)) else (gd (0 ≤ (x7 : Int) ∧ (x7 : Int) < 24) (if (I 141 x7 : Int) < 0 then (ev 183 140 [some (vr 115), some (vi x1), some (vi x2), some (vi x3), some (vi x4), some (vi x5), some (vi x6), some (vi x7)] [] (hp L b I J)) else (gd (0 ≤ (x7 : Int) ∧ (x7 : Int) < 24) (gd (0 ≤ (x7 : Int) ∧ (x7 : Int) < 24) ((evc 182 [vr 115, vi x1, vi x4, vi x7, vi x2, vi x5, vi (I 140 x7), vi x3, vi x6, vi (I 141 x7)] (hp L b I J)).bind (fun q => ev 183 101 [some (vr 115), some (vi x1), some (vi x2), some (vi x3), none, none, none, some (vi x7)] ([]) q.2)))))))) := by
  refine (e183_49 x1 x2 x3 x4 x5 x6 x7 y0 y1).trans ?_
  simp only [e183_52, e183_53, e183_56, e183_58, e183_59, e183_62, e183_63, e183_66, e183_68, e183_69, e183_72, e183_73, e183_74, e183_76, e183_78, e183_79, e183_81, e183_82, e183_85, e183_87, e183_88, e183_89, e183_91, e183_92, e183_95, e183_97, e183_98, e183_146, e183_147, e183_148, e183_150, e183_151, e183_152]
theorem s183_101 {L : Nat} {b : Bool} {I : AI} {J : AJ} (x1 : Int) (x2 : Int) (x3 : Int) (x7 : Int)  : ev 183 101 [some (vr 115), some (vi x1), some (vi x2), some (vi x3), none, none, none, some (vi x7)] [] (hp L b I J) = gd (-2147483648 ≤ (x7 + 1 : Int) ∧ (x7 + 1 : Int) ≤ 2147483647) ((evc 179 [vr 115, vi x1, vi x7, vi (x7 + 1)] (hp L b I J)).bind (fun q => ev 183 112 [some (vr 115), some (vi x1), some (vi x2), some (vi x3), none, none, none, some (vi x7)] ([]) q.2)) := by
  refine (e183_101 x1 x2 x3 x7).trans ?_
  simp only [e183_102, e183_103, e183_105, e183_107, e183_108, e183_109]
theorem s183_112 {L : Nat} {b : Bool} {I : AI} {J : AJ} (x1 : Int) (x2 : Int) (x3 : Int) (x7 : Int)  : ev 183 112 [some (vr 115), some (vi x1), some (vi x2), some (vi x3), none, none, none, some (vi x7)] [] (hp L b I J) = gd (-2147483648 ≤ (x7 + 1 : Int) ∧ (x7 + 1 : Int) ≤ 2147483647) (gd (0 ≤ (x7 : Int) ∧ (x7 : Int) < 24) (gd (-2147483648 ≤ ((I 140 x7) + 1 : Int) ∧ ((I 140 x7) + 1 : Int) ≤ 2147483647) (gd (0 ≤ (x7 : Int) ∧ (x7 : Int) < 24) (gd (-2147483648 ≤ ((I 141 x7) + 1 : Int) ∧ ((I 141 x7) + 1 : Int) ≤ 2147483647) (ev 183 140 [some (vr 115), some (vi x1), some (vi x2), some (vi x3), some (vi (x7 + 1)), some (vi ((I 140 x7) + 1)), some (vi ((I 141 x7) + 1)), some (vi x7)] [] (hp L b I J)))))) := by
  refine (e183_112 x1 x2 x3 x7).trans ?_
  simp only [e183_114, e183_115, e183_116, e183_118, e183_119, e183_122, e183_124, e183_125, e183_126, e183_127, e183_129, e183_130, e183_133, e183_135, e183_136, e183_137, e183_138]
theorem s183_140 {L : Nat} {b : Bool} {I : AI} {J : AJ} (x1 : Int) (x2 : Int) (x3 : Int) (x4 : Int) (x5 : Int) (x6 : Int) (x7 : Int)  : ev 183 140 [some (vr 115), some (vi x1), some (vi x2), some (vi x3), some (vi x4), some (vi x5), some (vi x6), some (vi x7)] [] (hp L b I J) = gd (-2147483648 ≤ (x7 + 1 : Int) ∧ (x7 + 1 : Int) ≤ 2147483647) (ev 183 42 [some (vr 115), some (vi x1), some (vi x2), some (vi x3), some (vi x4), some (vi x5), some (vi x6), some (vi (x7 + 1))] [] (hp L b I J)) := by
  refine (e183_140 x1 x2 x3 x4 x5 x6 x7).trans ?_
  simp only [e183_143]
theorem s183_155 {L : Nat} {b : Bool} {I : AI} {J : AJ} (x2 : Int) (x3 : Int) (x5 : Int) (x6 : Int) (y0 : Int) (y1 : Int) (y2 : Int)  : ev 183 155 [some (vr 115), none, some (vi x2), some (vi x3), none, some (vi x5), some (vi x6), none] [vi y0, vi y1, vi y2, vr 115] (hp L b I J) = (evc 172 [vr 115, vi x2] (hp L b I J)).bind (fun q => ev 183 163 [some (vr 115), none, none, some (vi x3), none, none, some (vi x6), none] (q.1 :: [vi x5, vi x2, vi y0, vi y1, vi y2, vr 115]) q.2) := by
  refine (e183_155 x2 x3 x5 x6 y0 y1 y2).trans ?_
  simp only [e183_156, e183_158, e183_159, e183_160]
theorem s183_163 {L : Nat} {b : Bool} {I : AI} {J : AJ} (x3 : Int) (x6 : Int) (y0 : Int) (y1 : Int) (y2 : Int) (y3 : Int) (y4 : Int) (y5 : Int)  : ev 183 163 [some (vr 115), none, none, some (vi x3), none, none, some (vi x6), none] [vi y0, vi y1, vi y2, vi y3, vi y4, vi y5, vr 115] (hp L b I J) = (evc 172 [vr 115, vi x3] (hp L b I J)).bind (fun q => ev 183 171 [none, none, none, none, none, none, none, none] (q.1 :: [vi x6, vi x3, vi y0, vi y1, vi y2, vi y3, vi y4, vi y5, vr 115]) q.2) := by
  refine (e183_163 x3 x6 y0 y1 y2 y3 y4 y5).trans ?_
  simp only [e183_164, e183_166, e183_167, e183_168]
theorem s183_171 {L : Nat} {b : Bool} {I : AI} {J : AJ} (y0 : Int) (y1 : Int) (y2 : Int) (y3 : Int) (y4 : Int) (y5 : Int) (y6 : Int) (y7 : Int) (y8 : Int)  : ev 183 171 [none, none, none, none, none, none, none, none] [vi y0, vi y1, vi y2, vi y3, vi y4, vi y5, vi y6, vi y7, vi y8, vr 115] (hp L b I J) = (evc 182 [vr 115, vi y8, vi y7, vi y6, vi y5, vi y4, vi y3, vi y2, vi y1, vi y0] (hp L b I J)).bind (fun q => ev 183 174 [none, none, none, none, none, none, none, none] ([]) q.2) := by
  refine (e183_171 y0 y1 y2 y3 y4 y5 y6 y7 y8).trans ?_
  rfl
theorem s183_174 {L : Nat} {b : Bool} {I : AI} {J : AJ}   : ev 183 174 [none, none, none, none, none, none, none, none] [] (hp L b I J) = some (vi 0, hp L b I J) := by
  refine (e183_174 ).trans ?_
  rfl
/-! 184: VersionVaultModel.merge(III)I -/
theorem s184_0 {L : Nat} {b : Bool} {I : AI} {J : AJ} (x1 : Int) (x2 : Int) (x3 : Int)  : ev 184 0 [some (vr 115), some (vi x1), some (vi x2), some (vi x3), none, none] [] (hp L b I J) = (evc 137 [vr 115, vi x1] (hp L b I J)).bind (fun q => ev 184 5 [some (vr 115), some (vi x1), some (vi x2), some (vi x3), none, none] (q.1 :: []) q.2) := by
  refine (e184_0 x1 x2 x3).trans ?_
  simp only [e184_1, e184_2]
theorem s184_5 {L : Nat} {b : Bool} {I : AI} {J : AJ} (x1 : Int) (x2 : Int) (x3 : Int) (y0 : Int)  : ev 184 5 [some (vr 115), some (vi x1), some (vi x2), some (vi x3), none, none] [vi y0] (hp L b I J) = if (y0 : Int) = 0 then (ev 184 24 [none, none, none, none, none, none] [] (hp L b I J)) else ((evc 137 [vr 115, vi x2] (hp L b I J)).bind (fun q => ev 184 13 [some (vr 115), some (vi x1), some (vi x2), some (vi x3), none, none] (q.1 :: []) q.2)) := by
  refine (e184_5 x1 x2 x3 y0).trans ?_
  simp only [e184_8, e184_9, e184_10]
theorem s184_13 {L : Nat} {b : Bool} {I : AI} {J : AJ} (x1 : Int) (x2 : Int) (x3 : Int) (y0 : Int)  : ev 184 13 [some (vr 115), some (vi x1), some (vi x2), some (vi x3), none, none] [vi y0] (hp L b I J) = if (y0 : Int) = 0 then (ev 184 24 [none, none, none, none, none, none] [] (hp L b I J)) else ((evc 137 [vr 115, vi x3] (hp L b I J)).bind (fun q => ev 184 21 [some (vr 115), some (vi x1), some (vi x2), some (vi x3), none, none] (q.1 :: []) q.2)) := by
  refine (e184_13 x1 x2 x3 y0).trans ?_
  simp only [e184_16, e184_17, e184_18]
theorem s184_21 {L : Nat} {b : Bool} {I : AI} {J : AJ} (x1 : Int) (x2 : Int) (x3 : Int) (y0 : Int)  : ev 184 21 [some (vr 115), some (vi x1), some (vi x2), some (vi x3), none, none] [vi y0] (hp L b I J) = if ¬ (y0 : Int) = 0 then ((evc 183 [vr 115, vi x1, vi x2, vi x3] (hp L b I J)).bind (fun q => ev 184 34 [some (vr 115), none, none, none, none, none] ([]) q.2)) else (ev 184 24 [none, none, none, none, none, none] [] (hp L b I J)) := by
  refine (e184_21 x1 x2 x3 y0).trans ?_
  simp only [e184_27, e184_28, e184_29, e184_30, e184_31]
theorem s184_24 {L : Nat} {b : Bool} {I : AI} {J : AJ}   : ev 184 24 [none, none, none, none, none, none] [] (hp L b I J) = some (vi ((-2)), hp L b I J) := by
  refine (e184_24 ).trans ?_
  simp only [e184_26]
theorem s184_34 {L : Nat} {b : Bool} {I : AI} {J : AJ}   : ev 184 34 [some (vr 115), none, none, none, none, none] [] (hp L b I J) = gd ((1 : Int) = 0 ∨ (1 : Int) = 1) (ev 184 58 [some (vr 115), none, none, none, some (vi 0), none] [] (hp L b (upI (upI (upI I 115 39 1) 115 42 ((upI I 115 39 1) 115 35)) 115 45 ((upI (upI I 115 39 1) 115 42 ((upI I 115 39 1) 115 35)) 115 38)) J)) := by
  refine (e184_34 ).trans ?_
  simp only [e184_35, e184_36, e184_39, e184_40, e184_41, e184_44, e184_47, e184_48, e184_49, e184_52, e184_55, e184_56]
theorem s184_58 {L : Nat} {b : Bool} {I : AI} {J : AJ} (x4 : Int)  : ev 184 58 [some (vr 115), none, none, none, some (vi x4), none] [] (hp L b I J) = if (I 115 35) ≤ (x4 : Int) then (ev 184 104 [some (vr 115), none, none, none, some (vi 0), none] [] (hp L b I J)) else (gd (0 ≤ (x4 : Int) ∧ (x4 : Int) < 128) (gd (0 ≤ (x4 : Int) ∧ (x4 : Int) < 128) (gd (0 ≤ (x4 : Int) ∧ (x4 : Int) < 128) (gd (0 ≤ (x4 : Int) ∧ (x4 : Int) < 128) (gd (-2147483648 ≤ (x4 + 1 : Int) ∧ (x4 + 1 : Int) ≤ 2147483647) (ev 184 58 [some (vr 115), none, none, none, some (vi (x4 + 1)), none] [] (hp L b (upI (upI I 146 x4 (I 142 x4)) 147 x4 ((upI I 146 x4 (I 142 x4)) 143 x4)) J))))))) := by
  refine (e184_58 x4).trans ?_
  simp only [e184_60, e184_61, e184_64, e184_67, e184_68, e184_71, e184_73, e184_74, e184_77, e184_79, e184_80, e184_81, e184_82, e184_85, e184_87, e184_88, e184_91, e184_93, e184_94, e184_95, e184_98, e184_101, e184_102]
theorem s184_104 {L : Nat} {b : Bool} {I : AI} {J : AJ} (x4 : Int)  : ev 184 104 [some (vr 115), none, none, none, some (vi x4), none] [] (hp L b I J) = gd (-2147483648 ≤ (4 * (I 115 38) : Int) ∧ (4 * (I 115 38) : Int) ≤ 2147483647) (if (4 * (I 115 38)) ≤ (x4 : Int) then (ev 184 180 [some (vr 115), none, none, none, some (vi 0), none] [] (hp L b I J)) else (gd (0 ≤ (x4 : Int) ∧ (x4 : Int) < 100) (gd (0 ≤ (x4 : Int) ∧ (x4 : Int) < 100) (ev 184 132 [some (vr 115), none, none, none, some (vi x4), some (vi 0)] [] (hp L b (upI I 149 x4 (I 145 x4)) J))))) := by
  refine (e184_104 x4).trans ?_
  simp only [e184_106, e184_107, e184_108, e184_111, e184_112, e184_115, e184_116, e184_119, e184_121, e184_122, e184_125, e184_127, e184_128, e184_129, e184_130, e184_177, e184_178]
theorem s184_132 {L : Nat} {b : Bool} {I : AI} {J : AJ} (x4 : Int) (x5 : Int)  : ev 184 132 [some (vr 115), none, none, none, some (vi x4), some (vi x5)] [] (hp L b I J) = if 24 ≤ (x5 : Int) then (gd (-2147483648 ≤ (x4 + 1 : Int) ∧ (x4 + 1 : Int) ≤ 2147483647) (ev 184 104 [some (vr 115), none, none, none, some (vi (x4 + 1)), none] [] (hp L b I J))) else (gd (-2147483648 ≤ (24 * x4 : Int) ∧ (24 * x4 : Int) ≤ 2147483647) (gd (-2147483648 ≤ ((24 * x4) + x5 : Int) ∧ ((24 * x4) + x5 : Int) ≤ 2147483647) (gd (-2147483648 ≤ (24 * x4 : Int) ∧ (24 * x4 : Int) ≤ 2147483647) (gd (-2147483648 ≤ ((24 * x4) + x5 : Int) ∧ ((24 * x4) + x5 : Int) ≤ 2147483647) (gd (0 ≤ ((24 * x4) + x5 : Int) ∧ ((24 * x4) + x5 : Int) < 2400) (gd (0 ≤ ((24 * x4) + x5 : Int) ∧ ((24 * x4) + x5 : Int) < 2400) (gd (-2147483648 ≤ (x5 + 1 : Int) ∧ (x5 + 1 : Int) ≤ 2147483647) (ev 184 132 [some (vr 115), none, none, none, some (vi x4), some (vi (x5 + 1))] [] (hp L b (upI I 148 ((24 * x4) + x5) (I 144 ((24 * x4) + x5))) J))))))))) := by
  refine (e184_132 x4 x5).trans ?_
  simp only [e184_134, e184_136, e184_139, e184_140, e184_143, e184_145, e184_147, e184_148, e184_150, e184_151, e184_152, e184_155, e184_157, e184_159, e184_160, e184_162, e184_163, e184_164, e184_165, e184_168, e184_171, e184_174]
theorem s184_180 {L : Nat} {b : Bool} {I : AI} {J : AJ} (x4 : Int)  : ev 184 180 [some (vr 115), none, none, none, some (vi x4), none] [] (hp L b I J) = if (I 115 38) ≤ (x4 : Int) then (some (vi (I 115 38), hp L b I J)) else (gd (0 ≤ (x4 : Int) ∧ (x4 : Int) < 32) (gd (-2147483648 ≤ (x4 + 1 : Int) ∧ (x4 + 1 : Int) ≤ 2147483647) (ev 184 180 [some (vr 115), none, none, none, some (vi (x4 + 1)), none] [] (hp L b (upI I 150 x4 ((-1))) J)))) := by
  refine (e184_180 x4).trans ?_
  simp only [e184_182, e184_183, e184_186, e184_189, e184_190, e184_193, e184_195, e184_196, e184_197, e184_200, e184_203, e184_204, e184_207]
/-! 185: VersionVaultModel.isConflict(I)Z -/
theorem s185_0 {L : Nat} {b : Bool} {I : AI} {J : AJ} (x1 : Int)  : ev 185 0 [some (vr 115), some (vi x1)] [] (hp L b I J) = if (I 115 39 : Int) = 0 then (ev 185 23 [none, none] [] (hp L b I J)) else (if (x1 : Int) < 0 then (ev 185 23 [none, none] [] (hp L b I J)) else (if (I 115 45) ≤ (x1 : Int) then (ev 185 23 [none, none] [] (hp L b I J)) else (gd ((1 : Int) = 0 ∨ (1 : Int) = 1) (some (vi 1, hp L b I J))))) := by
  refine (e185_0 x1).trans ?_
  simp only [e185_1, e185_4, e185_7, e185_8, e185_11, e185_12, e185_13, e185_16, e185_19, e185_20, e185_24]
theorem s185_23 {L : Nat} {b : Bool} {I : AI} {J : AJ}   : ev 185 23 [none, none] [] (hp L b I J) = gd ((0 : Int) = 0 ∨ (0 : Int) = 1) (some (vi 0, hp L b I J)) := by
  refine (e185_23 ).trans ?_
  simp only [e185_24]
/-! 186: VersionVaultModel.conflict(III)I -/
theorem s186_0 {L : Nat} {b : Bool} {I : AI} {J : AJ} (x1 : Int) (x2 : Int) (x3 : Int)  : ev 186 0 [some (vr 115), some (vi x1), some (vi x2), some (vi x3)] [] (hp L b I J) = (evc 185 [vr 115, vi x1] (hp L b I J)).bind (fun q => ev 186 5 [some (vr 115), some (vi x1), some (vi x2), some (vi x3)] (q.1 :: []) q.2) := by
  refine (e186_0 x1 x2 x3).trans ?_
  simp only [e186_1, e186_2]
theorem s186_5 {L : Nat} {b : Bool} {I : AI} {J : AJ} (x1 : Int) (x2 : Int) (x3 : Int) (y0 : Int)  : ev 186 5 [some (vr 115), some (vi x1), some (vi x2), some (vi x3)] [vi y0] (hp L b I J) = if (y0 : Int) = 0 then (ev 186 17 [none, none, none, none] [] (hp L b I J)) else (if (x2 : Int) < 0 then (ev 186 17 [none, none, none, none] [] (hp L b I J)) else (if (x2 : Int) ≤ 5 then (if (x2 : Int) ≤ 2 then (if (x3 : Int) < 0 then (ev 186 57 [none, none, none, none] [] (hp L b I J)) else (gd (-2147483648 ≤ (4 * x1 : Int) ∧ (4 * x1 : Int) ≤ 2147483647) (gd (-2147483648 ≤ ((4 * x1) + x2 : Int) ∧ ((4 * x1) + x2 : Int) ≤ 2147483647) (gd (0 ≤ ((4 * x1) + x2 : Int) ∧ ((4 * x1) + x2 : Int) < 100) (if (x3 : Int) < (I 149 ((4 * x1) + x2)) then (gd (-2147483648 ≤ (4 * x1 : Int) ∧ (4 * x1 : Int) ≤ 2147483647) (gd (-2147483648 ≤ ((4 * x1) + x2 : Int) ∧ ((4 * x1) + x2 : Int) ≤ 2147483647) (gd (-2147483648 ≤ (24 * ((4 * x1) + x2) : Int) ∧ (24 * ((4 * x1) + x2) : Int) ≤ 2147483647) (gd (-2147483648 ≤ ((24 * ((4 * x1) + x2)) + x3 : Int) ∧ ((24 * ((4 * x1) + x2)) + x3 : Int) ≤ 2147483647) (gd (0 ≤ ((24 * ((4 * x1) + x2)) + x3 : Int) ∧ ((24 * ((4 * x1) + x2)) + x3 : Int) < 2400) (some (vi (I 148 ((24 * ((4 * x1) + x2)) + x3)), hp L b I J))))))) else (ev 186 57 [none, none, none, none] [] (hp L b I J))))))) else (gd (-2147483648 ≤ (4 * x1 : Int) ∧ (4 * x1 : Int) ≤ 2147483647) (gd (-2147483648 ≤ ((4 * x1) + x2 : Int) ∧ ((4 * x1) + x2 : Int) ≤ 2147483647) (gd (-2147483648 ≤ (((4 * x1) + x2) - 3 : Int) ∧ (((4 * x1) + x2) - 3 : Int) ≤ 2147483647) (gd (0 ≤ (((4 * x1) + x2) - 3 : Int) ∧ (((4 * x1) + x2) - 3 : Int) < 100) (some (vi (I 149 (((4 * x1) + x2) - 3)), hp L b I J))))))) else (ev 186 17 [none, none, none, none] [] (hp L b I J)))) := by
  refine (e186_5 x1 x2 x3 y0).trans ?_
  simp only [e186_8, e186_9, e186_12, e186_13, e186_14, e186_21, e186_22, e186_23, e186_26, e186_27, e186_30, e186_31, e186_32, e186_33, e186_34, e186_35, e186_36, e186_37, e186_38, e186_39, e186_40, e186_43, e186_44, e186_45, e186_48, e186_49, e186_50, e186_51, e186_52, e186_53, e186_54, e186_63, e186_64, e186_67, e186_69, e186_70, e186_71, e186_72, e186_73, e186_74, e186_75, e186_76, e186_77, e186_78]
theorem s186_17 {L : Nat} {b : Bool} {I : AI} {J : AJ}   : ev 186 17 [none, none, none, none] [] (hp L b I J) = some (vi ((-2000000000)), hp L b I J) := by
  refine (e186_17 ).trans ?_
  simp only [e186_20]
theorem s186_57 {L : Nat} {b : Bool} {I : AI} {J : AJ}   : ev 186 57 [none, none, none, none] [] (hp L b I J) = some (vi ((-2000000000)), hp L b I J) := by
  refine (e186_57 ).trans ?_
  simp only [e186_60, e186_78]
/-! 187: VersionVaultModel.settle(II)I -/
theorem s187_0 {L : Nat} {b : Bool} {I : AI} {J : AJ} (x1 : Int) (x2 : Int)  : ev 187 0 [some (vr 115), some (vi x1), some (vi x2), none] [] (hp L b I J) = (evc 185 [vr 115, vi x1] (hp L b I J)).bind (fun q => ev 187 5 [some (vr 115), some (vi x1), some (vi x2), none] (q.1 :: []) q.2) := by
  refine (e187_0 x1 x2).trans ?_
  simp only [e187_1, e187_2]
theorem s187_5 {L : Nat} {b : Bool} {I : AI} {J : AJ} (x1 : Int) (x2 : Int) (y0 : Int)  : ev 187 5 [some (vr 115), some (vi x1), some (vi x2), none] [vi y0] (hp L b I J) = if (y0 : Int) = 0 then (ev 187 18 [none, none, none, none] [] (hp L b I J)) else (if (x2 : Int) < ((-1)) then (ev 187 18 [none, none, none, none] [] (hp L b I J)) else (if (x2 : Int) ≤ 4 then (gd (0 ≤ (x1 : Int) ∧ (x1 : Int) < 32) (gd (0 ≤ (x1 : Int) ∧ (x1 : Int) < 32) (some (vi (I 150 x1), hp L b (upI I 150 x1 x2) J)))) else (ev 187 18 [none, none, none, none] [] (hp L b I J)))) := by
  refine (e187_5 x1 x2 y0).trans ?_
  simp only [e187_8, e187_9, e187_10, e187_13, e187_14, e187_15, e187_21, e187_22, e187_25, e187_26, e187_27, e187_28, e187_29, e187_32, e187_33, e187_34, e187_35, e187_36]
theorem s187_18 {L : Nat} {b : Bool} {I : AI} {J : AJ}   : ev 187 18 [none, none, none, none] [] (hp L b I J) = some (vi ((-2)), hp L b I J) := by
  refine (e187_18 ).trans ?_
  simp only [e187_20]
