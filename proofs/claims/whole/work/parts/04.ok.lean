
/-! The tables of part 03 are those of the bytecode, and each number in them is the place of the word that it stands for. -/
def i_len (i : Instr) : Nat := match i with
  | .bipush _ => 2 | .iload _ => 2 | .aload _ => 2 | .istore _ => 2 | .astore _ => 2 | .ldc _ => 2 | .newarray _ => 2
  | .sipush _ => 3 | .ldc_w _ => 3 | .ldc2_w _ => 3 | .iinc _ _ => 3 | .ifCond _ _ => 3 | .if_icmp _ _ => 3 | .goto _ => 3 | .getfield _ => 3 | .putfield _ => 3
  | .invokevirtual _ => 3 | .invokestatic _ => 3 | .invokespecial _ => 3 | .new _ => 3 | .anewarray _ => 3
  | _ => 1
def i_ts (i : Instr) : Bool := match i with
  | .tableswitch _ _ _ _ => true
  | _ => false
def ok_dec (M pc : Nat) (i : Instr) : Bool := match decode (a_cc M) pc with
  | .ok (j, n) => decide (j = i) && (decide (n = i_len i) || i_ts i)
  | _ => false
def w_is (w : Nat) (c : Jvm.Cond) : Bool := decide (lw_tbl[w]? = some c)
def w_ok (w : Nat) (c : Jvm.Cond) : Bool := w_is w c && goodWord c
def ok_room (M M2 : Nat) : Bool := decide (a_fr M2 + 1 ≤ a_fr M) && decide (8 + (a_mL M2 + 11) + a_lc M2 ≤ a_lc M)
def ok_lnk (M ix M2 w ns : Nat) : Bool := if ns = 0 then w_ok w (.methodLink (a_y M).cls ix (a_y M2)) else w_is w (.methodLinkNest (a_y M).cls ix (a_y M2) "VersionVault")
def ok_fld (M ix ci k w ns : Nat) : Bool := match vwCl[ci]? with
  | some (_, T, N) => decide (k < N) && (if ns = 0 then w_ok w (.fieldLink (a_y M).cls ix (T k).1 (T k).2.1 (T k).2.2.1) else w_is w (.fieldLinkNest (a_y M).cls ix (T k).1 (T k).2.1 (T k).2.2.1 "VersionVault"))
  | none => false
def ok_fin (M ci k ns : Nat) : Bool := match vwCl[ci]? with
  | some (_, T, _) => if (T k).2.2.2 = true then decide ((a_y M).name = "<init>") && decide ((T k).1 = (a_y M).cls) && decide (ns = 0) else true
  | none => false
def ok_cls (M2 : Nat) : Bool := decide (0 < (a_mi M2).2.2) && decide ((vwCl[(a_mi M2).2.2 - 1]?).map (fun q => q.1) = some (a_y M2).cls)
def ok_link (M : Nat) (E : Ent) : Bool := match E.1 with
  | .getfield ix => match E.2.1 with
    | [ci, k, w, ns] => ok_fld M ix ci k w ns
    | _ => false
  | .putfield ix => match E.2.1 with
    | [ci, k, w, ns] => ok_fld M ix ci k w ns && ok_fin M ci k ns
    | _ => false
  | .invokevirtual ix => match E.2.1 with
    | [M2, w, ns, wi, ws, wn] => decide (M2 < 234) && ok_lnk M ix M2 w ns && w_ok wi (.instanceMethod (a_y M2)) && w_ok ws (.selects (a_y M2).cls (a_y M2) (a_y M2)) && w_ok wn (.initialized (a_y M2).cls) && ok_room M M2 && ok_cls M2
    | _ => false
  | .invokestatic ix => match E.2.1 with
    | [M2, w, ns, wt, wn] => if M2 = 1001 then w_ok w (.methodLink (a_y M).cls ix Lib.Math.abs.name) && w_ok ns (.static Lib.Math.abs.name) && w_ok wt (.initialized "java/lang/Math") && w_ok wn (.code Lib.Math.abs.name Lib.Math.abs.code 1 (some .int))
      else if M2 = 1002 then w_ok w (.methodLink (a_y M).cls ix Lib.Math.max.name) && w_ok ns (.static Lib.Math.max.name) && w_ok wt (.initialized "java/lang/Math") && w_ok wn (.code Lib.Math.max.name Lib.Math.max.code 2 (some .int))
      else if M2 = 1003 then w_ok w (.methodLink (a_y M).cls ix Lib.Math.min.name) && w_ok ns (.static Lib.Math.min.name) && w_ok wt (.initialized "java/lang/Math") && w_ok wn (.code Lib.Math.min.name Lib.Math.min.code 2 (some .int))
      else decide (M2 < 234) && ok_lnk M ix M2 w ns && w_ok wt (.static (a_y M2)) && w_ok wn (.initialized (a_y M2).cls) && ok_room M M2 && decide ((a_mi M2).2.2 = 0)
    | _ => false
  | .invokespecial ix => match E.2.1 with
    | [_, w, wi, wc] => w_ok w (.methodLink (a_y M).cls ix Lib.objectInit) && w_ok wi (.instanceMethod Lib.objectInit) && w_ok wc (.code Lib.objectInit ⟨#[0xb1]⟩ 1 none) && decide (E.2.1.head? = some 999)
    | [M2, w, ns, wi, wn] => decide (M2 < 234) && ok_lnk M ix M2 w ns && w_ok wi (.instanceMethod (a_y M2)) && w_ok wn (.initialized (a_y M2).cls) && ok_room M M2 && ok_cls M2 && decide ((a_y M2).name = "<init>") && decide (a_rt M2 = none)
    | _ => false
  | .new ix => match E.2.1 with
    | [ci, w, wt, wn] => match vwCl[ci]? with
      | some (C, _, N) => w_ok w (.classLink (a_y M).cls ix C) && w_ok wt (.instantiable C N) && w_ok wn (.initialized C)
      | none => false
    | _ => false
  | .newarray t => match E.2.1 with
    | [w] => w_ok w (.arrayClass (newarray.typeOf t))
    | _ => false
  | .anewarray ix => match E.2.1 with
    | [w, _] => w_ok w (.classLink (a_y M).cls ix "VersionVault$Row")
    | _ => false
  | .ldc ix => match E.2.1 with
    | [w] => w_ok w (.constant (a_y M).cls ix (Int32.ofInt E.2.2.2))
    | _ => false
  | .ldc_w ix => match E.2.1 with
    | [w] => w_ok w (.constant (a_y M).cls ix (Int32.ofInt E.2.2.2))
    | _ => false
  | .ldc2_w ix => match E.2.1 with
    | [w] => w_ok w (.constantLong (a_y M).cls ix (Int64.ofInt E.2.2.2))
    | _ => false
  | .ireturn => if a_rt M = some .int then decide (E.2.1 = [0]) else if a_rt M = some .boolean then decide (E.2.1 = [1]) else false
  | .areturn => decide (a_rt M = some (.object "VersionVault$Row"))
  | .return_ => decide (a_rt M = none)
  | _ => true
def ok_row (M : Nat) (q : Nat × Ent) : Bool := ok_dec M q.1 q.2.1 && ok_link M q.2

theorem all_ap {α : Type} {f : α → Bool} {a b : List α} (ha : a.all f = true) (hb : b.all f = true) : (a ++ b).all f = true := by rw [List.all_append, ha, hb]; rfl
theorem k0_0 : t0_0.all (ok_row 0) = true := by decide +kernel
theorem k0 : t0.all (ok_row 0) = true := k0_0
theorem k1_0 : t1_0.all (ok_row 1) = true := by decide +kernel
theorem k1_1 : t1_1.all (ok_row 1) = true := by decide +kernel
theorem k1_2 : t1_2.all (ok_row 1) = true := by decide +kernel
theorem k1 : t1.all (ok_row 1) = true := (all_ap k1_0 (all_ap k1_1 k1_2))
theorem k2_0 : t2_0.all (ok_row 2) = true := by decide +kernel
theorem k2_1 : t2_1.all (ok_row 2) = true := by decide +kernel
theorem k2_2 : t2_2.all (ok_row 2) = true := by decide +kernel
theorem k2 : t2.all (ok_row 2) = true := (all_ap k2_0 (all_ap k2_1 k2_2))
theorem k3_0 : t3_0.all (ok_row 3) = true := by decide +kernel
theorem k3 : t3.all (ok_row 3) = true := k3_0
theorem k4_0 : t4_0.all (ok_row 4) = true := by decide +kernel
theorem k4 : t4.all (ok_row 4) = true := k4_0
theorem k5_0 : t5_0.all (ok_row 5) = true := by decide +kernel
theorem k5 : t5.all (ok_row 5) = true := k5_0
theorem k6_0 : t6_0.all (ok_row 6) = true := by decide +kernel
theorem k6 : t6.all (ok_row 6) = true := k6_0
theorem k7_0 : t7_0.all (ok_row 7) = true := by decide +kernel
theorem k7 : t7.all (ok_row 7) = true := k7_0
theorem k8_0 : t8_0.all (ok_row 8) = true := by decide +kernel
theorem k8 : t8.all (ok_row 8) = true := k8_0
theorem k9_0 : t9_0.all (ok_row 9) = true := by decide +kernel
theorem k9 : t9.all (ok_row 9) = true := k9_0
theorem k10_0 : t10_0.all (ok_row 10) = true := by decide +kernel
theorem k10_1 : t10_1.all (ok_row 10) = true := by decide +kernel
theorem k10 : t10.all (ok_row 10) = true := (all_ap k10_0 k10_1)
theorem k11_0 : t11_0.all (ok_row 11) = true := by decide +kernel
theorem k11 : t11.all (ok_row 11) = true := k11_0
theorem k12_0 : t12_0.all (ok_row 12) = true := by decide +kernel
theorem k12 : t12.all (ok_row 12) = true := k12_0
theorem k13_0 : t13_0.all (ok_row 13) = true := by decide +kernel
theorem k13_1 : t13_1.all (ok_row 13) = true := by decide +kernel
theorem k13_2 : t13_2.all (ok_row 13) = true := by decide +kernel
theorem k13 : t13.all (ok_row 13) = true := (all_ap k13_0 (all_ap k13_1 k13_2))
theorem k14_0 : t14_0.all (ok_row 14) = true := by decide +kernel
theorem k14_1 : t14_1.all (ok_row 14) = true := by decide +kernel
theorem k14 : t14.all (ok_row 14) = true := (all_ap k14_0 k14_1)
theorem k15_0 : t15_0.all (ok_row 15) = true := by decide +kernel
theorem k15 : t15.all (ok_row 15) = true := k15_0
theorem k16_0 : t16_0.all (ok_row 16) = true := by decide +kernel
theorem k16 : t16.all (ok_row 16) = true := k16_0
theorem k17_0 : t17_0.all (ok_row 17) = true := by decide +kernel
theorem k17 : t17.all (ok_row 17) = true := k17_0
theorem k18_0 : t18_0.all (ok_row 18) = true := by decide +kernel
theorem k18_1 : t18_1.all (ok_row 18) = true := by decide +kernel
theorem k18 : t18.all (ok_row 18) = true := (all_ap k18_0 k18_1)
theorem k19_0 : t19_0.all (ok_row 19) = true := by decide +kernel
theorem k19_1 : t19_1.all (ok_row 19) = true := by decide +kernel
theorem k19 : t19.all (ok_row 19) = true := (all_ap k19_0 k19_1)
theorem k20_0 : t20_0.all (ok_row 20) = true := by decide +kernel
theorem k20 : t20.all (ok_row 20) = true := k20_0
theorem k21_0 : t21_0.all (ok_row 21) = true := by decide +kernel
theorem k21 : t21.all (ok_row 21) = true := k21_0
theorem k22_0 : t22_0.all (ok_row 22) = true := by decide +kernel
theorem k22_1 : t22_1.all (ok_row 22) = true := by decide +kernel
theorem k22 : t22.all (ok_row 22) = true := (all_ap k22_0 k22_1)
theorem k23_0 : t23_0.all (ok_row 23) = true := by decide +kernel
theorem k23_1 : t23_1.all (ok_row 23) = true := by decide +kernel
theorem k23 : t23.all (ok_row 23) = true := (all_ap k23_0 k23_1)
theorem k24_0 : t24_0.all (ok_row 24) = true := by decide +kernel
theorem k24 : t24.all (ok_row 24) = true := k24_0
theorem k25_0 : t25_0.all (ok_row 25) = true := by decide +kernel
theorem k25 : t25.all (ok_row 25) = true := k25_0
theorem k26_0 : t26_0.all (ok_row 26) = true := by decide +kernel
theorem k26 : t26.all (ok_row 26) = true := k26_0
theorem k27_0 : t27_0.all (ok_row 27) = true := by decide +kernel
theorem k27 : t27.all (ok_row 27) = true := k27_0
theorem k28_0 : t28_0.all (ok_row 28) = true := by decide +kernel
theorem k28 : t28.all (ok_row 28) = true := k28_0
theorem k29_0 : t29_0.all (ok_row 29) = true := by decide +kernel
theorem k29 : t29.all (ok_row 29) = true := k29_0
theorem k30_0 : t30_0.all (ok_row 30) = true := by decide +kernel
theorem k30 : t30.all (ok_row 30) = true := k30_0
theorem k31_0 : t31_0.all (ok_row 31) = true := by decide +kernel
theorem k31 : t31.all (ok_row 31) = true := k31_0
theorem k32_0 : t32_0.all (ok_row 32) = true := by decide +kernel
theorem k32_1 : t32_1.all (ok_row 32) = true := by decide +kernel
theorem k32_2 : t32_2.all (ok_row 32) = true := by decide +kernel
theorem k32 : t32.all (ok_row 32) = true := (all_ap k32_0 (all_ap k32_1 k32_2))
theorem k33_0 : t33_0.all (ok_row 33) = true := by decide +kernel
theorem k33 : t33.all (ok_row 33) = true := k33_0
theorem k34_0 : t34_0.all (ok_row 34) = true := by decide +kernel
theorem k34 : t34.all (ok_row 34) = true := k34_0
theorem k35_0 : t35_0.all (ok_row 35) = true := by decide +kernel
theorem k35_1 : t35_1.all (ok_row 35) = true := by decide +kernel
theorem k35 : t35.all (ok_row 35) = true := (all_ap k35_0 k35_1)
theorem k36_0 : t36_0.all (ok_row 36) = true := by decide +kernel
theorem k36 : t36.all (ok_row 36) = true := k36_0
theorem k37_0 : t37_0.all (ok_row 37) = true := by decide +kernel
theorem k37 : t37.all (ok_row 37) = true := k37_0
theorem k38_0 : t38_0.all (ok_row 38) = true := by decide +kernel
theorem k38 : t38.all (ok_row 38) = true := k38_0
theorem k39_0 : t39_0.all (ok_row 39) = true := by decide +kernel
theorem k39 : t39.all (ok_row 39) = true := k39_0
theorem k40_0 : t40_0.all (ok_row 40) = true := by decide +kernel
theorem k40 : t40.all (ok_row 40) = true := k40_0
theorem k41_0 : t41_0.all (ok_row 41) = true := by decide +kernel
theorem k41 : t41.all (ok_row 41) = true := k41_0
theorem k42_0 : t42_0.all (ok_row 42) = true := by decide +kernel
theorem k42 : t42.all (ok_row 42) = true := k42_0
theorem k43_0 : t43_0.all (ok_row 43) = true := by decide +kernel
theorem k43 : t43.all (ok_row 43) = true := k43_0
theorem k44_0 : t44_0.all (ok_row 44) = true := by decide +kernel
theorem k44 : t44.all (ok_row 44) = true := k44_0
theorem k45_0 : t45_0.all (ok_row 45) = true := by decide +kernel
theorem k45 : t45.all (ok_row 45) = true := k45_0
theorem k46_0 : t46_0.all (ok_row 46) = true := by decide +kernel
theorem k46 : t46.all (ok_row 46) = true := k46_0
theorem k47_0 : t47_0.all (ok_row 47) = true := by decide +kernel
theorem k47 : t47.all (ok_row 47) = true := k47_0
theorem k48_0 : t48_0.all (ok_row 48) = true := by decide +kernel
theorem k48 : t48.all (ok_row 48) = true := k48_0
theorem k49_0 : t49_0.all (ok_row 49) = true := by decide +kernel
theorem k49 : t49.all (ok_row 49) = true := k49_0
theorem k50_0 : t50_0.all (ok_row 50) = true := by decide +kernel
theorem k50 : t50.all (ok_row 50) = true := k50_0
theorem k51_0 : t51_0.all (ok_row 51) = true := by decide +kernel
theorem k51 : t51.all (ok_row 51) = true := k51_0
theorem k52_0 : t52_0.all (ok_row 52) = true := by decide +kernel
theorem k52 : t52.all (ok_row 52) = true := k52_0
theorem k53_0 : t53_0.all (ok_row 53) = true := by decide +kernel
theorem k53_1 : t53_1.all (ok_row 53) = true := by decide +kernel
theorem k53 : t53.all (ok_row 53) = true := (all_ap k53_0 k53_1)
theorem k54_0 : t54_0.all (ok_row 54) = true := by decide +kernel
theorem k54 : t54.all (ok_row 54) = true := k54_0
theorem k55_0 : t55_0.all (ok_row 55) = true := by decide +kernel
theorem k55 : t55.all (ok_row 55) = true := k55_0
theorem k56_0 : t56_0.all (ok_row 56) = true := by decide +kernel
theorem k56_1 : t56_1.all (ok_row 56) = true := by decide +kernel
theorem k56 : t56.all (ok_row 56) = true := (all_ap k56_0 k56_1)
theorem k57_0 : t57_0.all (ok_row 57) = true := by decide +kernel
theorem k57 : t57.all (ok_row 57) = true := k57_0
theorem k58_0 : t58_0.all (ok_row 58) = true := by decide +kernel
theorem k58 : t58.all (ok_row 58) = true := k58_0
theorem k59_0 : t59_0.all (ok_row 59) = true := by decide +kernel
theorem k59_1 : t59_1.all (ok_row 59) = true := by decide +kernel
theorem k59 : t59.all (ok_row 59) = true := (all_ap k59_0 k59_1)
theorem k60_0 : t60_0.all (ok_row 60) = true := by decide +kernel
theorem k60 : t60.all (ok_row 60) = true := k60_0
theorem k61_0 : t61_0.all (ok_row 61) = true := by decide +kernel
theorem k61 : t61.all (ok_row 61) = true := k61_0
theorem k62_0 : t62_0.all (ok_row 62) = true := by decide +kernel
theorem k62_1 : t62_1.all (ok_row 62) = true := by decide +kernel
theorem k62 : t62.all (ok_row 62) = true := (all_ap k62_0 k62_1)
theorem k63_0 : t63_0.all (ok_row 63) = true := by decide +kernel
theorem k63 : t63.all (ok_row 63) = true := k63_0
theorem k64_0 : t64_0.all (ok_row 64) = true := by decide +kernel
theorem k64 : t64.all (ok_row 64) = true := k64_0
theorem k65_0 : t65_0.all (ok_row 65) = true := by decide +kernel
theorem k65 : t65.all (ok_row 65) = true := k65_0
theorem k66_0 : t66_0.all (ok_row 66) = true := by decide +kernel
theorem k66 : t66.all (ok_row 66) = true := k66_0
theorem k67_0 : t67_0.all (ok_row 67) = true := by decide +kernel
theorem k67 : t67.all (ok_row 67) = true := k67_0
theorem k68_0 : t68_0.all (ok_row 68) = true := by decide +kernel
theorem k68 : t68.all (ok_row 68) = true := k68_0
theorem k69_0 : t69_0.all (ok_row 69) = true := by decide +kernel
theorem k69 : t69.all (ok_row 69) = true := k69_0
theorem k70_0 : t70_0.all (ok_row 70) = true := by decide +kernel
theorem k70 : t70.all (ok_row 70) = true := k70_0
theorem k71_0 : t71_0.all (ok_row 71) = true := by decide +kernel
theorem k71 : t71.all (ok_row 71) = true := k71_0
theorem k72_0 : t72_0.all (ok_row 72) = true := by decide +kernel
theorem k72 : t72.all (ok_row 72) = true := k72_0
theorem k73_0 : t73_0.all (ok_row 73) = true := by decide +kernel
theorem k73 : t73.all (ok_row 73) = true := k73_0
theorem k74_0 : t74_0.all (ok_row 74) = true := by decide +kernel
theorem k74 : t74.all (ok_row 74) = true := k74_0
theorem k75_0 : t75_0.all (ok_row 75) = true := by decide +kernel
theorem k75_1 : t75_1.all (ok_row 75) = true := by decide +kernel
theorem k75 : t75.all (ok_row 75) = true := (all_ap k75_0 k75_1)
theorem k76_0 : t76_0.all (ok_row 76) = true := by decide +kernel
theorem k76 : t76.all (ok_row 76) = true := k76_0
theorem k77_0 : t77_0.all (ok_row 77) = true := by decide +kernel
theorem k77_1 : t77_1.all (ok_row 77) = true := by decide +kernel
theorem k77 : t77.all (ok_row 77) = true := (all_ap k77_0 k77_1)
theorem k78_0 : t78_0.all (ok_row 78) = true := by decide +kernel
theorem k78 : t78.all (ok_row 78) = true := k78_0
theorem k79_0 : t79_0.all (ok_row 79) = true := by decide +kernel
theorem k79_1 : t79_1.all (ok_row 79) = true := by decide +kernel
theorem k79 : t79.all (ok_row 79) = true := (all_ap k79_0 k79_1)
theorem k80_0 : t80_0.all (ok_row 80) = true := by decide +kernel
theorem k80 : t80.all (ok_row 80) = true := k80_0
theorem k81_0 : t81_0.all (ok_row 81) = true := by decide +kernel
theorem k81 : t81.all (ok_row 81) = true := k81_0
theorem k82_0 : t82_0.all (ok_row 82) = true := by decide +kernel
theorem k82 : t82.all (ok_row 82) = true := k82_0
theorem k83_0 : t83_0.all (ok_row 83) = true := by decide +kernel
theorem k83_1 : t83_1.all (ok_row 83) = true := by decide +kernel
theorem k83 : t83.all (ok_row 83) = true := (all_ap k83_0 k83_1)
theorem k84_0 : t84_0.all (ok_row 84) = true := by decide +kernel
theorem k84_1 : t84_1.all (ok_row 84) = true := by decide +kernel
theorem k84 : t84.all (ok_row 84) = true := (all_ap k84_0 k84_1)
theorem k85_0 : t85_0.all (ok_row 85) = true := by decide +kernel
theorem k85_1 : t85_1.all (ok_row 85) = true := by decide +kernel
theorem k85 : t85.all (ok_row 85) = true := (all_ap k85_0 k85_1)
theorem k86_0 : t86_0.all (ok_row 86) = true := by decide +kernel
theorem k86_1 : t86_1.all (ok_row 86) = true := by decide +kernel
theorem k86 : t86.all (ok_row 86) = true := (all_ap k86_0 k86_1)
theorem k87_0 : t87_0.all (ok_row 87) = true := by decide +kernel
theorem k87_1 : t87_1.all (ok_row 87) = true := by decide +kernel
theorem k87 : t87.all (ok_row 87) = true := (all_ap k87_0 k87_1)
theorem k88_0 : t88_0.all (ok_row 88) = true := by decide +kernel
theorem k88_1 : t88_1.all (ok_row 88) = true := by decide +kernel
theorem k88 : t88.all (ok_row 88) = true := (all_ap k88_0 k88_1)
theorem k89_0 : t89_0.all (ok_row 89) = true := by decide +kernel
theorem k89 : t89.all (ok_row 89) = true := k89_0
theorem k90_0 : t90_0.all (ok_row 90) = true := by decide +kernel
theorem k90 : t90.all (ok_row 90) = true := k90_0
theorem k91_0 : t91_0.all (ok_row 91) = true := by decide +kernel
theorem k91 : t91.all (ok_row 91) = true := k91_0
theorem k92_0 : t92_0.all (ok_row 92) = true := by decide +kernel
theorem k92 : t92.all (ok_row 92) = true := k92_0
theorem k93_0 : t93_0.all (ok_row 93) = true := by decide +kernel
theorem k93 : t93.all (ok_row 93) = true := k93_0
theorem k94_0 : t94_0.all (ok_row 94) = true := by decide +kernel
theorem k94 : t94.all (ok_row 94) = true := k94_0
theorem k95_0 : t95_0.all (ok_row 95) = true := by decide +kernel
theorem k95 : t95.all (ok_row 95) = true := k95_0
theorem k96_0 : t96_0.all (ok_row 96) = true := by decide +kernel
theorem k96 : t96.all (ok_row 96) = true := k96_0
theorem k97_0 : t97_0.all (ok_row 97) = true := by decide +kernel
theorem k97 : t97.all (ok_row 97) = true := k97_0
theorem k98_0 : t98_0.all (ok_row 98) = true := by decide +kernel
theorem k98 : t98.all (ok_row 98) = true := k98_0
theorem k99_0 : t99_0.all (ok_row 99) = true := by decide +kernel
theorem k99 : t99.all (ok_row 99) = true := k99_0
theorem k100_0 : t100_0.all (ok_row 100) = true := by decide +kernel
theorem k100 : t100.all (ok_row 100) = true := k100_0
theorem k101_0 : t101_0.all (ok_row 101) = true := by decide +kernel
theorem k101 : t101.all (ok_row 101) = true := k101_0
theorem k102_0 : t102_0.all (ok_row 102) = true := by decide +kernel
theorem k102 : t102.all (ok_row 102) = true := k102_0
theorem k103_0 : t103_0.all (ok_row 103) = true := by decide +kernel
theorem k103 : t103.all (ok_row 103) = true := k103_0
theorem k104_0 : t104_0.all (ok_row 104) = true := by decide +kernel
theorem k104 : t104.all (ok_row 104) = true := k104_0
theorem k105_0 : t105_0.all (ok_row 105) = true := by decide +kernel
theorem k105 : t105.all (ok_row 105) = true := k105_0
theorem k106_0 : t106_0.all (ok_row 106) = true := by decide +kernel
theorem k106 : t106.all (ok_row 106) = true := k106_0
theorem k107_0 : t107_0.all (ok_row 107) = true := by decide +kernel
theorem k107 : t107.all (ok_row 107) = true := k107_0
theorem k108_0 : t108_0.all (ok_row 108) = true := by decide +kernel
theorem k108 : t108.all (ok_row 108) = true := k108_0
theorem k109_0 : t109_0.all (ok_row 109) = true := by decide +kernel
theorem k109 : t109.all (ok_row 109) = true := k109_0
theorem k110_0 : t110_0.all (ok_row 110) = true := by decide +kernel
theorem k110 : t110.all (ok_row 110) = true := k110_0
theorem k111_0 : t111_0.all (ok_row 111) = true := by decide +kernel
theorem k111 : t111.all (ok_row 111) = true := k111_0
theorem k112_0 : t112_0.all (ok_row 112) = true := by decide +kernel
theorem k112 : t112.all (ok_row 112) = true := k112_0
theorem k113_0 : t113_0.all (ok_row 113) = true := by decide +kernel
theorem k113 : t113.all (ok_row 113) = true := k113_0
theorem k114_0 : t114_0.all (ok_row 114) = true := by decide +kernel
theorem k114 : t114.all (ok_row 114) = true := k114_0
theorem k115_0 : t115_0.all (ok_row 115) = true := by decide +kernel
theorem k115 : t115.all (ok_row 115) = true := k115_0
theorem k116_0 : t116_0.all (ok_row 116) = true := by decide +kernel
theorem k116 : t116.all (ok_row 116) = true := k116_0
theorem k117_0 : t117_0.all (ok_row 117) = true := by decide +kernel
theorem k117 : t117.all (ok_row 117) = true := k117_0
theorem k118_0 : t118_0.all (ok_row 118) = true := by decide +kernel
theorem k118 : t118.all (ok_row 118) = true := k118_0
theorem k119_0 : t119_0.all (ok_row 119) = true := by decide +kernel
theorem k119 : t119.all (ok_row 119) = true := k119_0
theorem k120_0 : t120_0.all (ok_row 120) = true := by decide +kernel
theorem k120 : t120.all (ok_row 120) = true := k120_0
theorem k121_0 : t121_0.all (ok_row 121) = true := by decide +kernel
theorem k121 : t121.all (ok_row 121) = true := k121_0
theorem k122_0 : t122_0.all (ok_row 122) = true := by decide +kernel
theorem k122 : t122.all (ok_row 122) = true := k122_0
theorem k123_0 : t123_0.all (ok_row 123) = true := by decide +kernel
theorem k123 : t123.all (ok_row 123) = true := k123_0
theorem k124_0 : t124_0.all (ok_row 124) = true := by decide +kernel
theorem k124 : t124.all (ok_row 124) = true := k124_0
theorem k125_0 : t125_0.all (ok_row 125) = true := by decide +kernel
theorem k125 : t125.all (ok_row 125) = true := k125_0
theorem k126_0 : t126_0.all (ok_row 126) = true := by decide +kernel
theorem k126 : t126.all (ok_row 126) = true := k126_0
theorem k127_0 : t127_0.all (ok_row 127) = true := by decide +kernel
theorem k127 : t127.all (ok_row 127) = true := k127_0
theorem k128_0 : t128_0.all (ok_row 128) = true := by decide +kernel
theorem k128 : t128.all (ok_row 128) = true := k128_0
theorem k129_0 : t129_0.all (ok_row 129) = true := by decide +kernel
theorem k129 : t129.all (ok_row 129) = true := k129_0
theorem k130_0 : t130_0.all (ok_row 130) = true := by decide +kernel
theorem k130 : t130.all (ok_row 130) = true := k130_0
theorem k131_0 : t131_0.all (ok_row 131) = true := by decide +kernel
theorem k131 : t131.all (ok_row 131) = true := k131_0
theorem k132_0 : t132_0.all (ok_row 132) = true := by decide +kernel
theorem k132 : t132.all (ok_row 132) = true := k132_0
theorem k133_0 : t133_0.all (ok_row 133) = true := by decide +kernel
theorem k133_1 : t133_1.all (ok_row 133) = true := by decide +kernel
theorem k133_2 : t133_2.all (ok_row 133) = true := by decide +kernel
theorem k133_3 : t133_3.all (ok_row 133) = true := by decide +kernel
theorem k133_4 : t133_4.all (ok_row 133) = true := by decide +kernel
theorem k133 : t133.all (ok_row 133) = true := (all_ap k133_0 (all_ap k133_1 (all_ap k133_2 (all_ap k133_3 k133_4))))
theorem k134_0 : t134_0.all (ok_row 134) = true := by decide +kernel
theorem k134 : t134.all (ok_row 134) = true := k134_0
theorem k135_0 : t135_0.all (ok_row 135) = true := by decide +kernel
theorem k135 : t135.all (ok_row 135) = true := k135_0
theorem k136_0 : t136_0.all (ok_row 136) = true := by decide +kernel
theorem k136 : t136.all (ok_row 136) = true := k136_0
theorem k137_0 : t137_0.all (ok_row 137) = true := by decide +kernel
theorem k137 : t137.all (ok_row 137) = true := k137_0
theorem k138_0 : t138_0.all (ok_row 138) = true := by decide +kernel
theorem k138 : t138.all (ok_row 138) = true := k138_0
theorem k139_0 : t139_0.all (ok_row 139) = true := by decide +kernel
theorem k139 : t139.all (ok_row 139) = true := k139_0
theorem k140_0 : t140_0.all (ok_row 140) = true := by decide +kernel
theorem k140 : t140.all (ok_row 140) = true := k140_0
theorem k141_0 : t141_0.all (ok_row 141) = true := by decide +kernel
theorem k141_1 : t141_1.all (ok_row 141) = true := by decide +kernel
theorem k141 : t141.all (ok_row 141) = true := (all_ap k141_0 k141_1)
theorem k142_0 : t142_0.all (ok_row 142) = true := by decide +kernel
theorem k142_1 : t142_1.all (ok_row 142) = true := by decide +kernel
theorem k142 : t142.all (ok_row 142) = true := (all_ap k142_0 k142_1)
theorem k143_0 : t143_0.all (ok_row 143) = true := by decide +kernel
theorem k143 : t143.all (ok_row 143) = true := k143_0
theorem k144_0 : t144_0.all (ok_row 144) = true := by decide +kernel
theorem k144 : t144.all (ok_row 144) = true := k144_0
theorem k145_0 : t145_0.all (ok_row 145) = true := by decide +kernel
theorem k145 : t145.all (ok_row 145) = true := k145_0
theorem k146_0 : t146_0.all (ok_row 146) = true := by decide +kernel
theorem k146 : t146.all (ok_row 146) = true := k146_0
theorem k147_0 : t147_0.all (ok_row 147) = true := by decide +kernel
theorem k147 : t147.all (ok_row 147) = true := k147_0
theorem k148_0 : t148_0.all (ok_row 148) = true := by decide +kernel
theorem k148 : t148.all (ok_row 148) = true := k148_0
theorem k149_0 : t149_0.all (ok_row 149) = true := by decide +kernel
theorem k149 : t149.all (ok_row 149) = true := k149_0
theorem k150_0 : t150_0.all (ok_row 150) = true := by decide +kernel
theorem k150 : t150.all (ok_row 150) = true := k150_0
theorem k151_0 : t151_0.all (ok_row 151) = true := by decide +kernel
theorem k151 : t151.all (ok_row 151) = true := k151_0
theorem k152_0 : t152_0.all (ok_row 152) = true := by decide +kernel
theorem k152 : t152.all (ok_row 152) = true := k152_0
theorem k153_0 : t153_0.all (ok_row 153) = true := by decide +kernel
theorem k153 : t153.all (ok_row 153) = true := k153_0
theorem k154_0 : t154_0.all (ok_row 154) = true := by decide +kernel
theorem k154 : t154.all (ok_row 154) = true := k154_0
theorem k155_0 : t155_0.all (ok_row 155) = true := by decide +kernel
theorem k155_1 : t155_1.all (ok_row 155) = true := by decide +kernel
theorem k155 : t155.all (ok_row 155) = true := (all_ap k155_0 k155_1)
theorem k156_0 : t156_0.all (ok_row 156) = true := by decide +kernel
theorem k156 : t156.all (ok_row 156) = true := k156_0
theorem k157_0 : t157_0.all (ok_row 157) = true := by decide +kernel
theorem k157_1 : t157_1.all (ok_row 157) = true := by decide +kernel
theorem k157 : t157.all (ok_row 157) = true := (all_ap k157_0 k157_1)
theorem k158_0 : t158_0.all (ok_row 158) = true := by decide +kernel
theorem k158 : t158.all (ok_row 158) = true := k158_0
theorem k159_0 : t159_0.all (ok_row 159) = true := by decide +kernel
theorem k159 : t159.all (ok_row 159) = true := k159_0
theorem k160_0 : t160_0.all (ok_row 160) = true := by decide +kernel
theorem k160 : t160.all (ok_row 160) = true := k160_0
theorem k161_0 : t161_0.all (ok_row 161) = true := by decide +kernel
theorem k161 : t161.all (ok_row 161) = true := k161_0
theorem k162_0 : t162_0.all (ok_row 162) = true := by decide +kernel
theorem k162 : t162.all (ok_row 162) = true := k162_0
theorem k163_0 : t163_0.all (ok_row 163) = true := by decide +kernel
theorem k163_1 : t163_1.all (ok_row 163) = true := by decide +kernel
theorem k163 : t163.all (ok_row 163) = true := (all_ap k163_0 k163_1)
theorem k164_0 : t164_0.all (ok_row 164) = true := by decide +kernel
theorem k164 : t164.all (ok_row 164) = true := k164_0
theorem k165_0 : t165_0.all (ok_row 165) = true := by decide +kernel
theorem k165 : t165.all (ok_row 165) = true := k165_0
theorem k166_0 : t166_0.all (ok_row 166) = true := by decide +kernel
theorem k166 : t166.all (ok_row 166) = true := k166_0
theorem k167_0 : t167_0.all (ok_row 167) = true := by decide +kernel
theorem k167 : t167.all (ok_row 167) = true := k167_0
theorem k168_0 : t168_0.all (ok_row 168) = true := by decide +kernel
theorem k168 : t168.all (ok_row 168) = true := k168_0
theorem k169_0 : t169_0.all (ok_row 169) = true := by decide +kernel
theorem k169_1 : t169_1.all (ok_row 169) = true := by decide +kernel
theorem k169 : t169.all (ok_row 169) = true := (all_ap k169_0 k169_1)
theorem k170_0 : t170_0.all (ok_row 170) = true := by decide +kernel
theorem k170 : t170.all (ok_row 170) = true := k170_0
theorem k171_0 : t171_0.all (ok_row 171) = true := by decide +kernel
theorem k171_1 : t171_1.all (ok_row 171) = true := by decide +kernel
theorem k171 : t171.all (ok_row 171) = true := (all_ap k171_0 k171_1)
theorem k172_0 : t172_0.all (ok_row 172) = true := by decide +kernel
theorem k172 : t172.all (ok_row 172) = true := k172_0
theorem k173_0 : t173_0.all (ok_row 173) = true := by decide +kernel
theorem k173 : t173.all (ok_row 173) = true := k173_0
theorem k174_0 : t174_0.all (ok_row 174) = true := by decide +kernel
theorem k174_1 : t174_1.all (ok_row 174) = true := by decide +kernel
theorem k174_2 : t174_2.all (ok_row 174) = true := by decide +kernel
theorem k174 : t174.all (ok_row 174) = true := (all_ap k174_0 (all_ap k174_1 k174_2))
theorem k175_0 : t175_0.all (ok_row 175) = true := by decide +kernel
theorem k175_1 : t175_1.all (ok_row 175) = true := by decide +kernel
theorem k175_2 : t175_2.all (ok_row 175) = true := by decide +kernel
theorem k175 : t175.all (ok_row 175) = true := (all_ap k175_0 (all_ap k175_1 k175_2))
theorem k176_0 : t176_0.all (ok_row 176) = true := by decide +kernel
theorem k176_1 : t176_1.all (ok_row 176) = true := by decide +kernel
theorem k176 : t176.all (ok_row 176) = true := (all_ap k176_0 k176_1)
theorem k177_0 : t177_0.all (ok_row 177) = true := by decide +kernel
theorem k177 : t177.all (ok_row 177) = true := k177_0
theorem k178_0 : t178_0.all (ok_row 178) = true := by decide +kernel
theorem k178 : t178.all (ok_row 178) = true := k178_0
theorem k179_0 : t179_0.all (ok_row 179) = true := by decide +kernel
theorem k179 : t179.all (ok_row 179) = true := k179_0
theorem k180_0 : t180_0.all (ok_row 180) = true := by decide +kernel
theorem k180 : t180.all (ok_row 180) = true := k180_0
theorem k181_0 : t181_0.all (ok_row 181) = true := by decide +kernel
theorem k181 : t181.all (ok_row 181) = true := k181_0
theorem k182_0 : t182_0.all (ok_row 182) = true := by decide +kernel
theorem k182_1 : t182_1.all (ok_row 182) = true := by decide +kernel
theorem k182 : t182.all (ok_row 182) = true := (all_ap k182_0 k182_1)
theorem k183_0 : t183_0.all (ok_row 183) = true := by decide +kernel
theorem k183_1 : t183_1.all (ok_row 183) = true := by decide +kernel
theorem k183_2 : t183_2.all (ok_row 183) = true := by decide +kernel
theorem k183 : t183.all (ok_row 183) = true := (all_ap k183_0 (all_ap k183_1 k183_2))
theorem k184_0 : t184_0.all (ok_row 184) = true := by decide +kernel
theorem k184_1 : t184_1.all (ok_row 184) = true := by decide +kernel
theorem k184_2 : t184_2.all (ok_row 184) = true := by decide +kernel
theorem k184 : t184.all (ok_row 184) = true := (all_ap k184_0 (all_ap k184_1 k184_2))
theorem k185_0 : t185_0.all (ok_row 185) = true := by decide +kernel
theorem k185 : t185.all (ok_row 185) = true := k185_0
theorem k186_0 : t186_0.all (ok_row 186) = true := by decide +kernel
theorem k186_1 : t186_1.all (ok_row 186) = true := by decide +kernel
theorem k186 : t186.all (ok_row 186) = true := (all_ap k186_0 k186_1)
theorem k187_0 : t187_0.all (ok_row 187) = true := by decide +kernel
theorem k187 : t187.all (ok_row 187) = true := k187_0
theorem k188_0 : t188_0.all (ok_row 188) = true := by decide +kernel
theorem k188 : t188.all (ok_row 188) = true := k188_0
theorem k189_0 : t189_0.all (ok_row 189) = true := by decide +kernel
theorem k189 : t189.all (ok_row 189) = true := k189_0
theorem k190_0 : t190_0.all (ok_row 190) = true := by decide +kernel
theorem k190 : t190.all (ok_row 190) = true := k190_0
theorem k191_0 : t191_0.all (ok_row 191) = true := by decide +kernel
theorem k191_1 : t191_1.all (ok_row 191) = true := by decide +kernel
theorem k191 : t191.all (ok_row 191) = true := (all_ap k191_0 k191_1)
theorem k192_0 : t192_0.all (ok_row 192) = true := by decide +kernel
theorem k192 : t192.all (ok_row 192) = true := k192_0
theorem k193_0 : t193_0.all (ok_row 193) = true := by decide +kernel
theorem k193_1 : t193_1.all (ok_row 193) = true := by decide +kernel
theorem k193_2 : t193_2.all (ok_row 193) = true := by decide +kernel
theorem k193 : t193.all (ok_row 193) = true := (all_ap k193_0 (all_ap k193_1 k193_2))
theorem k194_0 : t194_0.all (ok_row 194) = true := by decide +kernel
theorem k194 : t194.all (ok_row 194) = true := k194_0
theorem k195_0 : t195_0.all (ok_row 195) = true := by decide +kernel
theorem k195_1 : t195_1.all (ok_row 195) = true := by decide +kernel
theorem k195 : t195.all (ok_row 195) = true := (all_ap k195_0 k195_1)
theorem k196_0 : t196_0.all (ok_row 196) = true := by decide +kernel
theorem k196 : t196.all (ok_row 196) = true := k196_0
theorem k197_0 : t197_0.all (ok_row 197) = true := by decide +kernel
theorem k197 : t197.all (ok_row 197) = true := k197_0
theorem k198_0 : t198_0.all (ok_row 198) = true := by decide +kernel
theorem k198_1 : t198_1.all (ok_row 198) = true := by decide +kernel
theorem k198_2 : t198_2.all (ok_row 198) = true := by decide +kernel
theorem k198 : t198.all (ok_row 198) = true := (all_ap k198_0 (all_ap k198_1 k198_2))
theorem k199_0 : t199_0.all (ok_row 199) = true := by decide +kernel
theorem k199 : t199.all (ok_row 199) = true := k199_0
theorem k200_0 : t200_0.all (ok_row 200) = true := by decide +kernel
theorem k200 : t200.all (ok_row 200) = true := k200_0
theorem k201_0 : t201_0.all (ok_row 201) = true := by decide +kernel
theorem k201 : t201.all (ok_row 201) = true := k201_0
theorem k202_0 : t202_0.all (ok_row 202) = true := by decide +kernel
theorem k202 : t202.all (ok_row 202) = true := k202_0
theorem k203_0 : t203_0.all (ok_row 203) = true := by decide +kernel
theorem k203 : t203.all (ok_row 203) = true := k203_0
theorem k204_0 : t204_0.all (ok_row 204) = true := by decide +kernel
theorem k204_1 : t204_1.all (ok_row 204) = true := by decide +kernel
theorem k204_2 : t204_2.all (ok_row 204) = true := by decide +kernel
theorem k204 : t204.all (ok_row 204) = true := (all_ap k204_0 (all_ap k204_1 k204_2))
theorem k205_0 : t205_0.all (ok_row 205) = true := by decide +kernel
theorem k205 : t205.all (ok_row 205) = true := k205_0
theorem k206_0 : t206_0.all (ok_row 206) = true := by decide +kernel
theorem k206 : t206.all (ok_row 206) = true := k206_0
theorem k207_0 : t207_0.all (ok_row 207) = true := by decide +kernel
theorem k207 : t207.all (ok_row 207) = true := k207_0
theorem k208_0 : t208_0.all (ok_row 208) = true := by decide +kernel
theorem k208 : t208.all (ok_row 208) = true := k208_0
theorem k209_0 : t209_0.all (ok_row 209) = true := by decide +kernel
theorem k209_1 : t209_1.all (ok_row 209) = true := by decide +kernel
theorem k209 : t209.all (ok_row 209) = true := (all_ap k209_0 k209_1)
theorem k210_0 : t210_0.all (ok_row 210) = true := by decide +kernel
theorem k210_1 : t210_1.all (ok_row 210) = true := by decide +kernel
theorem k210 : t210.all (ok_row 210) = true := (all_ap k210_0 k210_1)
theorem k211_0 : t211_0.all (ok_row 211) = true := by decide +kernel
theorem k211 : t211.all (ok_row 211) = true := k211_0
theorem k212_0 : t212_0.all (ok_row 212) = true := by decide +kernel
theorem k212 : t212.all (ok_row 212) = true := k212_0
theorem k213_0 : t213_0.all (ok_row 213) = true := by decide +kernel
theorem k213_1 : t213_1.all (ok_row 213) = true := by decide +kernel
theorem k213 : t213.all (ok_row 213) = true := (all_ap k213_0 k213_1)
theorem k214_0 : t214_0.all (ok_row 214) = true := by decide +kernel
theorem k214 : t214.all (ok_row 214) = true := k214_0
theorem k215_0 : t215_0.all (ok_row 215) = true := by decide +kernel
theorem k215_1 : t215_1.all (ok_row 215) = true := by decide +kernel
theorem k215 : t215.all (ok_row 215) = true := (all_ap k215_0 k215_1)
theorem k216_0 : t216_0.all (ok_row 216) = true := by decide +kernel
theorem k216 : t216.all (ok_row 216) = true := k216_0
theorem k217_0 : t217_0.all (ok_row 217) = true := by decide +kernel
theorem k217 : t217.all (ok_row 217) = true := k217_0
theorem k218_0 : t218_0.all (ok_row 218) = true := by decide +kernel
theorem k218 : t218.all (ok_row 218) = true := k218_0
theorem k219_0 : t219_0.all (ok_row 219) = true := by decide +kernel
theorem k219 : t219.all (ok_row 219) = true := k219_0
theorem k220_0 : t220_0.all (ok_row 220) = true := by decide +kernel
theorem k220 : t220.all (ok_row 220) = true := k220_0
theorem k221_0 : t221_0.all (ok_row 221) = true := by decide +kernel
theorem k221 : t221.all (ok_row 221) = true := k221_0
theorem k222_0 : t222_0.all (ok_row 222) = true := by decide +kernel
theorem k222_1 : t222_1.all (ok_row 222) = true := by decide +kernel
theorem k222 : t222.all (ok_row 222) = true := (all_ap k222_0 k222_1)
theorem k223_0 : t223_0.all (ok_row 223) = true := by decide +kernel
theorem k223_1 : t223_1.all (ok_row 223) = true := by decide +kernel
theorem k223_2 : t223_2.all (ok_row 223) = true := by decide +kernel
theorem k223 : t223.all (ok_row 223) = true := (all_ap k223_0 (all_ap k223_1 k223_2))
theorem k224_0 : t224_0.all (ok_row 224) = true := by decide +kernel
theorem k224 : t224.all (ok_row 224) = true := k224_0
theorem k225_0 : t225_0.all (ok_row 225) = true := by decide +kernel
theorem k225_1 : t225_1.all (ok_row 225) = true := by decide +kernel
theorem k225 : t225.all (ok_row 225) = true := (all_ap k225_0 k225_1)
theorem k226_0 : t226_0.all (ok_row 226) = true := by decide +kernel
theorem k226 : t226.all (ok_row 226) = true := k226_0
theorem k227_0 : t227_0.all (ok_row 227) = true := by decide +kernel
theorem k227 : t227.all (ok_row 227) = true := k227_0
theorem k228_0 : t228_0.all (ok_row 228) = true := by decide +kernel
theorem k228 : t228.all (ok_row 228) = true := k228_0
theorem k229_0 : t229_0.all (ok_row 229) = true := by decide +kernel
theorem k229 : t229.all (ok_row 229) = true := k229_0
theorem k230_0 : t230_0.all (ok_row 230) = true := by decide +kernel
theorem k230_1 : t230_1.all (ok_row 230) = true := by decide +kernel
theorem k230 : t230.all (ok_row 230) = true := (all_ap k230_0 k230_1)
theorem k234_0 : t234_0.all (ok_row 234) = true := by decide +kernel
theorem k234_1 : t234_1.all (ok_row 234) = true := by decide +kernel
theorem k234_2 : t234_2.all (ok_row 234) = true := by decide +kernel
theorem k234_3 : t234_3.all (ok_row 234) = true := by decide +kernel
theorem k234_4 : t234_4.all (ok_row 234) = true := by decide +kernel
theorem k234_5 : t234_5.all (ok_row 234) = true := by decide +kernel
theorem k234_6 : t234_6.all (ok_row 234) = true := by decide +kernel
theorem k234_7 : t234_7.all (ok_row 234) = true := by decide +kernel
theorem k234_8 : t234_8.all (ok_row 234) = true := by decide +kernel
theorem k234_9 : t234_9.all (ok_row 234) = true := by decide +kernel
theorem k234_10 : t234_10.all (ok_row 234) = true := by decide +kernel
theorem k234_11 : t234_11.all (ok_row 234) = true := by decide +kernel
theorem k234_12 : t234_12.all (ok_row 234) = true := by decide +kernel
theorem k234_13 : t234_13.all (ok_row 234) = true := by decide +kernel
theorem k234_14 : t234_14.all (ok_row 234) = true := by decide +kernel
theorem k234_15 : t234_15.all (ok_row 234) = true := by decide +kernel
theorem k234_16 : t234_16.all (ok_row 234) = true := by decide +kernel
theorem k234_17 : t234_17.all (ok_row 234) = true := by decide +kernel
theorem k234 : t234.all (ok_row 234) = true := (all_ap k234_0 (all_ap k234_1 (all_ap k234_2 (all_ap k234_3 (all_ap k234_4 (all_ap k234_5 (all_ap k234_6 (all_ap k234_7 (all_ap k234_8 (all_ap k234_9 (all_ap k234_10 (all_ap k234_11 (all_ap k234_12 (all_ap k234_13 (all_ap k234_14 (all_ap k234_15 (all_ap k234_16 k234_17)))))))))))))))))
def ok_m (M : Nat) : Bool := w_ok (a_wi M) (.initialized (a_y M).cls) && plainName (a_y M).cls && decide ((a_y M).cls ≠ "java/lang/invoke/MethodHandle") && decide ((a_y M).cls ≠ "java/lang/invoke/VarHandle") && decide ((parseMethodDescriptor (a_y M).desc).map (fun d => d.parameters.length) = some ((a_mi M).1 - (if (a_mi M).2.2 = 0 then 0 else 1))) && decide (if (a_mi M).2.2 = 0 then True else 0 < (a_mi M).1) && decide (((a_mi M).2.1 = true) ↔ a_rt M = none) && decide (20 ≤ a_lc M) && decide (1 ≤ a_fr M)
theorem okm_0 : ((List.range 231).drop 0 |>.take 40).all ok_m = true := by decide +kernel
theorem okm_40 : ((List.range 231).drop 40 |>.take 40).all ok_m = true := by decide +kernel
theorem okm_80 : ((List.range 231).drop 80 |>.take 40).all ok_m = true := by decide +kernel
theorem okm_120 : ((List.range 231).drop 120 |>.take 40).all ok_m = true := by decide +kernel
theorem okm_160 : ((List.range 231).drop 160 |>.take 40).all ok_m = true := by decide +kernel
theorem okm_200 : ((List.range 231).drop 200 |>.take 40).all ok_m = true := by decide +kernel
