/-! what a row of the tables promises; that each keeps it is decided by the kernel, method by method -/
def mx_sf (k : Nat) : String × String × String := match k with
  | 0 => ("MainsLetters$Contention", "WIDTHS", "[I")
  | 1 => ("MainsLetters$Contention", "NARROW_WIDTHS", "[I")
  | _ => ("MainsLetters$Contention", "DEFERS", "[I")
def mx_w (pl : Nat) (w : Cond) : Bool := decide (lw_tbl[pl]? = some w)
/-- a method that may be called -/
def mx_mk (k n : Nat) (f : MethodName → Bool) : Bool := match mx_hd[k]? with
  | some (y, cc, maxL, rt, pl) => mx_w pl (.code y cc maxL rt) && decide (y.cls ≠ "java/lang/invoke/MethodHandle") && decide (y.cls ≠ "java/lang/invoke/VarHandle") && decide ((parseMethodDescriptor y.desc).map (fun d => d.parameters.length) = some n) && decide (maxL ≤ 40) && decide (n + 1 ≤ maxL ∨ (n ≤ maxL ∧ y.name ≠ "<init>")) && plainName y.cls && f y
  | none => false
def mx_fk (ci k : Nat) (f : String → String × String × String × Bool → Nat → Bool) : Bool := match vwCl[ci]? with
  | some (C, T, N) => decide (k < N) && f C (T k) N
  | none => false
def mx_ax (own mname : String) (pc : Nat) (i : Instr) (len : Nat) (aux : List Nat) : Bool := match i with
  | .iload_n _ | .aload_n _ | .istore_n _ | .astore_n _ | .iadd | .isub | .imul | .iand | .ior | .ixor | .ishl | .ishr | .iushr | .idiv | .irem | .iaload | .iastore | .baload | .bastore | .aaload | .aastore | .arraylength | .dup | .dup2 | .pop | .ireturn | .return_ => decide (len = 1)
  | .iconst _ => decide (len = 1)
  | .bipush _ => decide (len = 2)
  | .sipush _ => decide (len = 3)
  | .iload _ | .aload _ | .istore _ | .astore _ => decide (len = 2)
  | .iinc _ _ => decide (len = 3)
  | .goto off => decide (len = 3) && decide (0 ≤ (pc : Int) + off)
  | .ifCond _ off => decide (len = 3) && decide (0 ≤ (pc : Int) + off)
  | .if_icmp _ off => decide (len = 3) && decide (0 ≤ (pc : Int) + off)
  | .tableswitch dflt _ _ offs => decide (0 ≤ (pc : Int) + dflt) && offs.toList.all (fun off => decide (0 ≤ (pc : Int) + off))
  | .ldc ix => decide (len = 2) && (match aux with
    | [v, pl] => mx_w pl (.constant own ix (Int32.ofNat v))
    | _ => false)
  | .ldc_w ix => decide (len = 3) && (match aux with
    | [v, pl] => mx_w pl (.constant own ix (Int32.ofNat v))
    | _ => false)
  | .getfield ix => decide (len = 3) && (match aux with
    | [ci, k, nest, pl] => mx_fk ci k (fun _ t _ => if nest = 0 then mx_w pl (.fieldLink own ix t.1 t.2.1 t.2.2.1) else mx_w pl (.fieldLinkNest own ix t.1 t.2.1 t.2.2.1 "MainsLetters"))
    | _ => false)
  | .putfield ix => decide (len = 3) && (match aux with
    | [ci, k, kind, isB, pl] => mx_fk ci k (fun _ t _ =>
      (if kind = 2 then mx_w pl (.fieldLinkNest own ix t.1 t.2.1 t.2.2.1 "MainsLetters") else mx_w pl (.fieldLink own ix t.1 t.2.1 t.2.2.1)) &&
      (if kind = 1 then t.2.2.2 && decide (t.1 = own) && decide (mname = "<init>") && (match parseFieldDescriptor t.2.2.1 with
        | some (.object _) => true
        | some (.array _) => true
        | _ => false) else (!t.2.2.2 && decide (parseFieldDescriptor t.2.2.1 = some (if isB = 0 then .int else .boolean)))))
    | _ => false)
  | .getstatic ix => decide (len = 3) && (match aux with
    | [k, pl] => decide (k < 3) && mx_w pl (.fieldLink own ix (mx_sf k).1 (mx_sf k).2.1 (mx_sf k).2.2)
    | _ => false)
  | .new ix => decide (len = 3) && (match aux with
    | [ci, p1, p2, p3] => mx_fk ci 0 (fun C _ N => mx_w p1 (.classLink own ix C) && mx_w p2 (.instantiable C N) && mx_w p3 (.initialized C))
    | _ => false)
  | .newarray at_ => decide (len = 2) && (match aux with
    | [t, pl] => (decide (at_ = .int) && decide (t = 0) && mx_w pl (.arrayClass .int)) || (decide (at_ = .boolean) && decide (t = 1) && mx_w pl (.arrayClass .boolean))
    | _ => false)
  | .anewarray ix => decide (len = 3) && (match aux with
    | [p1] => mx_w p1 (.classLink own ix "MainsLetters$Station")
    | _ => false)
  | .invokestatic ix => decide (len = 3) && (match aux with
    | [k, _, n, pl, p2, p3] => mx_mk k n (fun y => mx_w pl (.methodLink own ix y) && mx_w p2 (.static y) && mx_w p3 (.initialized y.cls) && decide (y.name ≠ "<init>"))
    | [mm, pl, p2, p3, p4] => (decide (mm = 0) && mx_w pl (.methodLink own ix Lib.Math.min.name) && mx_w p2 (.static Lib.Math.min.name) && mx_w p3 (.initialized "java/lang/Math") && mx_w p4 (.code Lib.Math.min.name Lib.Math.min.code 2 (some .int))) || (decide (mm = 1) && mx_w pl (.methodLink own ix Lib.Math.max.name) && mx_w p2 (.static Lib.Math.max.name) && mx_w p3 (.initialized "java/lang/Math") && mx_w p4 (.code Lib.Math.max.name Lib.Math.max.code 2 (some .int)))
    | _ => false)
  | .invokevirtual ix => decide (len = 3) && (match aux with
    | [k, _, n, pl, p2, p3, p4, ci] => mx_mk k n (fun y => mx_w pl (.methodLink own ix y) && mx_w p2 (.instanceMethod y) && mx_w p3 (.selects y.cls y y) && mx_w p4 (.initialized y.cls) && mx_fk ci 0 (fun C _ _ => decide (y.cls = C)) && decide (n + 1 ≤ ((mx_hd[k]?).map (fun q => q.2.2.1)).getD 0))
    | _ => false)
  | .invokespecial ix => decide (len = 3) && (match aux with
    | [k, _, n, pl, p2, p3, nest] => mx_mk k n (fun y => (if nest = 0 then mx_w pl (.methodLink own ix y) else mx_w pl (.methodLinkNest own ix y "MainsLetters")) && mx_w p2 (.instanceMethod y) && mx_w p3 (.initialized y.cls) && decide (y.name = "<init>"))
    | [pl] => mx_w pl (.methodLink own ix objectInit)
    | _ => false)
  | _ => false
def mx_chk (own mname : String) (cc : ByteArray) (q : Nat × mx_I) : Bool := decide (decode cc q.1 = .ok (q.2.1, q.2.2.1)) && mx_ax own mname q.1 q.2.1 q.2.2.1 q.2.2.2
def mx_ck (q : mx_HD × List (Nat × mx_I)) : Bool := q.2.all (mx_chk q.1.1.cls q.1.1.name q.1.2.1)
theorem mx_ck_app {q : mx_HD} {a b : List (Nat × mx_I)} (h1 : mx_ck (q, a) = true) (h2 : mx_ck (q, b) = true) : mx_ck (q, a ++ b) = true := by
  unfold mx_ck at h1 h2 ⊢
  dsimp only at h1 h2 ⊢
  rw [List.all_append, h1, h2]
  rfl
theorem mk_0 : mx_ck (mh_0, mt_0) = true := by decide +kernel
theorem mk_1 : mx_ck (mh_1, mt_1) = true := by decide +kernel
theorem mk_2 : mx_ck (mh_2, mt_2) = true := by decide +kernel
theorem mk_3 : mx_ck (mh_3, mt_3) = true := by decide +kernel
theorem mk_4 : mx_ck (mh_4, mt_4) = true := by decide +kernel
theorem mk_5 : mx_ck (mh_5, mt_5) = true := by decide +kernel
theorem mk_6 : mx_ck (mh_6, mt_6) = true := by decide +kernel
theorem mk_7 : mx_ck (mh_7, mt_7) = true := by decide +kernel
theorem mk_8 : mx_ck (mh_8, mt_8) = true := by decide +kernel
theorem mk_9 : mx_ck (mh_9, mt_9) = true := by decide +kernel
theorem mk_10_0 : mx_ck (mh_10, mt_10_0) = true := by decide +kernel
theorem mk_10_1 : mx_ck (mh_10, mt_10_1) = true := by decide +kernel
theorem mk_10 : mx_ck (mh_10, mt_10) = true := mx_ck_app mk_10_0 (mk_10_1)
theorem mk_11 : mx_ck (mh_11, mt_11) = true := by decide +kernel
theorem mk_12_0 : mx_ck (mh_12, mt_12_0) = true := by decide +kernel
theorem mk_12_1 : mx_ck (mh_12, mt_12_1) = true := by decide +kernel
theorem mk_12 : mx_ck (mh_12, mt_12) = true := mx_ck_app mk_12_0 (mk_12_1)
theorem mk_13 : mx_ck (mh_13, mt_13) = true := by decide +kernel
theorem mk_14_0 : mx_ck (mh_14, mt_14_0) = true := by decide +kernel
theorem mk_14_1 : mx_ck (mh_14, mt_14_1) = true := by decide +kernel
theorem mk_14 : mx_ck (mh_14, mt_14) = true := mx_ck_app mk_14_0 (mk_14_1)
theorem mk_15 : mx_ck (mh_15, mt_15) = true := by decide +kernel
theorem mk_16 : mx_ck (mh_16, mt_16) = true := by decide +kernel
theorem mk_17 : mx_ck (mh_17, mt_17) = true := by decide +kernel
theorem mk_18 : mx_ck (mh_18, mt_18) = true := by decide +kernel
theorem mk_19 : mx_ck (mh_19, mt_19) = true := by decide +kernel
theorem mk_20 : mx_ck (mh_20, mt_20) = true := by decide +kernel
theorem mk_21 : mx_ck (mh_21, mt_21) = true := by decide +kernel
theorem mk_22_0 : mx_ck (mh_22, mt_22_0) = true := by decide +kernel
theorem mk_22_1 : mx_ck (mh_22, mt_22_1) = true := by decide +kernel
theorem mk_22_2 : mx_ck (mh_22, mt_22_2) = true := by decide +kernel
theorem mk_22 : mx_ck (mh_22, mt_22) = true := mx_ck_app mk_22_0 (mx_ck_app mk_22_1 (mk_22_2))
theorem mk_23 : mx_ck (mh_23, mt_23) = true := by decide +kernel
theorem mk_24 : mx_ck (mh_24, mt_24) = true := by decide +kernel
theorem mk_25 : mx_ck (mh_25, mt_25) = true := by decide +kernel
theorem mk_26 : mx_ck (mh_26, mt_26) = true := by decide +kernel
theorem mk_27_0 : mx_ck (mh_27, mt_27_0) = true := by decide +kernel
theorem mk_27_1 : mx_ck (mh_27, mt_27_1) = true := by decide +kernel
theorem mk_27 : mx_ck (mh_27, mt_27) = true := mx_ck_app mk_27_0 (mk_27_1)
theorem mk_28 : mx_ck (mh_28, mt_28) = true := by decide +kernel
theorem mk_29_0 : mx_ck (mh_29, mt_29_0) = true := by decide +kernel
theorem mk_29_1 : mx_ck (mh_29, mt_29_1) = true := by decide +kernel
theorem mk_29 : mx_ck (mh_29, mt_29) = true := mx_ck_app mk_29_0 (mk_29_1)
theorem mk_30 : mx_ck (mh_30, mt_30) = true := by decide +kernel
theorem mk_31 : mx_ck (mh_31, mt_31) = true := by decide +kernel
theorem mk_32 : mx_ck (mh_32, mt_32) = true := by decide +kernel
theorem mk_33 : mx_ck (mh_33, mt_33) = true := by decide +kernel
theorem mk_34 : mx_ck (mh_34, mt_34) = true := by decide +kernel
theorem mk_35 : mx_ck (mh_35, mt_35) = true := by decide +kernel
theorem mk_36 : mx_ck (mh_36, mt_36) = true := by decide +kernel
theorem mk_37 : mx_ck (mh_37, mt_37) = true := by decide +kernel
theorem mk_38 : mx_ck (mh_38, mt_38) = true := by decide +kernel
theorem mk_39_0 : mx_ck (mh_39, mt_39_0) = true := by decide +kernel
theorem mk_39_1 : mx_ck (mh_39, mt_39_1) = true := by decide +kernel
theorem mk_39 : mx_ck (mh_39, mt_39) = true := mx_ck_app mk_39_0 (mk_39_1)
theorem mk_40 : mx_ck (mh_40, mt_40) = true := by decide +kernel
theorem mk_41 : mx_ck (mh_41, mt_41) = true := by decide +kernel
theorem mk_42 : mx_ck (mh_42, mt_42) = true := by decide +kernel
theorem mk_43 : mx_ck (mh_43, mt_43) = true := by decide +kernel
theorem mk_44 : mx_ck (mh_44, mt_44) = true := by decide +kernel
theorem mk_45 : mx_ck (mh_45, mt_45) = true := by decide +kernel
theorem mk_46 : mx_ck (mh_46, mt_46) = true := by decide +kernel
theorem mk_47 : mx_ck (mh_47, mt_47) = true := by decide +kernel
theorem mk_48 : mx_ck (mh_48, mt_48) = true := by decide +kernel
theorem mk_49 : mx_ck (mh_49, mt_49) = true := by decide +kernel
theorem mk_50 : mx_ck (mh_50, mt_50) = true := by decide +kernel
theorem mk_51 : mx_ck (mh_51, mt_51) = true := by decide +kernel
theorem mk_52 : mx_ck (mh_52, mt_52) = true := by decide +kernel
theorem mk_53_0 : mx_ck (mh_53, mt_53_0) = true := by decide +kernel
theorem mk_53_1 : mx_ck (mh_53, mt_53_1) = true := by decide +kernel
theorem mk_53 : mx_ck (mh_53, mt_53) = true := mx_ck_app mk_53_0 (mk_53_1)
theorem mk_54 : mx_ck (mh_54, mt_54) = true := by decide +kernel
theorem mk_55 : mx_ck (mh_55, mt_55) = true := by decide +kernel
theorem mk_56 : mx_ck (mh_56, mt_56) = true := by decide +kernel
theorem mk_57 : mx_ck (mh_57, mt_57) = true := by decide +kernel
theorem mk_58 : mx_ck (mh_58, mt_58) = true := by decide +kernel
theorem mk_59_0 : mx_ck (mh_59, mt_59_0) = true := by decide +kernel
theorem mk_59_1 : mx_ck (mh_59, mt_59_1) = true := by decide +kernel
theorem mk_59 : mx_ck (mh_59, mt_59) = true := mx_ck_app mk_59_0 (mk_59_1)
theorem mk_60 : mx_ck (mh_60, mt_60) = true := by decide +kernel
theorem mk_61 : mx_ck (mh_61, mt_61) = true := by decide +kernel
theorem mk_62 : mx_ck (mh_62, mt_62) = true := by decide +kernel
theorem mk_63 : mx_ck (mh_63, mt_63) = true := by decide +kernel
theorem mk_64 : mx_ck (mh_64, mt_64) = true := by decide +kernel
theorem mk_65 : mx_ck (mh_65, mt_65) = true := by decide +kernel
theorem mk_66 : mx_ck (mh_66, mt_66) = true := by decide +kernel
theorem mk_67 : mx_ck (mh_67, mt_67) = true := by decide +kernel
theorem mk_68_0 : mx_ck (mh_68, mt_68_0) = true := by decide +kernel
theorem mk_68_1 : mx_ck (mh_68, mt_68_1) = true := by decide +kernel
theorem mk_68 : mx_ck (mh_68, mt_68) = true := mx_ck_app mk_68_0 (mk_68_1)
theorem mk_69 : mx_ck (mh_69, mt_69) = true := by decide +kernel
theorem mk_70 : mx_ck (mh_70, mt_70) = true := by decide +kernel
theorem mk_71 : mx_ck (mh_71, mt_71) = true := by decide +kernel
theorem mk_72 : mx_ck (mh_72, mt_72) = true := by decide +kernel
theorem mk_73 : mx_ck (mh_73, mt_73) = true := by decide +kernel
theorem mk_74 : mx_ck (mh_74, mt_74) = true := by decide +kernel
theorem mk_75 : mx_ck (mh_75, mt_75) = true := by decide +kernel
theorem mk_76 : mx_ck (mh_76, mt_76) = true := by decide +kernel
theorem mk_77 : mx_ck (mh_77, mt_77) = true := by decide +kernel
theorem mk_78 : mx_ck (mh_78, mt_78) = true := by decide +kernel
theorem mk_79 : mx_ck (mh_79, mt_79) = true := by decide +kernel
theorem mk_80 : mx_ck (mh_80, mt_80) = true := by decide +kernel
theorem mk_81 : mx_ck (mh_81, mt_81) = true := by decide +kernel
theorem mk_82 : mx_ck (mh_82, mt_82) = true := by decide +kernel
theorem mk_83 : mx_ck (mh_83, mt_83) = true := by decide +kernel
theorem mk_84 : mx_ck (mh_84, mt_84) = true := by decide +kernel
theorem mk_85_0 : mx_ck (mh_85, mt_85_0) = true := by decide +kernel
theorem mk_85_1 : mx_ck (mh_85, mt_85_1) = true := by decide +kernel
theorem mk_85 : mx_ck (mh_85, mt_85) = true := mx_ck_app mk_85_0 (mk_85_1)
theorem mk_86 : mx_ck (mh_86, mt_86) = true := by decide +kernel
theorem mk_87 : mx_ck (mh_87, mt_87) = true := by decide +kernel
theorem mk_88 : mx_ck (mh_88, mt_88) = true := by decide +kernel
theorem mk_89 : mx_ck (mh_89, mt_89) = true := by decide +kernel
theorem mk_90 : mx_ck (mh_90, mt_90) = true := by decide +kernel
theorem mk_91 : mx_ck (mh_91, mt_91) = true := by decide +kernel
theorem mk_92 : mx_ck (mh_92, mt_92) = true := by decide +kernel
theorem mk_93 : mx_ck (mh_93, mt_93) = true := by decide +kernel
theorem mk_94 : mx_ck (mh_94, mt_94) = true := by decide +kernel
theorem mk_95 : mx_ck (mh_95, mt_95) = true := by decide +kernel
theorem mk_96_0 : mx_ck (mh_96, mt_96_0) = true := by decide +kernel
theorem mk_96_1 : mx_ck (mh_96, mt_96_1) = true := by decide +kernel
theorem mk_96 : mx_ck (mh_96, mt_96) = true := mx_ck_app mk_96_0 (mk_96_1)
theorem mk_97 : mx_ck (mh_97, mt_97) = true := by decide +kernel
theorem mk_98 : mx_ck (mh_98, mt_98) = true := by decide +kernel
theorem mk_99 : mx_ck (mh_99, mt_99) = true := by decide +kernel
theorem mk_100 : mx_ck (mh_100, mt_100) = true := by decide +kernel
theorem mk_101 : mx_ck (mh_101, mt_101) = true := by decide +kernel
theorem mk_102_0 : mx_ck (mh_102, mt_102_0) = true := by decide +kernel
theorem mk_102_1 : mx_ck (mh_102, mt_102_1) = true := by decide +kernel
theorem mk_102 : mx_ck (mh_102, mt_102) = true := mx_ck_app mk_102_0 (mk_102_1)
theorem mk_103 : mx_ck (mh_103, mt_103) = true := by decide +kernel
theorem mk_104 : mx_ck (mh_104, mt_104) = true := by decide +kernel
theorem mk_105 : mx_ck (mh_105, mt_105) = true := by decide +kernel
theorem mk_106 : mx_ck (mh_106, mt_106) = true := by decide +kernel
theorem mk_107 : mx_ck (mh_107, mt_107) = true := by decide +kernel
theorem mk_108 : mx_ck (mh_108, mt_108) = true := by decide +kernel
theorem mk_109 : mx_ck (mh_109, mt_109) = true := by decide +kernel
theorem mk_110 : mx_ck (mh_110, mt_110) = true := by decide +kernel
theorem mk_111 : mx_ck (mh_111, mt_111) = true := by decide +kernel
theorem mk_112_0 : mx_ck (mh_112, mt_112_0) = true := by decide +kernel
theorem mk_112_1 : mx_ck (mh_112, mt_112_1) = true := by decide +kernel
theorem mk_112_2 : mx_ck (mh_112, mt_112_2) = true := by decide +kernel
theorem mk_112 : mx_ck (mh_112, mt_112) = true := mx_ck_app mk_112_0 (mx_ck_app mk_112_1 (mk_112_2))
theorem mk_113 : mx_ck (mh_113, mt_113) = true := by decide +kernel
theorem mk_114 : mx_ck (mh_114, mt_114) = true := by decide +kernel
theorem mk_115 : mx_ck (mh_115, mt_115) = true := by decide +kernel
theorem mk_116 : mx_ck (mh_116, mt_116) = true := by decide +kernel
theorem mk_117 : mx_ck (mh_117, mt_117) = true := by decide +kernel
theorem mk_118 : mx_ck (mh_118, mt_118) = true := by decide +kernel
theorem mk_119 : mx_ck (mh_119, mt_119) = true := by decide +kernel
theorem mk_120_0 : mx_ck (mh_120, mt_120_0) = true := by decide +kernel
theorem mk_120_1 : mx_ck (mh_120, mt_120_1) = true := by decide +kernel
theorem mk_120 : mx_ck (mh_120, mt_120) = true := mx_ck_app mk_120_0 (mk_120_1)
theorem mk_121 : mx_ck (mh_121, mt_121) = true := by decide +kernel
theorem mk_122 : mx_ck (mh_122, mt_122) = true := by decide +kernel
theorem mk_123 : mx_ck (mh_123, mt_123) = true := by decide +kernel
theorem mk_124_0 : mx_ck (mh_124, mt_124_0) = true := by decide +kernel
theorem mk_124_1 : mx_ck (mh_124, mt_124_1) = true := by decide +kernel
theorem mk_124 : mx_ck (mh_124, mt_124) = true := mx_ck_app mk_124_0 (mk_124_1)
theorem mk_125 : mx_ck (mh_125, mt_125) = true := by decide +kernel
theorem mk_126 : mx_ck (mh_126, mt_126) = true := by decide +kernel
theorem mk_127 : mx_ck (mh_127, mt_127) = true := by decide +kernel
theorem mk_128 : mx_ck (mh_128, mt_128) = true := by decide +kernel
theorem mk_129 : mx_ck (mh_129, mt_129) = true := by decide +kernel
theorem mk_130_0 : mx_ck (mh_130, mt_130_0) = true := by decide +kernel
theorem mk_130_1 : mx_ck (mh_130, mt_130_1) = true := by decide +kernel
theorem mk_130 : mx_ck (mh_130, mt_130) = true := mx_ck_app mk_130_0 (mk_130_1)
theorem mk_131 : mx_ck (mh_131, mt_131) = true := by decide +kernel
theorem mk_132 : mx_ck (mh_132, mt_132) = true := by decide +kernel
theorem mk_133 : mx_ck (mh_133, mt_133) = true := by decide +kernel
theorem mk_134 : mx_ck (mh_134, mt_134) = true := by decide +kernel
theorem mk_135_0 : mx_ck (mh_135, mt_135_0) = true := by decide +kernel
theorem mk_135_1 : mx_ck (mh_135, mt_135_1) = true := by decide +kernel
theorem mk_135 : mx_ck (mh_135, mt_135) = true := mx_ck_app mk_135_0 (mk_135_1)
theorem mk_136 : mx_ck (mh_136, mt_136) = true := by decide +kernel
theorem mk_137_0 : mx_ck (mh_137, mt_137_0) = true := by decide +kernel
theorem mk_137_1 : mx_ck (mh_137, mt_137_1) = true := by decide +kernel
theorem mk_137_2 : mx_ck (mh_137, mt_137_2) = true := by decide +kernel
theorem mk_137 : mx_ck (mh_137, mt_137) = true := mx_ck_app mk_137_0 (mx_ck_app mk_137_1 (mk_137_2))
theorem mk_138 : mx_ck (mh_138, mt_138) = true := by decide +kernel
theorem mk_139_0 : mx_ck (mh_139, mt_139_0) = true := by decide +kernel
theorem mk_139_1 : mx_ck (mh_139, mt_139_1) = true := by decide +kernel
theorem mk_139 : mx_ck (mh_139, mt_139) = true := mx_ck_app mk_139_0 (mk_139_1)
theorem mk_140 : mx_ck (mh_140, mt_140) = true := by decide +kernel
theorem mk_141 : mx_ck (mh_141, mt_141) = true := by decide +kernel
theorem mk_142 : mx_ck (mh_142, mt_142) = true := by decide +kernel
theorem mk_143_0 : mx_ck (mh_143, mt_143_0) = true := by decide +kernel
theorem mk_143_1 : mx_ck (mh_143, mt_143_1) = true := by decide +kernel
theorem mk_143 : mx_ck (mh_143, mt_143) = true := mx_ck_app mk_143_0 (mk_143_1)
theorem mk_144 : mx_ck (mh_144, mt_144) = true := by decide +kernel
theorem mk_145_0 : mx_ck (mh_145, mt_145_0) = true := by decide +kernel
theorem mk_145_1 : mx_ck (mh_145, mt_145_1) = true := by decide +kernel
theorem mk_145 : mx_ck (mh_145, mt_145) = true := mx_ck_app mk_145_0 (mk_145_1)
theorem mk_146 : mx_ck (mh_146, mt_146) = true := by decide +kernel
theorem mk_147 : mx_ck (mh_147, mt_147) = true := by decide +kernel
theorem mk_148 : mx_ck (mh_148, mt_148) = true := by decide +kernel
theorem mk_149 : mx_ck (mh_149, mt_149) = true := by decide +kernel
theorem mk_150 : mx_ck (mh_150, mt_150) = true := by decide +kernel
theorem mk_151_0 : mx_ck (mh_151, mt_151_0) = true := by decide +kernel
theorem mk_151_1 : mx_ck (mh_151, mt_151_1) = true := by decide +kernel
theorem mk_151 : mx_ck (mh_151, mt_151) = true := mx_ck_app mk_151_0 (mk_151_1)
theorem mk_152_0 : mx_ck (mh_152, mt_152_0) = true := by decide +kernel
theorem mk_152_1 : mx_ck (mh_152, mt_152_1) = true := by decide +kernel
theorem mk_152 : mx_ck (mh_152, mt_152) = true := mx_ck_app mk_152_0 (mk_152_1)
theorem mk_153_0 : mx_ck (mh_153, mt_153_0) = true := by decide +kernel
theorem mk_153_1 : mx_ck (mh_153, mt_153_1) = true := by decide +kernel
theorem mk_153 : mx_ck (mh_153, mt_153) = true := mx_ck_app mk_153_0 (mk_153_1)
theorem mk_154_0 : mx_ck (mh_154, mt_154_0) = true := by decide +kernel
theorem mk_154_1 : mx_ck (mh_154, mt_154_1) = true := by decide +kernel
theorem mk_154 : mx_ck (mh_154, mt_154) = true := mx_ck_app mk_154_0 (mk_154_1)
theorem mk_155_0 : mx_ck (mh_155, mt_155_0) = true := by decide +kernel
theorem mk_155_1 : mx_ck (mh_155, mt_155_1) = true := by decide +kernel
theorem mk_155 : mx_ck (mh_155, mt_155) = true := mx_ck_app mk_155_0 (mk_155_1)
theorem mk_156 : mx_ck (mh_156, mt_156) = true := by decide +kernel
theorem mk_157 : mx_ck (mh_157, mt_157) = true := by decide +kernel
theorem mk_158_0 : mx_ck (mh_158, mt_158_0) = true := by decide +kernel
theorem mk_158_1 : mx_ck (mh_158, mt_158_1) = true := by decide +kernel
theorem mk_158_2 : mx_ck (mh_158, mt_158_2) = true := by decide +kernel
theorem mk_158_3 : mx_ck (mh_158, mt_158_3) = true := by decide +kernel
theorem mk_158 : mx_ck (mh_158, mt_158) = true := mx_ck_app mk_158_0 (mx_ck_app mk_158_1 (mx_ck_app mk_158_2 (mk_158_3)))
theorem mk_159 : mx_ck (mh_159, mt_159) = true := by decide +kernel
theorem mk_160 : mx_ck (mh_160, mt_160) = true := by decide +kernel
theorem mk_161_0 : mx_ck (mh_161, mt_161_0) = true := by decide +kernel
theorem mk_161_1 : mx_ck (mh_161, mt_161_1) = true := by decide +kernel
theorem mk_161_2 : mx_ck (mh_161, mt_161_2) = true := by decide +kernel
theorem mk_161 : mx_ck (mh_161, mt_161) = true := mx_ck_app mk_161_0 (mx_ck_app mk_161_1 (mk_161_2))
theorem mk_162_0 : mx_ck (mh_162, mt_162_0) = true := by decide +kernel
theorem mk_162_1 : mx_ck (mh_162, mt_162_1) = true := by decide +kernel
theorem mk_162_2 : mx_ck (mh_162, mt_162_2) = true := by decide +kernel
theorem mk_162 : mx_ck (mh_162, mt_162) = true := mx_ck_app mk_162_0 (mx_ck_app mk_162_1 (mk_162_2))
theorem mk_163 : mx_ck (mh_163, mt_163) = true := by decide +kernel
theorem mk_164_0 : mx_ck (mh_164, mt_164_0) = true := by decide +kernel
theorem mk_164_1 : mx_ck (mh_164, mt_164_1) = true := by decide +kernel
theorem mk_164 : mx_ck (mh_164, mt_164) = true := mx_ck_app mk_164_0 (mk_164_1)
theorem mk_165 : mx_ck (mh_165, mt_165) = true := by decide +kernel
theorem mk_166 : mx_ck (mh_166, mt_166) = true := by decide +kernel
theorem mk_167 : mx_ck (mh_167, mt_167) = true := by decide +kernel
theorem mk_168_0 : mx_ck (mh_168, mt_168_0) = true := by decide +kernel
theorem mk_168_1 : mx_ck (mh_168, mt_168_1) = true := by decide +kernel
theorem mk_168 : mx_ck (mh_168, mt_168) = true := mx_ck_app mk_168_0 (mk_168_1)
theorem mk_169 : mx_ck (mh_169, mt_169) = true := by decide +kernel
theorem mk_170 : mx_ck (mh_170, mt_170) = true := by decide +kernel
theorem mk_171 : mx_ck (mh_171, mt_171) = true := by decide +kernel
theorem mk_172 : mx_ck (mh_172, mt_172) = true := by decide +kernel
theorem mk_173 : mx_ck (mh_173, mt_173) = true := by decide +kernel
theorem mk_174_0 : mx_ck (mh_174, mt_174_0) = true := by decide +kernel
theorem mk_174_1 : mx_ck (mh_174, mt_174_1) = true := by decide +kernel
theorem mk_174 : mx_ck (mh_174, mt_174) = true := mx_ck_app mk_174_0 (mk_174_1)
theorem mk_175_0 : mx_ck (mh_175, mt_175_0) = true := by decide +kernel
theorem mk_175_1 : mx_ck (mh_175, mt_175_1) = true := by decide +kernel
theorem mk_175 : mx_ck (mh_175, mt_175) = true := mx_ck_app mk_175_0 (mk_175_1)
theorem mk_176_0 : mx_ck (mh_176, mt_176_0) = true := by decide +kernel
theorem mk_176_1 : mx_ck (mh_176, mt_176_1) = true := by decide +kernel
theorem mk_176_2 : mx_ck (mh_176, mt_176_2) = true := by decide +kernel
theorem mk_176_3 : mx_ck (mh_176, mt_176_3) = true := by decide +kernel
theorem mk_176_4 : mx_ck (mh_176, mt_176_4) = true := by decide +kernel
theorem mk_176_5 : mx_ck (mh_176, mt_176_5) = true := by decide +kernel
theorem mk_176_6 : mx_ck (mh_176, mt_176_6) = true := by decide +kernel
theorem mk_176_7 : mx_ck (mh_176, mt_176_7) = true := by decide +kernel
theorem mk_176_8 : mx_ck (mh_176, mt_176_8) = true := by decide +kernel
theorem mk_176_9 : mx_ck (mh_176, mt_176_9) = true := by decide +kernel
theorem mk_176_10 : mx_ck (mh_176, mt_176_10) = true := by decide +kernel
theorem mk_176_11 : mx_ck (mh_176, mt_176_11) = true := by decide +kernel
theorem mk_176_12 : mx_ck (mh_176, mt_176_12) = true := by decide +kernel
theorem mk_176_13 : mx_ck (mh_176, mt_176_13) = true := by decide +kernel
theorem mk_176_14 : mx_ck (mh_176, mt_176_14) = true := by decide +kernel
theorem mk_176_15 : mx_ck (mh_176, mt_176_15) = true := by decide +kernel
theorem mk_176 : mx_ck (mh_176, mt_176) = true := mx_ck_app mk_176_0 (mx_ck_app mk_176_1 (mx_ck_app mk_176_2 (mx_ck_app mk_176_3 (mx_ck_app mk_176_4 (mx_ck_app mk_176_5 (mx_ck_app mk_176_6 (mx_ck_app mk_176_7 (mx_ck_app mk_176_8 (mx_ck_app mk_176_9 (mx_ck_app mk_176_10 (mx_ck_app mk_176_11 (mx_ck_app mk_176_12 (mx_ck_app mk_176_13 (mx_ck_app mk_176_14 (mk_176_15)))))))))))))))
def mx_zp : List (mx_HD × List (Nat × mx_I)) := [(mh_0, mt_0), (mh_1, mt_1), (mh_2, mt_2), (mh_3, mt_3), (mh_4, mt_4), (mh_5, mt_5), (mh_6, mt_6), (mh_7, mt_7), (mh_8, mt_8), (mh_9, mt_9), (mh_10, mt_10), (mh_11, mt_11), (mh_12, mt_12), (mh_13, mt_13), (mh_14, mt_14), (mh_15, mt_15), (mh_16, mt_16), (mh_17, mt_17), (mh_18, mt_18), (mh_19, mt_19), (mh_20, mt_20), (mh_21, mt_21), (mh_22, mt_22), (mh_23, mt_23), (mh_24, mt_24), (mh_25, mt_25), (mh_26, mt_26), (mh_27, mt_27), (mh_28, mt_28), (mh_29, mt_29), (mh_30, mt_30), (mh_31, mt_31), (mh_32, mt_32), (mh_33, mt_33), (mh_34, mt_34), (mh_35, mt_35), (mh_36, mt_36), (mh_37, mt_37), (mh_38, mt_38), (mh_39, mt_39), (mh_40, mt_40), (mh_41, mt_41), (mh_42, mt_42), (mh_43, mt_43), (mh_44, mt_44), (mh_45, mt_45), (mh_46, mt_46), (mh_47, mt_47), (mh_48, mt_48), (mh_49, mt_49), (mh_50, mt_50), (mh_51, mt_51), (mh_52, mt_52), (mh_53, mt_53), (mh_54, mt_54), (mh_55, mt_55), (mh_56, mt_56), (mh_57, mt_57), (mh_58, mt_58), (mh_59, mt_59), (mh_60, mt_60), (mh_61, mt_61), (mh_62, mt_62), (mh_63, mt_63), (mh_64, mt_64), (mh_65, mt_65), (mh_66, mt_66), (mh_67, mt_67), (mh_68, mt_68), (mh_69, mt_69), (mh_70, mt_70), (mh_71, mt_71), (mh_72, mt_72), (mh_73, mt_73), (mh_74, mt_74), (mh_75, mt_75), (mh_76, mt_76), (mh_77, mt_77), (mh_78, mt_78), (mh_79, mt_79), (mh_80, mt_80), (mh_81, mt_81), (mh_82, mt_82), (mh_83, mt_83), (mh_84, mt_84), (mh_85, mt_85), (mh_86, mt_86), (mh_87, mt_87), (mh_88, mt_88), (mh_89, mt_89), (mh_90, mt_90), (mh_91, mt_91), (mh_92, mt_92), (mh_93, mt_93), (mh_94, mt_94), (mh_95, mt_95), (mh_96, mt_96), (mh_97, mt_97), (mh_98, mt_98), (mh_99, mt_99), (mh_100, mt_100), (mh_101, mt_101), (mh_102, mt_102), (mh_103, mt_103), (mh_104, mt_104), (mh_105, mt_105), (mh_106, mt_106), (mh_107, mt_107), (mh_108, mt_108), (mh_109, mt_109), (mh_110, mt_110), (mh_111, mt_111), (mh_112, mt_112), (mh_113, mt_113), (mh_114, mt_114), (mh_115, mt_115), (mh_116, mt_116), (mh_117, mt_117), (mh_118, mt_118), (mh_119, mt_119), (mh_120, mt_120), (mh_121, mt_121), (mh_122, mt_122), (mh_123, mt_123), (mh_124, mt_124), (mh_125, mt_125), (mh_126, mt_126), (mh_127, mt_127), (mh_128, mt_128), (mh_129, mt_129), (mh_130, mt_130), (mh_131, mt_131), (mh_132, mt_132), (mh_133, mt_133), (mh_134, mt_134), (mh_135, mt_135), (mh_136, mt_136), (mh_137, mt_137), (mh_138, mt_138), (mh_139, mt_139), (mh_140, mt_140), (mh_141, mt_141), (mh_142, mt_142), (mh_143, mt_143), (mh_144, mt_144), (mh_145, mt_145), (mh_146, mt_146), (mh_147, mt_147), (mh_148, mt_148), (mh_149, mt_149), (mh_150, mt_150), (mh_151, mt_151), (mh_152, mt_152), (mh_153, mt_153), (mh_154, mt_154), (mh_155, mt_155), (mh_156, mt_156), (mh_157, mt_157), (mh_158, mt_158), (mh_159, mt_159), (mh_160, mt_160), (mh_161, mt_161), (mh_162, mt_162), (mh_163, mt_163), (mh_164, mt_164), (mh_165, mt_165), (mh_166, mt_166), (mh_167, mt_167), (mh_168, mt_168), (mh_169, mt_169), (mh_170, mt_170), (mh_171, mt_171), (mh_172, mt_172), (mh_173, mt_173), (mh_174, mt_174), (mh_175, mt_175), (mh_176, mt_176)]
theorem mx_fa {q : mx_HD × List (Nat × mx_I)} {l : List (mx_HD × List (Nat × mx_I))} (h : mx_ck q = true) (hl : ∀ x ∈ l, mx_ck x = true) : ∀ x ∈ q :: l, mx_ck x = true := List.forall_mem_cons.mpr ⟨h, hl⟩
set_option maxRecDepth 100000 in
theorem mx_zp_ok : ∀ x ∈ mx_zp, mx_ck x = true := mx_fa mk_0 (mx_fa mk_1 (mx_fa mk_2 (mx_fa mk_3 (mx_fa mk_4 (mx_fa mk_5 (mx_fa mk_6 (mx_fa mk_7 (mx_fa mk_8 (mx_fa mk_9 (mx_fa mk_10 (mx_fa mk_11 (mx_fa mk_12 (mx_fa mk_13 (mx_fa mk_14 (mx_fa mk_15 (mx_fa mk_16 (mx_fa mk_17 (mx_fa mk_18 (mx_fa mk_19 (mx_fa mk_20 (mx_fa mk_21 (mx_fa mk_22 (mx_fa mk_23 (mx_fa mk_24 (mx_fa mk_25 (mx_fa mk_26 (mx_fa mk_27 (mx_fa mk_28 (mx_fa mk_29 (mx_fa mk_30 (mx_fa mk_31 (mx_fa mk_32 (mx_fa mk_33 (mx_fa mk_34 (mx_fa mk_35 (mx_fa mk_36 (mx_fa mk_37 (mx_fa mk_38 (mx_fa mk_39 (mx_fa mk_40 (mx_fa mk_41 (mx_fa mk_42 (mx_fa mk_43 (mx_fa mk_44 (mx_fa mk_45 (mx_fa mk_46 (mx_fa mk_47 (mx_fa mk_48 (mx_fa mk_49 (mx_fa mk_50 (mx_fa mk_51 (mx_fa mk_52 (mx_fa mk_53 (mx_fa mk_54 (mx_fa mk_55 (mx_fa mk_56 (mx_fa mk_57 (mx_fa mk_58 (mx_fa mk_59 (mx_fa mk_60 (mx_fa mk_61 (mx_fa mk_62 (mx_fa mk_63 (mx_fa mk_64 (mx_fa mk_65 (mx_fa mk_66 (mx_fa mk_67 (mx_fa mk_68 (mx_fa mk_69 (mx_fa mk_70 (mx_fa mk_71 (mx_fa mk_72 (mx_fa mk_73 (mx_fa mk_74 (mx_fa mk_75 (mx_fa mk_76 (mx_fa mk_77 (mx_fa mk_78 (mx_fa mk_79 (mx_fa mk_80 (mx_fa mk_81 (mx_fa mk_82 (mx_fa mk_83 (mx_fa mk_84 (mx_fa mk_85 (mx_fa mk_86 (mx_fa mk_87 (mx_fa mk_88 (mx_fa mk_89 (mx_fa mk_90 (mx_fa mk_91 (mx_fa mk_92 (mx_fa mk_93 (mx_fa mk_94 (mx_fa mk_95 (mx_fa mk_96 (mx_fa mk_97 (mx_fa mk_98 (mx_fa mk_99 (mx_fa mk_100 (mx_fa mk_101 (mx_fa mk_102 (mx_fa mk_103 (mx_fa mk_104 (mx_fa mk_105 (mx_fa mk_106 (mx_fa mk_107 (mx_fa mk_108 (mx_fa mk_109 (mx_fa mk_110 (mx_fa mk_111 (mx_fa mk_112 (mx_fa mk_113 (mx_fa mk_114 (mx_fa mk_115 (mx_fa mk_116 (mx_fa mk_117 (mx_fa mk_118 (mx_fa mk_119 (mx_fa mk_120 (mx_fa mk_121 (mx_fa mk_122 (mx_fa mk_123 (mx_fa mk_124 (mx_fa mk_125 (mx_fa mk_126 (mx_fa mk_127 (mx_fa mk_128 (mx_fa mk_129 (mx_fa mk_130 (mx_fa mk_131 (mx_fa mk_132 (mx_fa mk_133 (mx_fa mk_134 (mx_fa mk_135 (mx_fa mk_136 (mx_fa mk_137 (mx_fa mk_138 (mx_fa mk_139 (mx_fa mk_140 (mx_fa mk_141 (mx_fa mk_142 (mx_fa mk_143 (mx_fa mk_144 (mx_fa mk_145 (mx_fa mk_146 (mx_fa mk_147 (mx_fa mk_148 (mx_fa mk_149 (mx_fa mk_150 (mx_fa mk_151 (mx_fa mk_152 (mx_fa mk_153 (mx_fa mk_154 (mx_fa mk_155 (mx_fa mk_156 (mx_fa mk_157 (mx_fa mk_158 (mx_fa mk_159 (mx_fa mk_160 (mx_fa mk_161 (mx_fa mk_162 (mx_fa mk_163 (mx_fa mk_164 (mx_fa mk_165 (mx_fa mk_166 (mx_fa mk_167 (mx_fa mk_168 (mx_fa mk_169 (mx_fa mk_170 (mx_fa mk_171 (mx_fa mk_172 (mx_fa mk_173 (mx_fa mk_174 (mx_fa mk_175 (mx_fa mk_176 (fun _ h => absurd h List.not_mem_nil)))))))))))))))))))))))))))))))))))))))))))))))))))))))))))))))))))))))))))))))))))))))))))))))))))))))))))))))))))))))))))))))))))))))))))))))))))))))))))))))))))))))))))))))))
set_option maxRecDepth 100000 in
theorem mx_zp_h : mx_zp.map (fun q => q.1) = mx_hd := rfl
set_option maxRecDepth 100000 in
theorem mx_zp_t : mx_zp.map (fun q => q.2) = mx_tb := rfl
theorem mx_lk {t : List (Nat × mx_I)} {pc : Nat} {x : mx_I} (h : t.lookup pc = some x) : (pc, x) ∈ t := by
  induction t with
  | nil => simp at h
  | cons q t ih =>
    obtain ⟨p, y⟩ := q
    rw [List.lookup_cons] at h
    by_cases e : pc = p
    · subst e
      simp at h
      subst h
      exact List.mem_cons_self
    · have : (pc == p) = false := by simp [e]
      rw [this] at h
      exact List.mem_cons_of_mem _ (ih h)
theorem mx_good {j pc : Nat} {q : mx_HD} {x : mx_I} (hj : mx_hd[j]? = some q) (hi : mx_ins j pc = some x) : mx_chk q.1.cls q.1.name q.2.1 (pc, x) = true := by
  unfold mx_ins at hi
  cases ht : mx_tb[j]? with
  | none => rw [ht] at hi; cases hi
  | some t =>
    rw [ht] at hi
    have hm := mx_lk hi
    rw [← mx_zp_h, List.getElem?_map] at hj
    rw [← mx_zp_t, List.getElem?_map] at ht
    cases hz : mx_zp[j]? with
    | none => rw [hz] at hj; cases hj
    | some z =>
      rw [hz] at hj ht
      have e1 : z.1 = q := Option.some.inj hj
      have e2 : z.2 = t := Option.some.inj ht
      have hk := mx_zp_ok z (List.mem_of_getElem? hz)
      unfold mx_ck at hk
      rw [e1, e2] at hk
      exact List.all_eq_true.mp hk _ hm
