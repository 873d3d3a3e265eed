/-! the tables are right: by the kernel (by program: wip/p35/gen/emit_chk.py) -/
def zlen : Instr → Nat
  | .iconst _ | .lconst _ | .dconst _ | .iload_n _ | .lload_n _ | .dload_n _ | .aload_n _ | .istore_n _ | .lstore_n _ | .dstore_n _ | .astore_n _ => 1
  | .iadd | .isub | .imul | .idiv | .irem | .iand | .ior | .ixor | .ishl | .ishr | .ladd | .lmul | .lcmp | .i2l | .i2d | .ddiv | .dcmp _ => 1
  | .iaload | .laload | .daload | .aaload | .baload | .iastore | .lastore | .dastore | .aastore | .bastore | .arraylength | .dup | .dup_x1 | .dup_x2 | .dup2 | .pop | .ireturn | .lreturn | .dreturn | .areturn | .return_ | .athrow => 1
  | .bipush _ | .ldc _ | .iload _ | .lload _ | .dload _ | .aload _ | .istore _ | .lstore _ | .dstore _ | .astore _ | .newarray _ => 2
  | .tableswitch _ _ _ _ => 0
  | .multianewarray _ _ => 4
  | _ => 3
def zchkE (b : ByteArray) (l : List (Nat × Instr × Nat)) : Bool := l.all (fun e => decide (decode b e.1 = .ok e.2) && (zlen e.2.1 == 0 || zlen e.2.1 == e.2.2))
theorem zchkE_app {b : ByteArray} {l1 l2 : List (Nat × Instr × Nat)} (h1 : zchkE b l1 = true) (h2 : zchkE b l2 = true) : zchkE b (l1 ++ l2) = true := by
  unfold zchkE at h1 h2 ⊢
  rw [List.all_append, h1, h2]
  rfl
def zcdchk (K : zI) : Prop := zchkE (zk_by K) (zk_cd K) = true
set_option maxRecDepth 100000 in
theorem zd_0 : zcdchk zm_0 := by unfold zcdchk; decide +kernel
set_option maxRecDepth 100000 in
theorem zd_1 : zcdchk zm_1 := by unfold zcdchk; decide +kernel
set_option maxRecDepth 100000 in
theorem zd_2 : zcdchk zm_2 := by unfold zcdchk; decide +kernel
set_option maxRecDepth 100000 in
theorem zd_3 : zcdchk zm_3 := by unfold zcdchk; decide +kernel
set_option maxRecDepth 100000 in
theorem zd_4 : zcdchk zm_4 := by unfold zcdchk; decide +kernel
set_option maxRecDepth 100000 in
theorem zd_5 : zcdchk zm_5 := by unfold zcdchk; decide +kernel
set_option maxRecDepth 100000 in
theorem zd_6 : zcdchk zm_6 := by unfold zcdchk; decide +kernel
set_option maxRecDepth 100000 in
theorem zd_7 : zcdchk zm_7 := by unfold zcdchk; decide +kernel
set_option maxRecDepth 100000 in
theorem zd_8 : zcdchk zm_8 := by unfold zcdchk; decide +kernel
set_option maxRecDepth 100000 in
theorem zd_9 : zcdchk zm_9 := by unfold zcdchk; decide +kernel
set_option maxRecDepth 100000 in
theorem zd_10 : zcdchk zm_10 := by unfold zcdchk; decide +kernel
set_option maxRecDepth 100000 in
theorem zd_11 : zcdchk zm_11 := by unfold zcdchk; decide +kernel
set_option maxRecDepth 100000 in
theorem zd_12 : zcdchk zm_12 := by unfold zcdchk; decide +kernel
set_option maxRecDepth 100000 in
theorem zd_13 : zcdchk zm_13 := by unfold zcdchk; decide +kernel
set_option maxRecDepth 100000 in
theorem zd_14 : zcdchk zm_14 := by unfold zcdchk; decide +kernel
set_option maxRecDepth 100000 in
theorem zd_15 : zcdchk zm_15 := by unfold zcdchk; decide +kernel
set_option maxRecDepth 100000 in
theorem zd_16 : zcdchk zm_16 := by unfold zcdchk; decide +kernel
set_option maxRecDepth 100000 in
theorem zd_17 : zcdchk zm_17 := by unfold zcdchk; decide +kernel
set_option maxRecDepth 100000 in
theorem zd_18 : zcdchk zm_18 := by unfold zcdchk; decide +kernel
set_option maxRecDepth 100000 in
theorem zd_19 : zcdchk zm_19 := by unfold zcdchk; decide +kernel
set_option maxRecDepth 100000 in
theorem zd_20 : zcdchk zm_20 := by unfold zcdchk; decide +kernel
set_option maxRecDepth 100000 in
theorem zd_21 : zcdchk zm_21 := by unfold zcdchk; decide +kernel
set_option maxRecDepth 100000 in
theorem zd_22 : zcdchk zm_22 := by unfold zcdchk; decide +kernel
set_option maxRecDepth 100000 in
theorem zd_23_0 : zchkE prog_6_method_3_code zc_23_0 = true := by decide +kernel
set_option maxRecDepth 100000 in
theorem zd_23_1 : zchkE prog_6_method_3_code zc_23_1 = true := by decide +kernel
theorem zd_23 : zcdchk zm_23 := zchkE_app zd_23_0 (zd_23_1)
set_option maxRecDepth 100000 in
theorem zd_24 : zcdchk zm_24 := by unfold zcdchk; decide +kernel
set_option maxRecDepth 100000 in
theorem zd_25 : zcdchk zm_25 := by unfold zcdchk; decide +kernel
set_option maxRecDepth 100000 in
theorem zd_26 : zcdchk zm_26 := by unfold zcdchk; decide +kernel
set_option maxRecDepth 100000 in
theorem zd_27 : zcdchk zm_27 := by unfold zcdchk; decide +kernel
set_option maxRecDepth 100000 in
theorem zd_28 : zcdchk zm_28 := by unfold zcdchk; decide +kernel
set_option maxRecDepth 100000 in
theorem zd_29 : zcdchk zm_29 := by unfold zcdchk; decide +kernel
set_option maxRecDepth 100000 in
theorem zd_30 : zcdchk zm_30 := by unfold zcdchk; decide +kernel
set_option maxRecDepth 100000 in
theorem zd_31_0 : zchkE prog_2_method_1_code zc_31_0 = true := by decide +kernel
set_option maxRecDepth 100000 in
theorem zd_31_1 : zchkE prog_2_method_1_code zc_31_1 = true := by decide +kernel
theorem zd_31 : zcdchk zm_31 := zchkE_app zd_31_0 (zd_31_1)
set_option maxRecDepth 100000 in
theorem zd_32 : zcdchk zm_32 := by unfold zcdchk; decide +kernel
set_option maxRecDepth 100000 in
theorem zd_33 : zcdchk zm_33 := by unfold zcdchk; decide +kernel
set_option maxRecDepth 100000 in
theorem zd_34 : zcdchk zm_34 := by unfold zcdchk; decide +kernel
set_option maxRecDepth 100000 in
theorem zd_35 : zcdchk zm_35 := by unfold zcdchk; decide +kernel
set_option maxRecDepth 100000 in
theorem zd_36 : zcdchk zm_36 := by unfold zcdchk; decide +kernel
set_option maxRecDepth 100000 in
theorem zd_37 : zcdchk zm_37 := by unfold zcdchk; decide +kernel
set_option maxRecDepth 100000 in
theorem zd_38 : zcdchk zm_38 := by unfold zcdchk; decide +kernel
set_option maxRecDepth 100000 in
theorem zd_39 : zcdchk zm_39 := by unfold zcdchk; decide +kernel
set_option maxRecDepth 100000 in
theorem zd_40_0 : zchkE prog_1_method_1_code zc_40_0 = true := by decide +kernel
set_option maxRecDepth 100000 in
theorem zd_40_1 : zchkE prog_1_method_1_code zc_40_1 = true := by decide +kernel
theorem zd_40 : zcdchk zm_40 := zchkE_app zd_40_0 (zd_40_1)
set_option maxRecDepth 100000 in
theorem zd_41 : zcdchk zm_41 := by unfold zcdchk; decide +kernel
set_option maxRecDepth 100000 in
theorem zd_42 : zcdchk zm_42 := by unfold zcdchk; decide +kernel
set_option maxRecDepth 100000 in
theorem zd_43 : zcdchk zm_43 := by unfold zcdchk; decide +kernel
set_option maxRecDepth 100000 in
theorem zd_44 : zcdchk zm_44 := by unfold zcdchk; decide +kernel
set_option maxRecDepth 100000 in
theorem zd_45 : zcdchk zm_45 := by unfold zcdchk; decide +kernel
set_option maxRecDepth 100000 in
theorem zd_46 : zcdchk zm_46 := by unfold zcdchk; decide +kernel
set_option maxRecDepth 100000 in
theorem zd_47 : zcdchk zm_47 := by unfold zcdchk; decide +kernel
set_option maxRecDepth 100000 in
theorem zd_48 : zcdchk zm_48 := by unfold zcdchk; decide +kernel
set_option maxRecDepth 100000 in
theorem zd_49 : zcdchk zm_49 := by unfold zcdchk; decide +kernel
set_option maxRecDepth 100000 in
theorem zd_50_0 : zchkE prog_1_method_11_code zc_50_0 = true := by decide +kernel
set_option maxRecDepth 100000 in
theorem zd_50_1 : zchkE prog_1_method_11_code zc_50_1 = true := by decide +kernel
theorem zd_50 : zcdchk zm_50 := zchkE_app zd_50_0 (zd_50_1)
set_option maxRecDepth 100000 in
theorem zd_51 : zcdchk zm_51 := by unfold zcdchk; decide +kernel
set_option maxRecDepth 100000 in
theorem zd_52 : zcdchk zm_52 := by unfold zcdchk; decide +kernel
set_option maxRecDepth 100000 in
theorem zd_53 : zcdchk zm_53 := by unfold zcdchk; decide +kernel
set_option maxRecDepth 100000 in
theorem zd_54 : zcdchk zm_54 := by unfold zcdchk; decide +kernel
set_option maxRecDepth 100000 in
theorem zd_55 : zcdchk zm_55 := by unfold zcdchk; decide +kernel
set_option maxRecDepth 100000 in
theorem zd_56 : zcdchk zm_56 := by unfold zcdchk; decide +kernel
set_option maxRecDepth 100000 in
theorem zd_57 : zcdchk zm_57 := by unfold zcdchk; decide +kernel
set_option maxRecDepth 100000 in
theorem zd_58 : zcdchk zm_58 := by unfold zcdchk; decide +kernel
set_option maxRecDepth 100000 in
theorem zd_59 : zcdchk zm_59 := by unfold zcdchk; decide +kernel
set_option maxRecDepth 100000 in
theorem zd_60 : zcdchk zm_60 := by unfold zcdchk; decide +kernel
set_option maxRecDepth 100000 in
theorem zd_61 : zcdchk zm_61 := by unfold zcdchk; decide +kernel
set_option maxRecDepth 100000 in
theorem zd_62 : zcdchk zm_62 := by unfold zcdchk; decide +kernel
set_option maxRecDepth 100000 in
theorem zd_63 : zcdchk zm_63 := by unfold zcdchk; decide +kernel
set_option maxRecDepth 100000 in
theorem zd_64 : zcdchk zm_64 := by unfold zcdchk; decide +kernel
set_option maxRecDepth 100000 in
theorem zd_65 : zcdchk zm_65 := by unfold zcdchk; decide +kernel
set_option maxRecDepth 100000 in
theorem zd_66 : zcdchk zm_66 := by unfold zcdchk; decide +kernel
set_option maxRecDepth 100000 in
theorem zd_67 : zcdchk zm_67 := by unfold zcdchk; decide +kernel
set_option maxRecDepth 100000 in
theorem zd_68 : zcdchk zm_68 := by unfold zcdchk; decide +kernel
set_option maxRecDepth 100000 in
theorem zd_69 : zcdchk zm_69 := by unfold zcdchk; decide +kernel
set_option maxRecDepth 100000 in
theorem zd_70 : zcdchk zm_70 := by unfold zcdchk; decide +kernel
set_option maxRecDepth 100000 in
theorem zd_71 : zcdchk zm_71 := by unfold zcdchk; decide +kernel
set_option maxRecDepth 100000 in
theorem zd_72 : zcdchk zm_72 := by unfold zcdchk; decide +kernel
set_option maxRecDepth 100000 in
theorem zd_73 : zcdchk zm_73 := by unfold zcdchk; decide +kernel
set_option maxRecDepth 100000 in
theorem zd_74 : zcdchk zm_74 := by unfold zcdchk; decide +kernel
set_option maxRecDepth 100000 in
theorem zd_75 : zcdchk zm_75 := by unfold zcdchk; decide +kernel
set_option maxRecDepth 100000 in
theorem zd_76 : zcdchk zm_76 := by unfold zcdchk; decide +kernel
set_option maxRecDepth 100000 in
theorem zd_77 : zcdchk zm_77 := by unfold zcdchk; decide +kernel
set_option maxRecDepth 100000 in
theorem zd_78 : zcdchk zm_78 := by unfold zcdchk; decide +kernel
set_option maxRecDepth 100000 in
theorem zd_79 : zcdchk zm_79 := by unfold zcdchk; decide +kernel
set_option maxRecDepth 100000 in
theorem zd_80 : zcdchk zm_80 := by unfold zcdchk; decide +kernel
set_option maxRecDepth 100000 in
theorem zd_81 : zcdchk zm_81 := by unfold zcdchk; decide +kernel
set_option maxRecDepth 100000 in
theorem zd_82 : zcdchk zm_82 := by unfold zcdchk; decide +kernel
set_option maxRecDepth 100000 in
theorem zd_83 : zcdchk zm_83 := by unfold zcdchk; decide +kernel
set_option maxRecDepth 100000 in
theorem zd_84 : zcdchk zm_84 := by unfold zcdchk; decide +kernel
set_option maxRecDepth 100000 in
theorem zd_85 : zcdchk zm_85 := by unfold zcdchk; decide +kernel
set_option maxRecDepth 100000 in
theorem zd_86 : zcdchk zm_86 := by unfold zcdchk; decide +kernel
set_option maxRecDepth 100000 in
theorem zd_87 : zcdchk zm_87 := by unfold zcdchk; decide +kernel
set_option maxRecDepth 100000 in
theorem zd_88 : zcdchk zm_88 := by unfold zcdchk; decide +kernel
set_option maxRecDepth 100000 in
theorem zd_89_0 : zchkE prog_1_method_50_code zc_89_0 = true := by decide +kernel
set_option maxRecDepth 100000 in
theorem zd_89_1 : zchkE prog_1_method_50_code zc_89_1 = true := by decide +kernel
theorem zd_89 : zcdchk zm_89 := zchkE_app zd_89_0 (zd_89_1)
set_option maxRecDepth 100000 in
theorem zd_90 : zcdchk zm_90 := by unfold zcdchk; decide +kernel
set_option maxRecDepth 100000 in
theorem zd_91 : zcdchk zm_91 := by unfold zcdchk; decide +kernel
set_option maxRecDepth 100000 in
theorem zd_92 : zcdchk zm_92 := by unfold zcdchk; decide +kernel
set_option maxRecDepth 100000 in
theorem zd_93 : zcdchk zm_93 := by unfold zcdchk; decide +kernel
set_option maxRecDepth 100000 in
theorem zd_94 : zcdchk zm_94 := by unfold zcdchk; decide +kernel
set_option maxRecDepth 100000 in
theorem zd_95 : zcdchk zm_95 := by unfold zcdchk; decide +kernel
set_option maxRecDepth 100000 in
theorem zd_96 : zcdchk zm_96 := by unfold zcdchk; decide +kernel
set_option maxRecDepth 100000 in
theorem zd_97 : zcdchk zm_97 := by unfold zcdchk; decide +kernel
set_option maxRecDepth 100000 in
theorem zd_98 : zcdchk zm_98 := by unfold zcdchk; decide +kernel
set_option maxRecDepth 100000 in
theorem zd_99 : zcdchk zm_99 := by unfold zcdchk; decide +kernel
set_option maxRecDepth 100000 in
theorem zd_100 : zcdchk zm_100 := by unfold zcdchk; decide +kernel
set_option maxRecDepth 100000 in
theorem zd_101 : zcdchk zm_101 := by unfold zcdchk; decide +kernel
set_option maxRecDepth 100000 in
theorem zd_102 : zcdchk zm_102 := by unfold zcdchk; decide +kernel
set_option maxRecDepth 100000 in
theorem zd_103 : zcdchk zm_103 := by unfold zcdchk; decide +kernel
set_option maxRecDepth 100000 in
theorem zd_104 : zcdchk zm_104 := by unfold zcdchk; decide +kernel
set_option maxRecDepth 100000 in
theorem zd_105 : zcdchk zm_105 := by unfold zcdchk; decide +kernel
set_option maxRecDepth 100000 in
theorem zd_106 : zcdchk zm_106 := by unfold zcdchk; decide +kernel
set_option maxRecDepth 100000 in
theorem zd_107 : zcdchk zm_107 := by unfold zcdchk; decide +kernel
set_option maxRecDepth 100000 in
theorem zd_108 : zcdchk zm_108 := by unfold zcdchk; decide +kernel
set_option maxRecDepth 100000 in
theorem zd_109 : zcdchk zm_109 := by unfold zcdchk; decide +kernel
set_option maxRecDepth 100000 in
theorem zd_110_0 : zchkE prog_1_method_71_code zc_110_0 = true := by decide +kernel
set_option maxRecDepth 100000 in
theorem zd_110_1 : zchkE prog_1_method_71_code zc_110_1 = true := by decide +kernel
theorem zd_110 : zcdchk zm_110 := zchkE_app zd_110_0 (zd_110_1)
set_option maxRecDepth 100000 in
theorem zd_111 : zcdchk zm_111 := by unfold zcdchk; decide +kernel
set_option maxRecDepth 100000 in
theorem zd_112 : zcdchk zm_112 := by unfold zcdchk; decide +kernel
set_option maxRecDepth 100000 in
theorem zd_113 : zcdchk zm_113 := by unfold zcdchk; decide +kernel
set_option maxRecDepth 100000 in
theorem zd_114_0 : zchkE prog_12_method_1_code zc_114_0 = true := by decide +kernel
set_option maxRecDepth 100000 in
theorem zd_114_1 : zchkE prog_12_method_1_code zc_114_1 = true := by decide +kernel
set_option maxRecDepth 100000 in
theorem zd_114_2 : zchkE prog_12_method_1_code zc_114_2 = true := by decide +kernel
theorem zd_114 : zcdchk zm_114 := zchkE_app zd_114_0 (zchkE_app zd_114_1 (zd_114_2))
set_option maxRecDepth 100000 in
theorem zd_115 : zcdchk zm_115 := by unfold zcdchk; decide +kernel
set_option maxRecDepth 100000 in
theorem zd_116 : zcdchk zm_116 := by unfold zcdchk; decide +kernel
set_option maxRecDepth 100000 in
theorem zd_117 : zcdchk zm_117 := by unfold zcdchk; decide +kernel
set_option maxRecDepth 100000 in
theorem zd_118 : zcdchk zm_118 := by unfold zcdchk; decide +kernel
set_option maxRecDepth 100000 in
theorem zd_119 : zcdchk zm_119 := by unfold zcdchk; decide +kernel
set_option maxRecDepth 100000 in
theorem zd_120_0 : zchkE prog_12_method_7_code zc_120_0 = true := by decide +kernel
set_option maxRecDepth 100000 in
theorem zd_120_1 : zchkE prog_12_method_7_code zc_120_1 = true := by decide +kernel
theorem zd_120 : zcdchk zm_120 := zchkE_app zd_120_0 (zd_120_1)
set_option maxRecDepth 100000 in
theorem zd_121 : zcdchk zm_121 := by unfold zcdchk; decide +kernel
set_option maxRecDepth 100000 in
theorem zd_122 : zcdchk zm_122 := by unfold zcdchk; decide +kernel
set_option maxRecDepth 100000 in
theorem zd_123 : zcdchk zm_123 := by unfold zcdchk; decide +kernel
set_option maxRecDepth 100000 in
theorem zd_124_0 : zchkE prog_12_method_11_code zc_124_0 = true := by decide +kernel
set_option maxRecDepth 100000 in
theorem zd_124_1 : zchkE prog_12_method_11_code zc_124_1 = true := by decide +kernel
set_option maxRecDepth 100000 in
theorem zd_124_2 : zchkE prog_12_method_11_code zc_124_2 = true := by decide +kernel
theorem zd_124 : zcdchk zm_124 := zchkE_app zd_124_0 (zchkE_app zd_124_1 (zd_124_2))
set_option maxRecDepth 100000 in
theorem zd_125 : zcdchk zm_125 := by unfold zcdchk; decide +kernel
set_option maxRecDepth 100000 in
theorem zd_126_0 : zchkE prog_12_method_13_code zc_126_0 = true := by decide +kernel
set_option maxRecDepth 100000 in
theorem zd_126_1 : zchkE prog_12_method_13_code zc_126_1 = true := by decide +kernel
theorem zd_126 : zcdchk zm_126 := zchkE_app zd_126_0 (zd_126_1)
set_option maxRecDepth 100000 in
theorem zd_127_0 : zchkE prog_12_method_14_code zc_127_0 = true := by decide +kernel
set_option maxRecDepth 100000 in
theorem zd_127_1 : zchkE prog_12_method_14_code zc_127_1 = true := by decide +kernel
set_option maxRecDepth 100000 in
theorem zd_127_2 : zchkE prog_12_method_14_code zc_127_2 = true := by decide +kernel
theorem zd_127 : zcdchk zm_127 := zchkE_app zd_127_0 (zchkE_app zd_127_1 (zd_127_2))
set_option maxRecDepth 100000 in
theorem zd_128 : zcdchk zm_128 := by unfold zcdchk; decide +kernel
set_option maxRecDepth 100000 in
theorem zd_129 : zcdchk zm_129 := by unfold zcdchk; decide +kernel
set_option maxRecDepth 100000 in
theorem zd_130 : zcdchk zm_130 := by unfold zcdchk; decide +kernel
set_option maxRecDepth 100000 in
theorem zd_131 : zcdchk zm_131 := by unfold zcdchk; decide +kernel
set_option maxRecDepth 100000 in
theorem zd_132 : zcdchk zm_132 := by unfold zcdchk; decide +kernel
set_option maxRecDepth 100000 in
theorem zd_133_0 : zchkE prog_12_method_20_code zc_133_0 = true := by decide +kernel
set_option maxRecDepth 100000 in
theorem zd_133_1 : zchkE prog_12_method_20_code zc_133_1 = true := by decide +kernel
theorem zd_133 : zcdchk zm_133 := zchkE_app zd_133_0 (zd_133_1)
set_option maxRecDepth 100000 in
theorem zd_134_0 : zchkE prog_12_method_21_code zc_134_0 = true := by decide +kernel
set_option maxRecDepth 100000 in
theorem zd_134_1 : zchkE prog_12_method_21_code zc_134_1 = true := by decide +kernel
set_option maxRecDepth 100000 in
theorem zd_134_2 : zchkE prog_12_method_21_code zc_134_2 = true := by decide +kernel
theorem zd_134 : zcdchk zm_134 := zchkE_app zd_134_0 (zchkE_app zd_134_1 (zd_134_2))
set_option maxRecDepth 100000 in
theorem zd_135_0 : zchkE prog_12_method_22_code zc_135_0 = true := by decide +kernel
set_option maxRecDepth 100000 in
theorem zd_135_1 : zchkE prog_12_method_22_code zc_135_1 = true := by decide +kernel
set_option maxRecDepth 100000 in
theorem zd_135_2 : zchkE prog_12_method_22_code zc_135_2 = true := by decide +kernel
theorem zd_135 : zcdchk zm_135 := zchkE_app zd_135_0 (zchkE_app zd_135_1 (zd_135_2))
set_option maxRecDepth 100000 in
theorem zd_136_0 : zchkE prog_12_method_23_code zc_136_0 = true := by decide +kernel
set_option maxRecDepth 100000 in
theorem zd_136_1 : zchkE prog_12_method_23_code zc_136_1 = true := by decide +kernel
theorem zd_136 : zcdchk zm_136 := zchkE_app zd_136_0 (zd_136_1)
set_option maxRecDepth 100000 in
theorem zd_137_0 : zchkE prog_12_method_24_code zc_137_0 = true := by decide +kernel
set_option maxRecDepth 100000 in
theorem zd_137_1 : zchkE prog_12_method_24_code zc_137_1 = true := by decide +kernel
theorem zd_137 : zcdchk zm_137 := zchkE_app zd_137_0 (zd_137_1)
set_option maxRecDepth 100000 in
theorem zd_138_0 : zchkE prog_12_method_25_code zc_138_0 = true := by decide +kernel
set_option maxRecDepth 100000 in
theorem zd_138_1 : zchkE prog_12_method_25_code zc_138_1 = true := by decide +kernel
theorem zd_138 : zcdchk zm_138 := zchkE_app zd_138_0 (zd_138_1)
set_option maxRecDepth 100000 in
theorem zd_139 : zcdchk zm_139 := by unfold zcdchk; decide +kernel
set_option maxRecDepth 100000 in
theorem zd_140 : zcdchk zm_140 := by unfold zcdchk; decide +kernel
set_option maxRecDepth 100000 in
theorem zd_141 : zcdchk zm_141 := by unfold zcdchk; decide +kernel
set_option maxRecDepth 100000 in
theorem zd_142 : zcdchk zm_142 := by unfold zcdchk; decide +kernel
set_option maxRecDepth 100000 in
theorem zd_143 : zcdchk zm_143 := by unfold zcdchk; decide +kernel
set_option maxRecDepth 100000 in
theorem zd_144 : zcdchk zm_144 := by unfold zcdchk; decide +kernel
set_option maxRecDepth 100000 in
theorem zd_145 : zcdchk zm_145 := by unfold zcdchk; decide +kernel
set_option maxRecDepth 100000 in
theorem zd_146 : zcdchk zm_146 := by unfold zcdchk; decide +kernel
set_option maxRecDepth 100000 in
theorem zd_147 : zcdchk zm_147 := by unfold zcdchk; decide +kernel
set_option maxRecDepth 100000 in
theorem zd_148 : zcdchk zm_148 := by unfold zcdchk; decide +kernel
set_option maxRecDepth 100000 in
theorem zd_149 : zcdchk zm_149 := by unfold zcdchk; decide +kernel
set_option maxRecDepth 100000 in
theorem zd_150 : zcdchk zm_150 := by unfold zcdchk; decide +kernel
set_option maxRecDepth 100000 in
theorem zd_151_0 : zchkE code zc_151_0 = true := by decide +kernel
set_option maxRecDepth 100000 in
theorem zd_151_1 : zchkE code zc_151_1 = true := by decide +kernel
set_option maxRecDepth 100000 in
theorem zd_151_2 : zchkE code zc_151_2 = true := by decide +kernel
set_option maxRecDepth 100000 in
theorem zd_151_3 : zchkE code zc_151_3 = true := by decide +kernel
set_option maxRecDepth 100000 in
theorem zd_151_4 : zchkE code zc_151_4 = true := by decide +kernel
set_option maxRecDepth 100000 in
theorem zd_151_5 : zchkE code zc_151_5 = true := by decide +kernel
set_option maxRecDepth 100000 in
theorem zd_151_6 : zchkE code zc_151_6 = true := by decide +kernel
set_option maxRecDepth 100000 in
theorem zd_151_7 : zchkE code zc_151_7 = true := by decide +kernel
set_option maxRecDepth 100000 in
theorem zd_151_8 : zchkE code zc_151_8 = true := by decide +kernel
theorem zd_151 : zcdchk zm_151 := zchkE_app zd_151_0 (zchkE_app zd_151_1 (zchkE_app zd_151_2 (zchkE_app zd_151_3 (zchkE_app zd_151_4 (zchkE_app zd_151_5 (zchkE_app zd_151_6 (zchkE_app zd_151_7 (zd_151_8))))))))
