/-! the tables are right: by the kernel (by program: wip/whole/gen/emit_chk.py) -/
def zlen : Instr → Nat
  | .iconst _ | .lconst _ | .dconst _ | .iload_n _ | .lload_n _ | .dload_n _ | .aload_n _ | .istore_n _ | .lstore_n _ | .dstore_n _ | .astore_n _ => 1
  | .iadd | .isub | .imul | .iand | .ior | .ixor | .ishl | .ishr | .ladd | .lmul | .lcmp | .i2l | .i2d | .ddiv | .dcmp _ => 1
  | .iaload | .laload | .daload | .aaload | .baload | .iastore | .lastore | .dastore | .aastore | .bastore | .arraylength | .dup | .dup_x1 | .dup_x2 | .dup2 | .pop | .ireturn | .lreturn | .dreturn | .areturn | .return_ | .athrow => 1
  | .bipush _ | .ldc _ | .iload _ | .lload _ | .dload _ | .aload _ | .istore _ | .lstore _ | .dstore _ | .astore _ | .newarray _ => 2
  | .tableswitch _ _ _ _ => 0
  | _ => 3
def zchkE (b : ByteArray) (l : List (Nat × Instr × Nat)) : Bool := l.all (fun e => decide (decode b e.1 = .ok e.2) && (zlen e.2.1 == 0 || zlen e.2.1 == e.2.2))
theorem zchkE_app {b : ByteArray} {l1 l2 : List (Nat × Instr × Nat)} (h1 : zchkE b l1 = true) (h2 : zchkE b l2 = true) : zchkE b (l1 ++ l2) = true := by
  unfold zchkE at h1 h2 ⊢
  rw [List.all_append, h1, h2]
  rfl
def zcdchk (K : zI) : Prop := zchkE (zk_by K) (zk_cd K) = true
set_option maxRecDepth 100000 in
theorem zd_0 : zcdchk zm_0 := by unfold zcdchk; decide +kernel
set_option maxRecDepth 100000 in
theorem zd_1 : zcdchk zm_1 := by unfold zcdchk; decide +kernel
set_option maxRecDepth 100000 in
theorem zd_2 : zcdchk zm_2 := by unfold zcdchk; decide +kernel
set_option maxRecDepth 100000 in
theorem zd_3 : zcdchk zm_3 := by unfold zcdchk; decide +kernel
set_option maxRecDepth 100000 in
theorem zd_4 : zcdchk zm_4 := by unfold zcdchk; decide +kernel
set_option maxRecDepth 100000 in
theorem zd_5 : zcdchk zm_5 := by unfold zcdchk; decide +kernel
set_option maxRecDepth 100000 in
theorem zd_6 : zcdchk zm_6 := by unfold zcdchk; decide +kernel
set_option maxRecDepth 100000 in
theorem zd_7 : zcdchk zm_7 := by unfold zcdchk; decide +kernel
set_option maxRecDepth 100000 in
theorem zd_8 : zcdchk zm_8 := by unfold zcdchk; decide +kernel
set_option maxRecDepth 100000 in
theorem zd_9 : zcdchk zm_9 := by unfold zcdchk; decide +kernel
set_option maxRecDepth 100000 in
theorem zd_10 : zcdchk zm_10 := by unfold zcdchk; decide +kernel
set_option maxRecDepth 100000 in
theorem zd_11 : zcdchk zm_11 := by unfold zcdchk; decide +kernel
set_option maxRecDepth 100000 in
theorem zd_12 : zcdchk zm_12 := by unfold zcdchk; decide +kernel
set_option maxRecDepth 100000 in
theorem zd_13 : zcdchk zm_13 := by unfold zcdchk; decide +kernel
set_option maxRecDepth 100000 in
theorem zd_14 : zcdchk zm_14 := by unfold zcdchk; decide +kernel
set_option maxRecDepth 100000 in
theorem zd_15 : zcdchk zm_15 := by unfold zcdchk; decide +kernel
set_option maxRecDepth 100000 in
theorem zd_16 : zcdchk zm_16 := by unfold zcdchk; decide +kernel
set_option maxRecDepth 100000 in
theorem zd_17 : zcdchk zm_17 := by unfold zcdchk; decide +kernel
set_option maxRecDepth 100000 in
theorem zd_18 : zcdchk zm_18 := by unfold zcdchk; decide +kernel
set_option maxRecDepth 100000 in
theorem zd_19 : zcdchk zm_19 := by unfold zcdchk; decide +kernel
set_option maxRecDepth 100000 in
theorem zd_20 : zcdchk zm_20 := by unfold zcdchk; decide +kernel
set_option maxRecDepth 100000 in
theorem zd_21 : zcdchk zm_21 := by unfold zcdchk; decide +kernel
set_option maxRecDepth 100000 in
theorem zd_22 : zcdchk zm_22 := by unfold zcdchk; decide +kernel
set_option maxRecDepth 100000 in
theorem zd_23_0 : zchkE prog_6_method_3_code zc_23_0 = true := by decide +kernel
set_option maxRecDepth 100000 in
theorem zd_23_1 : zchkE prog_6_method_3_code zc_23_1 = true := by decide +kernel
theorem zd_23 : zcdchk zm_23 := zchkE_app zd_23_0 (zd_23_1)
set_option maxRecDepth 100000 in
theorem zd_24 : zcdchk zm_24 := by unfold zcdchk; decide +kernel
set_option maxRecDepth 100000 in
theorem zd_25 : zcdchk zm_25 := by unfold zcdchk; decide +kernel
set_option maxRecDepth 100000 in
theorem zd_26 : zcdchk zm_26 := by unfold zcdchk; decide +kernel
set_option maxRecDepth 100000 in
theorem zd_27 : zcdchk zm_27 := by unfold zcdchk; decide +kernel
set_option maxRecDepth 100000 in
theorem zd_28 : zcdchk zm_28 := by unfold zcdchk; decide +kernel
set_option maxRecDepth 100000 in
theorem zd_29 : zcdchk zm_29 := by unfold zcdchk; decide +kernel
set_option maxRecDepth 100000 in
theorem zd_30 : zcdchk zm_30 := by unfold zcdchk; decide +kernel
set_option maxRecDepth 100000 in
theorem zd_31_0 : zchkE prog_2_method_1_code zc_31_0 = true := by decide +kernel
set_option maxRecDepth 100000 in
theorem zd_31_1 : zchkE prog_2_method_1_code zc_31_1 = true := by decide +kernel
theorem zd_31 : zcdchk zm_31 := zchkE_app zd_31_0 (zd_31_1)
set_option maxRecDepth 100000 in
theorem zd_32 : zcdchk zm_32 := by unfold zcdchk; decide +kernel
set_option maxRecDepth 100000 in
theorem zd_33 : zcdchk zm_33 := by unfold zcdchk; decide +kernel
set_option maxRecDepth 100000 in
theorem zd_34 : zcdchk zm_34 := by unfold zcdchk; decide +kernel
set_option maxRecDepth 100000 in
theorem zd_35 : zcdchk zm_35 := by unfold zcdchk; decide +kernel
set_option maxRecDepth 100000 in
theorem zd_36 : zcdchk zm_36 := by unfold zcdchk; decide +kernel
set_option maxRecDepth 100000 in
theorem zd_37 : zcdchk zm_37 := by unfold zcdchk; decide +kernel
set_option maxRecDepth 100000 in
theorem zd_38 : zcdchk zm_38 := by unfold zcdchk; decide +kernel
set_option maxRecDepth 100000 in
theorem zd_39 : zcdchk zm_39 := by unfold zcdchk; decide +kernel
set_option maxRecDepth 100000 in
theorem zd_40_0 : zchkE prog_1_method_1_code zc_40_0 = true := by decide +kernel
set_option maxRecDepth 100000 in
theorem zd_40_1 : zchkE prog_1_method_1_code zc_40_1 = true := by decide +kernel
theorem zd_40 : zcdchk zm_40 := zchkE_app zd_40_0 (zd_40_1)
set_option maxRecDepth 100000 in
theorem zd_41 : zcdchk zm_41 := by unfold zcdchk; decide +kernel
set_option maxRecDepth 100000 in
theorem zd_42 : zcdchk zm_42 := by unfold zcdchk; decide +kernel
set_option maxRecDepth 100000 in
theorem zd_43 : zcdchk zm_43 := by unfold zcdchk; decide +kernel
set_option maxRecDepth 100000 in
theorem zd_44 : zcdchk zm_44 := by unfold zcdchk; decide +kernel
set_option maxRecDepth 100000 in
theorem zd_45 : zcdchk zm_45 := by unfold zcdchk; decide +kernel
set_option maxRecDepth 100000 in
theorem zd_46 : zcdchk zm_46 := by unfold zcdchk; decide +kernel
set_option maxRecDepth 100000 in
theorem zd_47 : zcdchk zm_47 := by unfold zcdchk; decide +kernel
set_option maxRecDepth 100000 in
theorem zd_48 : zcdchk zm_48 := by unfold zcdchk; decide +kernel
set_option maxRecDepth 100000 in
theorem zd_49 : zcdchk zm_49 := by unfold zcdchk; decide +kernel
set_option maxRecDepth 100000 in
theorem zd_50_0 : zchkE prog_1_method_11_code zc_50_0 = true := by decide +kernel
set_option maxRecDepth 100000 in
theorem zd_50_1 : zchkE prog_1_method_11_code zc_50_1 = true := by decide +kernel
theorem zd_50 : zcdchk zm_50 := zchkE_app zd_50_0 (zd_50_1)
set_option maxRecDepth 100000 in
theorem zd_51 : zcdchk zm_51 := by unfold zcdchk; decide +kernel
set_option maxRecDepth 100000 in
theorem zd_52 : zcdchk zm_52 := by unfold zcdchk; decide +kernel
set_option maxRecDepth 100000 in
theorem zd_53 : zcdchk zm_53 := by unfold zcdchk; decide +kernel
set_option maxRecDepth 100000 in
theorem zd_54 : zcdchk zm_54 := by unfold zcdchk; decide +kernel
set_option maxRecDepth 100000 in
theorem zd_55 : zcdchk zm_55 := by unfold zcdchk; decide +kernel
set_option maxRecDepth 100000 in
theorem zd_56 : zcdchk zm_56 := by unfold zcdchk; decide +kernel
set_option maxRecDepth 100000 in
theorem zd_57 : zcdchk zm_57 := by unfold zcdchk; decide +kernel
set_option maxRecDepth 100000 in
theorem zd_58 : zcdchk zm_58 := by unfold zcdchk; decide +kernel
set_option maxRecDepth 100000 in
theorem zd_59 : zcdchk zm_59 := by unfold zcdchk; decide +kernel
set_option maxRecDepth 100000 in
theorem zd_60 : zcdchk zm_60 := by unfold zcdchk; decide +kernel
set_option maxRecDepth 100000 in
theorem zd_61 : zcdchk zm_61 := by unfold zcdchk; decide +kernel
set_option maxRecDepth 100000 in
theorem zd_62 : zcdchk zm_62 := by unfold zcdchk; decide +kernel
set_option maxRecDepth 100000 in
theorem zd_63 : zcdchk zm_63 := by unfold zcdchk; decide +kernel
set_option maxRecDepth 100000 in
theorem zd_64 : zcdchk zm_64 := by unfold zcdchk; decide +kernel
set_option maxRecDepth 100000 in
theorem zd_65 : zcdchk zm_65 := by unfold zcdchk; decide +kernel
set_option maxRecDepth 100000 in
theorem zd_66 : zcdchk zm_66 := by unfold zcdchk; decide +kernel
set_option maxRecDepth 100000 in
theorem zd_67 : zcdchk zm_67 := by unfold zcdchk; decide +kernel
set_option maxRecDepth 100000 in
theorem zd_68 : zcdchk zm_68 := by unfold zcdchk; decide +kernel
set_option maxRecDepth 100000 in
theorem zd_69 : zcdchk zm_69 := by unfold zcdchk; decide +kernel
set_option maxRecDepth 100000 in
theorem zd_70 : zcdchk zm_70 := by unfold zcdchk; decide +kernel
set_option maxRecDepth 100000 in
theorem zd_71 : zcdchk zm_71 := by unfold zcdchk; decide +kernel
set_option maxRecDepth 100000 in
theorem zd_72 : zcdchk zm_72 := by unfold zcdchk; decide +kernel
set_option maxRecDepth 100000 in
theorem zd_73 : zcdchk zm_73 := by unfold zcdchk; decide +kernel
set_option maxRecDepth 100000 in
theorem zd_74 : zcdchk zm_74 := by unfold zcdchk; decide +kernel
set_option maxRecDepth 100000 in
theorem zd_75 : zcdchk zm_75 := by unfold zcdchk; decide +kernel
set_option maxRecDepth 100000 in
theorem zd_76 : zcdchk zm_76 := by unfold zcdchk; decide +kernel
set_option maxRecDepth 100000 in
theorem zd_77 : zcdchk zm_77 := by unfold zcdchk; decide +kernel
set_option maxRecDepth 100000 in
theorem zd_78 : zcdchk zm_78 := by unfold zcdchk; decide +kernel
set_option maxRecDepth 100000 in
theorem zd_79 : zcdchk zm_79 := by unfold zcdchk; decide +kernel
set_option maxRecDepth 100000 in
theorem zd_80 : zcdchk zm_80 := by unfold zcdchk; decide +kernel
set_option maxRecDepth 100000 in
theorem zd_81 : zcdchk zm_81 := by unfold zcdchk; decide +kernel
set_option maxRecDepth 100000 in
theorem zd_82 : zcdchk zm_82 := by unfold zcdchk; decide +kernel
set_option maxRecDepth 100000 in
theorem zd_83 : zcdchk zm_83 := by unfold zcdchk; decide +kernel
set_option maxRecDepth 100000 in
theorem zd_84 : zcdchk zm_84 := by unfold zcdchk; decide +kernel
set_option maxRecDepth 100000 in
theorem zd_85 : zcdchk zm_85 := by unfold zcdchk; decide +kernel
set_option maxRecDepth 100000 in
theorem zd_86 : zcdchk zm_86 := by unfold zcdchk; decide +kernel
set_option maxRecDepth 100000 in
theorem zd_87 : zcdchk zm_87 := by unfold zcdchk; decide +kernel
set_option maxRecDepth 100000 in
theorem zd_88 : zcdchk zm_88 := by unfold zcdchk; decide +kernel
set_option maxRecDepth 100000 in
theorem zd_89_0 : zchkE prog_1_method_50_code zc_89_0 = true := by decide +kernel
set_option maxRecDepth 100000 in
theorem zd_89_1 : zchkE prog_1_method_50_code zc_89_1 = true := by decide +kernel
theorem zd_89 : zcdchk zm_89 := zchkE_app zd_89_0 (zd_89_1)
set_option maxRecDepth 100000 in
theorem zd_90 : zcdchk zm_90 := by unfold zcdchk; decide +kernel
set_option maxRecDepth 100000 in
theorem zd_91 : zcdchk zm_91 := by unfold zcdchk; decide +kernel
set_option maxRecDepth 100000 in
theorem zd_92 : zcdchk zm_92 := by unfold zcdchk; decide +kernel
set_option maxRecDepth 100000 in
theorem zd_93 : zcdchk zm_93 := by unfold zcdchk; decide +kernel
set_option maxRecDepth 100000 in
theorem zd_94 : zcdchk zm_94 := by unfold zcdchk; decide +kernel
set_option maxRecDepth 100000 in
theorem zd_95 : zcdchk zm_95 := by unfold zcdchk; decide +kernel
set_option maxRecDepth 100000 in
theorem zd_96 : zcdchk zm_96 := by unfold zcdchk; decide +kernel
set_option maxRecDepth 100000 in
theorem zd_97 : zcdchk zm_97 := by unfold zcdchk; decide +kernel
set_option maxRecDepth 100000 in
theorem zd_98 : zcdchk zm_98 := by unfold zcdchk; decide +kernel
set_option maxRecDepth 100000 in
theorem zd_99 : zcdchk zm_99 := by unfold zcdchk; decide +kernel
set_option maxRecDepth 100000 in
theorem zd_100 : zcdchk zm_100 := by unfold zcdchk; decide +kernel
set_option maxRecDepth 100000 in
theorem zd_101 : zcdchk zm_101 := by unfold zcdchk; decide +kernel
set_option maxRecDepth 100000 in
theorem zd_102 : zcdchk zm_102 := by unfold zcdchk; decide +kernel
set_option maxRecDepth 100000 in
theorem zd_103 : zcdchk zm_103 := by unfold zcdchk; decide +kernel
set_option maxRecDepth 100000 in
theorem zd_104 : zcdchk zm_104 := by unfold zcdchk; decide +kernel
set_option maxRecDepth 100000 in
theorem zd_105 : zcdchk zm_105 := by unfold zcdchk; decide +kernel
set_option maxRecDepth 100000 in
theorem zd_106 : zcdchk zm_106 := by unfold zcdchk; decide +kernel
set_option maxRecDepth 100000 in
theorem zd_107 : zcdchk zm_107 := by unfold zcdchk; decide +kernel
set_option maxRecDepth 100000 in
theorem zd_108 : zcdchk zm_108 := by unfold zcdchk; decide +kernel
set_option maxRecDepth 100000 in
theorem zd_109 : zcdchk zm_109 := by unfold zcdchk; decide +kernel
set_option maxRecDepth 100000 in
theorem zd_110_0 : zchkE prog_1_method_71_code zc_110_0 = true := by decide +kernel
set_option maxRecDepth 100000 in
theorem zd_110_1 : zchkE prog_1_method_71_code zc_110_1 = true := by decide +kernel
theorem zd_110 : zcdchk zm_110 := zchkE_app zd_110_0 (zd_110_1)
set_option maxRecDepth 100000 in
theorem zd_111 : zcdchk zm_111 := by unfold zcdchk; decide +kernel
set_option maxRecDepth 100000 in
theorem zd_112 : zcdchk zm_112 := by unfold zcdchk; decide +kernel
set_option maxRecDepth 100000 in
theorem zd_113 : zcdchk zm_113 := by unfold zcdchk; decide +kernel
set_option maxRecDepth 100000 in
theorem zd_114_0 : zchkE prog_12_method_1_code zc_114_0 = true := by decide +kernel
set_option maxRecDepth 100000 in
theorem zd_114_1 : zchkE prog_12_method_1_code zc_114_1 = true := by decide +kernel
set_option maxRecDepth 100000 in
theorem zd_114_2 : zchkE prog_12_method_1_code zc_114_2 = true := by decide +kernel
theorem zd_114 : zcdchk zm_114 := zchkE_app zd_114_0 (zchkE_app zd_114_1 (zd_114_2))
set_option maxRecDepth 100000 in
theorem zd_115 : zcdchk zm_115 := by unfold zcdchk; decide +kernel
set_option maxRecDepth 100000 in
theorem zd_116 : zcdchk zm_116 := by unfold zcdchk; decide +kernel
set_option maxRecDepth 100000 in
theorem zd_117 : zcdchk zm_117 := by unfold zcdchk; decide +kernel
set_option maxRecDepth 100000 in
theorem zd_118 : zcdchk zm_118 := by unfold zcdchk; decide +kernel
set_option maxRecDepth 100000 in
theorem zd_119 : zcdchk zm_119 := by unfold zcdchk; decide +kernel
set_option maxRecDepth 100000 in
theorem zd_120 : zcdchk zm_120 := by unfold zcdchk; decide +kernel
set_option maxRecDepth 100000 in
theorem zd_121 : zcdchk zm_121 := by unfold zcdchk; decide +kernel
set_option maxRecDepth 100000 in
theorem zd_122 : zcdchk zm_122 := by unfold zcdchk; decide +kernel
set_option maxRecDepth 100000 in
theorem zd_123 : zcdchk zm_123 := by unfold zcdchk; decide +kernel
set_option maxRecDepth 100000 in
theorem zd_124 : zcdchk zm_124 := by unfold zcdchk; decide +kernel
set_option maxRecDepth 100000 in
theorem zd_125 : zcdchk zm_125 := by unfold zcdchk; decide +kernel
set_option maxRecDepth 100000 in
theorem zd_126 : zcdchk zm_126 := by unfold zcdchk; decide +kernel
set_option maxRecDepth 100000 in
theorem zd_127 : zcdchk zm_127 := by unfold zcdchk; decide +kernel
set_option maxRecDepth 100000 in
theorem zd_128 : zcdchk zm_128 := by unfold zcdchk; decide +kernel
set_option maxRecDepth 100000 in
theorem zd_129 : zcdchk zm_129 := by unfold zcdchk; decide +kernel
set_option maxRecDepth 100000 in
theorem zd_130_0 : zchkE prog_12_method_17_code zc_130_0 = true := by decide +kernel
set_option maxRecDepth 100000 in
theorem zd_130_1 : zchkE prog_12_method_17_code zc_130_1 = true := by decide +kernel
theorem zd_130 : zcdchk zm_130 := zchkE_app zd_130_0 (zd_130_1)
set_option maxRecDepth 100000 in
theorem zd_131 : zcdchk zm_131 := by unfold zcdchk; decide +kernel
set_option maxRecDepth 100000 in
theorem zd_132_0 : zchkE prog_12_method_19_code zc_132_0 = true := by decide +kernel
set_option maxRecDepth 100000 in
theorem zd_132_1 : zchkE prog_12_method_19_code zc_132_1 = true := by decide +kernel
theorem zd_132 : zcdchk zm_132 := zchkE_app zd_132_0 (zd_132_1)
set_option maxRecDepth 100000 in
theorem zd_133 : zcdchk zm_133 := by unfold zcdchk; decide +kernel
set_option maxRecDepth 100000 in
theorem zd_134_0 : zchkE prog_12_method_21_code zc_134_0 = true := by decide +kernel
set_option maxRecDepth 100000 in
theorem zd_134_1 : zchkE prog_12_method_21_code zc_134_1 = true := by decide +kernel
theorem zd_134 : zcdchk zm_134 := zchkE_app zd_134_0 (zd_134_1)
set_option maxRecDepth 100000 in
theorem zd_135 : zcdchk zm_135 := by unfold zcdchk; decide +kernel
set_option maxRecDepth 100000 in
theorem zd_136_0 : zchkE prog_12_method_23_code zc_136_0 = true := by decide +kernel
set_option maxRecDepth 100000 in
theorem zd_136_1 : zchkE prog_12_method_23_code zc_136_1 = true := by decide +kernel
theorem zd_136 : zcdchk zm_136 := zchkE_app zd_136_0 (zd_136_1)
set_option maxRecDepth 100000 in
theorem zd_137_0 : zchkE prog_12_method_24_code zc_137_0 = true := by decide +kernel
set_option maxRecDepth 100000 in
theorem zd_137_1 : zchkE prog_12_method_24_code zc_137_1 = true := by decide +kernel
theorem zd_137 : zcdchk zm_137 := zchkE_app zd_137_0 (zd_137_1)
set_option maxRecDepth 100000 in
theorem zd_138 : zcdchk zm_138 := by unfold zcdchk; decide +kernel
set_option maxRecDepth 100000 in
theorem zd_139 : zcdchk zm_139 := by unfold zcdchk; decide +kernel
set_option maxRecDepth 100000 in
theorem zd_140 : zcdchk zm_140 := by unfold zcdchk; decide +kernel
set_option maxRecDepth 100000 in
theorem zd_141_0 : zchkE prog_12_method_28_code zc_141_0 = true := by decide +kernel
set_option maxRecDepth 100000 in
theorem zd_141_1 : zchkE prog_12_method_28_code zc_141_1 = true := by decide +kernel
theorem zd_141 : zcdchk zm_141 := zchkE_app zd_141_0 (zd_141_1)
set_option maxRecDepth 100000 in
theorem zd_142 : zcdchk zm_142 := by unfold zcdchk; decide +kernel
set_option maxRecDepth 100000 in
theorem zd_143 : zcdchk zm_143 := by unfold zcdchk; decide +kernel
set_option maxRecDepth 100000 in
theorem zd_144 : zcdchk zm_144 := by unfold zcdchk; decide +kernel
set_option maxRecDepth 100000 in
theorem zd_145 : zcdchk zm_145 := by unfold zcdchk; decide +kernel
set_option maxRecDepth 100000 in
theorem zd_146 : zcdchk zm_146 := by unfold zcdchk; decide +kernel
set_option maxRecDepth 100000 in
theorem zd_147 : zcdchk zm_147 := by unfold zcdchk; decide +kernel
set_option maxRecDepth 100000 in
theorem zd_148 : zcdchk zm_148 := by unfold zcdchk; decide +kernel
set_option maxRecDepth 100000 in
theorem zd_149_0 : zchkE prog_12_method_36_code zc_149_0 = true := by decide +kernel
set_option maxRecDepth 100000 in
theorem zd_149_1 : zchkE prog_12_method_36_code zc_149_1 = true := by decide +kernel
theorem zd_149 : zcdchk zm_149 := zchkE_app zd_149_0 (zd_149_1)
set_option maxRecDepth 100000 in
theorem zd_150_0 : zchkE prog_12_method_37_code zc_150_0 = true := by decide +kernel
set_option maxRecDepth 100000 in
theorem zd_150_1 : zchkE prog_12_method_37_code zc_150_1 = true := by decide +kernel
theorem zd_150 : zcdchk zm_150 := zchkE_app zd_150_0 (zd_150_1)
set_option maxRecDepth 100000 in
theorem zd_151 : zcdchk zm_151 := by unfold zcdchk; decide +kernel
set_option maxRecDepth 100000 in
theorem zd_152 : zcdchk zm_152 := by unfold zcdchk; decide +kernel
set_option maxRecDepth 100000 in
theorem zd_153 : zcdchk zm_153 := by unfold zcdchk; decide +kernel
set_option maxRecDepth 100000 in
theorem zd_154 : zcdchk zm_154 := by unfold zcdchk; decide +kernel
set_option maxRecDepth 100000 in
theorem zd_155 : zcdchk zm_155 := by unfold zcdchk; decide +kernel
set_option maxRecDepth 100000 in
theorem zd_156 : zcdchk zm_156 := by unfold zcdchk; decide +kernel
set_option maxRecDepth 100000 in
theorem zd_157 : zcdchk zm_157 := by unfold zcdchk; decide +kernel
set_option maxRecDepth 100000 in
theorem zd_158 : zcdchk zm_158 := by unfold zcdchk; decide +kernel
set_option maxRecDepth 100000 in
theorem zd_159 : zcdchk zm_159 := by unfold zcdchk; decide +kernel
set_option maxRecDepth 100000 in
theorem zd_160 : zcdchk zm_160 := by unfold zcdchk; decide +kernel
set_option maxRecDepth 100000 in
theorem zd_161_0 : zchkE prog_12_method_48_code zc_161_0 = true := by decide +kernel
set_option maxRecDepth 100000 in
theorem zd_161_1 : zchkE prog_12_method_48_code zc_161_1 = true := by decide +kernel
theorem zd_161 : zcdchk zm_161 := zchkE_app zd_161_0 (zd_161_1)
set_option maxRecDepth 100000 in
theorem zd_162 : zcdchk zm_162 := by unfold zcdchk; decide +kernel
set_option maxRecDepth 100000 in
theorem zd_163 : zcdchk zm_163 := by unfold zcdchk; decide +kernel
set_option maxRecDepth 100000 in
theorem zd_164_0 : zchkE prog_12_method_51_code zc_164_0 = true := by decide +kernel
set_option maxRecDepth 100000 in
theorem zd_164_1 : zchkE prog_12_method_51_code zc_164_1 = true := by decide +kernel
theorem zd_164 : zcdchk zm_164 := zchkE_app zd_164_0 (zd_164_1)
set_option maxRecDepth 100000 in
theorem zd_165 : zcdchk zm_165 := by unfold zcdchk; decide +kernel
set_option maxRecDepth 100000 in
theorem zd_166 : zcdchk zm_166 := by unfold zcdchk; decide +kernel
set_option maxRecDepth 100000 in
theorem zd_167 : zcdchk zm_167 := by unfold zcdchk; decide +kernel
set_option maxRecDepth 100000 in
theorem zd_168 : zcdchk zm_168 := by unfold zcdchk; decide +kernel
set_option maxRecDepth 100000 in
theorem zd_169 : zcdchk zm_169 := by unfold zcdchk; decide +kernel
set_option maxRecDepth 100000 in
theorem zd_170_0 : zchkE prog_12_method_57_code zc_170_0 = true := by decide +kernel
set_option maxRecDepth 100000 in
theorem zd_170_1 : zchkE prog_12_method_57_code zc_170_1 = true := by decide +kernel
set_option maxRecDepth 100000 in
theorem zd_170_2 : zchkE prog_12_method_57_code zc_170_2 = true := by decide +kernel
theorem zd_170 : zcdchk zm_170 := zchkE_app zd_170_0 (zchkE_app zd_170_1 (zd_170_2))
set_option maxRecDepth 100000 in
theorem zd_171 : zcdchk zm_171 := by unfold zcdchk; decide +kernel
set_option maxRecDepth 100000 in
theorem zd_172 : zcdchk zm_172 := by unfold zcdchk; decide +kernel
set_option maxRecDepth 100000 in
theorem zd_173 : zcdchk zm_173 := by unfold zcdchk; decide +kernel
set_option maxRecDepth 100000 in
theorem zd_174 : zcdchk zm_174 := by unfold zcdchk; decide +kernel
set_option maxRecDepth 100000 in
theorem zd_175 : zcdchk zm_175 := by unfold zcdchk; decide +kernel
set_option maxRecDepth 100000 in
theorem zd_176 : zcdchk zm_176 := by unfold zcdchk; decide +kernel
set_option maxRecDepth 100000 in
theorem zd_177 : zcdchk zm_177 := by unfold zcdchk; decide +kernel
set_option maxRecDepth 100000 in
theorem zd_178 : zcdchk zm_178 := by unfold zcdchk; decide +kernel
set_option maxRecDepth 100000 in
theorem zd_179 : zcdchk zm_179 := by unfold zcdchk; decide +kernel
set_option maxRecDepth 100000 in
theorem zd_180 : zcdchk zm_180 := by unfold zcdchk; decide +kernel
set_option maxRecDepth 100000 in
theorem zd_181_0 : zchkE prog_12_method_68_code zc_181_0 = true := by decide +kernel
set_option maxRecDepth 100000 in
theorem zd_181_1 : zchkE prog_12_method_68_code zc_181_1 = true := by decide +kernel
set_option maxRecDepth 100000 in
theorem zd_181_2 : zchkE prog_12_method_68_code zc_181_2 = true := by decide +kernel
theorem zd_181 : zcdchk zm_181 := zchkE_app zd_181_0 (zchkE_app zd_181_1 (zd_181_2))
set_option maxRecDepth 100000 in
theorem zd_182 : zcdchk zm_182 := by unfold zcdchk; decide +kernel
set_option maxRecDepth 100000 in
theorem zd_183 : zcdchk zm_183 := by unfold zcdchk; decide +kernel
set_option maxRecDepth 100000 in
theorem zd_184 : zcdchk zm_184 := by unfold zcdchk; decide +kernel
set_option maxRecDepth 100000 in
theorem zd_185 : zcdchk zm_185 := by unfold zcdchk; decide +kernel
set_option maxRecDepth 100000 in
theorem zd_186 : zcdchk zm_186 := by unfold zcdchk; decide +kernel
set_option maxRecDepth 100000 in
theorem zd_187 : zcdchk zm_187 := by unfold zcdchk; decide +kernel
set_option maxRecDepth 100000 in
theorem zd_188 : zcdchk zm_188 := by unfold zcdchk; decide +kernel
set_option maxRecDepth 100000 in
theorem zd_189 : zcdchk zm_189 := by unfold zcdchk; decide +kernel
set_option maxRecDepth 100000 in
theorem zd_190 : zcdchk zm_190 := by unfold zcdchk; decide +kernel
set_option maxRecDepth 100000 in
theorem zd_191 : zcdchk zm_191 := by unfold zcdchk; decide +kernel
set_option maxRecDepth 100000 in
theorem zd_192 : zcdchk zm_192 := by unfold zcdchk; decide +kernel
set_option maxRecDepth 100000 in
theorem zd_193 : zcdchk zm_193 := by unfold zcdchk; decide +kernel
set_option maxRecDepth 100000 in
theorem zd_194 : zcdchk zm_194 := by unfold zcdchk; decide +kernel
set_option maxRecDepth 100000 in
theorem zd_195 : zcdchk zm_195 := by unfold zcdchk; decide +kernel
set_option maxRecDepth 100000 in
theorem zd_196 : zcdchk zm_196 := by unfold zcdchk; decide +kernel
set_option maxRecDepth 100000 in
theorem zd_197 : zcdchk zm_197 := by unfold zcdchk; decide +kernel
set_option maxRecDepth 100000 in
theorem zd_198 : zcdchk zm_198 := by unfold zcdchk; decide +kernel
set_option maxRecDepth 100000 in
theorem zd_199 : zcdchk zm_199 := by unfold zcdchk; decide +kernel
set_option maxRecDepth 100000 in
theorem zd_200 : zcdchk zm_200 := by unfold zcdchk; decide +kernel
set_option maxRecDepth 100000 in
theorem zd_201 : zcdchk zm_201 := by unfold zcdchk; decide +kernel
set_option maxRecDepth 100000 in
theorem zd_202 : zcdchk zm_202 := by unfold zcdchk; decide +kernel
set_option maxRecDepth 100000 in
theorem zd_203 : zcdchk zm_203 := by unfold zcdchk; decide +kernel
set_option maxRecDepth 100000 in
theorem zd_204 : zcdchk zm_204 := by unfold zcdchk; decide +kernel
set_option maxRecDepth 100000 in
theorem zd_205 : zcdchk zm_205 := by unfold zcdchk; decide +kernel
set_option maxRecDepth 100000 in
theorem zd_206 : zcdchk zm_206 := by unfold zcdchk; decide +kernel
set_option maxRecDepth 100000 in
theorem zd_207 : zcdchk zm_207 := by unfold zcdchk; decide +kernel
set_option maxRecDepth 100000 in
theorem zd_208 : zcdchk zm_208 := by unfold zcdchk; decide +kernel
set_option maxRecDepth 100000 in
theorem zd_209 : zcdchk zm_209 := by unfold zcdchk; decide +kernel
set_option maxRecDepth 100000 in
theorem zd_210 : zcdchk zm_210 := by unfold zcdchk; decide +kernel
set_option maxRecDepth 100000 in
theorem zd_211_0 : zchkE code zc_211_0 = true := by decide +kernel
set_option maxRecDepth 100000 in
theorem zd_211_1 : zchkE code zc_211_1 = true := by decide +kernel
set_option maxRecDepth 100000 in
theorem zd_211_2 : zchkE code zc_211_2 = true := by decide +kernel
set_option maxRecDepth 100000 in
theorem zd_211_3 : zchkE code zc_211_3 = true := by decide +kernel
set_option maxRecDepth 100000 in
theorem zd_211_4 : zchkE code zc_211_4 = true := by decide +kernel
set_option maxRecDepth 100000 in
theorem zd_211_5 : zchkE code zc_211_5 = true := by decide +kernel
set_option maxRecDepth 100000 in
theorem zd_211_6 : zchkE code zc_211_6 = true := by decide +kernel
set_option maxRecDepth 100000 in
theorem zd_211_7 : zchkE code zc_211_7 = true := by decide +kernel
set_option maxRecDepth 100000 in
theorem zd_211_8 : zchkE code zc_211_8 = true := by decide +kernel
set_option maxRecDepth 100000 in
theorem zd_211_9 : zchkE code zc_211_9 = true := by decide +kernel
set_option maxRecDepth 100000 in
theorem zd_211_10 : zchkE code zc_211_10 = true := by decide +kernel
set_option maxRecDepth 100000 in
theorem zd_211_11 : zchkE code zc_211_11 = true := by decide +kernel
set_option maxRecDepth 100000 in
theorem zd_211_12 : zchkE code zc_211_12 = true := by decide +kernel
set_option maxRecDepth 100000 in
theorem zd_211_13 : zchkE code zc_211_13 = true := by decide +kernel
set_option maxRecDepth 100000 in
theorem zd_211_14 : zchkE code zc_211_14 = true := by decide +kernel
set_option maxRecDepth 100000 in
theorem zd_211_15 : zchkE code zc_211_15 = true := by decide +kernel
set_option maxRecDepth 100000 in
theorem zd_211_16 : zchkE code zc_211_16 = true := by decide +kernel
set_option maxRecDepth 100000 in
theorem zd_211_17 : zchkE code zc_211_17 = true := by decide +kernel
set_option maxRecDepth 100000 in
theorem zd_211_18 : zchkE code zc_211_18 = true := by decide +kernel
set_option maxRecDepth 100000 in
theorem zd_211_19 : zchkE code zc_211_19 = true := by decide +kernel
set_option maxRecDepth 100000 in
theorem zd_211_20 : zchkE code zc_211_20 = true := by decide +kernel
set_option maxRecDepth 100000 in
theorem zd_211_21 : zchkE code zc_211_21 = true := by decide +kernel
set_option maxRecDepth 100000 in
theorem zd_211_22 : zchkE code zc_211_22 = true := by decide +kernel
set_option maxRecDepth 100000 in
theorem zd_211_23 : zchkE code zc_211_23 = true := by decide +kernel
set_option maxRecDepth 100000 in
theorem zd_211_24 : zchkE code zc_211_24 = true := by decide +kernel
set_option maxRecDepth 100000 in
theorem zd_211_25 : zchkE code zc_211_25 = true := by decide +kernel
set_option maxRecDepth 100000 in
theorem zd_211_26 : zchkE code zc_211_26 = true := by decide +kernel
theorem zd_211 : zcdchk zm_211 := zchkE_app zd_211_0 (zchkE_app zd_211_1 (zchkE_app zd_211_2 (zchkE_app zd_211_3 (zchkE_app zd_211_4 (zchkE_app zd_211_5 (zchkE_app zd_211_6 (zchkE_app zd_211_7 (zchkE_app zd_211_8 (zchkE_app zd_211_9 (zchkE_app zd_211_10 (zchkE_app zd_211_11 (zchkE_app zd_211_12 (zchkE_app zd_211_13 (zchkE_app zd_211_14 (zchkE_app zd_211_15 (zchkE_app zd_211_16 (zchkE_app zd_211_17 (zchkE_app zd_211_18 (zchkE_app zd_211_19 (zchkE_app zd_211_20 (zchkE_app zd_211_21 (zchkE_app zd_211_22 (zchkE_app zd_211_23 (zchkE_app zd_211_24 (zchkE_app zd_211_25 (zd_211_26))))))))))))))))))))))))))
def zmt_0 : List zI := [zm_0, zm_1, zm_2, zm_3, zm_4, zm_5, zm_6, zm_7, zm_8, zm_9, zm_10, zm_11, zm_12, zm_13, zm_14, zm_15, zm_16, zm_17, zm_18, zm_19]
theorem zmtd_0 : ∀ K ∈ zmt_0, zcdchk K := List.forall_mem_cons.mpr ⟨zd_0, List.forall_mem_cons.mpr ⟨zd_1, List.forall_mem_cons.mpr ⟨zd_2, List.forall_mem_cons.mpr ⟨zd_3, List.forall_mem_cons.mpr ⟨zd_4, List.forall_mem_cons.mpr ⟨zd_5, List.forall_mem_cons.mpr ⟨zd_6, List.forall_mem_cons.mpr ⟨zd_7, List.forall_mem_cons.mpr ⟨zd_8, List.forall_mem_cons.mpr ⟨zd_9, List.forall_mem_cons.mpr ⟨zd_10, List.forall_mem_cons.mpr ⟨zd_11, List.forall_mem_cons.mpr ⟨zd_12, List.forall_mem_cons.mpr ⟨zd_13, List.forall_mem_cons.mpr ⟨zd_14, List.forall_mem_cons.mpr ⟨zd_15, List.forall_mem_cons.mpr ⟨zd_16, List.forall_mem_cons.mpr ⟨zd_17, List.forall_mem_cons.mpr ⟨zd_18, List.forall_mem_cons.mpr ⟨zd_19, (fun _ h => absurd h List.not_mem_nil)⟩⟩⟩⟩⟩⟩⟩⟩⟩⟩⟩⟩⟩⟩⟩⟩⟩⟩⟩⟩
def zmt_1 : List zI := [zm_20, zm_21, zm_22, zm_23, zm_24, zm_25, zm_26, zm_27, zm_28, zm_29, zm_30, zm_31, zm_32, zm_33, zm_34, zm_35, zm_36, zm_37, zm_38, zm_39]
theorem zmtd_1 : ∀ K ∈ zmt_1, zcdchk K := List.forall_mem_cons.mpr ⟨zd_20, List.forall_mem_cons.mpr ⟨zd_21, List.forall_mem_cons.mpr ⟨zd_22, List.forall_mem_cons.mpr ⟨zd_23, List.forall_mem_cons.mpr ⟨zd_24, List.forall_mem_cons.mpr ⟨zd_25, List.forall_mem_cons.mpr ⟨zd_26, List.forall_mem_cons.mpr ⟨zd_27, List.forall_mem_cons.mpr ⟨zd_28, List.forall_mem_cons.mpr ⟨zd_29, List.forall_mem_cons.mpr ⟨zd_30, List.forall_mem_cons.mpr ⟨zd_31, List.forall_mem_cons.mpr ⟨zd_32, List.forall_mem_cons.mpr ⟨zd_33, List.forall_mem_cons.mpr ⟨zd_34, List.forall_mem_cons.mpr ⟨zd_35, List.forall_mem_cons.mpr ⟨zd_36, List.forall_mem_cons.mpr ⟨zd_37, List.forall_mem_cons.mpr ⟨zd_38, List.forall_mem_cons.mpr ⟨zd_39, (fun _ h => absurd h List.not_mem_nil)⟩⟩⟩⟩⟩⟩⟩⟩⟩⟩⟩⟩⟩⟩⟩⟩⟩⟩⟩⟩
def zmt_2 : List zI := [zm_40, zm_41, zm_42, zm_43, zm_44, zm_45, zm_46, zm_47, zm_48, zm_49, zm_50, zm_51, zm_52, zm_53, zm_54, zm_55, zm_56, zm_57, zm_58, zm_59]
theorem zmtd_2 : ∀ K ∈ zmt_2, zcdchk K := List.forall_mem_cons.mpr ⟨zd_40, List.forall_mem_cons.mpr ⟨zd_41, List.forall_mem_cons.mpr ⟨zd_42, List.forall_mem_cons.mpr ⟨zd_43, List.forall_mem_cons.mpr ⟨zd_44, List.forall_mem_cons.mpr ⟨zd_45, List.forall_mem_cons.mpr ⟨zd_46, List.forall_mem_cons.mpr ⟨zd_47, List.forall_mem_cons.mpr ⟨zd_48, List.forall_mem_cons.mpr ⟨zd_49, List.forall_mem_cons.mpr ⟨zd_50, List.forall_mem_cons.mpr ⟨zd_51, List.forall_mem_cons.mpr ⟨zd_52, List.forall_mem_cons.mpr ⟨zd_53, List.forall_mem_cons.mpr ⟨zd_54, List.forall_mem_cons.mpr ⟨zd_55, List.forall_mem_cons.mpr ⟨zd_56, List.forall_mem_cons.mpr ⟨zd_57, List.forall_mem_cons.mpr ⟨zd_58, List.forall_mem_cons.mpr ⟨zd_59, (fun _ h => absurd h List.not_mem_nil)⟩⟩⟩⟩⟩⟩⟩⟩⟩⟩⟩⟩⟩⟩⟩⟩⟩⟩⟩⟩
def zmt_3 : List zI := [zm_60, zm_61, zm_62, zm_63, zm_64, zm_65, zm_66, zm_67, zm_68, zm_69, zm_70, zm_71, zm_72, zm_73, zm_74, zm_75, zm_76, zm_77, zm_78, zm_79]
theorem zmtd_3 : ∀ K ∈ zmt_3, zcdchk K := List.forall_mem_cons.mpr ⟨zd_60, List.forall_mem_cons.mpr ⟨zd_61, List.forall_mem_cons.mpr ⟨zd_62, List.forall_mem_cons.mpr ⟨zd_63, List.forall_mem_cons.mpr ⟨zd_64, List.forall_mem_cons.mpr ⟨zd_65, List.forall_mem_cons.mpr ⟨zd_66, List.forall_mem_cons.mpr ⟨zd_67, List.forall_mem_cons.mpr ⟨zd_68, List.forall_mem_cons.mpr ⟨zd_69, List.forall_mem_cons.mpr ⟨zd_70, List.forall_mem_cons.mpr ⟨zd_71, List.forall_mem_cons.mpr ⟨zd_72, List.forall_mem_cons.mpr ⟨zd_73, List.forall_mem_cons.mpr ⟨zd_74, List.forall_mem_cons.mpr ⟨zd_75, List.forall_mem_cons.mpr ⟨zd_76, List.forall_mem_cons.mpr ⟨zd_77, List.forall_mem_cons.mpr ⟨zd_78, List.forall_mem_cons.mpr ⟨zd_79, (fun _ h => absurd h List.not_mem_nil)⟩⟩⟩⟩⟩⟩⟩⟩⟩⟩⟩⟩⟩⟩⟩⟩⟩⟩⟩⟩
def zmt_4 : List zI := [zm_80, zm_81, zm_82, zm_83, zm_84, zm_85, zm_86, zm_87, zm_88, zm_89, zm_90, zm_91, zm_92, zm_93, zm_94, zm_95, zm_96, zm_97, zm_98, zm_99]
theorem zmtd_4 : ∀ K ∈ zmt_4, zcdchk K := List.forall_mem_cons.mpr ⟨zd_80, List.forall_mem_cons.mpr ⟨zd_81, List.forall_mem_cons.mpr ⟨zd_82, List.forall_mem_cons.mpr ⟨zd_83, List.forall_mem_cons.mpr ⟨zd_84, List.forall_mem_cons.mpr ⟨zd_85, List.forall_mem_cons.mpr ⟨zd_86, List.forall_mem_cons.mpr ⟨zd_87, List.forall_mem_cons.mpr ⟨zd_88, List.forall_mem_cons.mpr ⟨zd_89, List.forall_mem_cons.mpr ⟨zd_90, List.forall_mem_cons.mpr ⟨zd_91, List.forall_mem_cons.mpr ⟨zd_92, List.forall_mem_cons.mpr ⟨zd_93, List.forall_mem_cons.mpr ⟨zd_94, List.forall_mem_cons.mpr ⟨zd_95, List.forall_mem_cons.mpr ⟨zd_96, List.forall_mem_cons.mpr ⟨zd_97, List.forall_mem_cons.mpr ⟨zd_98, List.forall_mem_cons.mpr ⟨zd_99, (fun _ h => absurd h List.not_mem_nil)⟩⟩⟩⟩⟩⟩⟩⟩⟩⟩⟩⟩⟩⟩⟩⟩⟩⟩⟩⟩
def zmt_5 : List zI := [zm_100, zm_101, zm_102, zm_103, zm_104, zm_105, zm_106, zm_107, zm_108, zm_109, zm_110, zm_111, zm_112, zm_113, zm_114, zm_115, zm_116, zm_117, zm_118, zm_119]
theorem zmtd_5 : ∀ K ∈ zmt_5, zcdchk K := List.forall_mem_cons.mpr ⟨zd_100, List.forall_mem_cons.mpr ⟨zd_101, List.forall_mem_cons.mpr ⟨zd_102, List.forall_mem_cons.mpr ⟨zd_103, List.forall_mem_cons.mpr ⟨zd_104, List.forall_mem_cons.mpr ⟨zd_105, List.forall_mem_cons.mpr ⟨zd_106, List.forall_mem_cons.mpr ⟨zd_107, List.forall_mem_cons.mpr ⟨zd_108, List.forall_mem_cons.mpr ⟨zd_109, List.forall_mem_cons.mpr ⟨zd_110, List.forall_mem_cons.mpr ⟨zd_111, List.forall_mem_cons.mpr ⟨zd_112, List.forall_mem_cons.mpr ⟨zd_113, List.forall_mem_cons.mpr ⟨zd_114, List.forall_mem_cons.mpr ⟨zd_115, List.forall_mem_cons.mpr ⟨zd_116, List.forall_mem_cons.mpr ⟨zd_117, List.forall_mem_cons.mpr ⟨zd_118, List.forall_mem_cons.mpr ⟨zd_119, (fun _ h => absurd h List.not_mem_nil)⟩⟩⟩⟩⟩⟩⟩⟩⟩⟩⟩⟩⟩⟩⟩⟩⟩⟩⟩⟩
def zmt_6 : List zI := [zm_120, zm_121, zm_122, zm_123, zm_124, zm_125, zm_126, zm_127, zm_128, zm_129, zm_130, zm_131, zm_132, zm_133, zm_134, zm_135, zm_136, zm_137, zm_138, zm_139]
theorem zmtd_6 : ∀ K ∈ zmt_6, zcdchk K := List.forall_mem_cons.mpr ⟨zd_120, List.forall_mem_cons.mpr ⟨zd_121, List.forall_mem_cons.mpr ⟨zd_122, List.forall_mem_cons.mpr ⟨zd_123, List.forall_mem_cons.mpr ⟨zd_124, List.forall_mem_cons.mpr ⟨zd_125, List.forall_mem_cons.mpr ⟨zd_126, List.forall_mem_cons.mpr ⟨zd_127, List.forall_mem_cons.mpr ⟨zd_128, List.forall_mem_cons.mpr ⟨zd_129, List.forall_mem_cons.mpr ⟨zd_130, List.forall_mem_cons.mpr ⟨zd_131, List.forall_mem_cons.mpr ⟨zd_132, List.forall_mem_cons.mpr ⟨zd_133, List.forall_mem_cons.mpr ⟨zd_134, List.forall_mem_cons.mpr ⟨zd_135, List.forall_mem_cons.mpr ⟨zd_136, List.forall_mem_cons.mpr ⟨zd_137, List.forall_mem_cons.mpr ⟨zd_138, List.forall_mem_cons.mpr ⟨zd_139, (fun _ h => absurd h List.not_mem_nil)⟩⟩⟩⟩⟩⟩⟩⟩⟩⟩⟩⟩⟩⟩⟩⟩⟩⟩⟩⟩
def zmt_7 : List zI := [zm_140, zm_141, zm_142, zm_143, zm_144, zm_145, zm_146, zm_147, zm_148, zm_149, zm_150, zm_151, zm_152, zm_153, zm_154, zm_155, zm_156, zm_157, zm_158, zm_159]
theorem zmtd_7 : ∀ K ∈ zmt_7, zcdchk K := List.forall_mem_cons.mpr ⟨zd_140, List.forall_mem_cons.mpr ⟨zd_141, List.forall_mem_cons.mpr ⟨zd_142, List.forall_mem_cons.mpr ⟨zd_143, List.forall_mem_cons.mpr ⟨zd_144, List.forall_mem_cons.mpr ⟨zd_145, List.forall_mem_cons.mpr ⟨zd_146, List.forall_mem_cons.mpr ⟨zd_147, List.forall_mem_cons.mpr ⟨zd_148, List.forall_mem_cons.mpr ⟨zd_149, List.forall_mem_cons.mpr ⟨zd_150, List.forall_mem_cons.mpr ⟨zd_151, List.forall_mem_cons.mpr ⟨zd_152, List.forall_mem_cons.mpr ⟨zd_153, List.forall_mem_cons.mpr ⟨zd_154, List.forall_mem_cons.mpr ⟨zd_155, List.forall_mem_cons.mpr ⟨zd_156, List.forall_mem_cons.mpr ⟨zd_157, List.forall_mem_cons.mpr ⟨zd_158, List.forall_mem_cons.mpr ⟨zd_159, (fun _ h => absurd h List.not_mem_nil)⟩⟩⟩⟩⟩⟩⟩⟩⟩⟩⟩⟩⟩⟩⟩⟩⟩⟩⟩⟩
def zmt_8 : List zI := [zm_160, zm_161, zm_162, zm_163, zm_164, zm_165, zm_166, zm_167, zm_168, zm_169, zm_170, zm_171, zm_172, zm_173, zm_174, zm_175, zm_176, zm_177, zm_178, zm_179]
theorem zmtd_8 : ∀ K ∈ zmt_8, zcdchk K := List.forall_mem_cons.mpr ⟨zd_160, List.forall_mem_cons.mpr ⟨zd_161, List.forall_mem_cons.mpr ⟨zd_162, List.forall_mem_cons.mpr ⟨zd_163, List.forall_mem_cons.mpr ⟨zd_164, List.forall_mem_cons.mpr ⟨zd_165, List.forall_mem_cons.mpr ⟨zd_166, List.forall_mem_cons.mpr ⟨zd_167, List.forall_mem_cons.mpr ⟨zd_168, List.forall_mem_cons.mpr ⟨zd_169, List.forall_mem_cons.mpr ⟨zd_170, List.forall_mem_cons.mpr ⟨zd_171, List.forall_mem_cons.mpr ⟨zd_172, List.forall_mem_cons.mpr ⟨zd_173, List.forall_mem_cons.mpr ⟨zd_174, List.forall_mem_cons.mpr ⟨zd_175, List.forall_mem_cons.mpr ⟨zd_176, List.forall_mem_cons.mpr ⟨zd_177, List.forall_mem_cons.mpr ⟨zd_178, List.forall_mem_cons.mpr ⟨zd_179, (fun _ h => absurd h List.not_mem_nil)⟩⟩⟩⟩⟩⟩⟩⟩⟩⟩⟩⟩⟩⟩⟩⟩⟩⟩⟩⟩
def zmt_9 : List zI := [zm_180, zm_181, zm_182, zm_183, zm_184, zm_185, zm_186, zm_187, zm_188, zm_189, zm_190, zm_191, zm_192, zm_193, zm_194, zm_195, zm_196, zm_197, zm_198, zm_199]
theorem zmtd_9 : ∀ K ∈ zmt_9, zcdchk K := List.forall_mem_cons.mpr ⟨zd_180, List.forall_mem_cons.mpr ⟨zd_181, List.forall_mem_cons.mpr ⟨zd_182, List.forall_mem_cons.mpr ⟨zd_183, List.forall_mem_cons.mpr ⟨zd_184, List.forall_mem_cons.mpr ⟨zd_185, List.forall_mem_cons.mpr ⟨zd_186, List.forall_mem_cons.mpr ⟨zd_187, List.forall_mem_cons.mpr ⟨zd_188, List.forall_mem_cons.mpr ⟨zd_189, List.forall_mem_cons.mpr ⟨zd_190, List.forall_mem_cons.mpr ⟨zd_191, List.forall_mem_cons.mpr ⟨zd_192, List.forall_mem_cons.mpr ⟨zd_193, List.forall_mem_cons.mpr ⟨zd_194, List.forall_mem_cons.mpr ⟨zd_195, List.forall_mem_cons.mpr ⟨zd_196, List.forall_mem_cons.mpr ⟨zd_197, List.forall_mem_cons.mpr ⟨zd_198, List.forall_mem_cons.mpr ⟨zd_199, (fun _ h => absurd h List.not_mem_nil)⟩⟩⟩⟩⟩⟩⟩⟩⟩⟩⟩⟩⟩⟩⟩⟩⟩⟩⟩⟩
def zmt_10 : List zI := [zm_200, zm_201, zm_202, zm_203, zm_204, zm_205, zm_206, zm_207, zm_208, zm_209, zm_210, zm_211]
theorem zmtd_10 : ∀ K ∈ zmt_10, zcdchk K := List.forall_mem_cons.mpr ⟨zd_200, List.forall_mem_cons.mpr ⟨zd_201, List.forall_mem_cons.mpr ⟨zd_202, List.forall_mem_cons.mpr ⟨zd_203, List.forall_mem_cons.mpr ⟨zd_204, List.forall_mem_cons.mpr ⟨zd_205, List.forall_mem_cons.mpr ⟨zd_206, List.forall_mem_cons.mpr ⟨zd_207, List.forall_mem_cons.mpr ⟨zd_208, List.forall_mem_cons.mpr ⟨zd_209, List.forall_mem_cons.mpr ⟨zd_210, List.forall_mem_cons.mpr ⟨zd_211, (fun _ h => absurd h List.not_mem_nil)⟩⟩⟩⟩⟩⟩⟩⟩⟩⟩⟩⟩
theorem zmt_eq : zmt = zmt_0 ++ (zmt_1 ++ (zmt_2 ++ (zmt_3 ++ (zmt_4 ++ (zmt_5 ++ (zmt_6 ++ (zmt_7 ++ (zmt_8 ++ (zmt_9 ++ (zmt_10)))))))))) := rfl
theorem zmtd : ∀ K ∈ zmt, zcdchk K := by
  rw [zmt_eq]
  exact List.forall_mem_append.mpr ⟨zmtd_0, List.forall_mem_append.mpr ⟨zmtd_1, List.forall_mem_append.mpr ⟨zmtd_2, List.forall_mem_append.mpr ⟨zmtd_3, List.forall_mem_append.mpr ⟨zmtd_4, List.forall_mem_append.mpr ⟨zmtd_5, List.forall_mem_append.mpr ⟨zmtd_6, List.forall_mem_append.mpr ⟨zmtd_7, List.forall_mem_append.mpr ⟨zmtd_8, List.forall_mem_append.mpr ⟨zmtd_9, zmtd_10⟩⟩⟩⟩⟩⟩⟩⟩⟩⟩
