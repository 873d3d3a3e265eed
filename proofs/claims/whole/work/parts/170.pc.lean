theorem zmt_at_0 : zmt[0]? = some zm_0 := rfl
theorem zmt_at_1 : zmt[1]? = some zm_1 := rfl
theorem zmt_at_2 : zmt[2]? = some zm_2 := rfl
theorem zmt_at_3 : zmt[3]? = some zm_3 := rfl
theorem zmt_at_4 : zmt[4]? = some zm_4 := rfl
theorem zmt_at_5 : zmt[5]? = some zm_5 := rfl
theorem zmt_at_6 : zmt[6]? = some zm_6 := rfl
theorem zmt_at_7 : zmt[7]? = some zm_7 := rfl
theorem zmt_at_8 : zmt[8]? = some zm_8 := rfl
theorem zmt_at_9 : zmt[9]? = some zm_9 := rfl
theorem zmt_at_10 : zmt[10]? = some zm_10 := rfl
theorem zmt_at_11 : zmt[11]? = some zm_11 := rfl
theorem zmt_at_12 : zmt[12]? = some zm_12 := rfl
theorem zmt_at_13 : zmt[13]? = some zm_13 := rfl
theorem zmt_at_14 : zmt[14]? = some zm_14 := rfl
theorem zmt_at_15 : zmt[15]? = some zm_15 := rfl
theorem zmt_at_16 : zmt[16]? = some zm_16 := rfl
theorem zmt_at_17 : zmt[17]? = some zm_17 := rfl
theorem zmt_at_18 : zmt[18]? = some zm_18 := rfl
theorem zmt_at_19 : zmt[19]? = some zm_19 := rfl
theorem zmt_at_20 : zmt[20]? = some zm_20 := rfl
theorem zmt_at_21 : zmt[21]? = some zm_21 := rfl
theorem zmt_at_22 : zmt[22]? = some zm_22 := rfl
theorem zmt_at_23 : zmt[23]? = some zm_23 := rfl
theorem zmt_at_24 : zmt[24]? = some zm_24 := rfl
theorem zmt_at_25 : zmt[25]? = some zm_25 := rfl
theorem zmt_at_26 : zmt[26]? = some zm_26 := rfl
theorem zmt_at_27 : zmt[27]? = some zm_27 := rfl
theorem zmt_at_28 : zmt[28]? = some zm_28 := rfl
theorem zmt_at_29 : zmt[29]? = some zm_29 := rfl
theorem zmt_at_30 : zmt[30]? = some zm_30 := rfl
theorem zmt_at_31 : zmt[31]? = some zm_31 := rfl
theorem zmt_at_32 : zmt[32]? = some zm_32 := rfl
theorem zmt_at_33 : zmt[33]? = some zm_33 := rfl
theorem zmt_at_34 : zmt[34]? = some zm_34 := rfl
theorem zmt_at_35 : zmt[35]? = some zm_35 := rfl
theorem zmt_at_36 : zmt[36]? = some zm_36 := rfl
theorem zmt_at_37 : zmt[37]? = some zm_37 := rfl
theorem zmt_at_38 : zmt[38]? = some zm_38 := rfl
theorem zmt_at_39 : zmt[39]? = some zm_39 := rfl
theorem zmt_at_40 : zmt[40]? = some zm_40 := rfl
theorem zmt_at_41 : zmt[41]? = some zm_41 := rfl
theorem zmt_at_42 : zmt[42]? = some zm_42 := rfl
theorem zmt_at_43 : zmt[43]? = some zm_43 := rfl
theorem zmt_at_44 : zmt[44]? = some zm_44 := rfl
theorem zmt_at_45 : zmt[45]? = some zm_45 := rfl
theorem zmt_at_46 : zmt[46]? = some zm_46 := rfl
theorem zmt_at_47 : zmt[47]? = some zm_47 := rfl
theorem zmt_at_48 : zmt[48]? = some zm_48 := rfl
theorem zmt_at_49 : zmt[49]? = some zm_49 := rfl
theorem zmt_at_50 : zmt[50]? = some zm_50 := rfl
theorem zmt_at_51 : zmt[51]? = some zm_51 := rfl
theorem zmt_at_52 : zmt[52]? = some zm_52 := rfl
theorem zmt_at_53 : zmt[53]? = some zm_53 := rfl
theorem zmt_at_54 : zmt[54]? = some zm_54 := rfl
theorem zmt_at_55 : zmt[55]? = some zm_55 := rfl
theorem zmt_at_56 : zmt[56]? = some zm_56 := rfl
theorem zmt_at_57 : zmt[57]? = some zm_57 := rfl
theorem zmt_at_58 : zmt[58]? = some zm_58 := rfl
theorem zmt_at_59 : zmt[59]? = some zm_59 := rfl
theorem zmt_at_60 : zmt[60]? = some zm_60 := rfl
theorem zmt_at_61 : zmt[61]? = some zm_61 := rfl
theorem zmt_at_62 : zmt[62]? = some zm_62 := rfl
theorem zmt_at_63 : zmt[63]? = some zm_63 := rfl
theorem zmt_at_64 : zmt[64]? = some zm_64 := rfl
theorem zmt_at_65 : zmt[65]? = some zm_65 := rfl
theorem zmt_at_66 : zmt[66]? = some zm_66 := rfl
theorem zmt_at_67 : zmt[67]? = some zm_67 := rfl
theorem zmt_at_68 : zmt[68]? = some zm_68 := rfl
theorem zmt_at_69 : zmt[69]? = some zm_69 := rfl
theorem zmt_at_70 : zmt[70]? = some zm_70 := rfl
theorem zmt_at_71 : zmt[71]? = some zm_71 := rfl
theorem zmt_at_72 : zmt[72]? = some zm_72 := rfl
theorem zmt_at_73 : zmt[73]? = some zm_73 := rfl
theorem zmt_at_74 : zmt[74]? = some zm_74 := rfl
theorem zmt_at_75 : zmt[75]? = some zm_75 := rfl
theorem zmt_at_76 : zmt[76]? = some zm_76 := rfl
theorem zmt_at_77 : zmt[77]? = some zm_77 := rfl
theorem zmt_at_78 : zmt[78]? = some zm_78 := rfl
theorem zmt_at_79 : zmt[79]? = some zm_79 := rfl
theorem zmt_at_80 : zmt[80]? = some zm_80 := rfl
theorem zmt_at_81 : zmt[81]? = some zm_81 := rfl
theorem zmt_at_82 : zmt[82]? = some zm_82 := rfl
theorem zmt_at_83 : zmt[83]? = some zm_83 := rfl
theorem zmt_at_84 : zmt[84]? = some zm_84 := rfl
theorem zmt_at_85 : zmt[85]? = some zm_85 := rfl
theorem zmt_at_86 : zmt[86]? = some zm_86 := rfl
theorem zmt_at_87 : zmt[87]? = some zm_87 := rfl
theorem zmt_at_88 : zmt[88]? = some zm_88 := rfl
theorem zmt_at_89 : zmt[89]? = some zm_89 := rfl
theorem zmt_at_90 : zmt[90]? = some zm_90 := rfl
theorem zmt_at_91 : zmt[91]? = some zm_91 := rfl
theorem zmt_at_92 : zmt[92]? = some zm_92 := rfl
theorem zmt_at_93 : zmt[93]? = some zm_93 := rfl
theorem zmt_at_94 : zmt[94]? = some zm_94 := rfl
theorem zmt_at_95 : zmt[95]? = some zm_95 := rfl
theorem zmt_at_96 : zmt[96]? = some zm_96 := rfl
theorem zmt_at_97 : zmt[97]? = some zm_97 := rfl
theorem zmt_at_98 : zmt[98]? = some zm_98 := rfl
theorem zmt_at_99 : zmt[99]? = some zm_99 := rfl
theorem zmt_at_100 : zmt[100]? = some zm_100 := rfl
theorem zmt_at_101 : zmt[101]? = some zm_101 := rfl
theorem zmt_at_102 : zmt[102]? = some zm_102 := rfl
theorem zmt_at_103 : zmt[103]? = some zm_103 := rfl
theorem zmt_at_104 : zmt[104]? = some zm_104 := rfl
theorem zmt_at_105 : zmt[105]? = some zm_105 := rfl
theorem zmt_at_106 : zmt[106]? = some zm_106 := rfl
theorem zmt_at_107 : zmt[107]? = some zm_107 := rfl
theorem zmt_at_108 : zmt[108]? = some zm_108 := rfl
theorem zmt_at_109 : zmt[109]? = some zm_109 := rfl
theorem zmt_at_110 : zmt[110]? = some zm_110 := rfl
theorem zmt_at_111 : zmt[111]? = some zm_111 := rfl
theorem zmt_at_112 : zmt[112]? = some zm_112 := rfl
theorem zmt_at_113 : zmt[113]? = some zm_113 := rfl
theorem zmt_at_114 : zmt[114]? = some zm_114 := rfl
theorem zmt_at_115 : zmt[115]? = some zm_115 := rfl
theorem zmt_at_116 : zmt[116]? = some zm_116 := rfl
theorem zmt_at_117 : zmt[117]? = some zm_117 := rfl
theorem zmt_at_118 : zmt[118]? = some zm_118 := rfl
theorem zmt_at_119 : zmt[119]? = some zm_119 := rfl
theorem zmt_at_120 : zmt[120]? = some zm_120 := rfl
theorem zmt_at_121 : zmt[121]? = some zm_121 := rfl
theorem zmt_at_122 : zmt[122]? = some zm_122 := rfl
theorem zmt_at_123 : zmt[123]? = some zm_123 := rfl
theorem zmt_at_124 : zmt[124]? = some zm_124 := rfl
theorem zmt_at_125 : zmt[125]? = some zm_125 := rfl
theorem zmt_at_126 : zmt[126]? = some zm_126 := rfl
theorem zmt_at_127 : zmt[127]? = some zm_127 := rfl
theorem zmt_at_128 : zmt[128]? = some zm_128 := rfl
theorem zmt_at_129 : zmt[129]? = some zm_129 := rfl
theorem zmt_at_130 : zmt[130]? = some zm_130 := rfl
theorem zmt_at_131 : zmt[131]? = some zm_131 := rfl
theorem zmt_at_132 : zmt[132]? = some zm_132 := rfl
theorem zmt_at_133 : zmt[133]? = some zm_133 := rfl
theorem zmt_at_134 : zmt[134]? = some zm_134 := rfl
theorem zmt_at_135 : zmt[135]? = some zm_135 := rfl
theorem zmt_at_136 : zmt[136]? = some zm_136 := rfl
theorem zmt_at_137 : zmt[137]? = some zm_137 := rfl
theorem zmt_at_138 : zmt[138]? = some zm_138 := rfl
theorem zmt_at_139 : zmt[139]? = some zm_139 := rfl
theorem zmt_at_140 : zmt[140]? = some zm_140 := rfl
theorem zmt_at_141 : zmt[141]? = some zm_141 := rfl
theorem zmt_at_142 : zmt[142]? = some zm_142 := rfl
theorem zmt_at_143 : zmt[143]? = some zm_143 := rfl
theorem zmt_at_144 : zmt[144]? = some zm_144 := rfl
theorem zmt_at_145 : zmt[145]? = some zm_145 := rfl
theorem zmt_at_146 : zmt[146]? = some zm_146 := rfl
theorem zmt_at_147 : zmt[147]? = some zm_147 := rfl
theorem zmt_at_148 : zmt[148]? = some zm_148 := rfl
theorem zmt_at_149 : zmt[149]? = some zm_149 := rfl
theorem zmt_at_150 : zmt[150]? = some zm_150 := rfl
theorem zmt_at_151 : zmt[151]? = some zm_151 := rfl
theorem zmt_at_152 : zmt[152]? = some zm_152 := rfl
theorem zmt_at_153 : zmt[153]? = some zm_153 := rfl
theorem zmt_at_154 : zmt[154]? = some zm_154 := rfl
theorem zmt_at_155 : zmt[155]? = some zm_155 := rfl
theorem zmt_at_156 : zmt[156]? = some zm_156 := rfl
theorem zmt_at_157 : zmt[157]? = some zm_157 := rfl
theorem zmt_at_158 : zmt[158]? = some zm_158 := rfl
theorem zmt_at_159 : zmt[159]? = some zm_159 := rfl
theorem zmt_at_160 : zmt[160]? = some zm_160 := rfl
theorem zmt_at_161 : zmt[161]? = some zm_161 := rfl
theorem zmt_at_162 : zmt[162]? = some zm_162 := rfl
theorem zmt_at_163 : zmt[163]? = some zm_163 := rfl
theorem zmt_at_164 : zmt[164]? = some zm_164 := rfl
theorem zmt_at_165 : zmt[165]? = some zm_165 := rfl
theorem zmt_at_166 : zmt[166]? = some zm_166 := rfl
theorem zmt_at_167 : zmt[167]? = some zm_167 := rfl
theorem zmt_at_168 : zmt[168]? = some zm_168 := rfl
theorem zmt_at_169 : zmt[169]? = some zm_169 := rfl
theorem zmt_at_170 : zmt[170]? = some zm_170 := rfl
theorem zmt_at_171 : zmt[171]? = some zm_171 := rfl
theorem zmt_at_172 : zmt[172]? = some zm_172 := rfl
theorem zmt_at_173 : zmt[173]? = some zm_173 := rfl
theorem zmt_at_174 : zmt[174]? = some zm_174 := rfl
theorem zmt_at_175 : zmt[175]? = some zm_175 := rfl
theorem zmt_at_176 : zmt[176]? = some zm_176 := rfl
theorem zmt_at_177 : zmt[177]? = some zm_177 := rfl
theorem zmt_at_178 : zmt[178]? = some zm_178 := rfl
theorem zmt_at_179 : zmt[179]? = some zm_179 := rfl
theorem zmt_at_180 : zmt[180]? = some zm_180 := rfl
theorem zmt_at_181 : zmt[181]? = some zm_181 := rfl
theorem zmt_at_182 : zmt[182]? = some zm_182 := rfl
theorem zmt_at_183 : zmt[183]? = some zm_183 := rfl
theorem zmt_at_184 : zmt[184]? = some zm_184 := rfl
theorem zmt_at_185 : zmt[185]? = some zm_185 := rfl
theorem zmt_at_186 : zmt[186]? = some zm_186 := rfl
theorem zmt_at_187 : zmt[187]? = some zm_187 := rfl
theorem zmt_at_188 : zmt[188]? = some zm_188 := rfl
theorem zmt_at_189 : zmt[189]? = some zm_189 := rfl
theorem zmt_at_190 : zmt[190]? = some zm_190 := rfl
theorem zmt_at_191 : zmt[191]? = some zm_191 := rfl
theorem zmt_at_192 : zmt[192]? = some zm_192 := rfl
theorem zmt_at_193 : zmt[193]? = some zm_193 := rfl
theorem zmt_at_194 : zmt[194]? = some zm_194 := rfl
theorem zmt_at_195 : zmt[195]? = some zm_195 := rfl
theorem zmt_at_196 : zmt[196]? = some zm_196 := rfl
theorem zmt_at_197 : zmt[197]? = some zm_197 := rfl
theorem zmt_at_198 : zmt[198]? = some zm_198 := rfl
theorem zmt_at_199 : zmt[199]? = some zm_199 := rfl
theorem zmt_at_200 : zmt[200]? = some zm_200 := rfl
theorem zmt_at_201 : zmt[201]? = some zm_201 := rfl
theorem zmt_at_202 : zmt[202]? = some zm_202 := rfl
theorem zmt_at_203 : zmt[203]? = some zm_203 := rfl
theorem zmt_at_204 : zmt[204]? = some zm_204 := rfl
theorem zmt_at_205 : zmt[205]? = some zm_205 := rfl
theorem zmt_at_206 : zmt[206]? = some zm_206 := rfl
theorem zmt_at_207 : zmt[207]? = some zm_207 := rfl
theorem zmt_at_208 : zmt[208]? = some zm_208 := rfl
theorem zmt_at_209 : zmt[209]? = some zm_209 := rfl
theorem zmt_at_210 : zmt[210]? = some zm_210 := rfl
section ZPC
variable {l0 l1 l2 l3 l4 l5 l6 l7 l8 l9 : Option Value} {st : List Value} {M : zM} {uc us : Nat} {Q : zO → zM → Prop} {x y z : Int32} {xl yl : Int64} {xd yd : UInt64} {a b u0 u1 u2 u3 u4 u5 u6 u7 u8 : Nat} {v0 v1 v2 v3 v4 v5 v6 v7 v8 : Int32} {w0 w1 w2 : Int64}
theorem p0_0 : zwp zm_0 (0, [some (.ref a)], st, M, uc, us) Q ↔ zwp zm_0 (1, [some (.ref a)], .ref a :: st, M, uc, us) Q := zwp_step (by decide +kernel) (fun _ => rfl)
theorem p0_1 : zwp zm_0 (1, [l0], .ref a :: st, M, uc, us) Q ↔ zct st + 12 ≤ 20 ∧ zwp zm_0 (4, [l0], st, M, uc, us) Q := zw_obj (rf := 0) (by decide +kernel) (by decide +kernel) (by decide) rfl
theorem p0_4 : zwp zm_0 (4, [some (.ref a)], st, M, uc, us) Q ↔ zwp zm_0 (5, [some (.ref a)], .ref a :: st, M, uc, us) Q := zwp_step (by decide +kernel) (fun _ => rfl)
theorem p0_5 : zwp zm_0 (5, [l0], st, M, uc, us) Q ↔ zwp zm_0 (6, [l0], .int (-1) :: st, M, uc, us) Q := zwp_step (by decide +kernel) (fun _ => rfl)
theorem p0_6 : zwp zm_0 (6, [l0], .int x :: .ref a :: st, M, uc, us) Q ↔ zok M a 7 3 ∧ zwp zm_0 (9, [l0], st, zput M a 0 (.int x), uc, us) Q := zw_putI (by decide +kernel) (by decide +kernel) rfl rfl (by decide +kernel)
theorem p0_9 : zwp zm_0 (9, [some (.ref a)], st, M, uc, us) Q ↔ zwp zm_0 (10, [some (.ref a)], .ref a :: st, M, uc, us) Q := zwp_step (by decide +kernel) (fun _ => rfl)
theorem p0_10 : zwp zm_0 (10, [l0], st, M, uc, us) Q ↔ zwp zm_0 (11, [l0], .int (nI 1) :: st, M, uc, us) Q := zwp_step (by decide +kernel) (fun _ => rfl)
theorem p0_11 : zwp zm_0 (11, [l0], .int x :: .ref a :: st, M, uc, us) Q ↔ zok M a 7 3 ∧ zwp zm_0 (14, [l0], st, zput M a 2 (.int x), uc, us) Q := zw_putI (by decide +kernel) (by decide +kernel) rfl rfl (by decide +kernel)
theorem p0_14 : zwp zm_0 (14, [l0], [], M, uc, us) Q ↔ (uc ≤ 0 ∧ us ≤ 0) ∧ Q (.inl none) M := zw_vret (by decide +kernel) rfl rfl rfl
theorem p1_0 : zwp zm_1 (0, [some (.ref a)], st, M, uc, us) Q ↔ zwp zm_1 (1, [some (.ref a)], .ref a :: st, M, uc, us) Q := zwp_step (by decide +kernel) (fun _ => rfl)
theorem p1_1 : zwp zm_1 (1, [l0], .ref a :: st, M, uc, us) Q ↔ zct st + 12 ≤ 20 ∧ zwp zm_1 (4, [l0], st, M, uc, us) Q := zw_obj (rf := 0) (by decide +kernel) (by decide +kernel) (by decide) rfl
theorem p1_4 : zwp zm_1 (4, [some (.ref a)], st, M, uc, us) Q ↔ zwp zm_1 (5, [some (.ref a)], .ref a :: st, M, uc, us) Q := zwp_step (by decide +kernel) (fun _ => rfl)
theorem p1_5 : zwp zm_1 (5, [l0], st, M, uc, us) Q ↔ zwp zm_1 (6, [l0], .int (-1) :: st, M, uc, us) Q := zwp_step (by decide +kernel) (fun _ => rfl)
theorem p1_6 : zwp zm_1 (6, [l0], .int x :: .ref a :: st, M, uc, us) Q ↔ zok M a 2 6 ∧ zwp zm_1 (9, [l0], st, zput M a 4 (.int x), uc, us) Q := zw_putI (by decide +kernel) (by decide +kernel) rfl rfl (by decide +kernel)
theorem p1_9 : zwp zm_1 (9, [l0], [], M, uc, us) Q ↔ (uc ≤ 0 ∧ us ≤ 0) ∧ Q (.inl none) M := zw_vret (by decide +kernel) rfl rfl rfl
theorem p2_0 : zwp zm_2 (0, [some (.ref a), l1, l2, l3, l4, l5, l6], st, M, uc, us) Q ↔ zwp zm_2 (1, [some (.ref a), l1, l2, l3, l4, l5, l6], .ref a :: st, M, uc, us) Q := zwp_step (by decide +kernel) (fun _ => rfl)
theorem p2_1 : zwp zm_2 (1, [l0, some (.int x), l2, l3, l4, l5, l6], st, M, uc, us) Q ↔ zwp zm_2 (2, [l0, some (.int x), l2, l3, l4, l5, l6], .int x :: st, M, uc, us) Q := zwp_step (by decide +kernel) (fun _ => rfl)
theorem p2_2 : zwp zm_2 (2, [l0, l1, l2, l3, l4, l5, l6], .int x :: .ref a :: st, M, uc, us) Q ↔ zok M a 2 6 ∧ zwp zm_2 (5, [l0, l1, l2, l3, l4, l5, l6], st, zput M a 0 (.int x), uc, us) Q := zw_putI (by decide +kernel) (by decide +kernel) rfl rfl (by decide +kernel)
theorem p2_5 : zwp zm_2 (5, [some (.ref a), l1, l2, l3, l4, l5, l6], st, M, uc, us) Q ↔ zwp zm_2 (6, [some (.ref a), l1, l2, l3, l4, l5, l6], .ref a :: st, M, uc, us) Q := zwp_step (by decide +kernel) (fun _ => rfl)
theorem p2_6 : zwp zm_2 (6, [l0, l1, some (.int x), l3, l4, l5, l6], st, M, uc, us) Q ↔ zwp zm_2 (7, [l0, l1, some (.int x), l3, l4, l5, l6], .int x :: st, M, uc, us) Q := zwp_step (by decide +kernel) (fun _ => rfl)
theorem p2_7 : zwp zm_2 (7, [l0, l1, l2, l3, l4, l5, l6], .int x :: .ref a :: st, M, uc, us) Q ↔ zok M a 2 6 ∧ zwp zm_2 (10, [l0, l1, l2, l3, l4, l5, l6], st, zput M a 1 (.int x), uc, us) Q := zw_putI (by decide +kernel) (by decide +kernel) rfl rfl (by decide +kernel)
theorem p2_10 : zwp zm_2 (10, [some (.ref a), l1, l2, l3, l4, l5, l6], st, M, uc, us) Q ↔ zwp zm_2 (11, [some (.ref a), l1, l2, l3, l4, l5, l6], .ref a :: st, M, uc, us) Q := zwp_step (by decide +kernel) (fun _ => rfl)
theorem p2_11 : zwp zm_2 (11, [l0, l1, l2, some (.int x), l4, l5, l6], st, M, uc, us) Q ↔ zwp zm_2 (12, [l0, l1, l2, some (.int x), l4, l5, l6], .int x :: st, M, uc, us) Q := zwp_step (by decide +kernel) (fun _ => rfl)
theorem p2_12 : zwp zm_2 (12, [l0, l1, l2, l3, l4, l5, l6], .int x :: .ref a :: st, M, uc, us) Q ↔ zok M a 2 6 ∧ zwp zm_2 (15, [l0, l1, l2, l3, l4, l5, l6], st, zput M a 2 (.int x), uc, us) Q := zw_putI (by decide +kernel) (by decide +kernel) rfl rfl (by decide +kernel)
theorem p2_15 : zwp zm_2 (15, [some (.ref a), l1, l2, l3, l4, l5, l6], st, M, uc, us) Q ↔ zwp zm_2 (16, [some (.ref a), l1, l2, l3, l4, l5, l6], .ref a :: st, M, uc, us) Q := zwp_step (by decide +kernel) (fun _ => rfl)
theorem p2_16 : zwp zm_2 (16, [l0, l1, l2, l3, some (.int x), l5, l6], st, M, uc, us) Q ↔ zwp zm_2 (18, [l0, l1, l2, l3, some (.int x), l5, l6], .int x :: st, M, uc, us) Q := zwp_step (by decide +kernel) (fun _ => rfl)
theorem p2_18 : zwp zm_2 (18, [l0, l1, l2, l3, l4, l5, l6], .int x :: .ref a :: st, M, uc, us) Q ↔ zok M a 2 6 ∧ zwp zm_2 (21, [l0, l1, l2, l3, l4, l5, l6], st, zput M a 3 (.int x), uc, us) Q := zw_putI (by decide +kernel) (by decide +kernel) rfl rfl (by decide +kernel)
theorem p2_21 : zwp zm_2 (21, [some (.ref a), l1, l2, l3, l4, l5, l6], st, M, uc, us) Q ↔ zwp zm_2 (22, [some (.ref a), l1, l2, l3, l4, l5, l6], .ref a :: st, M, uc, us) Q := zwp_step (by decide +kernel) (fun _ => rfl)
theorem p2_22 : zwp zm_2 (22, [l0, l1, l2, l3, l4, some (.int x), l6], st, M, uc, us) Q ↔ zwp zm_2 (24, [l0, l1, l2, l3, l4, some (.int x), l6], .int x :: st, M, uc, us) Q := zwp_step (by decide +kernel) (fun _ => rfl)
theorem p2_24 : zwp zm_2 (24, [l0, l1, l2, l3, l4, l5, l6], .int x :: .ref a :: st, M, uc, us) Q ↔ zok M a 2 6 ∧ zwp zm_2 (27, [l0, l1, l2, l3, l4, l5, l6], st, zput M a 4 (.int x), uc, us) Q := zw_putI (by decide +kernel) (by decide +kernel) rfl rfl (by decide +kernel)
theorem p2_27 : zwp zm_2 (27, [some (.ref a), l1, l2, l3, l4, l5, l6], st, M, uc, us) Q ↔ zwp zm_2 (28, [some (.ref a), l1, l2, l3, l4, l5, l6], .ref a :: st, M, uc, us) Q := zwp_step (by decide +kernel) (fun _ => rfl)
theorem p2_28 : zwp zm_2 (28, [l0, l1, l2, l3, l4, l5, some (.int x)], st, M, uc, us) Q ↔ zwp zm_2 (30, [l0, l1, l2, l3, l4, l5, some (.int x)], .int x :: st, M, uc, us) Q := zwp_step (by decide +kernel) (fun _ => rfl)
theorem p2_30 : zwp zm_2 (30, [l0, l1, l2, l3, l4, l5, l6], .int x :: .ref a :: st, M, uc, us) Q ↔ zok M a 2 6 ∧ zwp zm_2 (33, [l0, l1, l2, l3, l4, l5, l6], st, zput M a 5 (.int x), uc, us) Q := zw_putI (by decide +kernel) (by decide +kernel) rfl rfl (by decide +kernel)
theorem p2_33 : zwp zm_2 (33, [l0, l1, l2, l3, l4, l5, l6], [], M, uc, us) Q ↔ (uc ≤ 0 ∧ us ≤ 0) ∧ Q (.inl none) M := zw_vret (by decide +kernel) rfl rfl rfl
theorem p3_0 : zwp zm_3 (0, [some (.ref a), l1], st, M, uc, us) Q ↔ zwp zm_3 (1, [some (.ref a), l1], .ref a :: st, M, uc, us) Q := zwp_step (by decide +kernel) (fun _ => rfl)
theorem p3_1 : zwp zm_3 (1, [l0, l1], .ref a :: st, M, uc, us) Q ↔ zok M a 2 6 ∧ zwp zm_3 (4, [l0, l1], zrd M a 2 :: st, M, uc, us) Q := zw_getfield (by decide +kernel) (by decide +kernel) rfl
theorem p3_4 : zwp zm_3 (4, [l0, some (.int x)], st, M, uc, us) Q ↔ zwp zm_3 (5, [l0, some (.int x)], .int x :: st, M, uc, us) Q := zwp_step (by decide +kernel) (fun _ => rfl)
theorem p3_5 : zwp zm_3 (5, [l0, l1], .int v1 :: .int v0 :: st, M, uc, us) Q ↔ (zct st ≤ 8 ∧ uc + 0 ≤ 0 ∧ us + 0 ≤ 0) ∧ zcl 83 [.int v0, .int v1] M (zbk zm_3 8 5 [l0, l1] st (uc + 0) (us + 0) Q) := zw_callS (by decide +kernel) (by decide +kernel) (by decide) zmt_at_83 rfl rfl (by decide) (by decide) rfl rfl rfl rfl rfl
theorem p3_8 : zwp zm_3 (8, [l0, l1], [.int x], M, uc, us) Q ↔ (narrow .boolean (.int x) = .int x ∧ uc ≤ 0 ∧ us ≤ 0) ∧ Q (.inl (some (.int x))) M := zw_zret (by decide +kernel) rfl rfl rfl
theorem p4_0 : zwp zm_4 (0, [some (.ref a)], st, M, uc, us) Q ↔ zwp zm_4 (1, [some (.ref a)], .ref a :: st, M, uc, us) Q := zwp_step (by decide +kernel) (fun _ => rfl)
theorem p4_1 : zwp zm_4 (1, [l0], .ref a :: st, M, uc, us) Q ↔ zct st + 12 ≤ 20 ∧ zwp zm_4 (4, [l0], st, M, uc, us) Q := zw_obj (rf := 0) (by decide +kernel) (by decide +kernel) (by decide) rfl
theorem p4_4 : zwp zm_4 (4, [some (.ref a)], st, M, uc, us) Q ↔ zwp zm_4 (5, [some (.ref a)], .ref a :: st, M, uc, us) Q := zwp_step (by decide +kernel) (fun _ => rfl)
theorem p4_5 : zwp zm_4 (5, [l0], st, M, uc, us) Q ↔ zwp zm_4 (6, [l0], .int (-1) :: st, M, uc, us) Q := zwp_step (by decide +kernel) (fun _ => rfl)
theorem p4_6 : zwp zm_4 (6, [l0], .int x :: .ref a :: st, M, uc, us) Q ↔ zok M a 1 6 ∧ zwp zm_4 (9, [l0], st, zput M a 1 (.int x), uc, us) Q := zw_putI (by decide +kernel) (by decide +kernel) rfl rfl (by decide +kernel)
theorem p4_9 : zwp zm_4 (9, [l0], [], M, uc, us) Q ↔ (uc ≤ 0 ∧ us ≤ 0) ∧ Q (.inl none) M := zw_vret (by decide +kernel) rfl rfl rfl
theorem p5_0 : zwp zm_5 (0, [some (.ref a)], st, M, uc, us) Q ↔ zwp zm_5 (1, [some (.ref a)], .ref a :: st, M, uc, us) Q := zwp_step (by decide +kernel) (fun _ => rfl)
theorem p5_1 : zwp zm_5 (1, [l0], .ref a :: st, M, uc, us) Q ↔ zok M a 1 6 ∧ zwp zm_5 (4, [l0], zrd M a 1 :: st, M, uc, us) Q := zw_getfield (by decide +kernel) (by decide +kernel) rfl
theorem p5_4 : zwp zm_5 (4, [l0], st, M, uc, us) Q ↔ zwp zm_5 (5, [l0], .int (-1) :: st, M, uc, us) Q := zwp_step (by decide +kernel) (fun _ => rfl)
theorem p5_5 : zwp zm_5 (5, [l0], .int y :: .int x :: st, M, uc, us) Q ↔ if x = y then zwp zm_5 (12, [l0], st, M, uc, us) Q else zwp zm_5 (8, [l0], st, M, uc, us) Q := zw_iceq (by decide +kernel) rfl rfl
theorem p5_8 : zwp zm_5 (8, [l0], st, M, uc, us) Q ↔ zwp zm_5 (9, [l0], .int (nI 1) :: st, M, uc, us) Q := zwp_step (by decide +kernel) (fun _ => rfl)
theorem p5_9 : zwp zm_5 (9, [l0], st, M, uc, us) Q ↔ zwp zm_5 (13, [l0], st, M, uc, us) Q := zw_goto (by decide +kernel) rfl
theorem p5_12 : zwp zm_5 (12, [l0], st, M, uc, us) Q ↔ zwp zm_5 (13, [l0], .int (nI 0) :: st, M, uc, us) Q := zwp_step (by decide +kernel) (fun _ => rfl)
theorem p5_13 : zwp zm_5 (13, [l0], [.int x], M, uc, us) Q ↔ (narrow .boolean (.int x) = .int x ∧ uc ≤ 0 ∧ us ≤ 0) ∧ Q (.inl (some (.int x))) M := zw_zret (by decide +kernel) rfl rfl rfl
theorem p6_0 : zwp zm_6 (0, [some (.ref a), l1], st, M, uc, us) Q ↔ zwp zm_6 (1, [some (.ref a), l1], .ref a :: st, M, uc, us) Q := zwp_step (by decide +kernel) (fun _ => rfl)
theorem p6_1 : zwp zm_6 (1, [l0, l1], .ref a :: st, M, uc, us) Q ↔ zok M a 1 6 ∧ zwp zm_6 (4, [l0, l1], zrd M a 3 :: st, M, uc, us) Q := zw_getfield (by decide +kernel) (by decide +kernel) rfl
theorem p6_4 : zwp zm_6 (4, [l0, some (.int x)], st, M, uc, us) Q ↔ zwp zm_6 (5, [l0, some (.int x)], .int x :: st, M, uc, us) Q := zwp_step (by decide +kernel) (fun _ => rfl)
theorem p6_5 : zwp zm_6 (5, [l0, l1], .int v1 :: .int v0 :: st, M, uc, us) Q ↔ (zct st ≤ 8 ∧ uc + 0 ≤ 0 ∧ us + 0 ≤ 0) ∧ zcl 83 [.int v0, .int v1] M (zbk zm_6 8 5 [l0, l1] st (uc + 0) (us + 0) Q) := zw_callS (by decide +kernel) (by decide +kernel) (by decide) zmt_at_83 rfl rfl (by decide) (by decide) rfl rfl rfl rfl rfl
theorem p6_8 : zwp zm_6 (8, [l0, l1], [.int x], M, uc, us) Q ↔ (narrow .boolean (.int x) = .int x ∧ uc ≤ 0 ∧ us ≤ 0) ∧ Q (.inl (some (.int x))) M := zw_zret (by decide +kernel) rfl rfl rfl
theorem p7_0 : zwp zm_7 (0, [some (.ref a)], st, M, uc, us) Q ↔ zwp zm_7 (1, [some (.ref a)], .ref a :: st, M, uc, us) Q := zwp_step (by decide +kernel) (fun _ => rfl)
theorem p7_1 : zwp zm_7 (1, [l0], st, M, uc, us) Q ↔ zwp zm_7 (2, [l0], .int (-1) :: st, M, uc, us) Q := zwp_step (by decide +kernel) (fun _ => rfl)
theorem p7_2 : zwp zm_7 (2, [l0], .int x :: .ref a :: st, M, uc, us) Q ↔ zok M a 1 6 ∧ zwp zm_7 (5, [l0], st, zput M a 1 (.int x), uc, us) Q := zw_putI (by decide +kernel) (by decide +kernel) rfl rfl (by decide +kernel)
theorem p7_5 : zwp zm_7 (5, [some (.ref a)], st, M, uc, us) Q ↔ zwp zm_7 (6, [some (.ref a)], .ref a :: st, M, uc, us) Q := zwp_step (by decide +kernel) (fun _ => rfl)
theorem p7_6 : zwp zm_7 (6, [l0], st, M, uc, us) Q ↔ zwp zm_7 (7, [l0], .int (nI 0) :: st, M, uc, us) Q := zwp_step (by decide +kernel) (fun _ => rfl)
theorem p7_7 : zwp zm_7 (7, [l0], .int x :: .ref a :: st, M, uc, us) Q ↔ zok M a 1 6 ∧ zwp zm_7 (10, [l0], st, zput M a 2 (.int x), uc, us) Q := zw_putI (by decide +kernel) (by decide +kernel) rfl rfl (by decide +kernel)
theorem p7_10 : zwp zm_7 (10, [some (.ref a)], st, M, uc, us) Q ↔ zwp zm_7 (11, [some (.ref a)], .ref a :: st, M, uc, us) Q := zwp_step (by decide +kernel) (fun _ => rfl)
theorem p7_11 : zwp zm_7 (11, [l0], st, M, uc, us) Q ↔ zwp zm_7 (12, [l0], .int (nI 0) :: st, M, uc, us) Q := zwp_step (by decide +kernel) (fun _ => rfl)
theorem p7_12 : zwp zm_7 (12, [l0], .int x :: .ref a :: st, M, uc, us) Q ↔ zok M a 1 6 ∧ zwp zm_7 (15, [l0], st, zput M a 3 (.int x), uc, us) Q := zw_putI (by decide +kernel) (by decide +kernel) rfl rfl (by decide +kernel)
theorem p7_15 : zwp zm_7 (15, [some (.ref a)], st, M, uc, us) Q ↔ zwp zm_7 (16, [some (.ref a)], .ref a :: st, M, uc, us) Q := zwp_step (by decide +kernel) (fun _ => rfl)
theorem p7_16 : zwp zm_7 (16, [l0], st, M, uc, us) Q ↔ zwp zm_7 (17, [l0], .int (nI 0) :: st, M, uc, us) Q := zwp_step (by decide +kernel) (fun _ => rfl)
theorem p7_17 : zwp zm_7 (17, [l0], .int x :: .ref a :: st, M, uc, us) Q ↔ zok M a 1 6 ∧ zwp zm_7 (20, [l0], st, zput M a 4 (.int x), uc, us) Q := zw_putI (by decide +kernel) (by decide +kernel) rfl rfl (by decide +kernel)
theorem p7_20 : zwp zm_7 (20, [l0], [], M, uc, us) Q ↔ (uc ≤ 0 ∧ us ≤ 0) ∧ Q (.inl none) M := zw_vret (by decide +kernel) rfl rfl rfl
theorem p8_0 : zwp zm_8 (0, [l0, some (.int x)], st, M, uc, us) Q ↔ zwp zm_8 (1, [l0, some (.int x)], .int x :: st, M, uc, us) Q := zwp_step (by decide +kernel) (fun _ => rfl)
theorem p8_1 : zwp zm_8 (1, [l0, l1], .int x :: st, M, uc, us) Q ↔ if x = nI 0 then zwp zm_8 (32, [l0, l1], st, M, uc, us) Q else if x = nI 1 then zwp zm_8 (45, [l0, l1], st, M, uc, us) Q else if x = nI 2 then zwp zm_8 (50, [l0, l1], st, M, uc, us) Q else if x = nI 3 then zwp zm_8 (55, [l0, l1], st, M, uc, us) Q else zwp zm_8 (60, [l0, l1], st, M, uc, us) Q := (zw_tsw (ts := [32, 45, 50, 55]) (d := 60) (by decide +kernel) (by decide) (by decide) (by decide) (by decide) (by decide)).trans Iff.rfl
theorem p8_32 : zwp zm_8 (32, [some (.ref a), l1], st, M, uc, us) Q ↔ zwp zm_8 (33, [some (.ref a), l1], .ref a :: st, M, uc, us) Q := zwp_step (by decide +kernel) (fun _ => rfl)
theorem p8_33 : zwp zm_8 (33, [l0, l1], .ref a :: st, M, uc, us) Q ↔ zok M a 1 6 ∧ zwp zm_8 (36, [l0, l1], zrd M a 0 :: st, M, uc, us) Q := zw_getfield (by decide +kernel) (by decide +kernel) rfl
theorem p8_36 : zwp zm_8 (36, [l0, l1], .int x :: st, M, uc, us) Q ↔ if x = nI 0 then zwp zm_8 (43, [l0, l1], st, M, uc, us) Q else zwp zm_8 (39, [l0, l1], st, M, uc, us) Q := zw_ifeq (by decide +kernel) rfl rfl
theorem p8_39 : zwp zm_8 (39, [l0, l1], st, M, uc, us) Q ↔ zwp zm_8 (40, [l0, l1], .int (nI 1) :: st, M, uc, us) Q := zwp_step (by decide +kernel) (fun _ => rfl)
theorem p8_40 : zwp zm_8 (40, [l0, l1], st, M, uc, us) Q ↔ zwp zm_8 (44, [l0, l1], st, M, uc, us) Q := zw_goto (by decide +kernel) rfl
theorem p8_43 : zwp zm_8 (43, [l0, l1], st, M, uc, us) Q ↔ zwp zm_8 (44, [l0, l1], .int (nI 0) :: st, M, uc, us) Q := zwp_step (by decide +kernel) (fun _ => rfl)
theorem p8_44 : zwp zm_8 (44, [l0, l1], [.int x], M, uc, us) Q ↔ (uc ≤ 0 ∧ us ≤ 0) ∧ Q (.inl (some (.int x))) M := zw_iret (by decide +kernel) rfl rfl rfl
theorem p8_45 : zwp zm_8 (45, [some (.ref a), l1], st, M, uc, us) Q ↔ zwp zm_8 (46, [some (.ref a), l1], .ref a :: st, M, uc, us) Q := zwp_step (by decide +kernel) (fun _ => rfl)
theorem p8_46 : zwp zm_8 (46, [l0, l1], .ref a :: st, M, uc, us) Q ↔ zok M a 1 6 ∧ zwp zm_8 (49, [l0, l1], zrd M a 1 :: st, M, uc, us) Q := zw_getfield (by decide +kernel) (by decide +kernel) rfl
theorem p8_49 : zwp zm_8 (49, [l0, l1], [.int x], M, uc, us) Q ↔ (uc ≤ 0 ∧ us ≤ 0) ∧ Q (.inl (some (.int x))) M := zw_iret (by decide +kernel) rfl rfl rfl
theorem p8_50 : zwp zm_8 (50, [some (.ref a), l1], st, M, uc, us) Q ↔ zwp zm_8 (51, [some (.ref a), l1], .ref a :: st, M, uc, us) Q := zwp_step (by decide +kernel) (fun _ => rfl)
theorem p8_51 : zwp zm_8 (51, [l0, l1], .ref a :: st, M, uc, us) Q ↔ zok M a 1 6 ∧ zwp zm_8 (54, [l0, l1], zrd M a 2 :: st, M, uc, us) Q := zw_getfield (by decide +kernel) (by decide +kernel) rfl
theorem p8_54 : zwp zm_8 (54, [l0, l1], [.int x], M, uc, us) Q ↔ (uc ≤ 0 ∧ us ≤ 0) ∧ Q (.inl (some (.int x))) M := zw_iret (by decide +kernel) rfl rfl rfl
theorem p8_55 : zwp zm_8 (55, [some (.ref a), l1], st, M, uc, us) Q ↔ zwp zm_8 (56, [some (.ref a), l1], .ref a :: st, M, uc, us) Q := zwp_step (by decide +kernel) (fun _ => rfl)
theorem p8_56 : zwp zm_8 (56, [l0, l1], .ref a :: st, M, uc, us) Q ↔ zok M a 1 6 ∧ zwp zm_8 (59, [l0, l1], zrd M a 3 :: st, M, uc, us) Q := zw_getfield (by decide +kernel) (by decide +kernel) rfl
theorem p8_59 : zwp zm_8 (59, [l0, l1], [.int x], M, uc, us) Q ↔ (uc ≤ 0 ∧ us ≤ 0) ∧ Q (.inl (some (.int x))) M := zw_iret (by decide +kernel) rfl rfl rfl
theorem p8_60 : zwp zm_8 (60, [some (.ref a), l1], st, M, uc, us) Q ↔ zwp zm_8 (61, [some (.ref a), l1], .ref a :: st, M, uc, us) Q := zwp_step (by decide +kernel) (fun _ => rfl)
theorem p8_61 : zwp zm_8 (61, [l0, l1], .ref a :: st, M, uc, us) Q ↔ zok M a 1 6 ∧ zwp zm_8 (64, [l0, l1], zrd M a 4 :: st, M, uc, us) Q := zw_getfield (by decide +kernel) (by decide +kernel) rfl
theorem p8_64 : zwp zm_8 (64, [l0, l1], [.int x], M, uc, us) Q ↔ (uc ≤ 0 ∧ us ≤ 0) ∧ Q (.inl (some (.int x))) M := zw_iret (by decide +kernel) rfl rfl rfl
theorem p9_0 : zwp zm_9 (0, [some (.ref a)], st, M, uc, us) Q ↔ zwp zm_9 (1, [some (.ref a)], .ref a :: st, M, uc, us) Q := zwp_step (by decide +kernel) (fun _ => rfl)
theorem p9_1 : zwp zm_9 (1, [l0], .ref a :: st, M, uc, us) Q ↔ zct st + 12 ≤ 20 ∧ zwp zm_9 (4, [l0], st, M, uc, us) Q := zw_obj (rf := 0) (by decide +kernel) (by decide +kernel) (by decide) rfl
theorem p9_4 : zwp zm_9 (4, [l0], [], M, uc, us) Q ↔ (uc ≤ 0 ∧ us ≤ 0) ∧ Q (.inl none) M := zw_vret (by decide +kernel) rfl rfl rfl
theorem p10_0 : zwp zm_10 (0, [some (.ref a), l1, l2, l3], st, M, uc, us) Q ↔ zwp zm_10 (1, [some (.ref a), l1, l2, l3], .ref a :: st, M, uc, us) Q := zwp_step (by decide +kernel) (fun _ => rfl)
theorem p10_1 : zwp zm_10 (1, [l0, some (.int x), l2, l3], st, M, uc, us) Q ↔ zwp zm_10 (2, [l0, some (.int x), l2, l3], .int x :: st, M, uc, us) Q := zwp_step (by decide +kernel) (fun _ => rfl)
theorem p10_2 : zwp zm_10 (2, [l0, l1, l2, l3], .int x :: .ref a :: st, M, uc, us) Q ↔ zok M a 6 6 ∧ zwp zm_10 (5, [l0, l1, l2, l3], st, zput M a 0 (.int x), uc, us) Q := zw_putI (by decide +kernel) (by decide +kernel) rfl rfl (by decide +kernel)
theorem p10_5 : zwp zm_10 (5, [some (.ref a), l1, l2, l3], st, M, uc, us) Q ↔ zwp zm_10 (6, [some (.ref a), l1, l2, l3], .ref a :: st, M, uc, us) Q := zwp_step (by decide +kernel) (fun _ => rfl)
theorem p10_6 : zwp zm_10 (6, [l0, l1, some (.int x), l3], st, M, uc, us) Q ↔ zwp zm_10 (7, [l0, l1, some (.int x), l3], .int x :: st, M, uc, us) Q := zwp_step (by decide +kernel) (fun _ => rfl)
theorem p10_7 : zwp zm_10 (7, [l0, l1, l2, l3], .int x :: .ref a :: st, M, uc, us) Q ↔ zok M a 6 6 ∧ zwp zm_10 (10, [l0, l1, l2, l3], st, zput M a 1 (.int x), uc, us) Q := zw_putI (by decide +kernel) (by decide +kernel) rfl rfl (by decide +kernel)
theorem p10_10 : zwp zm_10 (10, [some (.ref a), l1, l2, l3], st, M, uc, us) Q ↔ zwp zm_10 (11, [some (.ref a), l1, l2, l3], .ref a :: st, M, uc, us) Q := zwp_step (by decide +kernel) (fun _ => rfl)
theorem p10_11 : zwp zm_10 (11, [l0, l1, l2, some (.int x)], st, M, uc, us) Q ↔ zwp zm_10 (12, [l0, l1, l2, some (.int x)], .int x :: st, M, uc, us) Q := zwp_step (by decide +kernel) (fun _ => rfl)
theorem p10_12 : zwp zm_10 (12, [l0, l1, l2, l3], .int x :: .ref a :: st, M, uc, us) Q ↔ (zok M a 6 6 ∧ zfit .boolean (.int x) = true) ∧ zwp zm_10 (15, [l0, l1, l2, l3], st, zput M a 2 (.int x), uc, us) Q := zw_putZ (by decide +kernel) (by decide +kernel) rfl rfl (by decide +kernel)
theorem p10_15 : zwp zm_10 (15, [l0, l1, l2, l3], [], M, uc, us) Q ↔ (uc ≤ 0 ∧ us ≤ 0) ∧ Q (.inl none) M := zw_vret (by decide +kernel) rfl rfl rfl
theorem p11_0 : zwp zm_11 (0, [some (.ref a), l1, l2, l3], st, M, uc, us) Q ↔ zwp zm_11 (1, [some (.ref a), l1, l2, l3], .ref a :: st, M, uc, us) Q := zwp_step (by decide +kernel) (fun _ => rfl)
theorem p11_1 : zwp zm_11 (1, [l0, some (.int x), l2, l3], st, M, uc, us) Q ↔ zwp zm_11 (2, [l0, some (.int x), l2, l3], .int x :: st, M, uc, us) Q := zwp_step (by decide +kernel) (fun _ => rfl)
theorem p11_2 : zwp zm_11 (2, [l0, l1, l2, l3], .int x :: .ref a :: st, M, uc, us) Q ↔ zok M a 6 6 ∧ zwp zm_11 (5, [l0, l1, l2, l3], st, zput M a 3 (.int x), uc, us) Q := zw_putI (by decide +kernel) (by decide +kernel) rfl rfl (by decide +kernel)
theorem p11_5 : zwp zm_11 (5, [some (.ref a), l1, l2, l3], st, M, uc, us) Q ↔ zwp zm_11 (6, [some (.ref a), l1, l2, l3], .ref a :: st, M, uc, us) Q := zwp_step (by decide +kernel) (fun _ => rfl)
theorem p11_6 : zwp zm_11 (6, [l0, l1, some (.int x), l3], st, M, uc, us) Q ↔ zwp zm_11 (7, [l0, l1, some (.int x), l3], .int x :: st, M, uc, us) Q := zwp_step (by decide +kernel) (fun _ => rfl)
theorem p11_7 : zwp zm_11 (7, [l0, l1, l2, l3], .int x :: .ref a :: st, M, uc, us) Q ↔ zok M a 6 6 ∧ zwp zm_11 (10, [l0, l1, l2, l3], st, zput M a 4 (.int x), uc, us) Q := zw_putI (by decide +kernel) (by decide +kernel) rfl rfl (by decide +kernel)
theorem p11_10 : zwp zm_11 (10, [some (.ref a), l1, l2, l3], st, M, uc, us) Q ↔ zwp zm_11 (11, [some (.ref a), l1, l2, l3], .ref a :: st, M, uc, us) Q := zwp_step (by decide +kernel) (fun _ => rfl)
theorem p11_11 : zwp zm_11 (11, [l0, l1, l2, some (.int x)], st, M, uc, us) Q ↔ zwp zm_11 (12, [l0, l1, l2, some (.int x)], .int x :: st, M, uc, us) Q := zwp_step (by decide +kernel) (fun _ => rfl)
theorem p11_12 : zwp zm_11 (12, [l0, l1, l2, l3], .int x :: .ref a :: st, M, uc, us) Q ↔ (zok M a 6 6 ∧ zfit .boolean (.int x) = true) ∧ zwp zm_11 (15, [l0, l1, l2, l3], st, zput M a 5 (.int x), uc, us) Q := zw_putZ (by decide +kernel) (by decide +kernel) rfl rfl (by decide +kernel)
theorem p11_15 : zwp zm_11 (15, [l0, l1, l2, l3], [], M, uc, us) Q ↔ (uc ≤ 0 ∧ us ≤ 0) ∧ Q (.inl none) M := zw_vret (by decide +kernel) rfl rfl rfl
theorem p12_0 : zwp zm_12 (0, [some (.ref a), l1], st, M, uc, us) Q ↔ zwp zm_12 (1, [some (.ref a), l1], .ref a :: st, M, uc, us) Q := zwp_step (by decide +kernel) (fun _ => rfl)
theorem p12_1 : zwp zm_12 (1, [l0, some (.ref a)], st, M, uc, us) Q ↔ zwp zm_12 (2, [l0, some (.ref a)], .ref a :: st, M, uc, us) Q := zwp_step (by decide +kernel) (fun _ => rfl)
theorem p12_2 : zwp zm_12 (2, [l0, l1], .ref u0 :: .ref a :: st, M, uc, us) Q ↔ ((zct st ≤ 8 ∧ uc + 0 ≤ 0 ∧ us + 0 ≤ 0) ∧ zok M a 6 6) ∧ zcl 13 [.ref a, .ref u0] M (zbk zm_12 5 2 [l0, l1] st (uc + 0) (us + 0) Q) := zw_callV (by decide +kernel) (by decide +kernel) zmt_at_13 rfl rfl (by decide) (by decide) rfl rfl rfl rfl rfl rfl rfl
theorem p12_5 : zwp zm_12 (5, [some (.ref a), l1], st, M, uc, us) Q ↔ zwp zm_12 (6, [some (.ref a), l1], .ref a :: st, M, uc, us) Q := zwp_step (by decide +kernel) (fun _ => rfl)
theorem p12_6 : zwp zm_12 (6, [l0, l1], .ref a :: st, M, uc, us) Q ↔ zok M a 6 6 ∧ zwp zm_12 (9, [l0, l1], zrd M a 2 :: st, M, uc, us) Q := zw_getfield (by decide +kernel) (by decide +kernel) rfl
theorem p12_9 : zwp zm_12 (9, [l0, l1], .int y :: .int x :: st, M, uc, us) Q ↔ if x = y then zwp zm_12 (16, [l0, l1], st, M, uc, us) Q else zwp zm_12 (12, [l0, l1], st, M, uc, us) Q := zw_iceq (by decide +kernel) rfl rfl
theorem p12_12 : zwp zm_12 (12, [l0, l1], st, M, uc, us) Q ↔ zwp zm_12 (13, [l0, l1], .int (nI 1) :: st, M, uc, us) Q := zwp_step (by decide +kernel) (fun _ => rfl)
theorem p12_13 : zwp zm_12 (13, [l0, l1], st, M, uc, us) Q ↔ zwp zm_12 (17, [l0, l1], st, M, uc, us) Q := zw_goto (by decide +kernel) rfl
theorem p12_16 : zwp zm_12 (16, [l0, l1], st, M, uc, us) Q ↔ zwp zm_12 (17, [l0, l1], .int (nI 0) :: st, M, uc, us) Q := zwp_step (by decide +kernel) (fun _ => rfl)
theorem p12_17 : zwp zm_12 (17, [l0, l1], [.int x], M, uc, us) Q ↔ (narrow .boolean (.int x) = .int x ∧ uc ≤ 0 ∧ us ≤ 0) ∧ Q (.inl (some (.int x))) M := zw_zret (by decide +kernel) rfl rfl rfl
theorem p13_0 : zwp zm_13 (0, [some (.ref a), l1], st, M, uc, us) Q ↔ zwp zm_13 (1, [some (.ref a), l1], .ref a :: st, M, uc, us) Q := zwp_step (by decide +kernel) (fun _ => rfl)
theorem p13_1 : zwp zm_13 (1, [l0, l1], .ref a :: st, M, uc, us) Q ↔ zok M a 6 6 ∧ zwp zm_13 (4, [l0, l1], zrd M a 0 :: st, M, uc, us) Q := zw_getfield (by decide +kernel) (by decide +kernel) rfl
theorem p13_4 : zwp zm_13 (4, [l0, l1], .int x :: st, M, uc, us) Q ↔ if x = nI 0 then zwp zm_13 (36, [l0, l1], st, M, uc, us) Q else if x = nI 1 then zwp zm_13 (53, [l0, l1], st, M, uc, us) Q else if x = nI 2 then zwp zm_13 (70, [l0, l1], st, M, uc, us) Q else if x = nI 3 then zwp zm_13 (79, [l0, l1], st, M, uc, us) Q else zwp zm_13 (96, [l0, l1], st, M, uc, us) Q := (zw_tsw (ts := [36, 53, 70, 79]) (d := 96) (by decide +kernel) (by decide) (by decide) (by decide) (by decide) (by decide)).trans Iff.rfl
theorem p13_36 : zwp zm_13 (36, [l0, some (.ref a)], st, M, uc, us) Q ↔ zwp zm_13 (37, [l0, some (.ref a)], .ref a :: st, M, uc, us) Q := zwp_step (by decide +kernel) (fun _ => rfl)
theorem p13_37 : zwp zm_13 (37, [l0, l1], .ref a :: st, M, uc, us) Q ↔ zok M a 2 6 ∧ zwp zm_13 (40, [l0, l1], zrd M a 0 :: st, M, uc, us) Q := zw_getfield (by decide +kernel) (by decide +kernel) rfl
theorem p13_40 : zwp zm_13 (40, [some (.ref a), l1], st, M, uc, us) Q ↔ zwp zm_13 (41, [some (.ref a), l1], .ref a :: st, M, uc, us) Q := zwp_step (by decide +kernel) (fun _ => rfl)
theorem p13_41 : zwp zm_13 (41, [l0, l1], .ref a :: st, M, uc, us) Q ↔ zok M a 6 6 ∧ zwp zm_13 (44, [l0, l1], zrd M a 1 :: st, M, uc, us) Q := zw_getfield (by decide +kernel) (by decide +kernel) rfl
theorem p13_44 : zwp zm_13 (44, [l0, l1], .int y :: .int x :: st, M, uc, us) Q ↔ if x = y then zwp zm_13 (47, [l0, l1], st, M, uc, us) Q else zwp zm_13 (51, [l0, l1], st, M, uc, us) Q := zw_icne (by decide +kernel) rfl rfl
theorem p13_47 : zwp zm_13 (47, [l0, l1], st, M, uc, us) Q ↔ zwp zm_13 (48, [l0, l1], .int (nI 1) :: st, M, uc, us) Q := zwp_step (by decide +kernel) (fun _ => rfl)
theorem p13_48 : zwp zm_13 (48, [l0, l1], st, M, uc, us) Q ↔ zwp zm_13 (52, [l0, l1], st, M, uc, us) Q := zw_goto (by decide +kernel) rfl
theorem p13_51 : zwp zm_13 (51, [l0, l1], st, M, uc, us) Q ↔ zwp zm_13 (52, [l0, l1], .int (nI 0) :: st, M, uc, us) Q := zwp_step (by decide +kernel) (fun _ => rfl)
theorem p13_52 : zwp zm_13 (52, [l0, l1], [.int x], M, uc, us) Q ↔ (narrow .boolean (.int x) = .int x ∧ uc ≤ 0 ∧ us ≤ 0) ∧ Q (.inl (some (.int x))) M := zw_zret (by decide +kernel) rfl rfl rfl
theorem p13_53 : zwp zm_13 (53, [l0, some (.ref a)], st, M, uc, us) Q ↔ zwp zm_13 (54, [l0, some (.ref a)], .ref a :: st, M, uc, us) Q := zwp_step (by decide +kernel) (fun _ => rfl)
theorem p13_54 : zwp zm_13 (54, [l0, l1], .ref a :: st, M, uc, us) Q ↔ zok M a 2 6 ∧ zwp zm_13 (57, [l0, l1], zrd M a 1 :: st, M, uc, us) Q := zw_getfield (by decide +kernel) (by decide +kernel) rfl
theorem p13_57 : zwp zm_13 (57, [some (.ref a), l1], st, M, uc, us) Q ↔ zwp zm_13 (58, [some (.ref a), l1], .ref a :: st, M, uc, us) Q := zwp_step (by decide +kernel) (fun _ => rfl)
theorem p13_58 : zwp zm_13 (58, [l0, l1], .ref a :: st, M, uc, us) Q ↔ zok M a 6 6 ∧ zwp zm_13 (61, [l0, l1], zrd M a 1 :: st, M, uc, us) Q := zw_getfield (by decide +kernel) (by decide +kernel) rfl
theorem p13_61 : zwp zm_13 (61, [l0, l1], .int y :: .int x :: st, M, uc, us) Q ↔ if x = y then zwp zm_13 (64, [l0, l1], st, M, uc, us) Q else zwp zm_13 (68, [l0, l1], st, M, uc, us) Q := zw_icne (by decide +kernel) rfl rfl
theorem p13_64 : zwp zm_13 (64, [l0, l1], st, M, uc, us) Q ↔ zwp zm_13 (65, [l0, l1], .int (nI 1) :: st, M, uc, us) Q := zwp_step (by decide +kernel) (fun _ => rfl)
theorem p13_65 : zwp zm_13 (65, [l0, l1], st, M, uc, us) Q ↔ zwp zm_13 (69, [l0, l1], st, M, uc, us) Q := zw_goto (by decide +kernel) rfl
theorem p13_68 : zwp zm_13 (68, [l0, l1], st, M, uc, us) Q ↔ zwp zm_13 (69, [l0, l1], .int (nI 0) :: st, M, uc, us) Q := zwp_step (by decide +kernel) (fun _ => rfl)
theorem p13_69 : zwp zm_13 (69, [l0, l1], [.int x], M, uc, us) Q ↔ (narrow .boolean (.int x) = .int x ∧ uc ≤ 0 ∧ us ≤ 0) ∧ Q (.inl (some (.int x))) M := zw_zret (by decide +kernel) rfl rfl rfl
theorem p13_70 : zwp zm_13 (70, [l0, some (.ref a)], st, M, uc, us) Q ↔ zwp zm_13 (71, [l0, some (.ref a)], .ref a :: st, M, uc, us) Q := zwp_step (by decide +kernel) (fun _ => rfl)
theorem p13_71 : zwp zm_13 (71, [some (.ref a), l1], st, M, uc, us) Q ↔ zwp zm_13 (72, [some (.ref a), l1], .ref a :: st, M, uc, us) Q := zwp_step (by decide +kernel) (fun _ => rfl)
theorem p13_72 : zwp zm_13 (72, [l0, l1], .ref a :: st, M, uc, us) Q ↔ zok M a 6 6 ∧ zwp zm_13 (75, [l0, l1], zrd M a 1 :: st, M, uc, us) Q := zw_getfield (by decide +kernel) (by decide +kernel) rfl
theorem p13_75 : zwp zm_13 (75, [l0, l1], .int v0 :: .ref a :: st, M, uc, us) Q ↔ ((zct st ≤ 8 ∧ uc + 0 ≤ 0 ∧ us + 0 ≤ 0) ∧ zok M a 2 6) ∧ zcl 3 [.ref a, .int v0] M (zbk zm_13 78 75 [l0, l1] st (uc + 0) (us + 0) Q) := zw_callV (by decide +kernel) (by decide +kernel) zmt_at_3 rfl rfl (by decide) (by decide) rfl rfl rfl rfl rfl rfl rfl
theorem p13_78 : zwp zm_13 (78, [l0, l1], [.int x], M, uc, us) Q ↔ (narrow .boolean (.int x) = .int x ∧ uc ≤ 0 ∧ us ≤ 0) ∧ Q (.inl (some (.int x))) M := zw_zret (by decide +kernel) rfl rfl rfl
theorem p13_79 : zwp zm_13 (79, [l0, some (.ref a)], st, M, uc, us) Q ↔ zwp zm_13 (80, [l0, some (.ref a)], .ref a :: st, M, uc, us) Q := zwp_step (by decide +kernel) (fun _ => rfl)
theorem p13_80 : zwp zm_13 (80, [l0, l1], .ref a :: st, M, uc, us) Q ↔ zok M a 2 6 ∧ zwp zm_13 (83, [l0, l1], zrd M a 3 :: st, M, uc, us) Q := zw_getfield (by decide +kernel) (by decide +kernel) rfl
theorem p13_83 : zwp zm_13 (83, [some (.ref a), l1], st, M, uc, us) Q ↔ zwp zm_13 (84, [some (.ref a), l1], .ref a :: st, M, uc, us) Q := zwp_step (by decide +kernel) (fun _ => rfl)
theorem p13_84 : zwp zm_13 (84, [l0, l1], .ref a :: st, M, uc, us) Q ↔ zok M a 6 6 ∧ zwp zm_13 (87, [l0, l1], zrd M a 1 :: st, M, uc, us) Q := zw_getfield (by decide +kernel) (by decide +kernel) rfl
theorem p13_87 : zwp zm_13 (87, [l0, l1], .int y :: .int x :: st, M, uc, us) Q ↔ if x < y then zwp zm_13 (94, [l0, l1], st, M, uc, us) Q else zwp zm_13 (90, [l0, l1], st, M, uc, us) Q := zw_iclt (by decide +kernel) rfl rfl
theorem p13_90 : zwp zm_13 (90, [l0, l1], st, M, uc, us) Q ↔ zwp zm_13 (91, [l0, l1], .int (nI 1) :: st, M, uc, us) Q := zwp_step (by decide +kernel) (fun _ => rfl)
theorem p13_91 : zwp zm_13 (91, [l0, l1], st, M, uc, us) Q ↔ zwp zm_13 (95, [l0, l1], st, M, uc, us) Q := zw_goto (by decide +kernel) rfl
theorem p13_94 : zwp zm_13 (94, [l0, l1], st, M, uc, us) Q ↔ zwp zm_13 (95, [l0, l1], .int (nI 0) :: st, M, uc, us) Q := zwp_step (by decide +kernel) (fun _ => rfl)
theorem p13_95 : zwp zm_13 (95, [l0, l1], [.int x], M, uc, us) Q ↔ (narrow .boolean (.int x) = .int x ∧ uc ≤ 0 ∧ us ≤ 0) ∧ Q (.inl (some (.int x))) M := zw_zret (by decide +kernel) rfl rfl rfl
theorem p13_96 : zwp zm_13 (96, [l0, some (.ref a)], st, M, uc, us) Q ↔ zwp zm_13 (97, [l0, some (.ref a)], .ref a :: st, M, uc, us) Q := zwp_step (by decide +kernel) (fun _ => rfl)
theorem p13_97 : zwp zm_13 (97, [l0, l1], .ref a :: st, M, uc, us) Q ↔ zok M a 2 6 ∧ zwp zm_13 (100, [l0, l1], zrd M a 4 :: st, M, uc, us) Q := zw_getfield (by decide +kernel) (by decide +kernel) rfl
theorem p13_100 : zwp zm_13 (100, [l0, l1], st, M, uc, us) Q ↔ zwp zm_13 (101, [l0, l1], .int (-1) :: st, M, uc, us) Q := zwp_step (by decide +kernel) (fun _ => rfl)
theorem p13_101 : zwp zm_13 (101, [l0, l1], .int y :: .int x :: st, M, uc, us) Q ↔ if x = y then zwp zm_13 (108, [l0, l1], st, M, uc, us) Q else zwp zm_13 (104, [l0, l1], st, M, uc, us) Q := zw_iceq (by decide +kernel) rfl rfl
theorem p13_104 : zwp zm_13 (104, [l0, l1], st, M, uc, us) Q ↔ zwp zm_13 (105, [l0, l1], .int (nI 1) :: st, M, uc, us) Q := zwp_step (by decide +kernel) (fun _ => rfl)
theorem p13_105 : zwp zm_13 (105, [l0, l1], st, M, uc, us) Q ↔ zwp zm_13 (109, [l0, l1], st, M, uc, us) Q := zw_goto (by decide +kernel) rfl
theorem p13_108 : zwp zm_13 (108, [l0, l1], st, M, uc, us) Q ↔ zwp zm_13 (109, [l0, l1], .int (nI 0) :: st, M, uc, us) Q := zwp_step (by decide +kernel) (fun _ => rfl)
theorem p13_109 : zwp zm_13 (109, [l0, l1], [.int x], M, uc, us) Q ↔ (narrow .boolean (.int x) = .int x ∧ uc ≤ 0 ∧ us ≤ 0) ∧ Q (.inl (some (.int x))) M := zw_zret (by decide +kernel) rfl rfl rfl
theorem p14_0 : zwp zm_14 (0, [some (.ref a)], st, M, uc, us) Q ↔ zwp zm_14 (1, [some (.ref a)], .ref a :: st, M, uc, us) Q := zwp_step (by decide +kernel) (fun _ => rfl)
theorem p14_1 : zwp zm_14 (1, [l0], .ref a :: st, M, uc, us) Q ↔ zct st + 12 ≤ 20 ∧ zwp zm_14 (4, [l0], st, M, uc, us) Q := zw_obj (rf := 0) (by decide +kernel) (by decide +kernel) (by decide) rfl
theorem p14_4 : zwp zm_14 (4, [some (.ref a)], st, M, uc, us) Q ↔ zwp zm_14 (5, [some (.ref a)], .ref a :: st, M, uc, us) Q := zwp_step (by decide +kernel) (fun _ => rfl)
theorem p14_5 : zwp zm_14 (5, [l0], st, M, uc, us) Q ↔ zwp zm_14 (7, [l0], .int (nI 6) :: st, M, uc, us) Q := zwp_step (by decide +kernel) (fun _ => rfl)
theorem p14_7 : zwp zm_14 (7, [l0], .int x :: st, M, uc, us) Q ↔ (0 ≤ x ∧ x.toNatClampNeg ≤ 1000 ∧ uc + 1 ≤ 1 ∧ us + x.toNatClampNeg ≤ 6) ∧ zwp zm_14 (9, [l0], .ref (M.1 + 1) :: st, znew M (20, x.toNatClampNeg) (fun _ => zdef 20), uc + 1, us + x.toNatClampNeg) Q := zw_newarray (by decide +kernel) rfl (by decide) rfl rfl
theorem p14_9 : zwp zm_14 (9, [l0], .ref b :: .ref a :: st, M, uc, us) Q ↔ zok M a 3 5 ∧ zwp zm_14 (12, [l0], st, zput M a 3 (.ref b), uc, us) Q := zw_putR (by decide +kernel) (by decide +kernel) rfl (by decide +kernel) (by decide +kernel)
theorem p14_12 : zwp zm_14 (12, [l0], [], M, uc, us) Q ↔ (uc ≤ 1 ∧ us ≤ 6) ∧ Q (.inl none) M := zw_vret (by decide +kernel) rfl rfl rfl
theorem p15_0 : zwp zm_15 (0, [some (.ref a)], st, M, uc, us) Q ↔ zwp zm_15 (1, [some (.ref a)], .ref a :: st, M, uc, us) Q := zwp_step (by decide +kernel) (fun _ => rfl)
theorem p15_1 : zwp zm_15 (1, [l0], st, M, uc, us) Q ↔ zwp zm_15 (2, [l0], .int (nI 0) :: st, M, uc, us) Q := zwp_step (by decide +kernel) (fun _ => rfl)
theorem p15_2 : zwp zm_15 (2, [l0], .int x :: .ref a :: st, M, uc, us) Q ↔ (zok M a 3 5 ∧ zfit .boolean (.int x) = true) ∧ zwp zm_15 (5, [l0], st, zput M a 0 (.int x), uc, us) Q := zw_putZ (by decide +kernel) (by decide +kernel) rfl rfl (by decide +kernel)
theorem p15_5 : zwp zm_15 (5, [some (.ref a)], st, M, uc, us) Q ↔ zwp zm_15 (6, [some (.ref a)], .ref a :: st, M, uc, us) Q := zwp_step (by decide +kernel) (fun _ => rfl)
theorem p15_6 : zwp zm_15 (6, [l0], st, M, uc, us) Q ↔ zwp zm_15 (7, [l0], .int (nI 0) :: st, M, uc, us) Q := zwp_step (by decide +kernel) (fun _ => rfl)
theorem p15_7 : zwp zm_15 (7, [l0], .int x :: .ref a :: st, M, uc, us) Q ↔ zok M a 3 5 ∧ zwp zm_15 (10, [l0], st, zput M a 1 (.int x), uc, us) Q := zw_putI (by decide +kernel) (by decide +kernel) rfl rfl (by decide +kernel)
theorem p15_10 : zwp zm_15 (10, [some (.ref a)], st, M, uc, us) Q ↔ zwp zm_15 (11, [some (.ref a)], .ref a :: st, M, uc, us) Q := zwp_step (by decide +kernel) (fun _ => rfl)
theorem p15_11 : zwp zm_15 (11, [l0], st, M, uc, us) Q ↔ zwp zm_15 (12, [l0], .int (nI 0) :: st, M, uc, us) Q := zwp_step (by decide +kernel) (fun _ => rfl)
theorem p15_12 : zwp zm_15 (12, [l0], .int x :: .ref a :: st, M, uc, us) Q ↔ zok M a 3 5 ∧ zwp zm_15 (15, [l0], st, zput M a 2 (.int x), uc, us) Q := zw_putI (by decide +kernel) (by decide +kernel) rfl rfl (by decide +kernel)
theorem p15_15 : zwp zm_15 (15, [some (.ref a)], st, M, uc, us) Q ↔ zwp zm_15 (16, [some (.ref a)], .ref a :: st, M, uc, us) Q := zwp_step (by decide +kernel) (fun _ => rfl)
theorem p15_16 : zwp zm_15 (16, [l0], st, M, uc, us) Q ↔ zwp zm_15 (17, [l0], .int (nI 0) :: st, M, uc, us) Q := zwp_step (by decide +kernel) (fun _ => rfl)
theorem p15_17 : zwp zm_15 (17, [l0], .int x :: .ref a :: st, M, uc, us) Q ↔ zok M a 3 5 ∧ zwp zm_15 (20, [l0], st, zput M a 4 (.int x), uc, us) Q := zw_putI (by decide +kernel) (by decide +kernel) rfl rfl (by decide +kernel)
theorem p15_20 : zwp zm_15 (20, [l0], [], M, uc, us) Q ↔ (uc ≤ 0 ∧ us ≤ 0) ∧ Q (.inl none) M := zw_vret (by decide +kernel) rfl rfl rfl
theorem p16_0 : zwp zm_16 (0, [l0, some (.ref a)], st, M, uc, us) Q ↔ zwp zm_16 (1, [l0, some (.ref a)], .ref a :: st, M, uc, us) Q := zwp_step (by decide +kernel) (fun _ => rfl)
theorem p16_1 : zwp zm_16 (1, [l0, l1], .ref a :: st, M, uc, us) Q ↔ zok M a 6 6 ∧ zwp zm_16 (4, [l0, l1], zrd M a 3 :: st, M, uc, us) Q := zw_getfield (by decide +kernel) (by decide +kernel) rfl
theorem p16_4 : zwp zm_16 (4, [l0, l1], .int x :: st, M, uc, us) Q ↔ if x = nI 0 then zwp zm_16 (36, [l0, l1], st, M, uc, us) Q else if x = nI 1 then zwp zm_16 (47, [l0, l1], st, M, uc, us) Q else if x = nI 2 then zwp zm_16 (60, [l0, l1], st, M, uc, us) Q else if x = nI 3 then zwp zm_16 (73, [l0, l1], st, M, uc, us) Q else zwp zm_16 (84, [l0, l1], st, M, uc, us) Q := (zw_tsw (ts := [36, 47, 60, 73]) (d := 84) (by decide +kernel) (by decide) (by decide) (by decide) (by decide) (by decide)).trans Iff.rfl
theorem p16_36 : zwp zm_16 (36, [some (.ref a), l1], st, M, uc, us) Q ↔ zwp zm_16 (37, [some (.ref a), l1], .ref a :: st, M, uc, us) Q := zwp_step (by decide +kernel) (fun _ => rfl)
theorem p16_37 : zwp zm_16 (37, [l0, some (.ref a)], st, M, uc, us) Q ↔ zwp zm_16 (38, [l0, some (.ref a)], .ref a :: st, M, uc, us) Q := zwp_step (by decide +kernel) (fun _ => rfl)
theorem p16_38 : zwp zm_16 (38, [l0, l1], .ref a :: st, M, uc, us) Q ↔ zok M a 6 6 ∧ zwp zm_16 (41, [l0, l1], zrd M a 4 :: st, M, uc, us) Q := zw_getfield (by decide +kernel) (by decide +kernel) rfl
theorem p16_41 : zwp zm_16 (41, [l0, l1], .int x :: .ref a :: st, M, uc, us) Q ↔ zok M a 3 5 ∧ zwp zm_16 (44, [l0, l1], st, zput M a 1 (.int x), uc, us) Q := zw_putI (by decide +kernel) (by decide +kernel) rfl rfl (by decide +kernel)
theorem p16_44 : zwp zm_16 (44, [l0, l1], st, M, uc, us) Q ↔ zwp zm_16 (89, [l0, l1], st, M, uc, us) Q := zw_goto (by decide +kernel) rfl
theorem p16_47 : zwp zm_16 (47, [some (.ref a), l1], st, M, uc, us) Q ↔ zwp zm_16 (48, [some (.ref a), l1], .ref a :: st, M, uc, us) Q := zwp_step (by decide +kernel) (fun _ => rfl)
theorem p16_48 : zwp zm_16 (48, [l0, l1], .ref a :: st, M, uc, us) Q ↔ zwp zm_16 (49, [l0, l1], .ref a :: .ref a :: st, M, uc, us) Q := zwp_step (by decide +kernel) (fun _ => rfl)
theorem p16_48i : zwp zm_16 (48, [l0, l1], .int x :: st, M, uc, us) Q ↔ zwp zm_16 (49, [l0, l1], .int x :: .int x :: st, M, uc, us) Q := zwp_step (by decide +kernel) (fun _ => rfl)
theorem p16_49 : zwp zm_16 (49, [l0, l1], .ref a :: st, M, uc, us) Q ↔ zok M a 3 5 ∧ zwp zm_16 (52, [l0, l1], zrd M a 2 :: st, M, uc, us) Q := zw_getfield (by decide +kernel) (by decide +kernel) rfl
theorem p16_52 : zwp zm_16 (52, [l0, l1], st, M, uc, us) Q ↔ zwp zm_16 (53, [l0, l1], .int (nI 2) :: st, M, uc, us) Q := zwp_step (by decide +kernel) (fun _ => rfl)
theorem p16_53 : zwp zm_16 (53, [l0, l1], .int y :: .int x :: st, M, uc, us) Q ↔ zwp zm_16 (54, [l0, l1], .int (x ||| y) :: st, M, uc, us) Q := zwp_step (by decide +kernel) (fun _ => rfl)
theorem p16_54 : zwp zm_16 (54, [l0, l1], .int x :: .ref a :: st, M, uc, us) Q ↔ zok M a 3 5 ∧ zwp zm_16 (57, [l0, l1], st, zput M a 2 (.int x), uc, us) Q := zw_putI (by decide +kernel) (by decide +kernel) rfl rfl (by decide +kernel)
theorem p16_57 : zwp zm_16 (57, [l0, l1], st, M, uc, us) Q ↔ zwp zm_16 (89, [l0, l1], st, M, uc, us) Q := zw_goto (by decide +kernel) rfl
theorem p16_60 : zwp zm_16 (60, [some (.ref a), l1], st, M, uc, us) Q ↔ zwp zm_16 (61, [some (.ref a), l1], .ref a :: st, M, uc, us) Q := zwp_step (by decide +kernel) (fun _ => rfl)
theorem p16_61 : zwp zm_16 (61, [l0, l1], .ref a :: st, M, uc, us) Q ↔ zwp zm_16 (62, [l0, l1], .ref a :: .ref a :: st, M, uc, us) Q := zwp_step (by decide +kernel) (fun _ => rfl)
theorem p16_61i : zwp zm_16 (61, [l0, l1], .int x :: st, M, uc, us) Q ↔ zwp zm_16 (62, [l0, l1], .int x :: .int x :: st, M, uc, us) Q := zwp_step (by decide +kernel) (fun _ => rfl)
theorem p16_62 : zwp zm_16 (62, [l0, l1], .ref a :: st, M, uc, us) Q ↔ zok M a 3 5 ∧ zwp zm_16 (65, [l0, l1], zrd M a 2 :: st, M, uc, us) Q := zw_getfield (by decide +kernel) (by decide +kernel) rfl
theorem p16_65 : zwp zm_16 (65, [l0, l1], st, M, uc, us) Q ↔ zwp zm_16 (66, [l0, l1], .int (nI 1) :: st, M, uc, us) Q := zwp_step (by decide +kernel) (fun _ => rfl)
theorem p16_66 : zwp zm_16 (66, [l0, l1], .int y :: .int x :: st, M, uc, us) Q ↔ zwp zm_16 (67, [l0, l1], .int (x ||| y) :: st, M, uc, us) Q := zwp_step (by decide +kernel) (fun _ => rfl)
theorem p16_67 : zwp zm_16 (67, [l0, l1], .int x :: .ref a :: st, M, uc, us) Q ↔ zok M a 3 5 ∧ zwp zm_16 (70, [l0, l1], st, zput M a 2 (.int x), uc, us) Q := zw_putI (by decide +kernel) (by decide +kernel) rfl rfl (by decide +kernel)
theorem p16_70 : zwp zm_16 (70, [l0, l1], st, M, uc, us) Q ↔ zwp zm_16 (89, [l0, l1], st, M, uc, us) Q := zw_goto (by decide +kernel) rfl
theorem p16_73 : zwp zm_16 (73, [some (.ref a), l1], st, M, uc, us) Q ↔ zwp zm_16 (74, [some (.ref a), l1], .ref a :: st, M, uc, us) Q := zwp_step (by decide +kernel) (fun _ => rfl)
theorem p16_74 : zwp zm_16 (74, [l0, some (.ref a)], st, M, uc, us) Q ↔ zwp zm_16 (75, [l0, some (.ref a)], .ref a :: st, M, uc, us) Q := zwp_step (by decide +kernel) (fun _ => rfl)
theorem p16_75 : zwp zm_16 (75, [l0, l1], .ref a :: st, M, uc, us) Q ↔ zok M a 6 6 ∧ zwp zm_16 (78, [l0, l1], zrd M a 4 :: st, M, uc, us) Q := zw_getfield (by decide +kernel) (by decide +kernel) rfl
theorem p16_78 : zwp zm_16 (78, [l0, l1], .int v0 :: .ref a :: st, M, uc, us) Q ↔ ((zct st ≤ 8 ∧ uc + 0 ≤ 0 ∧ us + 0 ≤ 0) ∧ zok M a 3 5) ∧ zcl 17 [.ref a, .int v0] M (zbk zm_16 81 78 [l0, l1] st (uc + 0) (us + 0) Q) := zw_callV (by decide +kernel) (by decide +kernel) zmt_at_17 rfl rfl (by decide) (by decide) rfl rfl rfl rfl rfl rfl rfl
theorem p16_81 : zwp zm_16 (81, [l0, l1], st, M, uc, us) Q ↔ zwp zm_16 (89, [l0, l1], st, M, uc, us) Q := zw_goto (by decide +kernel) rfl
theorem p16_84 : zwp zm_16 (84, [some (.ref a), l1], st, M, uc, us) Q ↔ zwp zm_16 (85, [some (.ref a), l1], .ref a :: st, M, uc, us) Q := zwp_step (by decide +kernel) (fun _ => rfl)
theorem p16_85 : zwp zm_16 (85, [l0, l1], st, M, uc, us) Q ↔ zwp zm_16 (86, [l0, l1], .int (nI 1) :: st, M, uc, us) Q := zwp_step (by decide +kernel) (fun _ => rfl)
theorem p16_86 : zwp zm_16 (86, [l0, l1], .int x :: .ref a :: st, M, uc, us) Q ↔ (zok M a 3 5 ∧ zfit .boolean (.int x) = true) ∧ zwp zm_16 (89, [l0, l1], st, zput M a 0 (.int x), uc, us) Q := zw_putZ (by decide +kernel) (by decide +kernel) rfl rfl (by decide +kernel)
theorem p16_89 : zwp zm_16 (89, [l0, l1], [], M, uc, us) Q ↔ (uc ≤ 0 ∧ us ≤ 0) ∧ Q (.inl none) M := zw_vret (by decide +kernel) rfl rfl rfl
theorem p17_0 : zwp zm_17 (0, [some (.ref a), l1], st, M, uc, us) Q ↔ zwp zm_17 (1, [some (.ref a), l1], .ref a :: st, M, uc, us) Q := zwp_step (by decide +kernel) (fun _ => rfl)
theorem p17_1 : zwp zm_17 (1, [l0, l1], .ref a :: st, M, uc, us) Q ↔ zok M a 3 5 ∧ zwp zm_17 (4, [l0, l1], zrd M a 4 :: st, M, uc, us) Q := zw_getfield (by decide +kernel) (by decide +kernel) rfl
theorem p17_4 : zwp zm_17 (4, [some (.ref a), l1], st, M, uc, us) Q ↔ zwp zm_17 (5, [some (.ref a), l1], .ref a :: st, M, uc, us) Q := zwp_step (by decide +kernel) (fun _ => rfl)
theorem p17_5 : zwp zm_17 (5, [l0, l1], .ref a :: st, M, uc, us) Q ↔ zok M a 3 5 ∧ zwp zm_17 (8, [l0, l1], zrd M a 3 :: st, M, uc, us) Q := zw_getfield (by decide +kernel) (by decide +kernel) rfl
theorem p17_8 : zwp zm_17 (8, [l0, l1], .ref a :: st, M, uc, us) Q ↔ zarr M a ∧ zwp zm_17 (9, [l0, l1], .int (nI (zlen' M a)) :: st, M, uc, us) Q := zw_alen (by decide +kernel)
theorem p17_9 : zwp zm_17 (9, [l0, l1], .int y :: .int x :: st, M, uc, us) Q ↔ if x < y then zwp zm_17 (12, [l0, l1], st, M, uc, us) Q else zwp zm_17 (32, [l0, l1], st, M, uc, us) Q := zw_icge (by decide +kernel) rfl rfl
theorem p17_12 : zwp zm_17 (12, [some (.ref a), l1], st, M, uc, us) Q ↔ zwp zm_17 (13, [some (.ref a), l1], .ref a :: st, M, uc, us) Q := zwp_step (by decide +kernel) (fun _ => rfl)
theorem p17_13 : zwp zm_17 (13, [l0, l1], .ref a :: st, M, uc, us) Q ↔ zok M a 3 5 ∧ zwp zm_17 (16, [l0, l1], zrd M a 3 :: st, M, uc, us) Q := zw_getfield (by decide +kernel) (by decide +kernel) rfl
theorem p17_16 : zwp zm_17 (16, [some (.ref a), l1], st, M, uc, us) Q ↔ zwp zm_17 (17, [some (.ref a), l1], .ref a :: st, M, uc, us) Q := zwp_step (by decide +kernel) (fun _ => rfl)
theorem p17_17 : zwp zm_17 (17, [l0, l1], .ref a :: st, M, uc, us) Q ↔ zok M a 3 5 ∧ zwp zm_17 (20, [l0, l1], zrd M a 4 :: st, M, uc, us) Q := zw_getfield (by decide +kernel) (by decide +kernel) rfl
theorem p17_20 : zwp zm_17 (20, [l0, some (.int x)], st, M, uc, us) Q ↔ zwp zm_17 (21, [l0, some (.int x)], .int x :: st, M, uc, us) Q := zwp_step (by decide +kernel) (fun _ => rfl)
theorem p17_21 : zwp zm_17 (21, [l0, l1], .int y :: .int x :: .ref a :: st, M, uc, us) Q ↔ zia M 20 a x ∧ zwp zm_17 (22, [l0, l1], st, zput M a x.toNatClampNeg (.int y), uc, us) Q := zw_iastore (by decide +kernel)
theorem p17_22 : zwp zm_17 (22, [some (.ref a), l1], st, M, uc, us) Q ↔ zwp zm_17 (23, [some (.ref a), l1], .ref a :: st, M, uc, us) Q := zwp_step (by decide +kernel) (fun _ => rfl)
theorem p17_23 : zwp zm_17 (23, [l0, l1], .ref a :: st, M, uc, us) Q ↔ zwp zm_17 (24, [l0, l1], .ref a :: .ref a :: st, M, uc, us) Q := zwp_step (by decide +kernel) (fun _ => rfl)
theorem p17_23i : zwp zm_17 (23, [l0, l1], .int x :: st, M, uc, us) Q ↔ zwp zm_17 (24, [l0, l1], .int x :: .int x :: st, M, uc, us) Q := zwp_step (by decide +kernel) (fun _ => rfl)
theorem p17_24 : zwp zm_17 (24, [l0, l1], .ref a :: st, M, uc, us) Q ↔ zok M a 3 5 ∧ zwp zm_17 (27, [l0, l1], zrd M a 4 :: st, M, uc, us) Q := zw_getfield (by decide +kernel) (by decide +kernel) rfl
theorem p17_27 : zwp zm_17 (27, [l0, l1], st, M, uc, us) Q ↔ zwp zm_17 (28, [l0, l1], .int (nI 1) :: st, M, uc, us) Q := zwp_step (by decide +kernel) (fun _ => rfl)
theorem p17_28 : zwp zm_17 (28, [l0, l1], .int y :: .int x :: st, M, uc, us) Q ↔ zwp zm_17 (29, [l0, l1], .int (x + y) :: st, M, uc, us) Q := zwp_step (by decide +kernel) (fun _ => rfl)
theorem p17_29 : zwp zm_17 (29, [l0, l1], .int x :: .ref a :: st, M, uc, us) Q ↔ zok M a 3 5 ∧ zwp zm_17 (32, [l0, l1], st, zput M a 4 (.int x), uc, us) Q := zw_putI (by decide +kernel) (by decide +kernel) rfl rfl (by decide +kernel)
theorem p17_32 : zwp zm_17 (32, [l0, l1], [], M, uc, us) Q ↔ (uc ≤ 0 ∧ us ≤ 0) ∧ Q (.inl none) M := zw_vret (by decide +kernel) rfl rfl rfl
theorem p18_0 : zwp zm_18 (0, [some (.ref a)], st, M, uc, us) Q ↔ zwp zm_18 (1, [some (.ref a)], .ref a :: st, M, uc, us) Q := zwp_step (by decide +kernel) (fun _ => rfl)
theorem p18_1 : zwp zm_18 (1, [l0], .ref a :: st, M, uc, us) Q ↔ zct st + 12 ≤ 20 ∧ zwp zm_18 (4, [l0], st, M, uc, us) Q := zw_obj (rf := 0) (by decide +kernel) (by decide +kernel) (by decide) rfl
theorem p18_4 : zwp zm_18 (4, [some (.ref a)], st, M, uc, us) Q ↔ zwp zm_18 (5, [some (.ref a)], .ref a :: st, M, uc, us) Q := zwp_step (by decide +kernel) (fun _ => rfl)
theorem p18_5 : zwp zm_18 (5, [l0], st, M, uc, us) Q ↔ zwp zm_18 (6, [l0], .int (nI 4) :: st, M, uc, us) Q := zwp_step (by decide +kernel) (fun _ => rfl)
theorem p18_6 : zwp zm_18 (6, [l0], .int x :: st, M, uc, us) Q ↔ (0 ≤ x ∧ x.toNatClampNeg ≤ 1000 ∧ uc + 1 ≤ 1 ∧ us + x.toNatClampNeg ≤ 4) ∧ zwp zm_18 (8, [l0], .ref (M.1 + 1) :: st, znew M (20, x.toNatClampNeg) (fun _ => zdef 20), uc + 1, us + x.toNatClampNeg) Q := zw_newarray (by decide +kernel) rfl (by decide) rfl rfl
theorem p18_8 : zwp zm_18 (8, [l0], .ref b :: .ref a :: st, M, uc, us) Q ↔ zok M a 5 3 ∧ zwp zm_18 (11, [l0], st, zput M a 0 (.ref b), uc, us) Q := zw_putR (by decide +kernel) (by decide +kernel) rfl (by decide +kernel) (by decide +kernel)
theorem p18_11 : zwp zm_18 (11, [l0], [], M, uc, us) Q ↔ (uc ≤ 1 ∧ us ≤ 4) ∧ Q (.inl none) M := zw_vret (by decide +kernel) rfl rfl rfl
theorem p19_0 : zwp zm_19 (0, [some (.ref a)], st, M, uc, us) Q ↔ zwp zm_19 (1, [some (.ref a)], .ref a :: st, M, uc, us) Q := zwp_step (by decide +kernel) (fun _ => rfl)
theorem p19_1 : zwp zm_19 (1, [l0], st, M, uc, us) Q ↔ zwp zm_19 (2, [l0], .int (nI 0) :: st, M, uc, us) Q := zwp_step (by decide +kernel) (fun _ => rfl)
theorem p19_2 : zwp zm_19 (2, [l0], .int x :: .ref a :: st, M, uc, us) Q ↔ zok M a 5 3 ∧ zwp zm_19 (5, [l0], st, zput M a 1 (.int x), uc, us) Q := zw_putI (by decide +kernel) (by decide +kernel) rfl rfl (by decide +kernel)
theorem p19_5 : zwp zm_19 (5, [some (.ref a)], st, M, uc, us) Q ↔ zwp zm_19 (6, [some (.ref a)], .ref a :: st, M, uc, us) Q := zwp_step (by decide +kernel) (fun _ => rfl)
theorem p19_6 : zwp zm_19 (6, [l0], st, M, uc, us) Q ↔ zwp zm_19 (7, [l0], .int (nI 0) :: st, M, uc, us) Q := zwp_step (by decide +kernel) (fun _ => rfl)
theorem p19_7 : zwp zm_19 (7, [l0], .int x :: .ref a :: st, M, uc, us) Q ↔ zok M a 5 3 ∧ zwp zm_19 (10, [l0], st, zput M a 2 (.int x), uc, us) Q := zw_putI (by decide +kernel) (by decide +kernel) rfl rfl (by decide +kernel)
theorem p19_10 : zwp zm_19 (10, [l0], [], M, uc, us) Q ↔ (uc ≤ 0 ∧ us ≤ 0) ∧ Q (.inl none) M := zw_vret (by decide +kernel) rfl rfl rfl
theorem p20_0 : zwp zm_20 (0, [some (.ref a), l1], st, M, uc, us) Q ↔ zwp zm_20 (1, [some (.ref a), l1], .ref a :: st, M, uc, us) Q := zwp_step (by decide +kernel) (fun _ => rfl)
theorem p20_1 : zwp zm_20 (1, [l0, l1], .ref a :: st, M, uc, us) Q ↔ zok M a 5 3 ∧ zwp zm_20 (4, [l0, l1], zrd M a 2 :: st, M, uc, us) Q := zw_getfield (by decide +kernel) (by decide +kernel) rfl
theorem p20_4 : zwp zm_20 (4, [l0, some (.int x)], st, M, uc, us) Q ↔ zwp zm_20 (5, [l0, some (.int x)], .int x :: st, M, uc, us) Q := zwp_step (by decide +kernel) (fun _ => rfl)
theorem p20_5 : zwp zm_20 (5, [l0, l1], .int v1 :: .int v0 :: st, M, uc, us) Q ↔ (zct st ≤ 8 ∧ uc + 0 ≤ 0 ∧ us + 0 ≤ 0) ∧ zcl 83 [.int v0, .int v1] M (zbk zm_20 8 5 [l0, l1] st (uc + 0) (us + 0) Q) := zw_callS (by decide +kernel) (by decide +kernel) (by decide) zmt_at_83 rfl rfl (by decide) (by decide) rfl rfl rfl rfl rfl
theorem p20_8 : zwp zm_20 (8, [l0, l1], .int x :: st, M, uc, us) Q ↔ if x = nI 0 then zwp zm_20 (11, [l0, l1], st, M, uc, us) Q else zwp zm_20 (55, [l0, l1], st, M, uc, us) Q := zw_ifne (by decide +kernel) rfl rfl
theorem p20_11 : zwp zm_20 (11, [some (.ref a), l1], st, M, uc, us) Q ↔ zwp zm_20 (12, [some (.ref a), l1], .ref a :: st, M, uc, us) Q := zwp_step (by decide +kernel) (fun _ => rfl)
theorem p20_12 : zwp zm_20 (12, [l0, l1], .ref a :: st, M, uc, us) Q ↔ zok M a 5 3 ∧ zwp zm_20 (15, [l0, l1], zrd M a 1 :: st, M, uc, us) Q := zw_getfield (by decide +kernel) (by decide +kernel) rfl
theorem p20_15 : zwp zm_20 (15, [some (.ref a), l1], st, M, uc, us) Q ↔ zwp zm_20 (16, [some (.ref a), l1], .ref a :: st, M, uc, us) Q := zwp_step (by decide +kernel) (fun _ => rfl)
theorem p20_16 : zwp zm_20 (16, [l0, l1], .ref a :: st, M, uc, us) Q ↔ zok M a 5 3 ∧ zwp zm_20 (19, [l0, l1], zrd M a 0 :: st, M, uc, us) Q := zw_getfield (by decide +kernel) (by decide +kernel) rfl
theorem p20_19 : zwp zm_20 (19, [l0, l1], .ref a :: st, M, uc, us) Q ↔ zarr M a ∧ zwp zm_20 (20, [l0, l1], .int (nI (zlen' M a)) :: st, M, uc, us) Q := zw_alen (by decide +kernel)
theorem p20_20 : zwp zm_20 (20, [l0, l1], .int y :: .int x :: st, M, uc, us) Q ↔ if x < y then zwp zm_20 (23, [l0, l1], st, M, uc, us) Q else zwp zm_20 (55, [l0, l1], st, M, uc, us) Q := zw_icge (by decide +kernel) rfl rfl
theorem p20_23 : zwp zm_20 (23, [some (.ref a), l1], st, M, uc, us) Q ↔ zwp zm_20 (24, [some (.ref a), l1], .ref a :: st, M, uc, us) Q := zwp_step (by decide +kernel) (fun _ => rfl)
theorem p20_24 : zwp zm_20 (24, [l0, l1], .ref a :: st, M, uc, us) Q ↔ zok M a 5 3 ∧ zwp zm_20 (27, [l0, l1], zrd M a 0 :: st, M, uc, us) Q := zw_getfield (by decide +kernel) (by decide +kernel) rfl
theorem p20_27 : zwp zm_20 (27, [some (.ref a), l1], st, M, uc, us) Q ↔ zwp zm_20 (28, [some (.ref a), l1], .ref a :: st, M, uc, us) Q := zwp_step (by decide +kernel) (fun _ => rfl)
theorem p20_28 : zwp zm_20 (28, [l0, l1], .ref a :: st, M, uc, us) Q ↔ zok M a 5 3 ∧ zwp zm_20 (31, [l0, l1], zrd M a 1 :: st, M, uc, us) Q := zw_getfield (by decide +kernel) (by decide +kernel) rfl
theorem p20_31 : zwp zm_20 (31, [l0, some (.int x)], st, M, uc, us) Q ↔ zwp zm_20 (32, [l0, some (.int x)], .int x :: st, M, uc, us) Q := zwp_step (by decide +kernel) (fun _ => rfl)
theorem p20_32 : zwp zm_20 (32, [l0, l1], .int y :: .int x :: .ref a :: st, M, uc, us) Q ↔ zia M 20 a x ∧ zwp zm_20 (33, [l0, l1], st, zput M a x.toNatClampNeg (.int y), uc, us) Q := zw_iastore (by decide +kernel)
theorem p20_33 : zwp zm_20 (33, [some (.ref a), l1], st, M, uc, us) Q ↔ zwp zm_20 (34, [some (.ref a), l1], .ref a :: st, M, uc, us) Q := zwp_step (by decide +kernel) (fun _ => rfl)
theorem p20_34 : zwp zm_20 (34, [l0, l1], .ref a :: st, M, uc, us) Q ↔ zwp zm_20 (35, [l0, l1], .ref a :: .ref a :: st, M, uc, us) Q := zwp_step (by decide +kernel) (fun _ => rfl)
theorem p20_34i : zwp zm_20 (34, [l0, l1], .int x :: st, M, uc, us) Q ↔ zwp zm_20 (35, [l0, l1], .int x :: .int x :: st, M, uc, us) Q := zwp_step (by decide +kernel) (fun _ => rfl)
theorem p20_35 : zwp zm_20 (35, [l0, l1], .ref a :: st, M, uc, us) Q ↔ zok M a 5 3 ∧ zwp zm_20 (38, [l0, l1], zrd M a 1 :: st, M, uc, us) Q := zw_getfield (by decide +kernel) (by decide +kernel) rfl
theorem p20_38 : zwp zm_20 (38, [l0, l1], st, M, uc, us) Q ↔ zwp zm_20 (39, [l0, l1], .int (nI 1) :: st, M, uc, us) Q := zwp_step (by decide +kernel) (fun _ => rfl)
theorem p20_39 : zwp zm_20 (39, [l0, l1], .int y :: .int x :: st, M, uc, us) Q ↔ zwp zm_20 (40, [l0, l1], .int (x + y) :: st, M, uc, us) Q := zwp_step (by decide +kernel) (fun _ => rfl)
theorem p20_40 : zwp zm_20 (40, [l0, l1], .int x :: .ref a :: st, M, uc, us) Q ↔ zok M a 5 3 ∧ zwp zm_20 (43, [l0, l1], st, zput M a 1 (.int x), uc, us) Q := zw_putI (by decide +kernel) (by decide +kernel) rfl rfl (by decide +kernel)
theorem p20_43 : zwp zm_20 (43, [some (.ref a), l1], st, M, uc, us) Q ↔ zwp zm_20 (44, [some (.ref a), l1], .ref a :: st, M, uc, us) Q := zwp_step (by decide +kernel) (fun _ => rfl)
theorem p20_44 : zwp zm_20 (44, [l0, l1], .ref a :: st, M, uc, us) Q ↔ zwp zm_20 (45, [l0, l1], .ref a :: .ref a :: st, M, uc, us) Q := zwp_step (by decide +kernel) (fun _ => rfl)
theorem p20_44i : zwp zm_20 (44, [l0, l1], .int x :: st, M, uc, us) Q ↔ zwp zm_20 (45, [l0, l1], .int x :: .int x :: st, M, uc, us) Q := zwp_step (by decide +kernel) (fun _ => rfl)
theorem p20_45 : zwp zm_20 (45, [l0, l1], .ref a :: st, M, uc, us) Q ↔ zok M a 5 3 ∧ zwp zm_20 (48, [l0, l1], zrd M a 2 :: st, M, uc, us) Q := zw_getfield (by decide +kernel) (by decide +kernel) rfl
theorem p20_48 : zwp zm_20 (48, [l0, l1], st, M, uc, us) Q ↔ zwp zm_20 (49, [l0, l1], .int (nI 1) :: st, M, uc, us) Q := zwp_step (by decide +kernel) (fun _ => rfl)
theorem p20_49 : zwp zm_20 (49, [l0, some (.int x)], st, M, uc, us) Q ↔ zwp zm_20 (50, [l0, some (.int x)], .int x :: st, M, uc, us) Q := zwp_step (by decide +kernel) (fun _ => rfl)
theorem p20_50 : zwp zm_20 (50, [l0, l1], .int y :: .int x :: st, M, uc, us) Q ↔ zwp zm_20 (51, [l0, l1], .int (x <<< (y &&& 31)) :: st, M, uc, us) Q := zwp_step (by decide +kernel) (fun _ => rfl)
theorem p20_51 : zwp zm_20 (51, [l0, l1], .int y :: .int x :: st, M, uc, us) Q ↔ zwp zm_20 (52, [l0, l1], .int (x ||| y) :: st, M, uc, us) Q := zwp_step (by decide +kernel) (fun _ => rfl)
theorem p20_52 : zwp zm_20 (52, [l0, l1], .int x :: .ref a :: st, M, uc, us) Q ↔ zok M a 5 3 ∧ zwp zm_20 (55, [l0, l1], st, zput M a 2 (.int x), uc, us) Q := zw_putI (by decide +kernel) (by decide +kernel) rfl rfl (by decide +kernel)
theorem p20_55 : zwp zm_20 (55, [l0, l1], [], M, uc, us) Q ↔ (uc ≤ 0 ∧ us ≤ 0) ∧ Q (.inl none) M := zw_vret (by decide +kernel) rfl rfl rfl
theorem p21_0 : zwp zm_21 (0, [some (.ref a)], st, M, uc, us) Q ↔ zwp zm_21 (1, [some (.ref a)], .ref a :: st, M, uc, us) Q := zwp_step (by decide +kernel) (fun _ => rfl)
theorem p21_1 : zwp zm_21 (1, [l0], .ref a :: st, M, uc, us) Q ↔ zct st + 12 ≤ 20 ∧ zwp zm_21 (4, [l0], st, M, uc, us) Q := zw_obj (rf := 0) (by decide +kernel) (by decide +kernel) (by decide) rfl
theorem p21_4 : zwp zm_21 (4, [l0], [], M, uc, us) Q ↔ (uc ≤ 0 ∧ us ≤ 0) ∧ Q (.inl none) M := zw_vret (by decide +kernel) rfl rfl rfl
theorem p22_0 : zwp zm_22 (0, [some (.ref a), l1, l2, l3], st, M, uc, us) Q ↔ zwp zm_22 (1, [some (.ref a), l1, l2, l3], .ref a :: st, M, uc, us) Q := zwp_step (by decide +kernel) (fun _ => rfl)
theorem p22_1 : zwp zm_22 (1, [l0, some (.int x), l2, l3], st, M, uc, us) Q ↔ zwp zm_22 (2, [l0, some (.int x), l2, l3], .int x :: st, M, uc, us) Q := zwp_step (by decide +kernel) (fun _ => rfl)
theorem p22_2 : zwp zm_22 (2, [l0, l1, l2, l3], .int x :: .ref a :: st, M, uc, us) Q ↔ zok M a 4 3 ∧ zwp zm_22 (5, [l0, l1, l2, l3], st, zput M a 0 (.int x), uc, us) Q := zw_putI (by decide +kernel) (by decide +kernel) rfl rfl (by decide +kernel)
theorem p22_5 : zwp zm_22 (5, [some (.ref a), l1, l2, l3], st, M, uc, us) Q ↔ zwp zm_22 (6, [some (.ref a), l1, l2, l3], .ref a :: st, M, uc, us) Q := zwp_step (by decide +kernel) (fun _ => rfl)
theorem p22_6 : zwp zm_22 (6, [l0, l1, some (.int x), l3], st, M, uc, us) Q ↔ zwp zm_22 (7, [l0, l1, some (.int x), l3], .int x :: st, M, uc, us) Q := zwp_step (by decide +kernel) (fun _ => rfl)
theorem p22_7 : zwp zm_22 (7, [l0, l1, l2, l3], .int x :: .ref a :: st, M, uc, us) Q ↔ zok M a 4 3 ∧ zwp zm_22 (10, [l0, l1, l2, l3], st, zput M a 1 (.int x), uc, us) Q := zw_putI (by decide +kernel) (by decide +kernel) rfl rfl (by decide +kernel)
theorem p22_10 : zwp zm_22 (10, [some (.ref a), l1, l2, l3], st, M, uc, us) Q ↔ zwp zm_22 (11, [some (.ref a), l1, l2, l3], .ref a :: st, M, uc, us) Q := zwp_step (by decide +kernel) (fun _ => rfl)
theorem p22_11 : zwp zm_22 (11, [l0, l1, l2, some (.int x)], st, M, uc, us) Q ↔ zwp zm_22 (12, [l0, l1, l2, some (.int x)], .int x :: st, M, uc, us) Q := zwp_step (by decide +kernel) (fun _ => rfl)
theorem p22_12 : zwp zm_22 (12, [l0, l1, l2, l3], .int x :: .ref a :: st, M, uc, us) Q ↔ zok M a 4 3 ∧ zwp zm_22 (15, [l0, l1, l2, l3], st, zput M a 2 (.int x), uc, us) Q := zw_putI (by decide +kernel) (by decide +kernel) rfl rfl (by decide +kernel)
theorem p22_15 : zwp zm_22 (15, [l0, l1, l2, l3], [], M, uc, us) Q ↔ (uc ≤ 0 ∧ us ≤ 0) ∧ Q (.inl none) M := zw_vret (by decide +kernel) rfl rfl rfl
theorem p23_0 : zwp zm_23 (0, [some (.ref a), l1, l2, l3, l4], st, M, uc, us) Q ↔ zwp zm_23 (1, [some (.ref a), l1, l2, l3, l4], .ref a :: st, M, uc, us) Q := zwp_step (by decide +kernel) (fun _ => rfl)
theorem p23_1 : zwp zm_23 (1, [l0, l1, l2, l3, l4], .ref a :: st, M, uc, us) Q ↔ zok M a 4 3 ∧ zwp zm_23 (4, [l0, l1, l2, l3, l4], zrd M a 0 :: st, M, uc, us) Q := zw_getfield (by decide +kernel) (by decide +kernel) rfl
theorem p23_4 : zwp zm_23 (4, [l0, l1, l2, l3, l4], .int x :: st, M, uc, us) Q ↔ if x = nI 0 then zwp zm_23 (56, [l0, l1, l2, l3, l4], st, M, uc, us) Q else if x = nI 1 then zwp zm_23 (73, [l0, l1, l2, l3, l4], st, M, uc, us) Q else if x = nI 2 then zwp zm_23 (90, [l0, l1, l2, l3, l4], st, M, uc, us) Q else if x = nI 3 then zwp zm_23 (99, [l0, l1, l2, l3, l4], st, M, uc, us) Q else if x = nI 4 then zwp zm_23 (116, [l0, l1, l2, l3, l4], st, M, uc, us) Q else if x = nI 5 then zwp zm_23 (125, [l0, l1, l2, l3, l4], st, M, uc, us) Q else if x = nI 6 then zwp zm_23 (138, [l0, l1, l2, l3, l4], st, M, uc, us) Q else if x = nI 7 then zwp zm_23 (155, [l0, l1, l2, l3, l4], st, M, uc, us) Q else if x = nI 8 then zwp zm_23 (173, [l0, l1, l2, l3, l4], st, M, uc, us) Q else zwp zm_23 (203, [l0, l1, l2, l3, l4], st, M, uc, us) Q := (zw_tsw (ts := [56, 73, 90, 99, 116, 125, 138, 155, 173]) (d := 203) (by decide +kernel) (by decide) (by decide) (by decide) (by decide) (by decide)).trans Iff.rfl
theorem p23_56 : zwp zm_23 (56, [l0, some (.ref a), l2, l3, l4], st, M, uc, us) Q ↔ zwp zm_23 (57, [l0, some (.ref a), l2, l3, l4], .ref a :: st, M, uc, us) Q := zwp_step (by decide +kernel) (fun _ => rfl)
theorem p23_57 : zwp zm_23 (57, [l0, l1, l2, l3, l4], .ref a :: st, M, uc, us) Q ↔ zok M a 2 6 ∧ zwp zm_23 (60, [l0, l1, l2, l3, l4], zrd M a 0 :: st, M, uc, us) Q := zw_getfield (by decide +kernel) (by decide +kernel) rfl
theorem p23_60 : zwp zm_23 (60, [some (.ref a), l1, l2, l3, l4], st, M, uc, us) Q ↔ zwp zm_23 (61, [some (.ref a), l1, l2, l3, l4], .ref a :: st, M, uc, us) Q := zwp_step (by decide +kernel) (fun _ => rfl)
theorem p23_61 : zwp zm_23 (61, [l0, l1, l2, l3, l4], .ref a :: st, M, uc, us) Q ↔ zok M a 4 3 ∧ zwp zm_23 (64, [l0, l1, l2, l3, l4], zrd M a 1 :: st, M, uc, us) Q := zw_getfield (by decide +kernel) (by decide +kernel) rfl
theorem p23_64 : zwp zm_23 (64, [l0, l1, l2, l3, l4], .int y :: .int x :: st, M, uc, us) Q ↔ if x = y then zwp zm_23 (67, [l0, l1, l2, l3, l4], st, M, uc, us) Q else zwp zm_23 (71, [l0, l1, l2, l3, l4], st, M, uc, us) Q := zw_icne (by decide +kernel) rfl rfl
theorem p23_67 : zwp zm_23 (67, [l0, l1, l2, l3, l4], st, M, uc, us) Q ↔ zwp zm_23 (68, [l0, l1, l2, l3, l4], .int (nI 1) :: st, M, uc, us) Q := zwp_step (by decide +kernel) (fun _ => rfl)
theorem p23_68 : zwp zm_23 (68, [l0, l1, l2, l3, l4], st, M, uc, us) Q ↔ zwp zm_23 (72, [l0, l1, l2, l3, l4], st, M, uc, us) Q := zw_goto (by decide +kernel) rfl
theorem p23_71 : zwp zm_23 (71, [l0, l1, l2, l3, l4], st, M, uc, us) Q ↔ zwp zm_23 (72, [l0, l1, l2, l3, l4], .int (nI 0) :: st, M, uc, us) Q := zwp_step (by decide +kernel) (fun _ => rfl)
theorem p23_72 : zwp zm_23 (72, [l0, l1, l2, l3, l4], [.int x], M, uc, us) Q ↔ (narrow .boolean (.int x) = .int x ∧ uc ≤ 0 ∧ us ≤ 0) ∧ Q (.inl (some (.int x))) M := zw_zret (by decide +kernel) rfl rfl rfl
theorem p23_73 : zwp zm_23 (73, [l0, some (.ref a), l2, l3, l4], st, M, uc, us) Q ↔ zwp zm_23 (74, [l0, some (.ref a), l2, l3, l4], .ref a :: st, M, uc, us) Q := zwp_step (by decide +kernel) (fun _ => rfl)
theorem p23_74 : zwp zm_23 (74, [l0, l1, l2, l3, l4], .ref a :: st, M, uc, us) Q ↔ zok M a 2 6 ∧ zwp zm_23 (77, [l0, l1, l2, l3, l4], zrd M a 1 :: st, M, uc, us) Q := zw_getfield (by decide +kernel) (by decide +kernel) rfl
theorem p23_77 : zwp zm_23 (77, [some (.ref a), l1, l2, l3, l4], st, M, uc, us) Q ↔ zwp zm_23 (78, [some (.ref a), l1, l2, l3, l4], .ref a :: st, M, uc, us) Q := zwp_step (by decide +kernel) (fun _ => rfl)
theorem p23_78 : zwp zm_23 (78, [l0, l1, l2, l3, l4], .ref a :: st, M, uc, us) Q ↔ zok M a 4 3 ∧ zwp zm_23 (81, [l0, l1, l2, l3, l4], zrd M a 1 :: st, M, uc, us) Q := zw_getfield (by decide +kernel) (by decide +kernel) rfl
theorem p23_81 : zwp zm_23 (81, [l0, l1, l2, l3, l4], .int y :: .int x :: st, M, uc, us) Q ↔ if x = y then zwp zm_23 (84, [l0, l1, l2, l3, l4], st, M, uc, us) Q else zwp zm_23 (88, [l0, l1, l2, l3, l4], st, M, uc, us) Q := zw_icne (by decide +kernel) rfl rfl
theorem p23_84 : zwp zm_23 (84, [l0, l1, l2, l3, l4], st, M, uc, us) Q ↔ zwp zm_23 (85, [l0, l1, l2, l3, l4], .int (nI 1) :: st, M, uc, us) Q := zwp_step (by decide +kernel) (fun _ => rfl)
theorem p23_85 : zwp zm_23 (85, [l0, l1, l2, l3, l4], st, M, uc, us) Q ↔ zwp zm_23 (89, [l0, l1, l2, l3, l4], st, M, uc, us) Q := zw_goto (by decide +kernel) rfl
theorem p23_88 : zwp zm_23 (88, [l0, l1, l2, l3, l4], st, M, uc, us) Q ↔ zwp zm_23 (89, [l0, l1, l2, l3, l4], .int (nI 0) :: st, M, uc, us) Q := zwp_step (by decide +kernel) (fun _ => rfl)
theorem p23_89 : zwp zm_23 (89, [l0, l1, l2, l3, l4], [.int x], M, uc, us) Q ↔ (narrow .boolean (.int x) = .int x ∧ uc ≤ 0 ∧ us ≤ 0) ∧ Q (.inl (some (.int x))) M := zw_zret (by decide +kernel) rfl rfl rfl
theorem p23_90 : zwp zm_23 (90, [l0, some (.ref a), l2, l3, l4], st, M, uc, us) Q ↔ zwp zm_23 (91, [l0, some (.ref a), l2, l3, l4], .ref a :: st, M, uc, us) Q := zwp_step (by decide +kernel) (fun _ => rfl)
theorem p23_91 : zwp zm_23 (91, [some (.ref a), l1, l2, l3, l4], st, M, uc, us) Q ↔ zwp zm_23 (92, [some (.ref a), l1, l2, l3, l4], .ref a :: st, M, uc, us) Q := zwp_step (by decide +kernel) (fun _ => rfl)
theorem p23_92 : zwp zm_23 (92, [l0, l1, l2, l3, l4], .ref a :: st, M, uc, us) Q ↔ zok M a 4 3 ∧ zwp zm_23 (95, [l0, l1, l2, l3, l4], zrd M a 1 :: st, M, uc, us) Q := zw_getfield (by decide +kernel) (by decide +kernel) rfl
theorem p23_95 : zwp zm_23 (95, [l0, l1, l2, l3, l4], .int v0 :: .ref a :: st, M, uc, us) Q ↔ ((zct st ≤ 8 ∧ uc + 0 ≤ 0 ∧ us + 0 ≤ 0) ∧ zok M a 2 6) ∧ zcl 3 [.ref a, .int v0] M (zbk zm_23 98 95 [l0, l1, l2, l3, l4] st (uc + 0) (us + 0) Q) := zw_callV (by decide +kernel) (by decide +kernel) zmt_at_3 rfl rfl (by decide) (by decide) rfl rfl rfl rfl rfl rfl rfl
theorem p23_98 : zwp zm_23 (98, [l0, l1, l2, l3, l4], [.int x], M, uc, us) Q ↔ (narrow .boolean (.int x) = .int x ∧ uc ≤ 0 ∧ us ≤ 0) ∧ Q (.inl (some (.int x))) M := zw_zret (by decide +kernel) rfl rfl rfl
theorem p23_99 : zwp zm_23 (99, [l0, some (.ref a), l2, l3, l4], st, M, uc, us) Q ↔ zwp zm_23 (100, [l0, some (.ref a), l2, l3, l4], .ref a :: st, M, uc, us) Q := zwp_step (by decide +kernel) (fun _ => rfl)
theorem p23_100 : zwp zm_23 (100, [l0, l1, l2, l3, l4], .ref a :: st, M, uc, us) Q ↔ zok M a 2 6 ∧ zwp zm_23 (103, [l0, l1, l2, l3, l4], zrd M a 3 :: st, M, uc, us) Q := zw_getfield (by decide +kernel) (by decide +kernel) rfl
theorem p23_103 : zwp zm_23 (103, [some (.ref a), l1, l2, l3, l4], st, M, uc, us) Q ↔ zwp zm_23 (104, [some (.ref a), l1, l2, l3, l4], .ref a :: st, M, uc, us) Q := zwp_step (by decide +kernel) (fun _ => rfl)
theorem p23_104 : zwp zm_23 (104, [l0, l1, l2, l3, l4], .ref a :: st, M, uc, us) Q ↔ zok M a 4 3 ∧ zwp zm_23 (107, [l0, l1, l2, l3, l4], zrd M a 1 :: st, M, uc, us) Q := zw_getfield (by decide +kernel) (by decide +kernel) rfl
theorem p23_107 : zwp zm_23 (107, [l0, l1, l2, l3, l4], .int y :: .int x :: st, M, uc, us) Q ↔ if x < y then zwp zm_23 (114, [l0, l1, l2, l3, l4], st, M, uc, us) Q else zwp zm_23 (110, [l0, l1, l2, l3, l4], st, M, uc, us) Q := zw_iclt (by decide +kernel) rfl rfl
theorem p23_110 : zwp zm_23 (110, [l0, l1, l2, l3, l4], st, M, uc, us) Q ↔ zwp zm_23 (111, [l0, l1, l2, l3, l4], .int (nI 1) :: st, M, uc, us) Q := zwp_step (by decide +kernel) (fun _ => rfl)
theorem p23_111 : zwp zm_23 (111, [l0, l1, l2, l3, l4], st, M, uc, us) Q ↔ zwp zm_23 (115, [l0, l1, l2, l3, l4], st, M, uc, us) Q := zw_goto (by decide +kernel) rfl
theorem p23_114 : zwp zm_23 (114, [l0, l1, l2, l3, l4], st, M, uc, us) Q ↔ zwp zm_23 (115, [l0, l1, l2, l3, l4], .int (nI 0) :: st, M, uc, us) Q := zwp_step (by decide +kernel) (fun _ => rfl)
theorem p23_115 : zwp zm_23 (115, [l0, l1, l2, l3, l4], [.int x], M, uc, us) Q ↔ (narrow .boolean (.int x) = .int x ∧ uc ≤ 0 ∧ us ≤ 0) ∧ Q (.inl (some (.int x))) M := zw_zret (by decide +kernel) rfl rfl rfl
theorem p23_116 : zwp zm_23 (116, [l0, l1, l2, some (.ref a), l4], st, M, uc, us) Q ↔ zwp zm_23 (117, [l0, l1, l2, some (.ref a), l4], .ref a :: st, M, uc, us) Q := zwp_step (by decide +kernel) (fun _ => rfl)
theorem p23_117 : zwp zm_23 (117, [some (.ref a), l1, l2, l3, l4], st, M, uc, us) Q ↔ zwp zm_23 (118, [some (.ref a), l1, l2, l3, l4], .ref a :: st, M, uc, us) Q := zwp_step (by decide +kernel) (fun _ => rfl)
theorem p23_118 : zwp zm_23 (118, [l0, l1, l2, l3, l4], .ref a :: st, M, uc, us) Q ↔ zok M a 4 3 ∧ zwp zm_23 (121, [l0, l1, l2, l3, l4], zrd M a 1 :: st, M, uc, us) Q := zw_getfield (by decide +kernel) (by decide +kernel) rfl
theorem p23_121 : zwp zm_23 (121, [l0, l1, l2, l3, l4], .int v0 :: .ref a :: st, M, uc, us) Q ↔ ((zct st ≤ 8 ∧ uc + 0 ≤ 0 ∧ us + 0 ≤ 0) ∧ zok M a 1 6) ∧ zcl 6 [.ref a, .int v0] M (zbk zm_23 124 121 [l0, l1, l2, l3, l4] st (uc + 0) (us + 0) Q) := zw_callV (by decide +kernel) (by decide +kernel) zmt_at_6 rfl rfl (by decide) (by decide) rfl rfl rfl rfl rfl rfl rfl
theorem p23_124 : zwp zm_23 (124, [l0, l1, l2, l3, l4], [.int x], M, uc, us) Q ↔ (narrow .boolean (.int x) = .int x ∧ uc ≤ 0 ∧ us ≤ 0) ∧ Q (.inl (some (.int x))) M := zw_zret (by decide +kernel) rfl rfl rfl
theorem p23_125 : zwp zm_23 (125, [l0, l1, some (.ref a), l3, l4], st, M, uc, us) Q ↔ zwp zm_23 (126, [l0, l1, some (.ref a), l3, l4], .ref a :: st, M, uc, us) Q := zwp_step (by decide +kernel) (fun _ => rfl)
theorem p23_126 : zwp zm_23 (126, [l0, l1, l2, some (.ref a), l4], st, M, uc, us) Q ↔ zwp zm_23 (127, [l0, l1, l2, some (.ref a), l4], .ref a :: st, M, uc, us) Q := zwp_step (by decide +kernel) (fun _ => rfl)
theorem p23_127 : zwp zm_23 (127, [l0, l1, l2, l3, l4], .ref a :: st, M, uc, us) Q ↔ zok M a 1 6 ∧ zwp zm_23 (130, [l0, l1, l2, l3, l4], zrd M a 1 :: st, M, uc, us) Q := zw_getfield (by decide +kernel) (by decide +kernel) rfl
theorem p23_130 : zwp zm_23 (130, [some (.ref a), l1, l2, l3, l4], st, M, uc, us) Q ↔ zwp zm_23 (131, [some (.ref a), l1, l2, l3, l4], .ref a :: st, M, uc, us) Q := zwp_step (by decide +kernel) (fun _ => rfl)
theorem p23_131 : zwp zm_23 (131, [l0, l1, l2, l3, l4], .ref a :: st, M, uc, us) Q ↔ zok M a 4 3 ∧ zwp zm_23 (134, [l0, l1, l2, l3, l4], zrd M a 1 :: st, M, uc, us) Q := zw_getfield (by decide +kernel) (by decide +kernel) rfl
theorem p23_134 : zwp zm_23 (134, [l0, l1, l2, l3, l4], .int v1 :: .int v0 :: .ref a :: st, M, uc, us) Q ↔ ((zct st ≤ 8 ∧ uc + 0 ≤ 0 ∧ us + 0 ≤ 0) ∧ zok M a 0 6) ∧ zcl 33 [.ref a, .int v0, .int v1] M (zbk zm_23 137 134 [l0, l1, l2, l3, l4] st (uc + 0) (us + 0) Q) := zw_callV (by decide +kernel) (by decide +kernel) zmt_at_33 rfl rfl (by decide) (by decide) rfl rfl rfl rfl rfl rfl rfl
theorem p23_137 : zwp zm_23 (137, [l0, l1, l2, l3, l4], [.int x], M, uc, us) Q ↔ (narrow .boolean (.int x) = .int x ∧ uc ≤ 0 ∧ us ≤ 0) ∧ Q (.inl (some (.int x))) M := zw_zret (by decide +kernel) rfl rfl rfl
theorem p23_138 : zwp zm_23 (138, [l0, some (.ref a), l2, l3, l4], st, M, uc, us) Q ↔ zwp zm_23 (139, [l0, some (.ref a), l2, l3, l4], .ref a :: st, M, uc, us) Q := zwp_step (by decide +kernel) (fun _ => rfl)
theorem p23_139 : zwp zm_23 (139, [l0, l1, l2, l3, l4], .ref a :: st, M, uc, us) Q ↔ zok M a 2 6 ∧ zwp zm_23 (142, [l0, l1, l2, l3, l4], zrd M a 5 :: st, M, uc, us) Q := zw_getfield (by decide +kernel) (by decide +kernel) rfl
theorem p23_142 : zwp zm_23 (142, [some (.ref a), l1, l2, l3, l4], st, M, uc, us) Q ↔ zwp zm_23 (143, [some (.ref a), l1, l2, l3, l4], .ref a :: st, M, uc, us) Q := zwp_step (by decide +kernel) (fun _ => rfl)
theorem p23_143 : zwp zm_23 (143, [l0, l1, l2, l3, l4], .ref a :: st, M, uc, us) Q ↔ zok M a 4 3 ∧ zwp zm_23 (146, [l0, l1, l2, l3, l4], zrd M a 1 :: st, M, uc, us) Q := zw_getfield (by decide +kernel) (by decide +kernel) rfl
theorem p23_146 : zwp zm_23 (146, [l0, l1, l2, l3, l4], .int y :: .int x :: st, M, uc, us) Q ↔ if x < y then zwp zm_23 (153, [l0, l1, l2, l3, l4], st, M, uc, us) Q else zwp zm_23 (149, [l0, l1, l2, l3, l4], st, M, uc, us) Q := zw_iclt (by decide +kernel) rfl rfl
theorem p23_149 : zwp zm_23 (149, [l0, l1, l2, l3, l4], st, M, uc, us) Q ↔ zwp zm_23 (150, [l0, l1, l2, l3, l4], .int (nI 1) :: st, M, uc, us) Q := zwp_step (by decide +kernel) (fun _ => rfl)
theorem p23_150 : zwp zm_23 (150, [l0, l1, l2, l3, l4], st, M, uc, us) Q ↔ zwp zm_23 (154, [l0, l1, l2, l3, l4], st, M, uc, us) Q := zw_goto (by decide +kernel) rfl
theorem p23_153 : zwp zm_23 (153, [l0, l1, l2, l3, l4], st, M, uc, us) Q ↔ zwp zm_23 (154, [l0, l1, l2, l3, l4], .int (nI 0) :: st, M, uc, us) Q := zwp_step (by decide +kernel) (fun _ => rfl)
theorem p23_154 : zwp zm_23 (154, [l0, l1, l2, l3, l4], [.int x], M, uc, us) Q ↔ (narrow .boolean (.int x) = .int x ∧ uc ≤ 0 ∧ us ≤ 0) ∧ Q (.inl (some (.int x))) M := zw_zret (by decide +kernel) rfl rfl rfl
theorem p23_155 : zwp zm_23 (155, [l0, l1, l2, l3, some (.int x)], st, M, uc, us) Q ↔ zwp zm_23 (157, [l0, l1, l2, l3, some (.int x)], .int x :: st, M, uc, us) Q := zwp_step (by decide +kernel) (fun _ => rfl)
theorem p23_157 : zwp zm_23 (157, [some (.ref a), l1, l2, l3, l4], st, M, uc, us) Q ↔ zwp zm_23 (158, [some (.ref a), l1, l2, l3, l4], .ref a :: st, M, uc, us) Q := zwp_step (by decide +kernel) (fun _ => rfl)
theorem p23_158 : zwp zm_23 (158, [l0, l1, l2, l3, l4], .ref a :: st, M, uc, us) Q ↔ zok M a 4 3 ∧ zwp zm_23 (161, [l0, l1, l2, l3, l4], zrd M a 1 :: st, M, uc, us) Q := zw_getfield (by decide +kernel) (by decide +kernel) rfl
theorem p23_161 : zwp zm_23 (161, [l0, l1, l2, l3, l4], .int v1 :: .int v0 :: st, M, uc, us) Q ↔ (zct st ≤ 8 ∧ uc + 0 ≤ 0 ∧ us + 0 ≤ 0) ∧ zcl 83 [.int v0, .int v1] M (zbk zm_23 164 161 [l0, l1, l2, l3, l4] st (uc + 0) (us + 0) Q) := zw_callS (by decide +kernel) (by decide +kernel) (by decide) zmt_at_83 rfl rfl (by decide) (by decide) rfl rfl rfl rfl rfl
theorem p23_164 : zwp zm_23 (164, [l0, l1, l2, l3, l4], .int x :: st, M, uc, us) Q ↔ if x = nI 0 then zwp zm_23 (167, [l0, l1, l2, l3, l4], st, M, uc, us) Q else zwp zm_23 (171, [l0, l1, l2, l3, l4], st, M, uc, us) Q := zw_ifne (by decide +kernel) rfl rfl
theorem p23_167 : zwp zm_23 (167, [l0, l1, l2, l3, l4], st, M, uc, us) Q ↔ zwp zm_23 (168, [l0, l1, l2, l3, l4], .int (nI 1) :: st, M, uc, us) Q := zwp_step (by decide +kernel) (fun _ => rfl)
theorem p23_168 : zwp zm_23 (168, [l0, l1, l2, l3, l4], st, M, uc, us) Q ↔ zwp zm_23 (172, [l0, l1, l2, l3, l4], st, M, uc, us) Q := zw_goto (by decide +kernel) rfl
theorem p23_171 : zwp zm_23 (171, [l0, l1, l2, l3, l4], st, M, uc, us) Q ↔ zwp zm_23 (172, [l0, l1, l2, l3, l4], .int (nI 0) :: st, M, uc, us) Q := zwp_step (by decide +kernel) (fun _ => rfl)
theorem p23_172 : zwp zm_23 (172, [l0, l1, l2, l3, l4], [.int x], M, uc, us) Q ↔ (narrow .boolean (.int x) = .int x ∧ uc ≤ 0 ∧ us ≤ 0) ∧ Q (.inl (some (.int x))) M := zw_zret (by decide +kernel) rfl rfl rfl
theorem p23_173 : zwp zm_23 (173, [l0, l1, l2, l3, some (.int x)], st, M, uc, us) Q ↔ zwp zm_23 (175, [l0, l1, l2, l3, some (.int x)], .int x :: st, M, uc, us) Q := zwp_step (by decide +kernel) (fun _ => rfl)
theorem p23_175 : zwp zm_23 (175, [some (.ref a), l1, l2, l3, l4], st, M, uc, us) Q ↔ zwp zm_23 (176, [some (.ref a), l1, l2, l3, l4], .ref a :: st, M, uc, us) Q := zwp_step (by decide +kernel) (fun _ => rfl)
theorem p23_176 : zwp zm_23 (176, [l0, l1, l2, l3, l4], .ref a :: st, M, uc, us) Q ↔ zok M a 4 3 ∧ zwp zm_23 (179, [l0, l1, l2, l3, l4], zrd M a 1 :: st, M, uc, us) Q := zw_getfield (by decide +kernel) (by decide +kernel) rfl
theorem p23_179 : zwp zm_23 (179, [l0, l1, l2, l3, l4], .int v1 :: .int v0 :: st, M, uc, us) Q ↔ (zct st ≤ 8 ∧ uc + 0 ≤ 0 ∧ us + 0 ≤ 0) ∧ zcl 83 [.int v0, .int v1] M (zbk zm_23 182 179 [l0, l1, l2, l3, l4] st (uc + 0) (us + 0) Q) := zw_callS (by decide +kernel) (by decide +kernel) (by decide) zmt_at_83 rfl rfl (by decide) (by decide) rfl rfl rfl rfl rfl
theorem p23_182 : zwp zm_23 (182, [l0, l1, l2, l3, l4], .int x :: st, M, uc, us) Q ↔ if x = nI 0 then zwp zm_23 (201, [l0, l1, l2, l3, l4], st, M, uc, us) Q else zwp zm_23 (185, [l0, l1, l2, l3, l4], st, M, uc, us) Q := zw_ifeq (by decide +kernel) rfl rfl
theorem p23_185 : zwp zm_23 (185, [l0, l1, l2, l3, some (.int x)], st, M, uc, us) Q ↔ zwp zm_23 (187, [l0, l1, l2, l3, some (.int x)], .int x :: st, M, uc, us) Q := zwp_step (by decide +kernel) (fun _ => rfl)
theorem p23_187 : zwp zm_23 (187, [some (.ref a), l1, l2, l3, l4], st, M, uc, us) Q ↔ zwp zm_23 (188, [some (.ref a), l1, l2, l3, l4], .ref a :: st, M, uc, us) Q := zwp_step (by decide +kernel) (fun _ => rfl)
theorem p23_188 : zwp zm_23 (188, [l0, l1, l2, l3, l4], .ref a :: st, M, uc, us) Q ↔ zok M a 4 3 ∧ zwp zm_23 (191, [l0, l1, l2, l3, l4], zrd M a 2 :: st, M, uc, us) Q := zw_getfield (by decide +kernel) (by decide +kernel) rfl
theorem p23_191 : zwp zm_23 (191, [l0, l1, l2, l3, l4], .int v1 :: .int v0 :: st, M, uc, us) Q ↔ (zct st ≤ 8 ∧ uc + 0 ≤ 0 ∧ us + 0 ≤ 0) ∧ zcl 83 [.int v0, .int v1] M (zbk zm_23 194 191 [l0, l1, l2, l3, l4] st (uc + 0) (us + 0) Q) := zw_callS (by decide +kernel) (by decide +kernel) (by decide) zmt_at_83 rfl rfl (by decide) (by decide) rfl rfl rfl rfl rfl
theorem p23_194 : zwp zm_23 (194, [l0, l1, l2, l3, l4], .int x :: st, M, uc, us) Q ↔ if x = nI 0 then zwp zm_23 (201, [l0, l1, l2, l3, l4], st, M, uc, us) Q else zwp zm_23 (197, [l0, l1, l2, l3, l4], st, M, uc, us) Q := zw_ifeq (by decide +kernel) rfl rfl
theorem p23_197 : zwp zm_23 (197, [l0, l1, l2, l3, l4], st, M, uc, us) Q ↔ zwp zm_23 (198, [l0, l1, l2, l3, l4], .int (nI 1) :: st, M, uc, us) Q := zwp_step (by decide +kernel) (fun _ => rfl)
theorem p23_198 : zwp zm_23 (198, [l0, l1, l2, l3, l4], st, M, uc, us) Q ↔ zwp zm_23 (202, [l0, l1, l2, l3, l4], st, M, uc, us) Q := zw_goto (by decide +kernel) rfl
theorem p23_201 : zwp zm_23 (201, [l0, l1, l2, l3, l4], st, M, uc, us) Q ↔ zwp zm_23 (202, [l0, l1, l2, l3, l4], .int (nI 0) :: st, M, uc, us) Q := zwp_step (by decide +kernel) (fun _ => rfl)
theorem p23_202 : zwp zm_23 (202, [l0, l1, l2, l3, l4], [.int x], M, uc, us) Q ↔ (narrow .boolean (.int x) = .int x ∧ uc ≤ 0 ∧ us ≤ 0) ∧ Q (.inl (some (.int x))) M := zw_zret (by decide +kernel) rfl rfl rfl
theorem p23_203 : zwp zm_23 (203, [l0, l1, l2, l3, some (.int x)], st, M, uc, us) Q ↔ zwp zm_23 (205, [l0, l1, l2, l3, some (.int x)], .int x :: st, M, uc, us) Q := zwp_step (by decide +kernel) (fun _ => rfl)
theorem p23_205 : zwp zm_23 (205, [some (.ref a), l1, l2, l3, l4], st, M, uc, us) Q ↔ zwp zm_23 (206, [some (.ref a), l1, l2, l3, l4], .ref a :: st, M, uc, us) Q := zwp_step (by decide +kernel) (fun _ => rfl)
theorem p23_206 : zwp zm_23 (206, [l0, l1, l2, l3, l4], .ref a :: st, M, uc, us) Q ↔ zok M a 4 3 ∧ zwp zm_23 (209, [l0, l1, l2, l3, l4], zrd M a 1 :: st, M, uc, us) Q := zw_getfield (by decide +kernel) (by decide +kernel) rfl
theorem p23_209 : zwp zm_23 (209, [l0, l1, l2, l3, l4], .int v1 :: .int v0 :: st, M, uc, us) Q ↔ (zct st ≤ 8 ∧ uc + 0 ≤ 0 ∧ us + 0 ≤ 0) ∧ zcl 83 [.int v0, .int v1] M (zbk zm_23 212 209 [l0, l1, l2, l3, l4] st (uc + 0) (us + 0) Q) := zw_callS (by decide +kernel) (by decide +kernel) (by decide) zmt_at_83 rfl rfl (by decide) (by decide) rfl rfl rfl rfl rfl
theorem p23_212 : zwp zm_23 (212, [l0, l1, l2, l3, l4], .int x :: st, M, uc, us) Q ↔ if x = nI 0 then zwp zm_23 (215, [l0, l1, l2, l3, l4], st, M, uc, us) Q else zwp zm_23 (227, [l0, l1, l2, l3, l4], st, M, uc, us) Q := zw_ifne (by decide +kernel) rfl rfl
theorem p23_215 : zwp zm_23 (215, [l0, l1, l2, l3, some (.int x)], st, M, uc, us) Q ↔ zwp zm_23 (217, [l0, l1, l2, l3, some (.int x)], .int x :: st, M, uc, us) Q := zwp_step (by decide +kernel) (fun _ => rfl)
theorem p23_217 : zwp zm_23 (217, [some (.ref a), l1, l2, l3, l4], st, M, uc, us) Q ↔ zwp zm_23 (218, [some (.ref a), l1, l2, l3, l4], .ref a :: st, M, uc, us) Q := zwp_step (by decide +kernel) (fun _ => rfl)
theorem p23_218 : zwp zm_23 (218, [l0, l1, l2, l3, l4], .ref a :: st, M, uc, us) Q ↔ zok M a 4 3 ∧ zwp zm_23 (221, [l0, l1, l2, l3, l4], zrd M a 2 :: st, M, uc, us) Q := zw_getfield (by decide +kernel) (by decide +kernel) rfl
theorem p23_221 : zwp zm_23 (221, [l0, l1, l2, l3, l4], .int v1 :: .int v0 :: st, M, uc, us) Q ↔ (zct st ≤ 8 ∧ uc + 0 ≤ 0 ∧ us + 0 ≤ 0) ∧ zcl 83 [.int v0, .int v1] M (zbk zm_23 224 221 [l0, l1, l2, l3, l4] st (uc + 0) (us + 0) Q) := zw_callS (by decide +kernel) (by decide +kernel) (by decide) zmt_at_83 rfl rfl (by decide) (by decide) rfl rfl rfl rfl rfl
theorem p23_224 : zwp zm_23 (224, [l0, l1, l2, l3, l4], .int x :: st, M, uc, us) Q ↔ if x = nI 0 then zwp zm_23 (231, [l0, l1, l2, l3, l4], st, M, uc, us) Q else zwp zm_23 (227, [l0, l1, l2, l3, l4], st, M, uc, us) Q := zw_ifeq (by decide +kernel) rfl rfl
theorem p23_227 : zwp zm_23 (227, [l0, l1, l2, l3, l4], st, M, uc, us) Q ↔ zwp zm_23 (228, [l0, l1, l2, l3, l4], .int (nI 1) :: st, M, uc, us) Q := zwp_step (by decide +kernel) (fun _ => rfl)
theorem p23_228 : zwp zm_23 (228, [l0, l1, l2, l3, l4], st, M, uc, us) Q ↔ zwp zm_23 (232, [l0, l1, l2, l3, l4], st, M, uc, us) Q := zw_goto (by decide +kernel) rfl
theorem p23_231 : zwp zm_23 (231, [l0, l1, l2, l3, l4], st, M, uc, us) Q ↔ zwp zm_23 (232, [l0, l1, l2, l3, l4], .int (nI 0) :: st, M, uc, us) Q := zwp_step (by decide +kernel) (fun _ => rfl)
theorem p23_232 : zwp zm_23 (232, [l0, l1, l2, l3, l4], [.int x], M, uc, us) Q ↔ (narrow .boolean (.int x) = .int x ∧ uc ≤ 0 ∧ us ≤ 0) ∧ Q (.inl (some (.int x))) M := zw_zret (by decide +kernel) rfl rfl rfl
theorem p24_0 : zwp zm_24 (0, [some (.ref a)], st, M, uc, us) Q ↔ zwp zm_24 (1, [some (.ref a)], .ref a :: st, M, uc, us) Q := zwp_step (by decide +kernel) (fun _ => rfl)
theorem p24_1 : zwp zm_24 (1, [l0], .ref a :: st, M, uc, us) Q ↔ zct st + 12 ≤ 20 ∧ zwp zm_24 (4, [l0], st, M, uc, us) Q := zw_obj (rf := 0) (by decide +kernel) (by decide +kernel) (by decide) rfl
theorem p24_4 : zwp zm_24 (4, [some (.ref a)], st, M, uc, us) Q ↔ zwp zm_24 (5, [some (.ref a)], .ref a :: st, M, uc, us) Q := zwp_step (by decide +kernel) (fun _ => rfl)
theorem p24_5 : zwp zm_24 (5, [l0], st, M, uc, us) Q ↔ zwp zm_24 (7, [l0], .int (nI 60) :: st, M, uc, us) Q := zwp_step (by decide +kernel) (fun _ => rfl)
theorem p24_7 : zwp zm_24 (7, [l0], .int x :: st, M, uc, us) Q ↔ (0 ≤ x ∧ x.toNatClampNeg ≤ 1000 ∧ uc + 1 ≤ 4 ∧ us + x.toNatClampNeg ≤ 240) ∧ zwp zm_24 (9, [l0], .ref (M.1 + 1) :: st, znew M (20, x.toNatClampNeg) (fun _ => zdef 20), uc + 1, us + x.toNatClampNeg) Q := zw_newarray (by decide +kernel) rfl (by decide) rfl rfl
theorem p24_9 : zwp zm_24 (9, [l0], .ref b :: .ref a :: st, M, uc, us) Q ↔ zok M a 8 6 ∧ zwp zm_24 (12, [l0], st, zput M a 0 (.ref b), uc, us) Q := zw_putR (by decide +kernel) (by decide +kernel) rfl (by decide +kernel) (by decide +kernel)
theorem p24_12 : zwp zm_24 (12, [some (.ref a)], st, M, uc, us) Q ↔ zwp zm_24 (13, [some (.ref a)], .ref a :: st, M, uc, us) Q := zwp_step (by decide +kernel) (fun _ => rfl)
theorem p24_13 : zwp zm_24 (13, [l0], st, M, uc, us) Q ↔ zwp zm_24 (15, [l0], .int (nI 60) :: st, M, uc, us) Q := zwp_step (by decide +kernel) (fun _ => rfl)
theorem p24_15 : zwp zm_24 (15, [l0], .int x :: st, M, uc, us) Q ↔ (0 ≤ x ∧ x.toNatClampNeg ≤ 1000 ∧ uc + 1 ≤ 4 ∧ us + x.toNatClampNeg ≤ 240) ∧ zwp zm_24 (17, [l0], .ref (M.1 + 1) :: st, znew M (20, x.toNatClampNeg) (fun _ => zdef 20), uc + 1, us + x.toNatClampNeg) Q := zw_newarray (by decide +kernel) rfl (by decide) rfl rfl
theorem p24_17 : zwp zm_24 (17, [l0], .ref b :: .ref a :: st, M, uc, us) Q ↔ zok M a 8 6 ∧ zwp zm_24 (20, [l0], st, zput M a 1 (.ref b), uc, us) Q := zw_putR (by decide +kernel) (by decide +kernel) rfl (by decide +kernel) (by decide +kernel)
theorem p24_20 : zwp zm_24 (20, [some (.ref a)], st, M, uc, us) Q ↔ zwp zm_24 (21, [some (.ref a)], .ref a :: st, M, uc, us) Q := zwp_step (by decide +kernel) (fun _ => rfl)
theorem p24_21 : zwp zm_24 (21, [l0], st, M, uc, us) Q ↔ zwp zm_24 (23, [l0], .int (nI 60) :: st, M, uc, us) Q := zwp_step (by decide +kernel) (fun _ => rfl)
theorem p24_23 : zwp zm_24 (23, [l0], .int x :: st, M, uc, us) Q ↔ (0 ≤ x ∧ x.toNatClampNeg ≤ 1000 ∧ uc + 1 ≤ 4 ∧ us + x.toNatClampNeg ≤ 240) ∧ zwp zm_24 (25, [l0], .ref (M.1 + 1) :: st, znew M (20, x.toNatClampNeg) (fun _ => zdef 20), uc + 1, us + x.toNatClampNeg) Q := zw_newarray (by decide +kernel) rfl (by decide) rfl rfl
theorem p24_25 : zwp zm_24 (25, [l0], .ref b :: .ref a :: st, M, uc, us) Q ↔ zok M a 8 6 ∧ zwp zm_24 (28, [l0], st, zput M a 2 (.ref b), uc, us) Q := zw_putR (by decide +kernel) (by decide +kernel) rfl (by decide +kernel) (by decide +kernel)
theorem p24_28 : zwp zm_24 (28, [some (.ref a)], st, M, uc, us) Q ↔ zwp zm_24 (29, [some (.ref a)], .ref a :: st, M, uc, us) Q := zwp_step (by decide +kernel) (fun _ => rfl)
theorem p24_29 : zwp zm_24 (29, [l0], st, M, uc, us) Q ↔ zwp zm_24 (31, [l0], .int (nI 60) :: st, M, uc, us) Q := zwp_step (by decide +kernel) (fun _ => rfl)
theorem p24_31 : zwp zm_24 (31, [l0], .int x :: st, M, uc, us) Q ↔ (0 ≤ x ∧ x.toNatClampNeg ≤ 1000 ∧ uc + 1 ≤ 4 ∧ us + x.toNatClampNeg ≤ 240) ∧ zwp zm_24 (33, [l0], .ref (M.1 + 1) :: st, znew M (20, x.toNatClampNeg) (fun _ => zdef 20), uc + 1, us + x.toNatClampNeg) Q := zw_newarray (by decide +kernel) rfl (by decide) rfl rfl
theorem p24_33 : zwp zm_24 (33, [l0], .ref b :: .ref a :: st, M, uc, us) Q ↔ zok M a 8 6 ∧ zwp zm_24 (36, [l0], st, zput M a 3 (.ref b), uc, us) Q := zw_putR (by decide +kernel) (by decide +kernel) rfl (by decide +kernel) (by decide +kernel)
theorem p24_36 : zwp zm_24 (36, [l0], [], M, uc, us) Q ↔ (uc ≤ 4 ∧ us ≤ 240) ∧ Q (.inl none) M := zw_vret (by decide +kernel) rfl rfl rfl
theorem p25_0 : zwp zm_25 (0, [some (.ref a), l1, l2, l3, l4, l5], st, M, uc, us) Q ↔ zwp zm_25 (1, [some (.ref a), l1, l2, l3, l4, l5], .ref a :: st, M, uc, us) Q := zwp_step (by decide +kernel) (fun _ => rfl)
theorem p25_1 : zwp zm_25 (1, [l0, l1, l2, l3, l4, l5], st, M, uc, us) Q ↔ zwp zm_25 (2, [l0, l1, l2, l3, l4, l5], .int (nI 0) :: st, M, uc, us) Q := zwp_step (by decide +kernel) (fun _ => rfl)
theorem p25_2 : zwp zm_25 (2, [l0, l1, l2, l3, l4, l5], .int x :: .ref a :: st, M, uc, us) Q ↔ zok M a 8 6 ∧ zwp zm_25 (5, [l0, l1, l2, l3, l4, l5], st, zput M a 5 (.int x), uc, us) Q := zw_putI (by decide +kernel) (by decide +kernel) rfl rfl (by decide +kernel)
theorem p25_5 : zwp zm_25 (5, [l0, l1, l2, l3, l4, l5], st, M, uc, us) Q ↔ zwp zm_25 (6, [l0, l1, l2, l3, l4, l5], .int (nI 0) :: st, M, uc, us) Q := zwp_step (by decide +kernel) (fun _ => rfl)
theorem p25_6 : zwp zm_25 (6, [l0, l1, l2, l3, l4, l5], .int x :: st, M, uc, us) Q ↔ zwp zm_25 (8, [l0, l1, l2, l3, zkl l4, some (.int x)], st, M, uc, us) Q := zwp_step (by decide +kernel) (fun _ => rfl)
theorem p25_8 : zwp zm_25 (8, [l0, l1, l2, l3, l4, some (.int x)], st, M, uc, us) Q ↔ zwp zm_25 (10, [l0, l1, l2, l3, l4, some (.int x)], .int x :: st, M, uc, us) Q := zwp_step (by decide +kernel) (fun _ => rfl)
theorem p25_10 : zwp zm_25 (10, [l0, l1, l2, some (.int x), l4, l5], st, M, uc, us) Q ↔ zwp zm_25 (11, [l0, l1, l2, some (.int x), l4, l5], .int x :: st, M, uc, us) Q := zwp_step (by decide +kernel) (fun _ => rfl)
theorem p25_11 : zwp zm_25 (11, [l0, l1, l2, l3, l4, l5], .int y :: .int x :: st, M, uc, us) Q ↔ if x < y then zwp zm_25 (14, [l0, l1, l2, l3, l4, l5], st, M, uc, us) Q else zwp zm_25 (44, [l0, l1, l2, l3, l4, l5], st, M, uc, us) Q := zw_icge (by decide +kernel) rfl rfl
theorem p25_14 : zwp zm_25 (14, [some (.ref a), l1, l2, l3, l4, l5], st, M, uc, us) Q ↔ zwp zm_25 (15, [some (.ref a), l1, l2, l3, l4, l5], .ref a :: st, M, uc, us) Q := zwp_step (by decide +kernel) (fun _ => rfl)
theorem p25_15 : zwp zm_25 (15, [l0, l1, l2, l3, l4, l5], .ref a :: st, M, uc, us) Q ↔ zok M a 8 6 ∧ zwp zm_25 (18, [l0, l1, l2, l3, l4, l5], zrd M a 0 :: st, M, uc, us) Q := zw_getfield (by decide +kernel) (by decide +kernel) rfl
theorem p25_18 : zwp zm_25 (18, [l0, l1, l2, l3, l4, some (.int x)], st, M, uc, us) Q ↔ zwp zm_25 (20, [l0, l1, l2, l3, l4, some (.int x)], .int x :: st, M, uc, us) Q := zwp_step (by decide +kernel) (fun _ => rfl)
theorem p25_20 : zwp zm_25 (20, [l0, l1, l2, l3, l4, l5], st, M, uc, us) Q ↔ zwp zm_25 (21, [l0, l1, l2, l3, l4, l5], .int (-1) :: st, M, uc, us) Q := zwp_step (by decide +kernel) (fun _ => rfl)
theorem p25_21 : zwp zm_25 (21, [l0, l1, l2, l3, l4, l5], .int y :: .int x :: .ref a :: st, M, uc, us) Q ↔ zia M 20 a x ∧ zwp zm_25 (22, [l0, l1, l2, l3, l4, l5], st, zput M a x.toNatClampNeg (.int y), uc, us) Q := zw_iastore (by decide +kernel)
theorem p25_22 : zwp zm_25 (22, [some (.ref a), l1, l2, l3, l4, l5], st, M, uc, us) Q ↔ zwp zm_25 (23, [some (.ref a), l1, l2, l3, l4, l5], .ref a :: st, M, uc, us) Q := zwp_step (by decide +kernel) (fun _ => rfl)
theorem p25_23 : zwp zm_25 (23, [l0, l1, l2, l3, l4, l5], .ref a :: st, M, uc, us) Q ↔ zok M a 8 6 ∧ zwp zm_25 (26, [l0, l1, l2, l3, l4, l5], zrd M a 1 :: st, M, uc, us) Q := zw_getfield (by decide +kernel) (by decide +kernel) rfl
theorem p25_26 : zwp zm_25 (26, [l0, l1, l2, l3, l4, some (.int x)], st, M, uc, us) Q ↔ zwp zm_25 (28, [l0, l1, l2, l3, l4, some (.int x)], .int x :: st, M, uc, us) Q := zwp_step (by decide +kernel) (fun _ => rfl)
theorem p25_28 : zwp zm_25 (28, [l0, l1, l2, l3, l4, l5], st, M, uc, us) Q ↔ zwp zm_25 (29, [l0, l1, l2, l3, l4, l5], .int (nI 0) :: st, M, uc, us) Q := zwp_step (by decide +kernel) (fun _ => rfl)
theorem p25_29 : zwp zm_25 (29, [l0, l1, l2, l3, l4, l5], .int y :: .int x :: .ref a :: st, M, uc, us) Q ↔ zia M 20 a x ∧ zwp zm_25 (30, [l0, l1, l2, l3, l4, l5], st, zput M a x.toNatClampNeg (.int y), uc, us) Q := zw_iastore (by decide +kernel)
theorem p25_30 : zwp zm_25 (30, [some (.ref a), l1, l2, l3, l4, l5], st, M, uc, us) Q ↔ zwp zm_25 (31, [some (.ref a), l1, l2, l3, l4, l5], .ref a :: st, M, uc, us) Q := zwp_step (by decide +kernel) (fun _ => rfl)
theorem p25_31 : zwp zm_25 (31, [l0, l1, l2, l3, l4, l5], .ref a :: st, M, uc, us) Q ↔ zok M a 8 6 ∧ zwp zm_25 (34, [l0, l1, l2, l3, l4, l5], zrd M a 2 :: st, M, uc, us) Q := zw_getfield (by decide +kernel) (by decide +kernel) rfl
theorem p25_34 : zwp zm_25 (34, [l0, l1, l2, l3, l4, some (.int x)], st, M, uc, us) Q ↔ zwp zm_25 (36, [l0, l1, l2, l3, l4, some (.int x)], .int x :: st, M, uc, us) Q := zwp_step (by decide +kernel) (fun _ => rfl)
theorem p25_36 : zwp zm_25 (36, [l0, l1, l2, l3, l4, l5], st, M, uc, us) Q ↔ zwp zm_25 (37, [l0, l1, l2, l3, l4, l5], .int (nI 0) :: st, M, uc, us) Q := zwp_step (by decide +kernel) (fun _ => rfl)
theorem p25_37 : zwp zm_25 (37, [l0, l1, l2, l3, l4, l5], .int y :: .int x :: .ref a :: st, M, uc, us) Q ↔ zia M 20 a x ∧ zwp zm_25 (38, [l0, l1, l2, l3, l4, l5], st, zput M a x.toNatClampNeg (.int y), uc, us) Q := zw_iastore (by decide +kernel)
theorem p25_38 : zwp zm_25 (38, [l0, l1, l2, l3, l4, some (.int x)], st, M, uc, us) Q ↔ zwp zm_25 (41, [l0, l1, l2, l3, zkl l4, some (.int (x + nI 1))], st, M, uc, us) Q := zwp_step (by decide +kernel) (fun _ => rfl)
theorem p25_41 : zwp zm_25 (41, [l0, l1, l2, l3, l4, l5], st, M, uc, us) Q ↔ zwp zm_25 (8, [l0, l1, l2, l3, l4, l5], st, M, uc, us) Q := zw_goto (by decide +kernel) rfl
theorem p25_44 : zwp zm_25 (44, [l0, l1, l2, l3, l4, l5], st, M, uc, us) Q ↔ zwp zm_25 (45, [l0, l1, l2, l3, l4, l5], .int (nI 0) :: st, M, uc, us) Q := zwp_step (by decide +kernel) (fun _ => rfl)
theorem p25_45 : zwp zm_25 (45, [l0, l1, l2, l3, l4, l5], .int x :: st, M, uc, us) Q ↔ zwp zm_25 (47, [l0, l1, l2, l3, zkl l4, some (.int x)], st, M, uc, us) Q := zwp_step (by decide +kernel) (fun _ => rfl)
theorem p25_47 : zwp zm_25 (47, [l0, l1, l2, l3, l4, some (.int x)], st, M, uc, us) Q ↔ zwp zm_25 (49, [l0, l1, l2, l3, l4, some (.int x)], .int x :: st, M, uc, us) Q := zwp_step (by decide +kernel) (fun _ => rfl)
theorem p25_49 : zwp zm_25 (49, [l0, l1, l2, some (.int x), l4, l5], st, M, uc, us) Q ↔ zwp zm_25 (50, [l0, l1, l2, some (.int x), l4, l5], .int x :: st, M, uc, us) Q := zwp_step (by decide +kernel) (fun _ => rfl)
theorem p25_50 : zwp zm_25 (50, [l0, l1, l2, l3, l4, l5], .int y :: .int x :: st, M, uc, us) Q ↔ if x < y then zwp zm_25 (53, [l0, l1, l2, l3, l4, l5], st, M, uc, us) Q else zwp zm_25 (90, [l0, l1, l2, l3, l4, l5], st, M, uc, us) Q := zw_icge (by decide +kernel) rfl rfl
theorem p25_53 : zwp zm_25 (53, [some (.ref a), l1, l2, l3, l4, l5], st, M, uc, us) Q ↔ zwp zm_25 (54, [some (.ref a), l1, l2, l3, l4, l5], .ref a :: st, M, uc, us) Q := zwp_step (by decide +kernel) (fun _ => rfl)
theorem p25_54 : zwp zm_25 (54, [l0, some (.ref a), l2, l3, l4, l5], st, M, uc, us) Q ↔ zwp zm_25 (55, [l0, some (.ref a), l2, l3, l4, l5], .ref a :: st, M, uc, us) Q := zwp_step (by decide +kernel) (fun _ => rfl)
theorem p25_55 : zwp zm_25 (55, [l0, l1, l2, l3, l4, some (.int x)], st, M, uc, us) Q ↔ zwp zm_25 (57, [l0, l1, l2, l3, l4, some (.int x)], .int x :: st, M, uc, us) Q := zwp_step (by decide +kernel) (fun _ => rfl)
theorem p25_57 : zwp zm_25 (57, [l0, l1, l2, l3, l4, l5], .int v1 :: .ref u0 :: .ref a :: st, M, uc, us) Q ↔ ((zct st ≤ 8 ∧ uc + 0 ≤ 0 ∧ us + 0 ≤ 0) ∧ zok M a 8 6) ∧ zcl 27 [.ref a, .ref u0, .int v1] M (zbk zm_25 60 57 [l0, l1, l2, l3, l4, l5] st (uc + 0) (us + 0) Q) := zw_callV (by decide +kernel) (by decide +kernel) zmt_at_27 rfl rfl (by decide) (by decide) rfl rfl rfl rfl rfl rfl rfl
theorem p25_60 : zwp zm_25 (60, [l0, l1, l2, l3, l4, l5], .int x :: st, M, uc, us) Q ↔ if x = nI 0 then zwp zm_25 (84, [l0, l1, l2, l3, l4, l5], st, M, uc, us) Q else zwp zm_25 (63, [l0, l1, l2, l3, l4, l5], st, M, uc, us) Q := zw_ifeq (by decide +kernel) rfl rfl
theorem p25_63 : zwp zm_25 (63, [some (.ref a), l1, l2, l3, l4, l5], st, M, uc, us) Q ↔ zwp zm_25 (64, [some (.ref a), l1, l2, l3, l4, l5], .ref a :: st, M, uc, us) Q := zwp_step (by decide +kernel) (fun _ => rfl)
theorem p25_64 : zwp zm_25 (64, [l0, l1, l2, l3, l4, l5], .ref a :: st, M, uc, us) Q ↔ zwp zm_25 (65, [l0, l1, l2, l3, l4, l5], .ref a :: .ref a :: st, M, uc, us) Q := zwp_step (by decide +kernel) (fun _ => rfl)
theorem p25_64i : zwp zm_25 (64, [l0, l1, l2, l3, l4, l5], .int x :: st, M, uc, us) Q ↔ zwp zm_25 (65, [l0, l1, l2, l3, l4, l5], .int x :: .int x :: st, M, uc, us) Q := zwp_step (by decide +kernel) (fun _ => rfl)
theorem p25_65 : zwp zm_25 (65, [l0, l1, l2, l3, l4, l5], .ref a :: st, M, uc, us) Q ↔ zok M a 8 6 ∧ zwp zm_25 (68, [l0, l1, l2, l3, l4, l5], zrd M a 5 :: st, M, uc, us) Q := zw_getfield (by decide +kernel) (by decide +kernel) rfl
theorem p25_68 : zwp zm_25 (68, [l0, l1, l2, l3, l4, l5], st, M, uc, us) Q ↔ zwp zm_25 (69, [l0, l1, l2, l3, l4, l5], .int (nI 1) :: st, M, uc, us) Q := zwp_step (by decide +kernel) (fun _ => rfl)
theorem p25_69 : zwp zm_25 (69, [l0, l1, l2, l3, l4, l5], .int y :: .int x :: st, M, uc, us) Q ↔ zwp zm_25 (70, [l0, l1, l2, l3, l4, l5], .int (x + y) :: st, M, uc, us) Q := zwp_step (by decide +kernel) (fun _ => rfl)
theorem p25_70 : zwp zm_25 (70, [l0, l1, l2, l3, l4, l5], .int x :: .ref a :: st, M, uc, us) Q ↔ zok M a 8 6 ∧ zwp zm_25 (73, [l0, l1, l2, l3, l4, l5], st, zput M a 5 (.int x), uc, us) Q := zw_putI (by decide +kernel) (by decide +kernel) rfl rfl (by decide +kernel)
theorem p25_73 : zwp zm_25 (73, [some (.ref a), l1, l2, l3, l4, l5], st, M, uc, us) Q ↔ zwp zm_25 (74, [some (.ref a), l1, l2, l3, l4, l5], .ref a :: st, M, uc, us) Q := zwp_step (by decide +kernel) (fun _ => rfl)
theorem p25_74 : zwp zm_25 (74, [l0, some (.ref a), l2, l3, l4, l5], st, M, uc, us) Q ↔ zwp zm_25 (75, [l0, some (.ref a), l2, l3, l4, l5], .ref a :: st, M, uc, us) Q := zwp_step (by decide +kernel) (fun _ => rfl)
theorem p25_75 : zwp zm_25 (75, [l0, l1, some (.ref a), l3, l4, l5], st, M, uc, us) Q ↔ zwp zm_25 (76, [l0, l1, some (.ref a), l3, l4, l5], .ref a :: st, M, uc, us) Q := zwp_step (by decide +kernel) (fun _ => rfl)
theorem p25_76 : zwp zm_25 (76, [l0, l1, l2, some (.int x), l4, l5], st, M, uc, us) Q ↔ zwp zm_25 (77, [l0, l1, l2, some (.int x), l4, l5], .int x :: st, M, uc, us) Q := zwp_step (by decide +kernel) (fun _ => rfl)
theorem p25_77 : zwp zm_25 (77, [l0, l1, l2, l3, some (.int x), l5], st, M, uc, us) Q ↔ zwp zm_25 (79, [l0, l1, l2, l3, some (.int x), l5], .int x :: st, M, uc, us) Q := zwp_step (by decide +kernel) (fun _ => rfl)
theorem p25_79 : zwp zm_25 (79, [l0, l1, l2, l3, l4, some (.int x)], st, M, uc, us) Q ↔ zwp zm_25 (81, [l0, l1, l2, l3, l4, some (.int x)], .int x :: st, M, uc, us) Q := zwp_step (by decide +kernel) (fun _ => rfl)
theorem p25_81 : zwp zm_25 (81, [l0, l1, l2, l3, l4, l5], .int v4 :: .int v3 :: .int v2 :: .ref u1 :: .ref u0 :: .ref a :: st, M, uc, us) Q ↔ ((zct st ≤ 8 ∧ uc + 0 ≤ 0 ∧ us + 0 ≤ 0) ∧ zok M a 8 6) ∧ zcl 28 [.ref a, .ref u0, .ref u1, .int v2, .int v3, .int v4] M (zbk zm_25 84 81 [l0, l1, l2, l3, l4, l5] st (uc + 0) (us + 0) Q) := zw_callV (by decide +kernel) (by decide +kernel) zmt_at_28 rfl rfl (by decide) (by decide) rfl rfl rfl rfl rfl rfl rfl
theorem p25_84 : zwp zm_25 (84, [l0, l1, l2, l3, l4, some (.int x)], st, M, uc, us) Q ↔ zwp zm_25 (87, [l0, l1, l2, l3, zkl l4, some (.int (x + nI 1))], st, M, uc, us) Q := zwp_step (by decide +kernel) (fun _ => rfl)
theorem p25_87 : zwp zm_25 (87, [l0, l1, l2, l3, l4, l5], st, M, uc, us) Q ↔ zwp zm_25 (47, [l0, l1, l2, l3, l4, l5], st, M, uc, us) Q := zw_goto (by decide +kernel) rfl
theorem p25_90 : zwp zm_25 (90, [l0, l1, l2, l3, l4, l5], [], M, uc, us) Q ↔ (uc ≤ 0 ∧ us ≤ 0) ∧ Q (.inl none) M := zw_vret (by decide +kernel) rfl rfl rfl
theorem p26_0 : zwp zm_26 (0, [some (.ref a), l1, l2, l3], st, M, uc, us) Q ↔ zwp zm_26 (1, [some (.ref a), l1, l2, l3], .ref a :: st, M, uc, us) Q := zwp_step (by decide +kernel) (fun _ => rfl)
theorem p26_1 : zwp zm_26 (1, [l0, l1, l2, l3], .ref a :: st, M, uc, us) Q ↔ zok M a 8 6 ∧ zwp zm_26 (4, [l0, l1, l2, l3], zrd M a 0 :: st, M, uc, us) Q := zw_getfield (by decide +kernel) (by decide +kernel) rfl
theorem p26_4 : zwp zm_26 (4, [l0, some (.int x), l2, l3], st, M, uc, us) Q ↔ zwp zm_26 (5, [l0, some (.int x), l2, l3], .int x :: st, M, uc, us) Q := zwp_step (by decide +kernel) (fun _ => rfl)
theorem p26_5 : zwp zm_26 (5, [l0, l1, l2, l3], .int x :: .ref a :: st, M, uc, us) Q ↔ zias M a x ∧ zvi (zrd M a x.toNatClampNeg) (fun z => zwp zm_26 (6, [l0, l1, l2, l3], .int z :: st, M, uc, us) Q) := zw_iaload (by decide +kernel)
theorem p26_6 : zwp zm_26 (6, [l0, l1, l2, l3], .int x :: st, M, uc, us) Q ↔ zwp zm_26 (7, [l0, l1, zkl l2, some (.int x)], st, M, uc, us) Q := zwp_step (by decide +kernel) (fun _ => rfl)
theorem p26_7 : zwp zm_26 (7, [l0, l1, some (.int x), l3], st, M, uc, us) Q ↔ zwp zm_26 (8, [l0, l1, some (.int x), l3], .int x :: st, M, uc, us) Q := zwp_step (by decide +kernel) (fun _ => rfl)
theorem p26_8 : zwp zm_26 (8, [l0, l1, l2, l3], .int x :: st, M, uc, us) Q ↔ if x = nI 0 then zwp zm_26 (16, [l0, l1, l2, l3], st, M, uc, us) Q else zwp zm_26 (11, [l0, l1, l2, l3], st, M, uc, us) Q := zw_ifeq (by decide +kernel) rfl rfl
theorem p26_11 : zwp zm_26 (11, [l0, l1, l2, some (.int x)], st, M, uc, us) Q ↔ zwp zm_26 (12, [l0, l1, l2, some (.int x)], .int x :: st, M, uc, us) Q := zwp_step (by decide +kernel) (fun _ => rfl)
theorem p26_12 : zwp zm_26 (12, [l0, l1, l2, l3], st, M, uc, us) Q ↔ zwp zm_26 (13, [l0, l1, l2, l3], .int (-1) :: st, M, uc, us) Q := zwp_step (by decide +kernel) (fun _ => rfl)
theorem p26_13 : zwp zm_26 (13, [l0, l1, l2, l3], .int y :: .int x :: st, M, uc, us) Q ↔ if x = y then zwp zm_26 (16, [l0, l1, l2, l3], st, M, uc, us) Q else zwp zm_26 (18, [l0, l1, l2, l3], st, M, uc, us) Q := zw_icne (by decide +kernel) rfl rfl
theorem p26_16 : zwp zm_26 (16, [l0, l1, l2, some (.int x)], st, M, uc, us) Q ↔ zwp zm_26 (17, [l0, l1, l2, some (.int x)], .int x :: st, M, uc, us) Q := zwp_step (by decide +kernel) (fun _ => rfl)
theorem p26_17 : zwp zm_26 (17, [l0, l1, l2, l3], [.int x], M, uc, us) Q ↔ (uc ≤ 0 ∧ us ≤ 0) ∧ Q (.inl (some (.int x))) M := zw_iret (by decide +kernel) rfl rfl rfl
theorem p26_18 : zwp zm_26 (18, [l0, l1, some (.int x), l3], st, M, uc, us) Q ↔ zwp zm_26 (19, [l0, l1, some (.int x), l3], .int x :: st, M, uc, us) Q := zwp_step (by decide +kernel) (fun _ => rfl)
theorem p26_19 : zwp zm_26 (19, [l0, l1, l2, l3], st, M, uc, us) Q ↔ zwp zm_26 (20, [l0, l1, l2, l3], .int (nI 1) :: st, M, uc, us) Q := zwp_step (by decide +kernel) (fun _ => rfl)
theorem p26_20 : zwp zm_26 (20, [l0, l1, l2, l3], .int y :: .int x :: st, M, uc, us) Q ↔ if x = y then zwp zm_26 (23, [l0, l1, l2, l3], st, M, uc, us) Q else zwp zm_26 (32, [l0, l1, l2, l3], st, M, uc, us) Q := zw_icne (by decide +kernel) rfl rfl
theorem p26_23 : zwp zm_26 (23, [some (.ref a), l1, l2, l3], st, M, uc, us) Q ↔ zwp zm_26 (24, [some (.ref a), l1, l2, l3], .ref a :: st, M, uc, us) Q := zwp_step (by decide +kernel) (fun _ => rfl)
theorem p26_24 : zwp zm_26 (24, [l0, l1, l2, l3], .ref a :: st, M, uc, us) Q ↔ zok M a 8 6 ∧ zwp zm_26 (27, [l0, l1, l2, l3], zrd M a 1 :: st, M, uc, us) Q := zw_getfield (by decide +kernel) (by decide +kernel) rfl
theorem p26_27 : zwp zm_26 (27, [l0, l1, l2, some (.int x)], st, M, uc, us) Q ↔ zwp zm_26 (28, [l0, l1, l2, some (.int x)], .int x :: st, M, uc, us) Q := zwp_step (by decide +kernel) (fun _ => rfl)
theorem p26_28 : zwp zm_26 (28, [l0, l1, l2, l3], .int x :: .ref a :: st, M, uc, us) Q ↔ zias M a x ∧ zvi (zrd M a x.toNatClampNeg) (fun z => zwp zm_26 (29, [l0, l1, l2, l3], .int z :: st, M, uc, us) Q) := zw_iaload (by decide +kernel)
theorem p26_29 : zwp zm_26 (29, [l0, l1, l2, l3], st, M, uc, us) Q ↔ zwp zm_26 (38, [l0, l1, l2, l3], st, M, uc, us) Q := zw_goto (by decide +kernel) rfl
theorem p26_32 : zwp zm_26 (32, [some (.ref a), l1, l2, l3], st, M, uc, us) Q ↔ zwp zm_26 (33, [some (.ref a), l1, l2, l3], .ref a :: st, M, uc, us) Q := zwp_step (by decide +kernel) (fun _ => rfl)
theorem p26_33 : zwp zm_26 (33, [l0, l1, l2, l3], .ref a :: st, M, uc, us) Q ↔ zok M a 8 6 ∧ zwp zm_26 (36, [l0, l1, l2, l3], zrd M a 2 :: st, M, uc, us) Q := zw_getfield (by decide +kernel) (by decide +kernel) rfl
theorem p26_36 : zwp zm_26 (36, [l0, l1, l2, some (.int x)], st, M, uc, us) Q ↔ zwp zm_26 (37, [l0, l1, l2, some (.int x)], .int x :: st, M, uc, us) Q := zwp_step (by decide +kernel) (fun _ => rfl)
theorem p26_37 : zwp zm_26 (37, [l0, l1, l2, l3], .int x :: .ref a :: st, M, uc, us) Q ↔ zias M a x ∧ zvi (zrd M a x.toNatClampNeg) (fun z => zwp zm_26 (38, [l0, l1, l2, l3], .int z :: st, M, uc, us) Q) := zw_iaload (by decide +kernel)
theorem p26_38 : zwp zm_26 (38, [l0, l1, l2, l3], [.int x], M, uc, us) Q ↔ (uc ≤ 0 ∧ us ≤ 0) ∧ Q (.inl (some (.int x))) M := zw_iret (by decide +kernel) rfl rfl rfl
theorem p27_0 : zwp zm_27 (0, [some (.ref a), l1, l2], st, M, uc, us) Q ↔ zwp zm_27 (1, [some (.ref a), l1, l2], .ref a :: st, M, uc, us) Q := zwp_step (by decide +kernel) (fun _ => rfl)
theorem p27_1 : zwp zm_27 (1, [l0, l1, l2], .ref a :: st, M, uc, us) Q ↔ zok M a 8 6 ∧ zwp zm_27 (4, [l0, l1, l2], zrd M a 0 :: st, M, uc, us) Q := zw_getfield (by decide +kernel) (by decide +kernel) rfl
theorem p27_4 : zwp zm_27 (4, [l0, l1, some (.int x)], st, M, uc, us) Q ↔ zwp zm_27 (5, [l0, l1, some (.int x)], .int x :: st, M, uc, us) Q := zwp_step (by decide +kernel) (fun _ => rfl)
theorem p27_5 : zwp zm_27 (5, [l0, l1, l2], .int x :: .ref a :: st, M, uc, us) Q ↔ zias M a x ∧ zvi (zrd M a x.toNatClampNeg) (fun z => zwp zm_27 (6, [l0, l1, l2], .int z :: st, M, uc, us) Q) := zw_iaload (by decide +kernel)
theorem p27_6 : zwp zm_27 (6, [l0, l1, l2], st, M, uc, us) Q ↔ zwp zm_27 (7, [l0, l1, l2], .int (-1) :: st, M, uc, us) Q := zwp_step (by decide +kernel) (fun _ => rfl)
theorem p27_7 : zwp zm_27 (7, [l0, l1, l2], .int y :: .int x :: st, M, uc, us) Q ↔ if x = y then zwp zm_27 (10, [l0, l1, l2], st, M, uc, us) Q else zwp zm_27 (26, [l0, l1, l2], st, M, uc, us) Q := zw_icne (by decide +kernel) rfl rfl
theorem p27_10 : zwp zm_27 (10, [l0, some (.ref a), l2], st, M, uc, us) Q ↔ zwp zm_27 (11, [l0, some (.ref a), l2], .ref a :: st, M, uc, us) Q := zwp_step (by decide +kernel) (fun _ => rfl)
theorem p27_11 : zwp zm_27 (11, [l0, l1, l2], .ref a :: st, M, uc, us) Q ↔ zok M a 0 6 ∧ zwp zm_27 (14, [l0, l1, l2], zrd M a 4 :: st, M, uc, us) Q := zw_getfield (by decide +kernel) (by decide +kernel) rfl
theorem p27_14 : zwp zm_27 (14, [l0, l1, some (.int x)], st, M, uc, us) Q ↔ zwp zm_27 (15, [l0, l1, some (.int x)], .int x :: st, M, uc, us) Q := zwp_step (by decide +kernel) (fun _ => rfl)
theorem p27_15 : zwp zm_27 (15, [l0, l1, l2], .int x :: .ref a :: st, M, uc, us) Q ↔ ziar M a x ∧ zvr (zrd M a x.toNatClampNeg) (fun z => zwp zm_27 (16, [l0, l1, l2], .ref z :: st, M, uc, us) Q) := zw_aaload (by decide +kernel)
theorem p27_16 : zwp zm_27 (16, [l0, l1, l2], .ref a :: st, M, uc, us) Q ↔ ((zct st ≤ 8 ∧ uc + 0 ≤ 0 ∧ us + 0 ≤ 0) ∧ zok M a 1 6) ∧ zcl 5 [.ref a] M (zbk zm_27 19 16 [l0, l1, l2] st (uc + 0) (us + 0) Q) := zw_callV (by decide +kernel) (by decide +kernel) zmt_at_5 rfl rfl (by decide) (by decide) rfl rfl rfl rfl rfl rfl rfl
theorem p27_19 : zwp zm_27 (19, [l0, l1, l2], .int x :: st, M, uc, us) Q ↔ if x = nI 0 then zwp zm_27 (26, [l0, l1, l2], st, M, uc, us) Q else zwp zm_27 (22, [l0, l1, l2], st, M, uc, us) Q := zw_ifeq (by decide +kernel) rfl rfl
theorem p27_22 : zwp zm_27 (22, [l0, l1, l2], st, M, uc, us) Q ↔ zwp zm_27 (23, [l0, l1, l2], .int (nI 1) :: st, M, uc, us) Q := zwp_step (by decide +kernel) (fun _ => rfl)
theorem p27_23 : zwp zm_27 (23, [l0, l1, l2], st, M, uc, us) Q ↔ zwp zm_27 (27, [l0, l1, l2], st, M, uc, us) Q := zw_goto (by decide +kernel) rfl
theorem p27_26 : zwp zm_27 (26, [l0, l1, l2], st, M, uc, us) Q ↔ zwp zm_27 (27, [l0, l1, l2], .int (nI 0) :: st, M, uc, us) Q := zwp_step (by decide +kernel) (fun _ => rfl)
theorem p27_27 : zwp zm_27 (27, [l0, l1, l2], [.int x], M, uc, us) Q ↔ (narrow .boolean (.int x) = .int x ∧ uc ≤ 0 ∧ us ≤ 0) ∧ Q (.inl (some (.int x))) M := zw_zret (by decide +kernel) rfl rfl rfl
theorem p28_0 : zwp zm_28 (0, [some (.ref a), l1, l2, l3, l4, l5, l6, l7], st, M, uc, us) Q ↔ zwp zm_28 (1, [some (.ref a), l1, l2, l3, l4, l5, l6, l7], .ref a :: st, M, uc, us) Q := zwp_step (by decide +kernel) (fun _ => rfl)
theorem p28_1 : zwp zm_28 (1, [l0, l1, l2, l3, l4, l5, l6, l7], st, M, uc, us) Q ↔ zwp zm_28 (2, [l0, l1, l2, l3, l4, l5, l6, l7], .int (nI 0) :: st, M, uc, us) Q := zwp_step (by decide +kernel) (fun _ => rfl)
theorem p28_2 : zwp zm_28 (2, [l0, l1, l2, l3, l4, l5, l6, l7], .int x :: .ref a :: st, M, uc, us) Q ↔ zok M a 8 6 ∧ zwp zm_28 (5, [l0, l1, l2, l3, l4, l5, l6, l7], st, zput M a 4 (.int x), uc, us) Q := zw_putI (by decide +kernel) (by decide +kernel) rfl rfl (by decide +kernel)
theorem p28_5 : zwp zm_28 (5, [some (.ref a), l1, l2, l3, l4, l5, l6, l7], st, M, uc, us) Q ↔ zwp zm_28 (6, [some (.ref a), l1, l2, l3, l4, l5, l6, l7], .ref a :: st, M, uc, us) Q := zwp_step (by decide +kernel) (fun _ => rfl)
theorem p28_6 : zwp zm_28 (6, [l0, some (.ref a), l2, l3, l4, l5, l6, l7], st, M, uc, us) Q ↔ zwp zm_28 (7, [l0, some (.ref a), l2, l3, l4, l5, l6, l7], .ref a :: st, M, uc, us) Q := zwp_step (by decide +kernel) (fun _ => rfl)
theorem p28_7 : zwp zm_28 (7, [l0, l1, l2, l3, l4, some (.int x), l6, l7], st, M, uc, us) Q ↔ zwp zm_28 (9, [l0, l1, l2, l3, l4, some (.int x), l6, l7], .int x :: st, M, uc, us) Q := zwp_step (by decide +kernel) (fun _ => rfl)
theorem p28_9 : zwp zm_28 (9, [l0, l1, l2, l3, l4, some (.int x), l6, l7], st, M, uc, us) Q ↔ zwp zm_28 (11, [l0, l1, l2, l3, l4, some (.int x), l6, l7], .int x :: st, M, uc, us) Q := zwp_step (by decide +kernel) (fun _ => rfl)
theorem p28_11 : zwp zm_28 (11, [l0, l1, l2, l3, l4, l5, l6, l7], .int v2 :: .int v1 :: .ref u0 :: .ref a :: st, M, uc, us) Q ↔ ((zct st ≤ 8 ∧ uc + 0 ≤ 0 ∧ us + 0 ≤ 0) ∧ zok M a 8 6) ∧ zcl 29 [.ref a, .ref u0, .int v1, .int v2] M (zbk zm_28 14 11 [l0, l1, l2, l3, l4, l5, l6, l7] st (uc + 0) (us + 0) Q) := zw_callV (by decide +kernel) (by decide +kernel) zmt_at_29 rfl rfl (by decide) (by decide) rfl rfl rfl rfl rfl rfl rfl
theorem p28_14 : zwp zm_28 (14, [l0, l1, l2, l3, l4, l5, l6, l7], st, M, uc, us) Q ↔ zwp zm_28 (15, [l0, l1, l2, l3, l4, l5, l6, l7], .int (nI 0) :: st, M, uc, us) Q := zwp_step (by decide +kernel) (fun _ => rfl)
theorem p28_15 : zwp zm_28 (15, [l0, l1, l2, l3, l4, l5, l6, l7], .int x :: st, M, uc, us) Q ↔ zwp zm_28 (17, [l0, l1, l2, l3, l4, zkl l5, some (.int x), l7], st, M, uc, us) Q := zwp_step (by decide +kernel) (fun _ => rfl)
theorem p28_17 : zwp zm_28 (17, [l0, l1, l2, l3, l4, l5, some (.int x), l7], st, M, uc, us) Q ↔ zwp zm_28 (19, [l0, l1, l2, l3, l4, l5, some (.int x), l7], .int x :: st, M, uc, us) Q := zwp_step (by decide +kernel) (fun _ => rfl)
theorem p28_19 : zwp zm_28 (19, [l0, l1, l2, l3, l4, l5, l6, l7], st, M, uc, us) Q ↔ zwp zm_28 (21, [l0, l1, l2, l3, l4, l5, l6, l7], .int (nI 60) :: st, M, uc, us) Q := zwp_step (by decide +kernel) (fun _ => rfl)
theorem p28_21 : zwp zm_28 (21, [l0, l1, l2, l3, l4, l5, l6, l7], .int y :: .int x :: st, M, uc, us) Q ↔ if x < y then zwp zm_28 (24, [l0, l1, l2, l3, l4, l5, l6, l7], st, M, uc, us) Q else zwp zm_28 (91, [l0, l1, l2, l3, l4, l5, l6, l7], st, M, uc, us) Q := zw_icge (by decide +kernel) rfl rfl
theorem p28_24 : zwp zm_28 (24, [l0, l1, l2, l3, l4, l5, some (.int x), l7], st, M, uc, us) Q ↔ zwp zm_28 (26, [l0, l1, l2, l3, l4, l5, some (.int x), l7], .int x :: st, M, uc, us) Q := zwp_step (by decide +kernel) (fun _ => rfl)
theorem p28_26 : zwp zm_28 (26, [some (.ref a), l1, l2, l3, l4, l5, l6, l7], st, M, uc, us) Q ↔ zwp zm_28 (27, [some (.ref a), l1, l2, l3, l4, l5, l6, l7], .ref a :: st, M, uc, us) Q := zwp_step (by decide +kernel) (fun _ => rfl)
theorem p28_27 : zwp zm_28 (27, [l0, l1, l2, l3, l4, l5, l6, l7], .ref a :: st, M, uc, us) Q ↔ zok M a 8 6 ∧ zwp zm_28 (30, [l0, l1, l2, l3, l4, l5, l6, l7], zrd M a 4 :: st, M, uc, us) Q := zw_getfield (by decide +kernel) (by decide +kernel) rfl
theorem p28_30 : zwp zm_28 (30, [l0, l1, l2, l3, l4, l5, l6, l7], .int y :: .int x :: st, M, uc, us) Q ↔ if x < y then zwp zm_28 (33, [l0, l1, l2, l3, l4, l5, l6, l7], st, M, uc, us) Q else zwp zm_28 (91, [l0, l1, l2, l3, l4, l5, l6, l7], st, M, uc, us) Q := zw_icge (by decide +kernel) rfl rfl
theorem p28_33 : zwp zm_28 (33, [l0, l1, l2, l3, l4, l5, l6, l7], st, M, uc, us) Q ↔ zwp zm_28 (34, [l0, l1, l2, l3, l4, l5, l6, l7], .int (nI 0) :: st, M, uc, us) Q := zwp_step (by decide +kernel) (fun _ => rfl)
theorem p28_34 : zwp zm_28 (34, [l0, l1, l2, l3, l4, l5, l6, l7], .int x :: st, M, uc, us) Q ↔ zwp zm_28 (36, [l0, l1, l2, l3, l4, l5, zkl l6, some (.int x)], st, M, uc, us) Q := zwp_step (by decide +kernel) (fun _ => rfl)
theorem p28_36 : zwp zm_28 (36, [l0, l1, l2, l3, l4, l5, l6, some (.int x)], st, M, uc, us) Q ↔ zwp zm_28 (38, [l0, l1, l2, l3, l4, l5, l6, some (.int x)], .int x :: st, M, uc, us) Q := zwp_step (by decide +kernel) (fun _ => rfl)
theorem p28_38 : zwp zm_28 (38, [l0, l1, l2, some (.int x), l4, l5, l6, l7], st, M, uc, us) Q ↔ zwp zm_28 (39, [l0, l1, l2, some (.int x), l4, l5, l6, l7], .int x :: st, M, uc, us) Q := zwp_step (by decide +kernel) (fun _ => rfl)
theorem p28_39 : zwp zm_28 (39, [l0, l1, l2, l3, l4, l5, l6, l7], .int y :: .int x :: st, M, uc, us) Q ↔ if x < y then zwp zm_28 (42, [l0, l1, l2, l3, l4, l5, l6, l7], st, M, uc, us) Q else zwp zm_28 (85, [l0, l1, l2, l3, l4, l5, l6, l7], st, M, uc, us) Q := zw_icge (by decide +kernel) rfl rfl
theorem p28_42 : zwp zm_28 (42, [some (.ref a), l1, l2, l3, l4, l5, l6, l7], st, M, uc, us) Q ↔ zwp zm_28 (43, [some (.ref a), l1, l2, l3, l4, l5, l6, l7], .ref a :: st, M, uc, us) Q := zwp_step (by decide +kernel) (fun _ => rfl)
theorem p28_43 : zwp zm_28 (43, [l0, some (.ref a), l2, l3, l4, l5, l6, l7], st, M, uc, us) Q ↔ zwp zm_28 (44, [l0, some (.ref a), l2, l3, l4, l5, l6, l7], .ref a :: st, M, uc, us) Q := zwp_step (by decide +kernel) (fun _ => rfl)
theorem p28_44 : zwp zm_28 (44, [l0, l1, l2, l3, l4, l5, l6, some (.int x)], st, M, uc, us) Q ↔ zwp zm_28 (46, [l0, l1, l2, l3, l4, l5, l6, some (.int x)], .int x :: st, M, uc, us) Q := zwp_step (by decide +kernel) (fun _ => rfl)
theorem p28_46 : zwp zm_28 (46, [l0, l1, l2, l3, l4, l5, l6, l7], .int v1 :: .ref u0 :: .ref a :: st, M, uc, us) Q ↔ ((zct st ≤ 8 ∧ uc + 0 ≤ 0 ∧ us + 0 ≤ 0) ∧ zok M a 8 6) ∧ zcl 27 [.ref a, .ref u0, .int v1] M (zbk zm_28 49 46 [l0, l1, l2, l3, l4, l5, l6, l7] st (uc + 0) (us + 0) Q) := zw_callV (by decide +kernel) (by decide +kernel) zmt_at_27 rfl rfl (by decide) (by decide) rfl rfl rfl rfl rfl rfl rfl
theorem p28_49 : zwp zm_28 (49, [l0, l1, l2, l3, l4, l5, l6, l7], .int x :: st, M, uc, us) Q ↔ if x = nI 0 then zwp zm_28 (79, [l0, l1, l2, l3, l4, l5, l6, l7], st, M, uc, us) Q else zwp zm_28 (52, [l0, l1, l2, l3, l4, l5, l6, l7], st, M, uc, us) Q := zw_ifeq (by decide +kernel) rfl rfl
theorem p28_52 : zwp zm_28 (52, [l0, l1, some (.ref a), l3, l4, l5, l6, l7], st, M, uc, us) Q ↔ zwp zm_28 (53, [l0, l1, some (.ref a), l3, l4, l5, l6, l7], .ref a :: st, M, uc, us) Q := zwp_step (by decide +kernel) (fun _ => rfl)
theorem p28_53 : zwp zm_28 (53, [some (.ref a), l1, l2, l3, l4, l5, l6, l7], st, M, uc, us) Q ↔ zwp zm_28 (54, [some (.ref a), l1, l2, l3, l4, l5, l6, l7], .ref a :: st, M, uc, us) Q := zwp_step (by decide +kernel) (fun _ => rfl)
theorem p28_54 : zwp zm_28 (54, [l0, l1, l2, l3, l4, l5, l6, l7], .ref a :: st, M, uc, us) Q ↔ zok M a 8 6 ∧ zwp zm_28 (57, [l0, l1, l2, l3, l4, l5, l6, l7], zrd M a 3 :: st, M, uc, us) Q := zw_getfield (by decide +kernel) (by decide +kernel) rfl
theorem p28_57 : zwp zm_28 (57, [l0, l1, l2, l3, l4, l5, some (.int x), l7], st, M, uc, us) Q ↔ zwp zm_28 (59, [l0, l1, l2, l3, l4, l5, some (.int x), l7], .int x :: st, M, uc, us) Q := zwp_step (by decide +kernel) (fun _ => rfl)
theorem p28_59 : zwp zm_28 (59, [l0, l1, l2, l3, l4, l5, l6, l7], .int x :: .ref a :: st, M, uc, us) Q ↔ zias M a x ∧ zvi (zrd M a x.toNatClampNeg) (fun z => zwp zm_28 (60, [l0, l1, l2, l3, l4, l5, l6, l7], .int z :: st, M, uc, us) Q) := zw_iaload (by decide +kernel)
theorem p28_60 : zwp zm_28 (60, [l0, l1, l2, l3, l4, l5, l6, some (.int x)], st, M, uc, us) Q ↔ zwp zm_28 (62, [l0, l1, l2, l3, l4, l5, l6, some (.int x)], .int x :: st, M, uc, us) Q := zwp_step (by decide +kernel) (fun _ => rfl)
theorem p28_62 : zwp zm_28 (62, [l0, l1, l2, l3, some (.int x), l5, l6, l7], st, M, uc, us) Q ↔ zwp zm_28 (64, [l0, l1, l2, l3, some (.int x), l5, l6, l7], .int x :: st, M, uc, us) Q := zwp_step (by decide +kernel) (fun _ => rfl)
theorem p28_64 : zwp zm_28 (64, [l0, l1, l2, l3, l4, l5, l6, l7], .int v3 :: .int v2 :: .int v1 :: .ref u0 :: st, M, uc, us) Q ↔ (zct st ≤ 8 ∧ uc + 0 ≤ 0 ∧ us + 0 ≤ 0) ∧ zcl 30 [.ref u0, .int v1, .int v2, .int v3] M (zbk zm_28 67 64 [l0, l1, l2, l3, l4, l5, l6, l7] st (uc + 0) (us + 0) Q) := zw_callS (by decide +kernel) (by decide +kernel) (by decide) zmt_at_30 rfl rfl (by decide) (by decide) rfl rfl rfl rfl rfl
theorem p28_67 : zwp zm_28 (67, [l0, l1, l2, l3, l4, l5, l6, l7], .int x :: st, M, uc, us) Q ↔ if x = nI 0 then zwp zm_28 (79, [l0, l1, l2, l3, l4, l5, l6, l7], st, M, uc, us) Q else zwp zm_28 (70, [l0, l1, l2, l3, l4, l5, l6, l7], st, M, uc, us) Q := zw_ifeq (by decide +kernel) rfl rfl
theorem p28_70 : zwp zm_28 (70, [some (.ref a), l1, l2, l3, l4, l5, l6, l7], st, M, uc, us) Q ↔ zwp zm_28 (71, [some (.ref a), l1, l2, l3, l4, l5, l6, l7], .ref a :: st, M, uc, us) Q := zwp_step (by decide +kernel) (fun _ => rfl)
theorem p28_71 : zwp zm_28 (71, [l0, some (.ref a), l2, l3, l4, l5, l6, l7], st, M, uc, us) Q ↔ zwp zm_28 (72, [l0, some (.ref a), l2, l3, l4, l5, l6, l7], .ref a :: st, M, uc, us) Q := zwp_step (by decide +kernel) (fun _ => rfl)
theorem p28_72 : zwp zm_28 (72, [l0, l1, l2, l3, l4, l5, l6, some (.int x)], st, M, uc, us) Q ↔ zwp zm_28 (74, [l0, l1, l2, l3, l4, l5, l6, some (.int x)], .int x :: st, M, uc, us) Q := zwp_step (by decide +kernel) (fun _ => rfl)
theorem p28_74 : zwp zm_28 (74, [l0, l1, l2, l3, l4, some (.int x), l6, l7], st, M, uc, us) Q ↔ zwp zm_28 (76, [l0, l1, l2, l3, l4, some (.int x), l6, l7], .int x :: st, M, uc, us) Q := zwp_step (by decide +kernel) (fun _ => rfl)
theorem p28_76 : zwp zm_28 (76, [l0, l1, l2, l3, l4, l5, l6, l7], .int v2 :: .int v1 :: .ref u0 :: .ref a :: st, M, uc, us) Q ↔ ((zct st ≤ 8 ∧ uc + 0 ≤ 0 ∧ us + 0 ≤ 0) ∧ zok M a 8 6) ∧ zcl 29 [.ref a, .ref u0, .int v1, .int v2] M (zbk zm_28 79 76 [l0, l1, l2, l3, l4, l5, l6, l7] st (uc + 0) (us + 0) Q) := zw_callV (by decide +kernel) (by decide +kernel) zmt_at_29 rfl rfl (by decide) (by decide) rfl rfl rfl rfl rfl rfl rfl
theorem p28_79 : zwp zm_28 (79, [l0, l1, l2, l3, l4, l5, l6, some (.int x)], st, M, uc, us) Q ↔ zwp zm_28 (82, [l0, l1, l2, l3, l4, l5, zkl l6, some (.int (x + nI 1))], st, M, uc, us) Q := zwp_step (by decide +kernel) (fun _ => rfl)
theorem p28_82 : zwp zm_28 (82, [l0, l1, l2, l3, l4, l5, l6, l7], st, M, uc, us) Q ↔ zwp zm_28 (36, [l0, l1, l2, l3, l4, l5, l6, l7], st, M, uc, us) Q := zw_goto (by decide +kernel) rfl
theorem p28_85 : zwp zm_28 (85, [l0, l1, l2, l3, l4, l5, some (.int x), l7], st, M, uc, us) Q ↔ zwp zm_28 (88, [l0, l1, l2, l3, l4, zkl l5, some (.int (x + nI 1)), l7], st, M, uc, us) Q := zwp_step (by decide +kernel) (fun _ => rfl)
theorem p28_88 : zwp zm_28 (88, [l0, l1, l2, l3, l4, l5, l6, l7], st, M, uc, us) Q ↔ zwp zm_28 (17, [l0, l1, l2, l3, l4, l5, l6, l7], st, M, uc, us) Q := zw_goto (by decide +kernel) rfl
theorem p28_91 : zwp zm_28 (91, [l0, l1, l2, l3, l4, l5, l6, l7], [], M, uc, us) Q ↔ (uc ≤ 0 ∧ us ≤ 0) ∧ Q (.inl none) M := zw_vret (by decide +kernel) rfl rfl rfl
theorem p29_0 : zwp zm_29 (0, [some (.ref a), l1, l2, l3], st, M, uc, us) Q ↔ zwp zm_29 (1, [some (.ref a), l1, l2, l3], .ref a :: st, M, uc, us) Q := zwp_step (by decide +kernel) (fun _ => rfl)
theorem p29_1 : zwp zm_29 (1, [l0, l1, l2, l3], .ref a :: st, M, uc, us) Q ↔ zok M a 8 6 ∧ zwp zm_29 (4, [l0, l1, l2, l3], zrd M a 0 :: st, M, uc, us) Q := zw_getfield (by decide +kernel) (by decide +kernel) rfl
theorem p29_4 : zwp zm_29 (4, [l0, l1, some (.int x), l3], st, M, uc, us) Q ↔ zwp zm_29 (5, [l0, l1, some (.int x), l3], .int x :: st, M, uc, us) Q := zwp_step (by decide +kernel) (fun _ => rfl)
theorem p29_5 : zwp zm_29 (5, [l0, l1, l2, some (.int x)], st, M, uc, us) Q ↔ zwp zm_29 (6, [l0, l1, l2, some (.int x)], .int x :: st, M, uc, us) Q := zwp_step (by decide +kernel) (fun _ => rfl)
theorem p29_6 : zwp zm_29 (6, [l0, l1, l2, l3], .int y :: .int x :: .ref a :: st, M, uc, us) Q ↔ zia M 20 a x ∧ zwp zm_29 (7, [l0, l1, l2, l3], st, zput M a x.toNatClampNeg (.int y), uc, us) Q := zw_iastore (by decide +kernel)
theorem p29_7 : zwp zm_29 (7, [some (.ref a), l1, l2, l3], st, M, uc, us) Q ↔ zwp zm_29 (8, [some (.ref a), l1, l2, l3], .ref a :: st, M, uc, us) Q := zwp_step (by decide +kernel) (fun _ => rfl)
theorem p29_8 : zwp zm_29 (8, [l0, l1, l2, l3], .ref a :: st, M, uc, us) Q ↔ zok M a 8 6 ∧ zwp zm_29 (11, [l0, l1, l2, l3], zrd M a 1 :: st, M, uc, us) Q := zw_getfield (by decide +kernel) (by decide +kernel) rfl
theorem p29_11 : zwp zm_29 (11, [l0, l1, l2, some (.int x)], st, M, uc, us) Q ↔ zwp zm_29 (12, [l0, l1, l2, some (.int x)], .int x :: st, M, uc, us) Q := zwp_step (by decide +kernel) (fun _ => rfl)
theorem p29_12 : zwp zm_29 (12, [l0, l1, l2, l3], .int x :: .ref a :: st, M, uc, us) Q ↔ zwp zm_29 (13, [l0, l1, l2, l3], .int x :: .ref a :: .int x :: .ref a :: st, M, uc, us) Q := zwp_step (by decide +kernel) (fun _ => rfl)
theorem p29_13 : zwp zm_29 (13, [l0, l1, l2, l3], .int x :: .ref a :: st, M, uc, us) Q ↔ zias M a x ∧ zvi (zrd M a x.toNatClampNeg) (fun z => zwp zm_29 (14, [l0, l1, l2, l3], .int z :: st, M, uc, us) Q) := zw_iaload (by decide +kernel)
theorem p29_14 : zwp zm_29 (14, [l0, l1, l2, l3], st, M, uc, us) Q ↔ zwp zm_29 (15, [l0, l1, l2, l3], .int (nI 1) :: st, M, uc, us) Q := zwp_step (by decide +kernel) (fun _ => rfl)
theorem p29_15 : zwp zm_29 (15, [l0, l1, l2, l3], .int y :: .int x :: st, M, uc, us) Q ↔ zwp zm_29 (16, [l0, l1, l2, l3], .int (x + y) :: st, M, uc, us) Q := zwp_step (by decide +kernel) (fun _ => rfl)
theorem p29_16 : zwp zm_29 (16, [l0, l1, l2, l3], .int y :: .int x :: .ref a :: st, M, uc, us) Q ↔ zia M 20 a x ∧ zwp zm_29 (17, [l0, l1, l2, l3], st, zput M a x.toNatClampNeg (.int y), uc, us) Q := zw_iastore (by decide +kernel)
theorem p29_17 : zwp zm_29 (17, [l0, some (.ref a), l2, l3], st, M, uc, us) Q ↔ zwp zm_29 (18, [l0, some (.ref a), l2, l3], .ref a :: st, M, uc, us) Q := zwp_step (by decide +kernel) (fun _ => rfl)
theorem p29_18 : zwp zm_29 (18, [l0, l1, l2, l3], .ref a :: st, M, uc, us) Q ↔ zok M a 0 6 ∧ zwp zm_29 (21, [l0, l1, l2, l3], zrd M a 4 :: st, M, uc, us) Q := zw_getfield (by decide +kernel) (by decide +kernel) rfl
theorem p29_21 : zwp zm_29 (21, [l0, l1, some (.int x), l3], st, M, uc, us) Q ↔ zwp zm_29 (22, [l0, l1, some (.int x), l3], .int x :: st, M, uc, us) Q := zwp_step (by decide +kernel) (fun _ => rfl)
theorem p29_22 : zwp zm_29 (22, [l0, l1, l2, l3], .int x :: .ref a :: st, M, uc, us) Q ↔ ziar M a x ∧ zvr (zrd M a x.toNatClampNeg) (fun z => zwp zm_29 (23, [l0, l1, l2, l3], .ref z :: st, M, uc, us) Q) := zw_aaload (by decide +kernel)
theorem p29_23 : zwp zm_29 (23, [l0, l1, l2, l3], st, M, uc, us) Q ↔ zwp zm_29 (24, [l0, l1, l2, l3], .int (nI 0) :: st, M, uc, us) Q := zwp_step (by decide +kernel) (fun _ => rfl)
theorem p29_24 : zwp zm_29 (24, [l0, l1, l2, l3], .int v0 :: .ref a :: st, M, uc, us) Q ↔ ((zct st ≤ 8 ∧ uc + 0 ≤ 0 ∧ us + 0 ≤ 0) ∧ zok M a 1 6) ∧ zcl 6 [.ref a, .int v0] M (zbk zm_29 27 24 [l0, l1, l2, l3] st (uc + 0) (us + 0) Q) := zw_callV (by decide +kernel) (by decide +kernel) zmt_at_6 rfl rfl (by decide) (by decide) rfl rfl rfl rfl rfl rfl rfl
theorem p29_27 : zwp zm_29 (27, [l0, l1, l2, l3], .int x :: st, M, uc, us) Q ↔ if x = nI 0 then zwp zm_29 (30, [l0, l1, l2, l3], st, M, uc, us) Q else zwp zm_29 (40, [l0, l1, l2, l3], st, M, uc, us) Q := zw_ifne (by decide +kernel) rfl rfl
theorem p29_30 : zwp zm_29 (30, [some (.ref a), l1, l2, l3], st, M, uc, us) Q ↔ zwp zm_29 (31, [some (.ref a), l1, l2, l3], .ref a :: st, M, uc, us) Q := zwp_step (by decide +kernel) (fun _ => rfl)
theorem p29_31 : zwp zm_29 (31, [l0, l1, l2, l3], .ref a :: st, M, uc, us) Q ↔ zok M a 8 6 ∧ zwp zm_29 (34, [l0, l1, l2, l3], zrd M a 2 :: st, M, uc, us) Q := zw_getfield (by decide +kernel) (by decide +kernel) rfl
theorem p29_34 : zwp zm_29 (34, [l0, l1, l2, some (.int x)], st, M, uc, us) Q ↔ zwp zm_29 (35, [l0, l1, l2, some (.int x)], .int x :: st, M, uc, us) Q := zwp_step (by decide +kernel) (fun _ => rfl)
theorem p29_35 : zwp zm_29 (35, [l0, l1, l2, l3], .int x :: .ref a :: st, M, uc, us) Q ↔ zwp zm_29 (36, [l0, l1, l2, l3], .int x :: .ref a :: .int x :: .ref a :: st, M, uc, us) Q := zwp_step (by decide +kernel) (fun _ => rfl)
theorem p29_36 : zwp zm_29 (36, [l0, l1, l2, l3], .int x :: .ref a :: st, M, uc, us) Q ↔ zias M a x ∧ zvi (zrd M a x.toNatClampNeg) (fun z => zwp zm_29 (37, [l0, l1, l2, l3], .int z :: st, M, uc, us) Q) := zw_iaload (by decide +kernel)
theorem p29_37 : zwp zm_29 (37, [l0, l1, l2, l3], st, M, uc, us) Q ↔ zwp zm_29 (38, [l0, l1, l2, l3], .int (nI 1) :: st, M, uc, us) Q := zwp_step (by decide +kernel) (fun _ => rfl)
theorem p29_38 : zwp zm_29 (38, [l0, l1, l2, l3], .int y :: .int x :: st, M, uc, us) Q ↔ zwp zm_29 (39, [l0, l1, l2, l3], .int (x + y) :: st, M, uc, us) Q := zwp_step (by decide +kernel) (fun _ => rfl)
theorem p29_39 : zwp zm_29 (39, [l0, l1, l2, l3], .int y :: .int x :: .ref a :: st, M, uc, us) Q ↔ zia M 20 a x ∧ zwp zm_29 (40, [l0, l1, l2, l3], st, zput M a x.toNatClampNeg (.int y), uc, us) Q := zw_iastore (by decide +kernel)
theorem p29_40 : zwp zm_29 (40, [some (.ref a), l1, l2, l3], st, M, uc, us) Q ↔ zwp zm_29 (41, [some (.ref a), l1, l2, l3], .ref a :: st, M, uc, us) Q := zwp_step (by decide +kernel) (fun _ => rfl)
theorem p29_41 : zwp zm_29 (41, [l0, l1, l2, l3], .ref a :: st, M, uc, us) Q ↔ zok M a 8 6 ∧ zwp zm_29 (44, [l0, l1, l2, l3], zrd M a 4 :: st, M, uc, us) Q := zw_getfield (by decide +kernel) (by decide +kernel) rfl
theorem p29_44 : zwp zm_29 (44, [some (.ref a), l1, l2, l3], st, M, uc, us) Q ↔ zwp zm_29 (45, [some (.ref a), l1, l2, l3], .ref a :: st, M, uc, us) Q := zwp_step (by decide +kernel) (fun _ => rfl)
theorem p29_45 : zwp zm_29 (45, [l0, l1, l2, l3], .ref a :: st, M, uc, us) Q ↔ zok M a 8 6 ∧ zwp zm_29 (48, [l0, l1, l2, l3], zrd M a 3 :: st, M, uc, us) Q := zw_getfield (by decide +kernel) (by decide +kernel) rfl
theorem p29_48 : zwp zm_29 (48, [l0, l1, l2, l3], .ref a :: st, M, uc, us) Q ↔ zarr M a ∧ zwp zm_29 (49, [l0, l1, l2, l3], .int (nI (zlen' M a)) :: st, M, uc, us) Q := zw_alen (by decide +kernel)
theorem p29_49 : zwp zm_29 (49, [l0, l1, l2, l3], .int y :: .int x :: st, M, uc, us) Q ↔ if x < y then zwp zm_29 (52, [l0, l1, l2, l3], st, M, uc, us) Q else zwp zm_29 (72, [l0, l1, l2, l3], st, M, uc, us) Q := zw_icge (by decide +kernel) rfl rfl
theorem p29_52 : zwp zm_29 (52, [some (.ref a), l1, l2, l3], st, M, uc, us) Q ↔ zwp zm_29 (53, [some (.ref a), l1, l2, l3], .ref a :: st, M, uc, us) Q := zwp_step (by decide +kernel) (fun _ => rfl)
theorem p29_53 : zwp zm_29 (53, [l0, l1, l2, l3], .ref a :: st, M, uc, us) Q ↔ zok M a 8 6 ∧ zwp zm_29 (56, [l0, l1, l2, l3], zrd M a 3 :: st, M, uc, us) Q := zw_getfield (by decide +kernel) (by decide +kernel) rfl
theorem p29_56 : zwp zm_29 (56, [some (.ref a), l1, l2, l3], st, M, uc, us) Q ↔ zwp zm_29 (57, [some (.ref a), l1, l2, l3], .ref a :: st, M, uc, us) Q := zwp_step (by decide +kernel) (fun _ => rfl)
theorem p29_57 : zwp zm_29 (57, [l0, l1, l2, l3], .ref a :: st, M, uc, us) Q ↔ zok M a 8 6 ∧ zwp zm_29 (60, [l0, l1, l2, l3], zrd M a 4 :: st, M, uc, us) Q := zw_getfield (by decide +kernel) (by decide +kernel) rfl
theorem p29_60 : zwp zm_29 (60, [l0, l1, some (.int x), l3], st, M, uc, us) Q ↔ zwp zm_29 (61, [l0, l1, some (.int x), l3], .int x :: st, M, uc, us) Q := zwp_step (by decide +kernel) (fun _ => rfl)
theorem p29_61 : zwp zm_29 (61, [l0, l1, l2, l3], .int y :: .int x :: .ref a :: st, M, uc, us) Q ↔ zia M 20 a x ∧ zwp zm_29 (62, [l0, l1, l2, l3], st, zput M a x.toNatClampNeg (.int y), uc, us) Q := zw_iastore (by decide +kernel)
theorem p29_62 : zwp zm_29 (62, [some (.ref a), l1, l2, l3], st, M, uc, us) Q ↔ zwp zm_29 (63, [some (.ref a), l1, l2, l3], .ref a :: st, M, uc, us) Q := zwp_step (by decide +kernel) (fun _ => rfl)
theorem p29_63 : zwp zm_29 (63, [l0, l1, l2, l3], .ref a :: st, M, uc, us) Q ↔ zwp zm_29 (64, [l0, l1, l2, l3], .ref a :: .ref a :: st, M, uc, us) Q := zwp_step (by decide +kernel) (fun _ => rfl)
theorem p29_63i : zwp zm_29 (63, [l0, l1, l2, l3], .int x :: st, M, uc, us) Q ↔ zwp zm_29 (64, [l0, l1, l2, l3], .int x :: .int x :: st, M, uc, us) Q := zwp_step (by decide +kernel) (fun _ => rfl)
theorem p29_64 : zwp zm_29 (64, [l0, l1, l2, l3], .ref a :: st, M, uc, us) Q ↔ zok M a 8 6 ∧ zwp zm_29 (67, [l0, l1, l2, l3], zrd M a 4 :: st, M, uc, us) Q := zw_getfield (by decide +kernel) (by decide +kernel) rfl
theorem p29_67 : zwp zm_29 (67, [l0, l1, l2, l3], st, M, uc, us) Q ↔ zwp zm_29 (68, [l0, l1, l2, l3], .int (nI 1) :: st, M, uc, us) Q := zwp_step (by decide +kernel) (fun _ => rfl)
theorem p29_68 : zwp zm_29 (68, [l0, l1, l2, l3], .int y :: .int x :: st, M, uc, us) Q ↔ zwp zm_29 (69, [l0, l1, l2, l3], .int (x + y) :: st, M, uc, us) Q := zwp_step (by decide +kernel) (fun _ => rfl)
theorem p29_69 : zwp zm_29 (69, [l0, l1, l2, l3], .int x :: .ref a :: st, M, uc, us) Q ↔ zok M a 8 6 ∧ zwp zm_29 (72, [l0, l1, l2, l3], st, zput M a 4 (.int x), uc, us) Q := zw_putI (by decide +kernel) (by decide +kernel) rfl rfl (by decide +kernel)
theorem p29_72 : zwp zm_29 (72, [l0, l1, l2, l3], [], M, uc, us) Q ↔ (uc ≤ 0 ∧ us ≤ 0) ∧ Q (.inl none) M := zw_vret (by decide +kernel) rfl rfl rfl
theorem p30_0 : zwp zm_30 (0, [some (.ref a), l1, l2, l3], st, M, uc, us) Q ↔ zwp zm_30 (1, [some (.ref a), l1, l2, l3], .ref a :: st, M, uc, us) Q := zwp_step (by decide +kernel) (fun _ => rfl)
theorem p30_1 : zwp zm_30 (1, [l0, some (.int x), l2, l3], st, M, uc, us) Q ↔ zwp zm_30 (2, [l0, some (.int x), l2, l3], .int x :: st, M, uc, us) Q := zwp_step (by decide +kernel) (fun _ => rfl)
theorem p30_2 : zwp zm_30 (2, [l0, l1, l2, l3], .int x :: .ref a :: st, M, uc, us) Q ↔ ziar M a x ∧ zvr (zrd M a x.toNatClampNeg) (fun z => zwp zm_30 (3, [l0, l1, l2, l3], .ref z :: st, M, uc, us) Q) := zw_aaload (by decide +kernel)
theorem p30_3 : zwp zm_30 (3, [l0, l1, l2, l3], .ref a :: st, M, uc, us) Q ↔ zok M a 2 6 ∧ zwp zm_30 (6, [l0, l1, l2, l3], zrd M a 4 :: st, M, uc, us) Q := zw_getfield (by decide +kernel) (by decide +kernel) rfl
theorem p30_6 : zwp zm_30 (6, [l0, l1, some (.int x), l3], st, M, uc, us) Q ↔ zwp zm_30 (7, [l0, l1, some (.int x), l3], .int x :: st, M, uc, us) Q := zwp_step (by decide +kernel) (fun _ => rfl)
theorem p30_7 : zwp zm_30 (7, [l0, l1, l2, l3], .int y :: .int x :: st, M, uc, us) Q ↔ if x = y then zwp zm_30 (20, [l0, l1, l2, l3], st, M, uc, us) Q else zwp zm_30 (10, [l0, l1, l2, l3], st, M, uc, us) Q := zw_iceq (by decide +kernel) rfl rfl
theorem p30_10 : zwp zm_30 (10, [some (.ref a), l1, l2, l3], st, M, uc, us) Q ↔ zwp zm_30 (11, [some (.ref a), l1, l2, l3], .ref a :: st, M, uc, us) Q := zwp_step (by decide +kernel) (fun _ => rfl)
theorem p30_11 : zwp zm_30 (11, [l0, l1, some (.int x), l3], st, M, uc, us) Q ↔ zwp zm_30 (12, [l0, l1, some (.int x), l3], .int x :: st, M, uc, us) Q := zwp_step (by decide +kernel) (fun _ => rfl)
theorem p30_12 : zwp zm_30 (12, [l0, l1, l2, l3], .int x :: .ref a :: st, M, uc, us) Q ↔ ziar M a x ∧ zvr (zrd M a x.toNatClampNeg) (fun z => zwp zm_30 (13, [l0, l1, l2, l3], .ref z :: st, M, uc, us) Q) := zw_aaload (by decide +kernel)
theorem p30_13 : zwp zm_30 (13, [l0, l1, l2, l3], .ref a :: st, M, uc, us) Q ↔ zok M a 2 6 ∧ zwp zm_30 (16, [l0, l1, l2, l3], zrd M a 4 :: st, M, uc, us) Q := zw_getfield (by decide +kernel) (by decide +kernel) rfl
theorem p30_16 : zwp zm_30 (16, [l0, some (.int x), l2, l3], st, M, uc, us) Q ↔ zwp zm_30 (17, [l0, some (.int x), l2, l3], .int x :: st, M, uc, us) Q := zwp_step (by decide +kernel) (fun _ => rfl)
theorem p30_17 : zwp zm_30 (17, [l0, l1, l2, l3], .int y :: .int x :: st, M, uc, us) Q ↔ if x = y then zwp zm_30 (20, [l0, l1, l2, l3], st, M, uc, us) Q else zwp zm_30 (22, [l0, l1, l2, l3], st, M, uc, us) Q := zw_icne (by decide +kernel) rfl rfl
theorem p30_20 : zwp zm_30 (20, [l0, l1, l2, l3], st, M, uc, us) Q ↔ zwp zm_30 (21, [l0, l1, l2, l3], .int (nI 1) :: st, M, uc, us) Q := zwp_step (by decide +kernel) (fun _ => rfl)
theorem p30_21 : zwp zm_30 (21, [l0, l1, l2, l3], [.int x], M, uc, us) Q ↔ (narrow .boolean (.int x) = .int x ∧ uc ≤ 0 ∧ us ≤ 0) ∧ Q (.inl (some (.int x))) M := zw_zret (by decide +kernel) rfl rfl rfl
theorem p30_22 : zwp zm_30 (22, [some (.ref a), l1, l2, l3], st, M, uc, us) Q ↔ zwp zm_30 (23, [some (.ref a), l1, l2, l3], .ref a :: st, M, uc, us) Q := zwp_step (by decide +kernel) (fun _ => rfl)
theorem p30_23 : zwp zm_30 (23, [l0, some (.int x), l2, l3], st, M, uc, us) Q ↔ zwp zm_30 (24, [l0, some (.int x), l2, l3], .int x :: st, M, uc, us) Q := zwp_step (by decide +kernel) (fun _ => rfl)
theorem p30_24 : zwp zm_30 (24, [l0, l1, l2, l3], .int x :: .ref a :: st, M, uc, us) Q ↔ ziar M a x ∧ zvr (zrd M a x.toNatClampNeg) (fun z => zwp zm_30 (25, [l0, l1, l2, l3], .ref z :: st, M, uc, us) Q) := zw_aaload (by decide +kernel)
theorem p30_25 : zwp zm_30 (25, [l0, l1, l2, l3], .ref a :: st, M, uc, us) Q ↔ zok M a 2 6 ∧ zwp zm_30 (28, [l0, l1, l2, l3], zrd M a 1 :: st, M, uc, us) Q := zw_getfield (by decide +kernel) (by decide +kernel) rfl
theorem p30_28 : zwp zm_30 (28, [some (.ref a), l1, l2, l3], st, M, uc, us) Q ↔ zwp zm_30 (29, [some (.ref a), l1, l2, l3], .ref a :: st, M, uc, us) Q := zwp_step (by decide +kernel) (fun _ => rfl)
theorem p30_29 : zwp zm_30 (29, [l0, l1, some (.int x), l3], st, M, uc, us) Q ↔ zwp zm_30 (30, [l0, l1, some (.int x), l3], .int x :: st, M, uc, us) Q := zwp_step (by decide +kernel) (fun _ => rfl)
theorem p30_30 : zwp zm_30 (30, [l0, l1, l2, l3], .int x :: .ref a :: st, M, uc, us) Q ↔ ziar M a x ∧ zvr (zrd M a x.toNatClampNeg) (fun z => zwp zm_30 (31, [l0, l1, l2, l3], .ref z :: st, M, uc, us) Q) := zw_aaload (by decide +kernel)
theorem p30_31 : zwp zm_30 (31, [l0, l1, l2, l3], .ref a :: st, M, uc, us) Q ↔ zok M a 2 6 ∧ zwp zm_30 (34, [l0, l1, l2, l3], zrd M a 1 :: st, M, uc, us) Q := zw_getfield (by decide +kernel) (by decide +kernel) rfl
theorem p30_34 : zwp zm_30 (34, [l0, l1, l2, l3], .int y :: .int x :: st, M, uc, us) Q ↔ if x = y then zwp zm_30 (37, [l0, l1, l2, l3], st, M, uc, us) Q else zwp zm_30 (61, [l0, l1, l2, l3], st, M, uc, us) Q := zw_icne (by decide +kernel) rfl rfl
theorem p30_37 : zwp zm_30 (37, [some (.ref a), l1, l2, l3], st, M, uc, us) Q ↔ zwp zm_30 (38, [some (.ref a), l1, l2, l3], .ref a :: st, M, uc, us) Q := zwp_step (by decide +kernel) (fun _ => rfl)
theorem p30_38 : zwp zm_30 (38, [l0, some (.int x), l2, l3], st, M, uc, us) Q ↔ zwp zm_30 (39, [l0, some (.int x), l2, l3], .int x :: st, M, uc, us) Q := zwp_step (by decide +kernel) (fun _ => rfl)
theorem p30_39 : zwp zm_30 (39, [l0, l1, l2, l3], .int x :: .ref a :: st, M, uc, us) Q ↔ ziar M a x ∧ zvr (zrd M a x.toNatClampNeg) (fun z => zwp zm_30 (40, [l0, l1, l2, l3], .ref z :: st, M, uc, us) Q) := zw_aaload (by decide +kernel)
theorem p30_40 : zwp zm_30 (40, [l0, l1, l2, l3], .ref a :: st, M, uc, us) Q ↔ zok M a 2 6 ∧ zwp zm_30 (43, [l0, l1, l2, l3], zrd M a 5 :: st, M, uc, us) Q := zw_getfield (by decide +kernel) (by decide +kernel) rfl
theorem p30_43 : zwp zm_30 (43, [some (.ref a), l1, l2, l3], st, M, uc, us) Q ↔ zwp zm_30 (44, [some (.ref a), l1, l2, l3], .ref a :: st, M, uc, us) Q := zwp_step (by decide +kernel) (fun _ => rfl)
theorem p30_44 : zwp zm_30 (44, [l0, l1, some (.int x), l3], st, M, uc, us) Q ↔ zwp zm_30 (45, [l0, l1, some (.int x), l3], .int x :: st, M, uc, us) Q := zwp_step (by decide +kernel) (fun _ => rfl)
theorem p30_45 : zwp zm_30 (45, [l0, l1, l2, l3], .int x :: .ref a :: st, M, uc, us) Q ↔ ziar M a x ∧ zvr (zrd M a x.toNatClampNeg) (fun z => zwp zm_30 (46, [l0, l1, l2, l3], .ref z :: st, M, uc, us) Q) := zw_aaload (by decide +kernel)
theorem p30_46 : zwp zm_30 (46, [l0, l1, l2, l3], .ref a :: st, M, uc, us) Q ↔ zok M a 2 6 ∧ zwp zm_30 (49, [l0, l1, l2, l3], zrd M a 5 :: st, M, uc, us) Q := zw_getfield (by decide +kernel) (by decide +kernel) rfl
theorem p30_49 : zwp zm_30 (49, [l0, l1, l2, l3], .int y :: .int x :: st, M, uc, us) Q ↔ zwp zm_30 (50, [l0, l1, l2, l3], .int (x - y) :: st, M, uc, us) Q := zwp_step (by decide +kernel) (fun _ => rfl)
theorem p30_50 : zwp zm_30 (50, [l0, l1, l2, l3], .int x :: st, M, uc, us) Q ↔ (zct st + 13 ≤ 68 ∧ uc ≤ 0 ∧ us ≤ 0) ∧ zwp zm_30 (53, [l0, l1, l2, l3], .int (if 0 ≤ x then x else 0 - x) :: st, M, uc, us) Q := zw_abs (by decide +kernel) (by decide +kernel) (by decide) rfl rfl rfl
theorem p30_53 : zwp zm_30 (53, [l0, l1, l2, some (.int x)], st, M, uc, us) Q ↔ zwp zm_30 (54, [l0, l1, l2, some (.int x)], .int x :: st, M, uc, us) Q := zwp_step (by decide +kernel) (fun _ => rfl)
theorem p30_54 : zwp zm_30 (54, [l0, l1, l2, l3], .int y :: .int x :: st, M, uc, us) Q ↔ if y < x then zwp zm_30 (61, [l0, l1, l2, l3], st, M, uc, us) Q else zwp zm_30 (57, [l0, l1, l2, l3], st, M, uc, us) Q := zw_icgt (by decide +kernel) rfl rfl
theorem p30_57 : zwp zm_30 (57, [l0, l1, l2, l3], st, M, uc, us) Q ↔ zwp zm_30 (58, [l0, l1, l2, l3], .int (nI 1) :: st, M, uc, us) Q := zwp_step (by decide +kernel) (fun _ => rfl)
theorem p30_58 : zwp zm_30 (58, [l0, l1, l2, l3], st, M, uc, us) Q ↔ zwp zm_30 (62, [l0, l1, l2, l3], st, M, uc, us) Q := zw_goto (by decide +kernel) rfl
theorem p30_61 : zwp zm_30 (61, [l0, l1, l2, l3], st, M, uc, us) Q ↔ zwp zm_30 (62, [l0, l1, l2, l3], .int (nI 0) :: st, M, uc, us) Q := zwp_step (by decide +kernel) (fun _ => rfl)
theorem p30_62 : zwp zm_30 (62, [l0, l1, l2, l3], [.int x], M, uc, us) Q ↔ (narrow .boolean (.int x) = .int x ∧ uc ≤ 0 ∧ us ≤ 0) ∧ Q (.inl (some (.int x))) M := zw_zret (by decide +kernel) rfl rfl rfl
theorem p31_0 : zwp zm_31 (0, [some (.ref a), l1], st, M, uc, us) Q ↔ zwp zm_31 (1, [some (.ref a), l1], .ref a :: st, M, uc, us) Q := zwp_step (by decide +kernel) (fun _ => rfl)
theorem p31_1 : zwp zm_31 (1, [l0, l1], .ref a :: st, M, uc, us) Q ↔ zct st + 12 ≤ 40 ∧ zwp zm_31 (4, [l0, l1], st, M, uc, us) Q := zw_obj (rf := 0) (by decide +kernel) (by decide +kernel) (by decide) rfl
theorem p31_4 : zwp zm_31 (4, [some (.ref a), l1], st, M, uc, us) Q ↔ zwp zm_31 (5, [some (.ref a), l1], .ref a :: st, M, uc, us) Q := zwp_step (by decide +kernel) (fun _ => rfl)
theorem p31_5 : zwp zm_31 (5, [l0, l1], st, M, uc, us) Q ↔ zwp zm_31 (7, [l0, l1], .int (nI 8) :: st, M, uc, us) Q := zwp_step (by decide +kernel) (fun _ => rfl)
theorem p31_7 : zwp zm_31 (7, [l0, l1], .int x :: st, M, uc, us) Q ↔ (0 ≤ x ∧ x.toNatClampNeg ≤ 1000 ∧ uc + 1 ≤ 77 ∧ us + x.toNatClampNeg ≤ 494) ∧ zwp zm_31 (10, [l0, l1], .ref (M.1 + 1) :: st, znew M (37, x.toNatClampNeg) (fun _ => .null), uc + 1, us + x.toNatClampNeg) Q := zw_anewarray (by decide +kernel) (by decide +kernel) rfl rfl rfl
theorem p31_10 : zwp zm_31 (10, [l0, l1], .ref b :: .ref a :: st, M, uc, us) Q ↔ zok M a 0 6 ∧ zwp zm_31 (13, [l0, l1], st, zput M a 0 (.ref b), uc, us) Q := zw_putR (by decide +kernel) (by decide +kernel) rfl (by decide +kernel) (by decide +kernel)
theorem p31_13 : zwp zm_31 (13, [some (.ref a), l1], st, M, uc, us) Q ↔ zwp zm_31 (14, [some (.ref a), l1], .ref a :: st, M, uc, us) Q := zwp_step (by decide +kernel) (fun _ => rfl)
theorem p31_14 : zwp zm_31 (14, [l0, l1], st, M, uc, us) Q ↔ zwp zm_31 (15, [l0, l1], .int (nI 2) :: st, M, uc, us) Q := zwp_step (by decide +kernel) (fun _ => rfl)
theorem p31_15 : zwp zm_31 (15, [l0, l1], .int x :: .ref a :: st, M, uc, us) Q ↔ zok M a 0 6 ∧ zwp zm_31 (18, [l0, l1], st, zput M a 1 (.int x), uc, us) Q := zw_putI (by decide +kernel) (by decide +kernel) rfl rfl (by decide +kernel)
theorem p31_18 : zwp zm_31 (18, [some (.ref a), l1], st, M, uc, us) Q ↔ zwp zm_31 (19, [some (.ref a), l1], .ref a :: st, M, uc, us) Q := zwp_step (by decide +kernel) (fun _ => rfl)
theorem p31_19 : zwp zm_31 (19, [l0, l1], st, M, uc, us) Q ↔ zwp zm_31 (21, [l0, l1], .int (nI 6) :: st, M, uc, us) Q := zwp_step (by decide +kernel) (fun _ => rfl)
theorem p31_21 : zwp zm_31 (21, [l0, l1], .int x :: st, M, uc, us) Q ↔ (0 ≤ x ∧ x.toNatClampNeg ≤ 1000 ∧ uc + 1 ≤ 77 ∧ us + x.toNatClampNeg ≤ 494) ∧ zwp zm_31 (24, [l0, l1], .ref (M.1 + 1) :: st, znew M (36, x.toNatClampNeg) (fun _ => .null), uc + 1, us + x.toNatClampNeg) Q := zw_anewarray (by decide +kernel) (by decide +kernel) rfl rfl rfl
theorem p31_24 : zwp zm_31 (24, [l0, l1], .ref b :: .ref a :: st, M, uc, us) Q ↔ zok M a 0 6 ∧ zwp zm_31 (27, [l0, l1], st, zput M a 2 (.ref b), uc, us) Q := zw_putR (by decide +kernel) (by decide +kernel) rfl (by decide +kernel) (by decide +kernel)
theorem p31_27 : zwp zm_31 (27, [some (.ref a), l1], st, M, uc, us) Q ↔ zwp zm_31 (28, [some (.ref a), l1], .ref a :: st, M, uc, us) Q := zwp_step (by decide +kernel) (fun _ => rfl)
theorem p31_28 : zwp zm_31 (28, [l0, l1], st, M, uc, us) Q ↔ zwp zm_31 (30, [l0, l1], .int (nI 60) :: st, M, uc, us) Q := zwp_step (by decide +kernel) (fun _ => rfl)
theorem p31_30 : zwp zm_31 (30, [l0, l1], .int x :: st, M, uc, us) Q ↔ (0 ≤ x ∧ x.toNatClampNeg ≤ 1000 ∧ uc + 1 ≤ 77 ∧ us + x.toNatClampNeg ≤ 494) ∧ zwp zm_31 (33, [l0, l1], .ref (M.1 + 1) :: st, znew M (31, x.toNatClampNeg) (fun _ => .null), uc + 1, us + x.toNatClampNeg) Q := zw_anewarray (by decide +kernel) (by decide +kernel) rfl rfl rfl
theorem p31_33 : zwp zm_31 (33, [l0, l1], .ref b :: .ref a :: st, M, uc, us) Q ↔ zok M a 0 6 ∧ zwp zm_31 (36, [l0, l1], st, zput M a 4 (.ref b), uc, us) Q := zw_putR (by decide +kernel) (by decide +kernel) rfl (by decide +kernel) (by decide +kernel)
theorem p31_36 : zwp zm_31 (36, [some (.ref a), l1], st, M, uc, us) Q ↔ zwp zm_31 (37, [some (.ref a), l1], .ref a :: st, M, uc, us) Q := zwp_step (by decide +kernel) (fun _ => rfl)
theorem p31_37 : zwp zm_31 (37, [l0, l1], st, M, uc, us) Q ↔ zwp zm_31 (40, [l0, l1], .int (nI 200) :: st, M, uc, us) Q := zwp_step (by decide +kernel) (fun _ => rfl)
theorem p31_40 : zwp zm_31 (40, [l0, l1], .int x :: .ref a :: st, M, uc, us) Q ↔ zok M a 0 6 ∧ zwp zm_31 (43, [l0, l1], st, zput M a 5 (.int x), uc, us) Q := zw_putI (by decide +kernel) (by decide +kernel) rfl rfl (by decide +kernel)
theorem p31_43 : zwp zm_31 (43, [l0, l1], st, M, uc, us) Q ↔ zwp zm_31 (44, [l0, l1], .int (nI 0) :: st, M, uc, us) Q := zwp_step (by decide +kernel) (fun _ => rfl)
theorem p31_44 : zwp zm_31 (44, [l0, l1], .int x :: st, M, uc, us) Q ↔ zwp zm_31 (45, [zkl l0, some (.int x)], st, M, uc, us) Q := zwp_step (by decide +kernel) (fun _ => rfl)
theorem p31_45 : zwp zm_31 (45, [l0, some (.int x)], st, M, uc, us) Q ↔ zwp zm_31 (46, [l0, some (.int x)], .int x :: st, M, uc, us) Q := zwp_step (by decide +kernel) (fun _ => rfl)
theorem p31_46 : zwp zm_31 (46, [some (.ref a), l1], st, M, uc, us) Q ↔ zwp zm_31 (47, [some (.ref a), l1], .ref a :: st, M, uc, us) Q := zwp_step (by decide +kernel) (fun _ => rfl)
theorem p31_47 : zwp zm_31 (47, [l0, l1], .ref a :: st, M, uc, us) Q ↔ zok M a 0 6 ∧ zwp zm_31 (50, [l0, l1], zrd M a 0 :: st, M, uc, us) Q := zw_getfield (by decide +kernel) (by decide +kernel) rfl
theorem p31_50 : zwp zm_31 (50, [l0, l1], .ref a :: st, M, uc, us) Q ↔ zarr M a ∧ zwp zm_31 (51, [l0, l1], .int (nI (zlen' M a)) :: st, M, uc, us) Q := zw_alen (by decide +kernel)
theorem p31_51 : zwp zm_31 (51, [l0, l1], .int y :: .int x :: st, M, uc, us) Q ↔ if x < y then zwp zm_31 (54, [l0, l1], st, M, uc, us) Q else zwp zm_31 (73, [l0, l1], st, M, uc, us) Q := zw_icge (by decide +kernel) rfl rfl
theorem p31_54 : zwp zm_31 (54, [some (.ref a), l1], st, M, uc, us) Q ↔ zwp zm_31 (55, [some (.ref a), l1], .ref a :: st, M, uc, us) Q := zwp_step (by decide +kernel) (fun _ => rfl)
theorem p31_55 : zwp zm_31 (55, [l0, l1], .ref a :: st, M, uc, us) Q ↔ zok M a 0 6 ∧ zwp zm_31 (58, [l0, l1], zrd M a 0 :: st, M, uc, us) Q := zw_getfield (by decide +kernel) (by decide +kernel) rfl
theorem p31_58 : zwp zm_31 (58, [l0, some (.int x)], st, M, uc, us) Q ↔ zwp zm_31 (59, [l0, some (.int x)], .int x :: st, M, uc, us) Q := zwp_step (by decide +kernel) (fun _ => rfl)
theorem p31_59 : zwp zm_31 (59, [l0, l1], st, M, uc, us) Q ↔ (uc + 1 ≤ 77 ∧ us + 3 ≤ 494) ∧ zwp zm_31 (62, [l0, l1], .ref (M.1 + 1) :: st, znew M (7, 3) (fun j => defaultValue (zty 7 j)), uc + 1, us + 3) Q := zw_new (by decide +kernel) (by decide +kernel) (by decide) rfl rfl rfl
theorem p31_62 : zwp zm_31 (62, [l0, l1], .ref a :: st, M, uc, us) Q ↔ zwp zm_31 (63, [l0, l1], .ref a :: .ref a :: st, M, uc, us) Q := zwp_step (by decide +kernel) (fun _ => rfl)
theorem p31_62i : zwp zm_31 (62, [l0, l1], .int x :: st, M, uc, us) Q ↔ zwp zm_31 (63, [l0, l1], .int x :: .int x :: st, M, uc, us) Q := zwp_step (by decide +kernel) (fun _ => rfl)
theorem p31_63 : zwp zm_31 (63, [l0, l1], .ref a :: st, M, uc, us) Q ↔ (zct st ≤ 8 ∧ uc + 0 ≤ 77 ∧ us + 0 ≤ 494) ∧ zcl 0 [.ref a] M (zbk zm_31 66 63 [l0, l1] st (uc + 0) (us + 0) Q) := zw_callI (by decide +kernel) (by decide +kernel) (by decide) zmt_at_0 rfl rfl (by decide) (by decide) rfl rfl rfl rfl rfl
theorem p31_66 : zwp zm_31 (66, [l0, l1], .ref b :: .int x :: .ref a :: st, M, uc, us) Q ↔ zias2 M b a x ∧ zwp zm_31 (67, [l0, l1], st, zput M a x.toNatClampNeg (.ref b), uc, us) Q := zw_aastore (by decide +kernel)
theorem p31_67 : zwp zm_31 (67, [l0, some (.int x)], st, M, uc, us) Q ↔ zwp zm_31 (70, [zkl l0, some (.int (x + nI 1))], st, M, uc, us) Q := zwp_step (by decide +kernel) (fun _ => rfl)
theorem p31_70 : zwp zm_31 (70, [l0, l1], st, M, uc, us) Q ↔ zwp zm_31 (45, [l0, l1], st, M, uc, us) Q := zw_goto (by decide +kernel) rfl
theorem p31_73 : zwp zm_31 (73, [l0, l1], st, M, uc, us) Q ↔ zwp zm_31 (74, [l0, l1], .int (nI 0) :: st, M, uc, us) Q := zwp_step (by decide +kernel) (fun _ => rfl)
theorem p31_74 : zwp zm_31 (74, [l0, l1], .int x :: st, M, uc, us) Q ↔ zwp zm_31 (75, [zkl l0, some (.int x)], st, M, uc, us) Q := zwp_step (by decide +kernel) (fun _ => rfl)
theorem p31_75 : zwp zm_31 (75, [l0, some (.int x)], st, M, uc, us) Q ↔ zwp zm_31 (76, [l0, some (.int x)], .int x :: st, M, uc, us) Q := zwp_step (by decide +kernel) (fun _ => rfl)
theorem p31_76 : zwp zm_31 (76, [some (.ref a), l1], st, M, uc, us) Q ↔ zwp zm_31 (77, [some (.ref a), l1], .ref a :: st, M, uc, us) Q := zwp_step (by decide +kernel) (fun _ => rfl)
theorem p31_77 : zwp zm_31 (77, [l0, l1], .ref a :: st, M, uc, us) Q ↔ zok M a 0 6 ∧ zwp zm_31 (80, [l0, l1], zrd M a 2 :: st, M, uc, us) Q := zw_getfield (by decide +kernel) (by decide +kernel) rfl
theorem p31_80 : zwp zm_31 (80, [l0, l1], .ref a :: st, M, uc, us) Q ↔ zarr M a ∧ zwp zm_31 (81, [l0, l1], .int (nI (zlen' M a)) :: st, M, uc, us) Q := zw_alen (by decide +kernel)
theorem p31_81 : zwp zm_31 (81, [l0, l1], .int y :: .int x :: st, M, uc, us) Q ↔ if x < y then zwp zm_31 (84, [l0, l1], st, M, uc, us) Q else zwp zm_31 (103, [l0, l1], st, M, uc, us) Q := zw_icge (by decide +kernel) rfl rfl
theorem p31_84 : zwp zm_31 (84, [some (.ref a), l1], st, M, uc, us) Q ↔ zwp zm_31 (85, [some (.ref a), l1], .ref a :: st, M, uc, us) Q := zwp_step (by decide +kernel) (fun _ => rfl)
theorem p31_85 : zwp zm_31 (85, [l0, l1], .ref a :: st, M, uc, us) Q ↔ zok M a 0 6 ∧ zwp zm_31 (88, [l0, l1], zrd M a 2 :: st, M, uc, us) Q := zw_getfield (by decide +kernel) (by decide +kernel) rfl
theorem p31_88 : zwp zm_31 (88, [l0, some (.int x)], st, M, uc, us) Q ↔ zwp zm_31 (89, [l0, some (.int x)], .int x :: st, M, uc, us) Q := zwp_step (by decide +kernel) (fun _ => rfl)
theorem p31_89 : zwp zm_31 (89, [l0, l1], st, M, uc, us) Q ↔ (uc + 1 ≤ 77 ∧ us + 6 ≤ 494) ∧ zwp zm_31 (92, [l0, l1], .ref (M.1 + 1) :: st, znew M (6, 6) (fun j => defaultValue (zty 6 j)), uc + 1, us + 6) Q := zw_new (by decide +kernel) (by decide +kernel) (by decide) rfl rfl rfl
theorem p31_92 : zwp zm_31 (92, [l0, l1], .ref a :: st, M, uc, us) Q ↔ zwp zm_31 (93, [l0, l1], .ref a :: .ref a :: st, M, uc, us) Q := zwp_step (by decide +kernel) (fun _ => rfl)
theorem p31_92i : zwp zm_31 (92, [l0, l1], .int x :: st, M, uc, us) Q ↔ zwp zm_31 (93, [l0, l1], .int x :: .int x :: st, M, uc, us) Q := zwp_step (by decide +kernel) (fun _ => rfl)
theorem p31_93 : zwp zm_31 (93, [l0, l1], .ref a :: st, M, uc, us) Q ↔ (zct st ≤ 8 ∧ uc + 0 ≤ 77 ∧ us + 0 ≤ 494) ∧ zcl 9 [.ref a] M (zbk zm_31 96 93 [l0, l1] st (uc + 0) (us + 0) Q) := zw_callI (by decide +kernel) (by decide +kernel) (by decide) zmt_at_9 rfl rfl (by decide) (by decide) rfl rfl rfl rfl rfl
theorem p31_96 : zwp zm_31 (96, [l0, l1], .ref b :: .int x :: .ref a :: st, M, uc, us) Q ↔ zias2 M b a x ∧ zwp zm_31 (97, [l0, l1], st, zput M a x.toNatClampNeg (.ref b), uc, us) Q := zw_aastore (by decide +kernel)
theorem p31_97 : zwp zm_31 (97, [l0, some (.int x)], st, M, uc, us) Q ↔ zwp zm_31 (100, [zkl l0, some (.int (x + nI 1))], st, M, uc, us) Q := zwp_step (by decide +kernel) (fun _ => rfl)
theorem p31_100 : zwp zm_31 (100, [l0, l1], st, M, uc, us) Q ↔ zwp zm_31 (75, [l0, l1], st, M, uc, us) Q := zw_goto (by decide +kernel) rfl
theorem p31_103 : zwp zm_31 (103, [l0, l1], st, M, uc, us) Q ↔ zwp zm_31 (104, [l0, l1], .int (nI 0) :: st, M, uc, us) Q := zwp_step (by decide +kernel) (fun _ => rfl)
theorem p31_104 : zwp zm_31 (104, [l0, l1], .int x :: st, M, uc, us) Q ↔ zwp zm_31 (105, [zkl l0, some (.int x)], st, M, uc, us) Q := zwp_step (by decide +kernel) (fun _ => rfl)
theorem p31_105 : zwp zm_31 (105, [l0, some (.int x)], st, M, uc, us) Q ↔ zwp zm_31 (106, [l0, some (.int x)], .int x :: st, M, uc, us) Q := zwp_step (by decide +kernel) (fun _ => rfl)
theorem p31_106 : zwp zm_31 (106, [some (.ref a), l1], st, M, uc, us) Q ↔ zwp zm_31 (107, [some (.ref a), l1], .ref a :: st, M, uc, us) Q := zwp_step (by decide +kernel) (fun _ => rfl)
theorem p31_107 : zwp zm_31 (107, [l0, l1], .ref a :: st, M, uc, us) Q ↔ zok M a 0 6 ∧ zwp zm_31 (110, [l0, l1], zrd M a 4 :: st, M, uc, us) Q := zw_getfield (by decide +kernel) (by decide +kernel) rfl
theorem p31_110 : zwp zm_31 (110, [l0, l1], .ref a :: st, M, uc, us) Q ↔ zarr M a ∧ zwp zm_31 (111, [l0, l1], .int (nI (zlen' M a)) :: st, M, uc, us) Q := zw_alen (by decide +kernel)
theorem p31_111 : zwp zm_31 (111, [l0, l1], .int y :: .int x :: st, M, uc, us) Q ↔ if x < y then zwp zm_31 (114, [l0, l1], st, M, uc, us) Q else zwp zm_31 (133, [l0, l1], st, M, uc, us) Q := zw_icge (by decide +kernel) rfl rfl
theorem p31_114 : zwp zm_31 (114, [some (.ref a), l1], st, M, uc, us) Q ↔ zwp zm_31 (115, [some (.ref a), l1], .ref a :: st, M, uc, us) Q := zwp_step (by decide +kernel) (fun _ => rfl)
theorem p31_115 : zwp zm_31 (115, [l0, l1], .ref a :: st, M, uc, us) Q ↔ zok M a 0 6 ∧ zwp zm_31 (118, [l0, l1], zrd M a 4 :: st, M, uc, us) Q := zw_getfield (by decide +kernel) (by decide +kernel) rfl
theorem p31_118 : zwp zm_31 (118, [l0, some (.int x)], st, M, uc, us) Q ↔ zwp zm_31 (119, [l0, some (.int x)], .int x :: st, M, uc, us) Q := zwp_step (by decide +kernel) (fun _ => rfl)
theorem p31_119 : zwp zm_31 (119, [l0, l1], st, M, uc, us) Q ↔ (uc + 1 ≤ 77 ∧ us + 6 ≤ 494) ∧ zwp zm_31 (122, [l0, l1], .ref (M.1 + 1) :: st, znew M (1, 6) (fun j => defaultValue (zty 1 j)), uc + 1, us + 6) Q := zw_new (by decide +kernel) (by decide +kernel) (by decide) rfl rfl rfl
theorem p31_122 : zwp zm_31 (122, [l0, l1], .ref a :: st, M, uc, us) Q ↔ zwp zm_31 (123, [l0, l1], .ref a :: .ref a :: st, M, uc, us) Q := zwp_step (by decide +kernel) (fun _ => rfl)
theorem p31_122i : zwp zm_31 (122, [l0, l1], .int x :: st, M, uc, us) Q ↔ zwp zm_31 (123, [l0, l1], .int x :: .int x :: st, M, uc, us) Q := zwp_step (by decide +kernel) (fun _ => rfl)
theorem p31_123 : zwp zm_31 (123, [l0, l1], .ref a :: st, M, uc, us) Q ↔ (zct st ≤ 8 ∧ uc + 0 ≤ 77 ∧ us + 0 ≤ 494) ∧ zcl 4 [.ref a] M (zbk zm_31 126 123 [l0, l1] st (uc + 0) (us + 0) Q) := zw_callI (by decide +kernel) (by decide +kernel) (by decide) zmt_at_4 rfl rfl (by decide) (by decide) rfl rfl rfl rfl rfl
theorem p31_126 : zwp zm_31 (126, [l0, l1], .ref b :: .int x :: .ref a :: st, M, uc, us) Q ↔ zias2 M b a x ∧ zwp zm_31 (127, [l0, l1], st, zput M a x.toNatClampNeg (.ref b), uc, us) Q := zw_aastore (by decide +kernel)
theorem p31_127 : zwp zm_31 (127, [l0, some (.int x)], st, M, uc, us) Q ↔ zwp zm_31 (130, [zkl l0, some (.int (x + nI 1))], st, M, uc, us) Q := zwp_step (by decide +kernel) (fun _ => rfl)
theorem p31_130 : zwp zm_31 (130, [l0, l1], st, M, uc, us) Q ↔ zwp zm_31 (105, [l0, l1], st, M, uc, us) Q := zw_goto (by decide +kernel) rfl
theorem p31_133 : zwp zm_31 (133, [l0, l1], [], M, uc, us) Q ↔ (uc ≤ 77 ∧ us ≤ 494) ∧ Q (.inl none) M := zw_vret (by decide +kernel) rfl rfl rfl
theorem p32_0 : zwp zm_32 (0, [l0, some (.int x)], st, M, uc, us) Q ↔ zwp zm_32 (1, [l0, some (.int x)], .int x :: st, M, uc, us) Q := zwp_step (by decide +kernel) (fun _ => rfl)
theorem p32_1 : zwp zm_32 (1, [l0, l1], .int x :: st, M, uc, us) Q ↔ if x < nI 0 then zwp zm_32 (16, [l0, l1], st, M, uc, us) Q else zwp zm_32 (4, [l0, l1], st, M, uc, us) Q := zw_iflt (by decide +kernel) rfl rfl
theorem p32_4 : zwp zm_32 (4, [l0, some (.int x)], st, M, uc, us) Q ↔ zwp zm_32 (5, [l0, some (.int x)], .int x :: st, M, uc, us) Q := zwp_step (by decide +kernel) (fun _ => rfl)
theorem p32_5 : zwp zm_32 (5, [some (.ref a), l1], st, M, uc, us) Q ↔ zwp zm_32 (6, [some (.ref a), l1], .ref a :: st, M, uc, us) Q := zwp_step (by decide +kernel) (fun _ => rfl)
theorem p32_6 : zwp zm_32 (6, [l0, l1], .ref a :: st, M, uc, us) Q ↔ zok M a 0 6 ∧ zwp zm_32 (9, [l0, l1], zrd M a 1 :: st, M, uc, us) Q := zw_getfield (by decide +kernel) (by decide +kernel) rfl
theorem p32_9 : zwp zm_32 (9, [l0, l1], .int y :: .int x :: st, M, uc, us) Q ↔ if x < y then zwp zm_32 (12, [l0, l1], st, M, uc, us) Q else zwp zm_32 (16, [l0, l1], st, M, uc, us) Q := zw_icge (by decide +kernel) rfl rfl
theorem p32_12 : zwp zm_32 (12, [l0, l1], st, M, uc, us) Q ↔ zwp zm_32 (13, [l0, l1], .int (nI 1) :: st, M, uc, us) Q := zwp_step (by decide +kernel) (fun _ => rfl)
theorem p32_13 : zwp zm_32 (13, [l0, l1], st, M, uc, us) Q ↔ zwp zm_32 (17, [l0, l1], st, M, uc, us) Q := zw_goto (by decide +kernel) rfl
theorem p32_16 : zwp zm_32 (16, [l0, l1], st, M, uc, us) Q ↔ zwp zm_32 (17, [l0, l1], .int (nI 0) :: st, M, uc, us) Q := zwp_step (by decide +kernel) (fun _ => rfl)
theorem p32_17 : zwp zm_32 (17, [l0, l1], [.int x], M, uc, us) Q ↔ (narrow .boolean (.int x) = .int x ∧ uc ≤ 0 ∧ us ≤ 0) ∧ Q (.inl (some (.int x))) M := zw_zret (by decide +kernel) rfl rfl rfl
theorem p33_0 : zwp zm_33 (0, [l0, some (.int x), l2, l3, l4], st, M, uc, us) Q ↔ zwp zm_33 (1, [l0, some (.int x), l2, l3, l4], .int x :: st, M, uc, us) Q := zwp_step (by decide +kernel) (fun _ => rfl)
theorem p33_1 : zwp zm_33 (1, [l0, l1, l2, l3, l4], .int x :: st, M, uc, us) Q ↔ zwp zm_33 (2, [l0, l1, zkl l2, some (.int x), l4], st, M, uc, us) Q := zwp_step (by decide +kernel) (fun _ => rfl)
theorem p33_2 : zwp zm_33 (2, [l0, l1, l2, l3, l4], st, M, uc, us) Q ↔ zwp zm_33 (3, [l0, l1, l2, l3, l4], .int (nI 0) :: st, M, uc, us) Q := zwp_step (by decide +kernel) (fun _ => rfl)
theorem p33_3 : zwp zm_33 (3, [l0, l1, l2, l3, l4], .int x :: st, M, uc, us) Q ↔ zwp zm_33 (5, [l0, l1, l2, zkl l3, some (.int x)], st, M, uc, us) Q := zwp_step (by decide +kernel) (fun _ => rfl)
theorem p33_5 : zwp zm_33 (5, [l0, l1, l2, l3, some (.int x)], st, M, uc, us) Q ↔ zwp zm_33 (7, [l0, l1, l2, l3, some (.int x)], .int x :: st, M, uc, us) Q := zwp_step (by decide +kernel) (fun _ => rfl)
theorem p33_7 : zwp zm_33 (7, [l0, l1, l2, l3, l4], st, M, uc, us) Q ↔ zwp zm_33 (9, [l0, l1, l2, l3, l4], .int (nI 8) :: st, M, uc, us) Q := zwp_step (by decide +kernel) (fun _ => rfl)
theorem p33_9 : zwp zm_33 (9, [l0, l1, l2, l3, l4], .int y :: .int x :: st, M, uc, us) Q ↔ if x < y then zwp zm_33 (12, [l0, l1, l2, l3, l4], st, M, uc, us) Q else zwp zm_33 (43, [l0, l1, l2, l3, l4], st, M, uc, us) Q := zw_icge (by decide +kernel) rfl rfl
theorem p33_12 : zwp zm_33 (12, [some (.ref a), l1, l2, l3, l4], st, M, uc, us) Q ↔ zwp zm_33 (13, [some (.ref a), l1, l2, l3, l4], .ref a :: st, M, uc, us) Q := zwp_step (by decide +kernel) (fun _ => rfl)
theorem p33_13 : zwp zm_33 (13, [l0, l1, l2, some (.int x), l4], st, M, uc, us) Q ↔ zwp zm_33 (14, [l0, l1, l2, some (.int x), l4], .int x :: st, M, uc, us) Q := zwp_step (by decide +kernel) (fun _ => rfl)
theorem p33_14 : zwp zm_33 (14, [l0, l1, l2, l3, l4], .int v0 :: .ref a :: st, M, uc, us) Q ↔ ((zct st ≤ 8 ∧ uc + 0 ≤ 0 ∧ us + 0 ≤ 0) ∧ zok M a 0 6) ∧ zcl 32 [.ref a, .int v0] M (zbk zm_33 17 14 [l0, l1, l2, l3, l4] st (uc + 0) (us + 0) Q) := zw_callV (by decide +kernel) (by decide +kernel) zmt_at_32 rfl rfl (by decide) (by decide) rfl rfl rfl rfl rfl rfl rfl
theorem p33_17 : zwp zm_33 (17, [l0, l1, l2, l3, l4], .int x :: st, M, uc, us) Q ↔ if x = nI 0 then zwp zm_33 (43, [l0, l1, l2, l3, l4], st, M, uc, us) Q else zwp zm_33 (20, [l0, l1, l2, l3, l4], st, M, uc, us) Q := zw_ifeq (by decide +kernel) rfl rfl
theorem p33_20 : zwp zm_33 (20, [l0, l1, l2, some (.int x), l4], st, M, uc, us) Q ↔ zwp zm_33 (21, [l0, l1, l2, some (.int x), l4], .int x :: st, M, uc, us) Q := zwp_step (by decide +kernel) (fun _ => rfl)
theorem p33_21 : zwp zm_33 (21, [l0, l1, some (.int x), l3, l4], st, M, uc, us) Q ↔ zwp zm_33 (22, [l0, l1, some (.int x), l3, l4], .int x :: st, M, uc, us) Q := zwp_step (by decide +kernel) (fun _ => rfl)
theorem p33_22 : zwp zm_33 (22, [l0, l1, l2, l3, l4], .int y :: .int x :: st, M, uc, us) Q ↔ if x = y then zwp zm_33 (25, [l0, l1, l2, l3, l4], st, M, uc, us) Q else zwp zm_33 (27, [l0, l1, l2, l3, l4], st, M, uc, us) Q := zw_icne (by decide +kernel) rfl rfl
theorem p33_25 : zwp zm_33 (25, [l0, l1, l2, l3, l4], st, M, uc, us) Q ↔ zwp zm_33 (26, [l0, l1, l2, l3, l4], .int (nI 1) :: st, M, uc, us) Q := zwp_step (by decide +kernel) (fun _ => rfl)
theorem p33_26 : zwp zm_33 (26, [l0, l1, l2, l3, l4], [.int x], M, uc, us) Q ↔ (narrow .boolean (.int x) = .int x ∧ uc ≤ 0 ∧ us ≤ 0) ∧ Q (.inl (some (.int x))) M := zw_zret (by decide +kernel) rfl rfl rfl
theorem p33_27 : zwp zm_33 (27, [some (.ref a), l1, l2, l3, l4], st, M, uc, us) Q ↔ zwp zm_33 (28, [some (.ref a), l1, l2, l3, l4], .ref a :: st, M, uc, us) Q := zwp_step (by decide +kernel) (fun _ => rfl)
theorem p33_28 : zwp zm_33 (28, [l0, l1, l2, l3, l4], .ref a :: st, M, uc, us) Q ↔ zok M a 0 6 ∧ zwp zm_33 (31, [l0, l1, l2, l3, l4], zrd M a 0 :: st, M, uc, us) Q := zw_getfield (by decide +kernel) (by decide +kernel) rfl
theorem p33_31 : zwp zm_33 (31, [l0, l1, l2, some (.int x), l4], st, M, uc, us) Q ↔ zwp zm_33 (32, [l0, l1, l2, some (.int x), l4], .int x :: st, M, uc, us) Q := zwp_step (by decide +kernel) (fun _ => rfl)
theorem p33_32 : zwp zm_33 (32, [l0, l1, l2, l3, l4], .int x :: .ref a :: st, M, uc, us) Q ↔ ziar M a x ∧ zvr (zrd M a x.toNatClampNeg) (fun z => zwp zm_33 (33, [l0, l1, l2, l3, l4], .ref z :: st, M, uc, us) Q) := zw_aaload (by decide +kernel)
theorem p33_33 : zwp zm_33 (33, [l0, l1, l2, l3, l4], .ref a :: st, M, uc, us) Q ↔ zok M a 7 3 ∧ zwp zm_33 (36, [l0, l1, l2, l3, l4], zrd M a 0 :: st, M, uc, us) Q := zw_getfield (by decide +kernel) (by decide +kernel) rfl
theorem p33_36 : zwp zm_33 (36, [l0, l1, l2, l3, l4], .int x :: st, M, uc, us) Q ↔ zwp zm_33 (37, [l0, l1, zkl l2, some (.int x), l4], st, M, uc, us) Q := zwp_step (by decide +kernel) (fun _ => rfl)
theorem p33_37 : zwp zm_33 (37, [l0, l1, l2, l3, some (.int x)], st, M, uc, us) Q ↔ zwp zm_33 (40, [l0, l1, l2, zkl l3, some (.int (x + nI 1))], st, M, uc, us) Q := zwp_step (by decide +kernel) (fun _ => rfl)
theorem p33_40 : zwp zm_33 (40, [l0, l1, l2, l3, l4], st, M, uc, us) Q ↔ zwp zm_33 (5, [l0, l1, l2, l3, l4], st, M, uc, us) Q := zw_goto (by decide +kernel) rfl
theorem p33_43 : zwp zm_33 (43, [l0, l1, l2, l3, l4], st, M, uc, us) Q ↔ zwp zm_33 (44, [l0, l1, l2, l3, l4], .int (nI 0) :: st, M, uc, us) Q := zwp_step (by decide +kernel) (fun _ => rfl)
theorem p33_44 : zwp zm_33 (44, [l0, l1, l2, l3, l4], [.int x], M, uc, us) Q ↔ (narrow .boolean (.int x) = .int x ∧ uc ≤ 0 ∧ us ≤ 0) ∧ Q (.inl (some (.int x))) M := zw_zret (by decide +kernel) rfl rfl rfl
theorem p34_0 : zwp zm_34 (0, [l0, l1, l2, l3], st, M, uc, us) Q ↔ zwp zm_34 (1, [l0, l1, l2, l3], .int (nI 0) :: st, M, uc, us) Q := zwp_step (by decide +kernel) (fun _ => rfl)
theorem p34_1 : zwp zm_34 (1, [l0, l1, l2, l3], .int x :: st, M, uc, us) Q ↔ zwp zm_34 (2, [l0, zkl l1, some (.int x), l3], st, M, uc, us) Q := zwp_step (by decide +kernel) (fun _ => rfl)
theorem p34_2 : zwp zm_34 (2, [l0, l1, l2, l3], st, M, uc, us) Q ↔ zwp zm_34 (3, [l0, l1, l2, l3], .int (nI 0) :: st, M, uc, us) Q := zwp_step (by decide +kernel) (fun _ => rfl)
theorem p34_3 : zwp zm_34 (3, [l0, l1, l2, l3], .int x :: st, M, uc, us) Q ↔ zwp zm_34 (4, [l0, l1, zkl l2, some (.int x)], st, M, uc, us) Q := zwp_step (by decide +kernel) (fun _ => rfl)
theorem p34_4 : zwp zm_34 (4, [l0, l1, l2, some (.int x)], st, M, uc, us) Q ↔ zwp zm_34 (5, [l0, l1, l2, some (.int x)], .int x :: st, M, uc, us) Q := zwp_step (by decide +kernel) (fun _ => rfl)
theorem p34_5 : zwp zm_34 (5, [some (.ref a), l1, l2, l3], st, M, uc, us) Q ↔ zwp zm_34 (6, [some (.ref a), l1, l2, l3], .ref a :: st, M, uc, us) Q := zwp_step (by decide +kernel) (fun _ => rfl)
theorem p34_6 : zwp zm_34 (6, [l0, l1, l2, l3], .ref a :: st, M, uc, us) Q ↔ zok M a 0 6 ∧ zwp zm_34 (9, [l0, l1, l2, l3], zrd M a 4 :: st, M, uc, us) Q := zw_getfield (by decide +kernel) (by decide +kernel) rfl
theorem p34_9 : zwp zm_34 (9, [l0, l1, l2, l3], .ref a :: st, M, uc, us) Q ↔ zarr M a ∧ zwp zm_34 (10, [l0, l1, l2, l3], .int (nI (zlen' M a)) :: st, M, uc, us) Q := zw_alen (by decide +kernel)
theorem p34_10 : zwp zm_34 (10, [l0, l1, l2, l3], .int y :: .int x :: st, M, uc, us) Q ↔ if x < y then zwp zm_34 (13, [l0, l1, l2, l3], st, M, uc, us) Q else zwp zm_34 (35, [l0, l1, l2, l3], st, M, uc, us) Q := zw_icge (by decide +kernel) rfl rfl
theorem p34_13 : zwp zm_34 (13, [some (.ref a), l1, l2, l3], st, M, uc, us) Q ↔ zwp zm_34 (14, [some (.ref a), l1, l2, l3], .ref a :: st, M, uc, us) Q := zwp_step (by decide +kernel) (fun _ => rfl)
theorem p34_14 : zwp zm_34 (14, [l0, l1, l2, l3], .ref a :: st, M, uc, us) Q ↔ zok M a 0 6 ∧ zwp zm_34 (17, [l0, l1, l2, l3], zrd M a 4 :: st, M, uc, us) Q := zw_getfield (by decide +kernel) (by decide +kernel) rfl
theorem p34_17 : zwp zm_34 (17, [l0, l1, l2, some (.int x)], st, M, uc, us) Q ↔ zwp zm_34 (18, [l0, l1, l2, some (.int x)], .int x :: st, M, uc, us) Q := zwp_step (by decide +kernel) (fun _ => rfl)
theorem p34_18 : zwp zm_34 (18, [l0, l1, l2, l3], .int x :: .ref a :: st, M, uc, us) Q ↔ ziar M a x ∧ zvr (zrd M a x.toNatClampNeg) (fun z => zwp zm_34 (19, [l0, l1, l2, l3], .ref z :: st, M, uc, us) Q) := zw_aaload (by decide +kernel)
theorem p34_19 : zwp zm_34 (19, [l0, l1, l2, l3], .ref a :: st, M, uc, us) Q ↔ zok M a 1 6 ∧ zwp zm_34 (22, [l0, l1, l2, l3], zrd M a 1 :: st, M, uc, us) Q := zw_getfield (by decide +kernel) (by decide +kernel) rfl
theorem p34_22 : zwp zm_34 (22, [l0, some (.int x), l2, l3], st, M, uc, us) Q ↔ zwp zm_34 (23, [l0, some (.int x), l2, l3], .int x :: st, M, uc, us) Q := zwp_step (by decide +kernel) (fun _ => rfl)
theorem p34_23 : zwp zm_34 (23, [l0, l1, l2, l3], .int y :: .int x :: st, M, uc, us) Q ↔ if x = y then zwp zm_34 (26, [l0, l1, l2, l3], st, M, uc, us) Q else zwp zm_34 (29, [l0, l1, l2, l3], st, M, uc, us) Q := zw_icne (by decide +kernel) rfl rfl
theorem p34_26 : zwp zm_34 (26, [l0, l1, some (.int x), l3], st, M, uc, us) Q ↔ zwp zm_34 (29, [l0, zkl l1, some (.int (x + nI 1)), l3], st, M, uc, us) Q := zwp_step (by decide +kernel) (fun _ => rfl)
theorem p34_29 : zwp zm_34 (29, [l0, l1, l2, some (.int x)], st, M, uc, us) Q ↔ zwp zm_34 (32, [l0, l1, zkl l2, some (.int (x + nI 1))], st, M, uc, us) Q := zwp_step (by decide +kernel) (fun _ => rfl)
theorem p34_32 : zwp zm_34 (32, [l0, l1, l2, l3], st, M, uc, us) Q ↔ zwp zm_34 (4, [l0, l1, l2, l3], st, M, uc, us) Q := zw_goto (by decide +kernel) rfl
theorem p34_35 : zwp zm_34 (35, [l0, l1, some (.int x), l3], st, M, uc, us) Q ↔ zwp zm_34 (36, [l0, l1, some (.int x), l3], .int x :: st, M, uc, us) Q := zwp_step (by decide +kernel) (fun _ => rfl)
theorem p34_36 : zwp zm_34 (36, [l0, l1, l2, l3], [.int x], M, uc, us) Q ↔ (uc ≤ 0 ∧ us ≤ 0) ∧ Q (.inl (some (.int x))) M := zw_iret (by decide +kernel) rfl rfl rfl
theorem p35_0 : zwp zm_35 (0, [l0, l1, l2, l3], st, M, uc, us) Q ↔ zwp zm_35 (1, [l0, l1, l2, l3], .int (nI 0) :: st, M, uc, us) Q := zwp_step (by decide +kernel) (fun _ => rfl)
theorem p35_1 : zwp zm_35 (1, [l0, l1, l2, l3], .int x :: st, M, uc, us) Q ↔ zwp zm_35 (2, [l0, zkl l1, some (.int x), l3], st, M, uc, us) Q := zwp_step (by decide +kernel) (fun _ => rfl)
theorem p35_2 : zwp zm_35 (2, [l0, l1, l2, l3], st, M, uc, us) Q ↔ zwp zm_35 (3, [l0, l1, l2, l3], .int (nI 0) :: st, M, uc, us) Q := zwp_step (by decide +kernel) (fun _ => rfl)
theorem p35_3 : zwp zm_35 (3, [l0, l1, l2, l3], .int x :: st, M, uc, us) Q ↔ zwp zm_35 (4, [l0, l1, zkl l2, some (.int x)], st, M, uc, us) Q := zwp_step (by decide +kernel) (fun _ => rfl)
theorem p35_4 : zwp zm_35 (4, [l0, l1, l2, some (.int x)], st, M, uc, us) Q ↔ zwp zm_35 (5, [l0, l1, l2, some (.int x)], .int x :: st, M, uc, us) Q := zwp_step (by decide +kernel) (fun _ => rfl)
theorem p35_5 : zwp zm_35 (5, [some (.ref a), l1, l2, l3], st, M, uc, us) Q ↔ zwp zm_35 (6, [some (.ref a), l1, l2, l3], .ref a :: st, M, uc, us) Q := zwp_step (by decide +kernel) (fun _ => rfl)
theorem p35_6 : zwp zm_35 (6, [l0, l1, l2, l3], .ref a :: st, M, uc, us) Q ↔ zok M a 0 6 ∧ zwp zm_35 (9, [l0, l1, l2, l3], zrd M a 4 :: st, M, uc, us) Q := zw_getfield (by decide +kernel) (by decide +kernel) rfl
theorem p35_9 : zwp zm_35 (9, [l0, l1, l2, l3], .ref a :: st, M, uc, us) Q ↔ zarr M a ∧ zwp zm_35 (10, [l0, l1, l2, l3], .int (nI (zlen' M a)) :: st, M, uc, us) Q := zw_alen (by decide +kernel)
theorem p35_10 : zwp zm_35 (10, [l0, l1, l2, l3], .int y :: .int x :: st, M, uc, us) Q ↔ if x < y then zwp zm_35 (13, [l0, l1, l2, l3], st, M, uc, us) Q else zwp zm_35 (48, [l0, l1, l2, l3], st, M, uc, us) Q := zw_icge (by decide +kernel) rfl rfl
theorem p35_13 : zwp zm_35 (13, [some (.ref a), l1, l2, l3], st, M, uc, us) Q ↔ zwp zm_35 (14, [some (.ref a), l1, l2, l3], .ref a :: st, M, uc, us) Q := zwp_step (by decide +kernel) (fun _ => rfl)
theorem p35_14 : zwp zm_35 (14, [l0, l1, l2, l3], .ref a :: st, M, uc, us) Q ↔ zok M a 0 6 ∧ zwp zm_35 (17, [l0, l1, l2, l3], zrd M a 4 :: st, M, uc, us) Q := zw_getfield (by decide +kernel) (by decide +kernel) rfl
theorem p35_17 : zwp zm_35 (17, [l0, l1, l2, some (.int x)], st, M, uc, us) Q ↔ zwp zm_35 (18, [l0, l1, l2, some (.int x)], .int x :: st, M, uc, us) Q := zwp_step (by decide +kernel) (fun _ => rfl)
theorem p35_18 : zwp zm_35 (18, [l0, l1, l2, l3], .int x :: .ref a :: st, M, uc, us) Q ↔ ziar M a x ∧ zvr (zrd M a x.toNatClampNeg) (fun z => zwp zm_35 (19, [l0, l1, l2, l3], .ref z :: st, M, uc, us) Q) := zw_aaload (by decide +kernel)
theorem p35_19 : zwp zm_35 (19, [l0, l1, l2, l3], .ref a :: st, M, uc, us) Q ↔ zok M a 1 6 ∧ zwp zm_35 (22, [l0, l1, l2, l3], zrd M a 1 :: st, M, uc, us) Q := zw_getfield (by decide +kernel) (by decide +kernel) rfl
theorem p35_22 : zwp zm_35 (22, [l0, some (.int x), l2, l3], st, M, uc, us) Q ↔ zwp zm_35 (23, [l0, some (.int x), l2, l3], .int x :: st, M, uc, us) Q := zwp_step (by decide +kernel) (fun _ => rfl)
theorem p35_23 : zwp zm_35 (23, [l0, l1, l2, l3], .int y :: .int x :: st, M, uc, us) Q ↔ if x = y then zwp zm_35 (26, [l0, l1, l2, l3], st, M, uc, us) Q else zwp zm_35 (42, [l0, l1, l2, l3], st, M, uc, us) Q := zw_icne (by decide +kernel) rfl rfl
theorem p35_26 : zwp zm_35 (26, [some (.ref a), l1, l2, l3], st, M, uc, us) Q ↔ zwp zm_35 (27, [some (.ref a), l1, l2, l3], .ref a :: st, M, uc, us) Q := zwp_step (by decide +kernel) (fun _ => rfl)
theorem p35_27 : zwp zm_35 (27, [l0, l1, l2, l3], .ref a :: st, M, uc, us) Q ↔ zok M a 0 6 ∧ zwp zm_35 (30, [l0, l1, l2, l3], zrd M a 4 :: st, M, uc, us) Q := zw_getfield (by decide +kernel) (by decide +kernel) rfl
theorem p35_30 : zwp zm_35 (30, [l0, l1, l2, some (.int x)], st, M, uc, us) Q ↔ zwp zm_35 (31, [l0, l1, l2, some (.int x)], .int x :: st, M, uc, us) Q := zwp_step (by decide +kernel) (fun _ => rfl)
theorem p35_31 : zwp zm_35 (31, [l0, l1, l2, l3], .int x :: .ref a :: st, M, uc, us) Q ↔ ziar M a x ∧ zvr (zrd M a x.toNatClampNeg) (fun z => zwp zm_35 (32, [l0, l1, l2, l3], .ref z :: st, M, uc, us) Q) := zw_aaload (by decide +kernel)
theorem p35_32 : zwp zm_35 (32, [l0, l1, l2, l3], st, M, uc, us) Q ↔ zwp zm_35 (33, [l0, l1, l2, l3], .int (nI 0) :: st, M, uc, us) Q := zwp_step (by decide +kernel) (fun _ => rfl)
theorem p35_33 : zwp zm_35 (33, [l0, l1, l2, l3], .int v0 :: .ref a :: st, M, uc, us) Q ↔ ((zct st ≤ 8 ∧ uc + 0 ≤ 0 ∧ us + 0 ≤ 0) ∧ zok M a 1 6) ∧ zcl 6 [.ref a, .int v0] M (zbk zm_35 36 33 [l0, l1, l2, l3] st (uc + 0) (us + 0) Q) := zw_callV (by decide +kernel) (by decide +kernel) zmt_at_6 rfl rfl (by decide) (by decide) rfl rfl rfl rfl rfl rfl rfl
theorem p35_36 : zwp zm_35 (36, [l0, l1, l2, l3], .int x :: st, M, uc, us) Q ↔ if x = nI 0 then zwp zm_35 (39, [l0, l1, l2, l3], st, M, uc, us) Q else zwp zm_35 (42, [l0, l1, l2, l3], st, M, uc, us) Q := zw_ifne (by decide +kernel) rfl rfl
theorem p35_39 : zwp zm_35 (39, [l0, l1, some (.int x), l3], st, M, uc, us) Q ↔ zwp zm_35 (42, [l0, zkl l1, some (.int (x + nI 1)), l3], st, M, uc, us) Q := zwp_step (by decide +kernel) (fun _ => rfl)
theorem p35_42 : zwp zm_35 (42, [l0, l1, l2, some (.int x)], st, M, uc, us) Q ↔ zwp zm_35 (45, [l0, l1, zkl l2, some (.int (x + nI 1))], st, M, uc, us) Q := zwp_step (by decide +kernel) (fun _ => rfl)
theorem p35_45 : zwp zm_35 (45, [l0, l1, l2, l3], st, M, uc, us) Q ↔ zwp zm_35 (4, [l0, l1, l2, l3], st, M, uc, us) Q := zw_goto (by decide +kernel) rfl
theorem p35_48 : zwp zm_35 (48, [l0, l1, some (.int x), l3], st, M, uc, us) Q ↔ zwp zm_35 (49, [l0, l1, some (.int x), l3], .int x :: st, M, uc, us) Q := zwp_step (by decide +kernel) (fun _ => rfl)
theorem p35_49 : zwp zm_35 (49, [l0, l1, l2, l3], [.int x], M, uc, us) Q ↔ (uc ≤ 0 ∧ us ≤ 0) ∧ Q (.inl (some (.int x))) M := zw_iret (by decide +kernel) rfl rfl rfl
theorem p36_0 : zwp zm_36 (0, [l0, l1, l2, l3], st, M, uc, us) Q ↔ zwp zm_36 (1, [l0, l1, l2, l3], .int (nI 0) :: st, M, uc, us) Q := zwp_step (by decide +kernel) (fun _ => rfl)
theorem p36_1 : zwp zm_36 (1, [l0, l1, l2, l3], .int x :: st, M, uc, us) Q ↔ zwp zm_36 (2, [l0, zkl l1, some (.int x), l3], st, M, uc, us) Q := zwp_step (by decide +kernel) (fun _ => rfl)
theorem p36_2 : zwp zm_36 (2, [l0, l1, l2, l3], st, M, uc, us) Q ↔ zwp zm_36 (3, [l0, l1, l2, l3], .int (nI 0) :: st, M, uc, us) Q := zwp_step (by decide +kernel) (fun _ => rfl)
theorem p36_3 : zwp zm_36 (3, [l0, l1, l2, l3], .int x :: st, M, uc, us) Q ↔ zwp zm_36 (4, [l0, l1, zkl l2, some (.int x)], st, M, uc, us) Q := zwp_step (by decide +kernel) (fun _ => rfl)
theorem p36_4 : zwp zm_36 (4, [l0, l1, l2, some (.int x)], st, M, uc, us) Q ↔ zwp zm_36 (5, [l0, l1, l2, some (.int x)], .int x :: st, M, uc, us) Q := zwp_step (by decide +kernel) (fun _ => rfl)
theorem p36_5 : zwp zm_36 (5, [some (.ref a), l1, l2, l3], st, M, uc, us) Q ↔ zwp zm_36 (6, [some (.ref a), l1, l2, l3], .ref a :: st, M, uc, us) Q := zwp_step (by decide +kernel) (fun _ => rfl)
theorem p36_6 : zwp zm_36 (6, [l0, l1, l2, l3], .ref a :: st, M, uc, us) Q ↔ zok M a 0 6 ∧ zwp zm_36 (9, [l0, l1, l2, l3], zrd M a 4 :: st, M, uc, us) Q := zw_getfield (by decide +kernel) (by decide +kernel) rfl
theorem p36_9 : zwp zm_36 (9, [l0, l1, l2, l3], .ref a :: st, M, uc, us) Q ↔ zarr M a ∧ zwp zm_36 (10, [l0, l1, l2, l3], .int (nI (zlen' M a)) :: st, M, uc, us) Q := zw_alen (by decide +kernel)
theorem p36_10 : zwp zm_36 (10, [l0, l1, l2, l3], .int y :: .int x :: st, M, uc, us) Q ↔ if x < y then zwp zm_36 (13, [l0, l1, l2, l3], st, M, uc, us) Q else zwp zm_36 (39, [l0, l1, l2, l3], st, M, uc, us) Q := zw_icge (by decide +kernel) rfl rfl
theorem p36_13 : zwp zm_36 (13, [some (.ref a), l1, l2, l3], st, M, uc, us) Q ↔ zwp zm_36 (14, [some (.ref a), l1, l2, l3], .ref a :: st, M, uc, us) Q := zwp_step (by decide +kernel) (fun _ => rfl)
theorem p36_14 : zwp zm_36 (14, [some (.ref a), l1, l2, l3], st, M, uc, us) Q ↔ zwp zm_36 (15, [some (.ref a), l1, l2, l3], .ref a :: st, M, uc, us) Q := zwp_step (by decide +kernel) (fun _ => rfl)
theorem p36_15 : zwp zm_36 (15, [l0, l1, l2, l3], .ref a :: st, M, uc, us) Q ↔ zok M a 0 6 ∧ zwp zm_36 (18, [l0, l1, l2, l3], zrd M a 4 :: st, M, uc, us) Q := zw_getfield (by decide +kernel) (by decide +kernel) rfl
theorem p36_18 : zwp zm_36 (18, [l0, l1, l2, some (.int x)], st, M, uc, us) Q ↔ zwp zm_36 (19, [l0, l1, l2, some (.int x)], .int x :: st, M, uc, us) Q := zwp_step (by decide +kernel) (fun _ => rfl)
theorem p36_19 : zwp zm_36 (19, [l0, l1, l2, l3], .int x :: .ref a :: st, M, uc, us) Q ↔ ziar M a x ∧ zvr (zrd M a x.toNatClampNeg) (fun z => zwp zm_36 (20, [l0, l1, l2, l3], .ref z :: st, M, uc, us) Q) := zw_aaload (by decide +kernel)
theorem p36_20 : zwp zm_36 (20, [l0, l1, l2, l3], .ref a :: st, M, uc, us) Q ↔ zok M a 1 6 ∧ zwp zm_36 (23, [l0, l1, l2, l3], zrd M a 1 :: st, M, uc, us) Q := zw_getfield (by decide +kernel) (by decide +kernel) rfl
theorem p36_23 : zwp zm_36 (23, [l0, some (.int x), l2, l3], st, M, uc, us) Q ↔ zwp zm_36 (24, [l0, some (.int x), l2, l3], .int x :: st, M, uc, us) Q := zwp_step (by decide +kernel) (fun _ => rfl)
theorem p36_24 : zwp zm_36 (24, [l0, l1, l2, l3], .int v1 :: .int v0 :: .ref a :: st, M, uc, us) Q ↔ ((zct st ≤ 8 ∧ uc + 0 ≤ 0 ∧ us + 0 ≤ 0) ∧ zok M a 0 6) ∧ zcl 33 [.ref a, .int v0, .int v1] M (zbk zm_36 27 24 [l0, l1, l2, l3] st (uc + 0) (us + 0) Q) := zw_callV (by decide +kernel) (by decide +kernel) zmt_at_33 rfl rfl (by decide) (by decide) rfl rfl rfl rfl rfl rfl rfl
theorem p36_27 : zwp zm_36 (27, [l0, l1, l2, l3], .int x :: st, M, uc, us) Q ↔ if x = nI 0 then zwp zm_36 (33, [l0, l1, l2, l3], st, M, uc, us) Q else zwp zm_36 (30, [l0, l1, l2, l3], st, M, uc, us) Q := zw_ifeq (by decide +kernel) rfl rfl
theorem p36_30 : zwp zm_36 (30, [l0, l1, some (.int x), l3], st, M, uc, us) Q ↔ zwp zm_36 (33, [l0, zkl l1, some (.int (x + nI 1)), l3], st, M, uc, us) Q := zwp_step (by decide +kernel) (fun _ => rfl)
theorem p36_33 : zwp zm_36 (33, [l0, l1, l2, some (.int x)], st, M, uc, us) Q ↔ zwp zm_36 (36, [l0, l1, zkl l2, some (.int (x + nI 1))], st, M, uc, us) Q := zwp_step (by decide +kernel) (fun _ => rfl)
theorem p36_36 : zwp zm_36 (36, [l0, l1, l2, l3], st, M, uc, us) Q ↔ zwp zm_36 (4, [l0, l1, l2, l3], st, M, uc, us) Q := zw_goto (by decide +kernel) rfl
theorem p36_39 : zwp zm_36 (39, [l0, l1, some (.int x), l3], st, M, uc, us) Q ↔ zwp zm_36 (40, [l0, l1, some (.int x), l3], .int x :: st, M, uc, us) Q := zwp_step (by decide +kernel) (fun _ => rfl)
theorem p36_40 : zwp zm_36 (40, [l0, l1, l2, l3], [.int x], M, uc, us) Q ↔ (uc ≤ 0 ∧ us ≤ 0) ∧ Q (.inl (some (.int x))) M := zw_iret (by decide +kernel) rfl rfl rfl
theorem p37_0 : zwp zm_37 (0, [l0, l1, l2, l3, l4, l5, l6], st, M, uc, us) Q ↔ zwp zm_37 (1, [l0, l1, l2, l3, l4, l5, l6], .int (-1) :: st, M, uc, us) Q := zwp_step (by decide +kernel) (fun _ => rfl)
theorem p37_1 : zwp zm_37 (1, [l0, l1, l2, l3, l4, l5, l6], .int x :: st, M, uc, us) Q ↔ zwp zm_37 (2, [l0, l1, zkl l2, some (.int x), l4, l5, l6], st, M, uc, us) Q := zwp_step (by decide +kernel) (fun _ => rfl)
theorem p37_2 : zwp zm_37 (2, [l0, l1, l2, l3, l4, l5, l6], st, M, uc, us) Q ↔ zwp zm_37 (3, [l0, l1, l2, l3, l4, l5, l6], .int (nI 0) :: st, M, uc, us) Q := zwp_step (by decide +kernel) (fun _ => rfl)
theorem p37_3 : zwp zm_37 (3, [l0, l1, l2, l3, l4, l5, l6], .int x :: st, M, uc, us) Q ↔ zwp zm_37 (5, [l0, l1, l2, zkl l3, some (.int x), l5, l6], st, M, uc, us) Q := zwp_step (by decide +kernel) (fun _ => rfl)
theorem p37_5 : zwp zm_37 (5, [l0, l1, l2, l3, some (.int x), l5, l6], st, M, uc, us) Q ↔ zwp zm_37 (7, [l0, l1, l2, l3, some (.int x), l5, l6], .int x :: st, M, uc, us) Q := zwp_step (by decide +kernel) (fun _ => rfl)
theorem p37_7 : zwp zm_37 (7, [some (.ref a), l1, l2, l3, l4, l5, l6], st, M, uc, us) Q ↔ zwp zm_37 (8, [some (.ref a), l1, l2, l3, l4, l5, l6], .ref a :: st, M, uc, us) Q := zwp_step (by decide +kernel) (fun _ => rfl)
theorem p37_8 : zwp zm_37 (8, [l0, l1, l2, l3, l4, l5, l6], .ref a :: st, M, uc, us) Q ↔ zok M a 0 6 ∧ zwp zm_37 (11, [l0, l1, l2, l3, l4, l5, l6], zrd M a 4 :: st, M, uc, us) Q := zw_getfield (by decide +kernel) (by decide +kernel) rfl
theorem p37_11 : zwp zm_37 (11, [l0, l1, l2, l3, l4, l5, l6], .ref a :: st, M, uc, us) Q ↔ zarr M a ∧ zwp zm_37 (12, [l0, l1, l2, l3, l4, l5, l6], .int (nI (zlen' M a)) :: st, M, uc, us) Q := zw_alen (by decide +kernel)
theorem p37_12 : zwp zm_37 (12, [l0, l1, l2, l3, l4, l5, l6], .int y :: .int x :: st, M, uc, us) Q ↔ if x < y then zwp zm_37 (15, [l0, l1, l2, l3, l4, l5, l6], st, M, uc, us) Q else zwp zm_37 (85, [l0, l1, l2, l3, l4, l5, l6], st, M, uc, us) Q := zw_icge (by decide +kernel) rfl rfl
theorem p37_15 : zwp zm_37 (15, [some (.ref a), l1, l2, l3, l4, l5, l6], st, M, uc, us) Q ↔ zwp zm_37 (16, [some (.ref a), l1, l2, l3, l4, l5, l6], .ref a :: st, M, uc, us) Q := zwp_step (by decide +kernel) (fun _ => rfl)
theorem p37_16 : zwp zm_37 (16, [l0, l1, l2, l3, l4, l5, l6], .ref a :: st, M, uc, us) Q ↔ zok M a 0 6 ∧ zwp zm_37 (19, [l0, l1, l2, l3, l4, l5, l6], zrd M a 4 :: st, M, uc, us) Q := zw_getfield (by decide +kernel) (by decide +kernel) rfl
theorem p37_19 : zwp zm_37 (19, [l0, l1, l2, l3, some (.int x), l5, l6], st, M, uc, us) Q ↔ zwp zm_37 (21, [l0, l1, l2, l3, some (.int x), l5, l6], .int x :: st, M, uc, us) Q := zwp_step (by decide +kernel) (fun _ => rfl)
theorem p37_21 : zwp zm_37 (21, [l0, l1, l2, l3, l4, l5, l6], .int x :: .ref a :: st, M, uc, us) Q ↔ ziar M a x ∧ zvr (zrd M a x.toNatClampNeg) (fun z => zwp zm_37 (22, [l0, l1, l2, l3, l4, l5, l6], .ref z :: st, M, uc, us) Q) := zw_aaload (by decide +kernel)
theorem p37_22 : zwp zm_37 (22, [l0, l1, l2, l3, l4, l5, l6], .ref a :: st, M, uc, us) Q ↔ zwp zm_37 (24, [l0, l1, l2, l3, zkl l4, some (.ref a), l6], st, M, uc, us) Q := zwp_step (by decide +kernel) (fun _ => rfl)
theorem p37_24 : zwp zm_37 (24, [l0, l1, l2, l3, l4, some (.ref a), l6], st, M, uc, us) Q ↔ zwp zm_37 (26, [l0, l1, l2, l3, l4, some (.ref a), l6], .ref a :: st, M, uc, us) Q := zwp_step (by decide +kernel) (fun _ => rfl)
theorem p37_26 : zwp zm_37 (26, [l0, l1, l2, l3, l4, l5, l6], .ref a :: st, M, uc, us) Q ↔ zok M a 1 6 ∧ zwp zm_37 (29, [l0, l1, l2, l3, l4, l5, l6], zrd M a 1 :: st, M, uc, us) Q := zw_getfield (by decide +kernel) (by decide +kernel) rfl
theorem p37_29 : zwp zm_37 (29, [l0, some (.int x), l2, l3, l4, l5, l6], st, M, uc, us) Q ↔ zwp zm_37 (30, [l0, some (.int x), l2, l3, l4, l5, l6], .int x :: st, M, uc, us) Q := zwp_step (by decide +kernel) (fun _ => rfl)
theorem p37_30 : zwp zm_37 (30, [l0, l1, l2, l3, l4, l5, l6], .int y :: .int x :: st, M, uc, us) Q ↔ if x = y then zwp zm_37 (33, [l0, l1, l2, l3, l4, l5, l6], st, M, uc, us) Q else zwp zm_37 (46, [l0, l1, l2, l3, l4, l5, l6], st, M, uc, us) Q := zw_icne (by decide +kernel) rfl rfl
theorem p37_33 : zwp zm_37 (33, [l0, l1, l2, l3, l4, some (.ref a), l6], st, M, uc, us) Q ↔ zwp zm_37 (35, [l0, l1, l2, l3, l4, some (.ref a), l6], .ref a :: st, M, uc, us) Q := zwp_step (by decide +kernel) (fun _ => rfl)
theorem p37_35 : zwp zm_37 (35, [l0, l1, l2, l3, l4, l5, l6], .ref a :: st, M, uc, us) Q ↔ zok M a 1 6 ∧ zwp zm_37 (38, [l0, l1, l2, l3, l4, l5, l6], zrd M a 2 :: st, M, uc, us) Q := zw_getfield (by decide +kernel) (by decide +kernel) rfl
theorem p37_38 : zwp zm_37 (38, [l0, l1, some (.int x), l3, l4, l5, l6], st, M, uc, us) Q ↔ zwp zm_37 (39, [l0, l1, some (.int x), l3, l4, l5, l6], .int x :: st, M, uc, us) Q := zwp_step (by decide +kernel) (fun _ => rfl)
theorem p37_39 : zwp zm_37 (39, [l0, l1, l2, l3, l4, l5, l6], .int y :: .int x :: st, M, uc, us) Q ↔ if y < x then zwp zm_37 (42, [l0, l1, l2, l3, l4, l5, l6], st, M, uc, us) Q else zwp zm_37 (46, [l0, l1, l2, l3, l4, l5, l6], st, M, uc, us) Q := zw_icle (by decide +kernel) rfl rfl
theorem p37_42 : zwp zm_37 (42, [l0, l1, l2, l3, l4, l5, l6], st, M, uc, us) Q ↔ zwp zm_37 (43, [l0, l1, l2, l3, l4, l5, l6], .int (nI 1) :: st, M, uc, us) Q := zwp_step (by decide +kernel) (fun _ => rfl)
theorem p37_43 : zwp zm_37 (43, [l0, l1, l2, l3, l4, l5, l6], st, M, uc, us) Q ↔ zwp zm_37 (47, [l0, l1, l2, l3, l4, l5, l6], st, M, uc, us) Q := zw_goto (by decide +kernel) rfl
theorem p37_46 : zwp zm_37 (46, [l0, l1, l2, l3, l4, l5, l6], st, M, uc, us) Q ↔ zwp zm_37 (47, [l0, l1, l2, l3, l4, l5, l6], .int (nI 0) :: st, M, uc, us) Q := zwp_step (by decide +kernel) (fun _ => rfl)
theorem p37_47 : zwp zm_37 (47, [l0, l1, l2, l3, l4, l5, l6], .int x :: st, M, uc, us) Q ↔ zwp zm_37 (49, [l0, l1, l2, l3, l4, zkl l5, some (.int x)], st, M, uc, us) Q := zwp_step (by decide +kernel) (fun _ => rfl)
theorem p37_49 : zwp zm_37 (49, [l0, l1, l2, l3, l4, l5, some (.int x)], st, M, uc, us) Q ↔ zwp zm_37 (51, [l0, l1, l2, l3, l4, l5, some (.int x)], .int x :: st, M, uc, us) Q := zwp_step (by decide +kernel) (fun _ => rfl)
theorem p37_51 : zwp zm_37 (51, [l0, l1, l2, l3, l4, l5, l6], .int x :: st, M, uc, us) Q ↔ if x = nI 0 then zwp zm_37 (79, [l0, l1, l2, l3, l4, l5, l6], st, M, uc, us) Q else zwp zm_37 (54, [l0, l1, l2, l3, l4, l5, l6], st, M, uc, us) Q := zw_ifeq (by decide +kernel) rfl rfl
theorem p37_54 : zwp zm_37 (54, [l0, l1, l2, some (.int x), l4, l5, l6], st, M, uc, us) Q ↔ zwp zm_37 (55, [l0, l1, l2, some (.int x), l4, l5, l6], .int x :: st, M, uc, us) Q := zwp_step (by decide +kernel) (fun _ => rfl)
theorem p37_55 : zwp zm_37 (55, [l0, l1, l2, l3, l4, l5, l6], st, M, uc, us) Q ↔ zwp zm_37 (56, [l0, l1, l2, l3, l4, l5, l6], .int (-1) :: st, M, uc, us) Q := zwp_step (by decide +kernel) (fun _ => rfl)
theorem p37_56 : zwp zm_37 (56, [l0, l1, l2, l3, l4, l5, l6], .int y :: .int x :: st, M, uc, us) Q ↔ if x = y then zwp zm_37 (76, [l0, l1, l2, l3, l4, l5, l6], st, M, uc, us) Q else zwp zm_37 (59, [l0, l1, l2, l3, l4, l5, l6], st, M, uc, us) Q := zw_iceq (by decide +kernel) rfl rfl
theorem p37_59 : zwp zm_37 (59, [l0, l1, l2, l3, l4, some (.ref a), l6], st, M, uc, us) Q ↔ zwp zm_37 (61, [l0, l1, l2, l3, l4, some (.ref a), l6], .ref a :: st, M, uc, us) Q := zwp_step (by decide +kernel) (fun _ => rfl)
theorem p37_61 : zwp zm_37 (61, [l0, l1, l2, l3, l4, l5, l6], .ref a :: st, M, uc, us) Q ↔ zok M a 1 6 ∧ zwp zm_37 (64, [l0, l1, l2, l3, l4, l5, l6], zrd M a 2 :: st, M, uc, us) Q := zw_getfield (by decide +kernel) (by decide +kernel) rfl
theorem p37_64 : zwp zm_37 (64, [some (.ref a), l1, l2, l3, l4, l5, l6], st, M, uc, us) Q ↔ zwp zm_37 (65, [some (.ref a), l1, l2, l3, l4, l5, l6], .ref a :: st, M, uc, us) Q := zwp_step (by decide +kernel) (fun _ => rfl)
theorem p37_65 : zwp zm_37 (65, [l0, l1, l2, l3, l4, l5, l6], .ref a :: st, M, uc, us) Q ↔ zok M a 0 6 ∧ zwp zm_37 (68, [l0, l1, l2, l3, l4, l5, l6], zrd M a 4 :: st, M, uc, us) Q := zw_getfield (by decide +kernel) (by decide +kernel) rfl
theorem p37_68 : zwp zm_37 (68, [l0, l1, l2, some (.int x), l4, l5, l6], st, M, uc, us) Q ↔ zwp zm_37 (69, [l0, l1, l2, some (.int x), l4, l5, l6], .int x :: st, M, uc, us) Q := zwp_step (by decide +kernel) (fun _ => rfl)
theorem p37_69 : zwp zm_37 (69, [l0, l1, l2, l3, l4, l5, l6], .int x :: .ref a :: st, M, uc, us) Q ↔ ziar M a x ∧ zvr (zrd M a x.toNatClampNeg) (fun z => zwp zm_37 (70, [l0, l1, l2, l3, l4, l5, l6], .ref z :: st, M, uc, us) Q) := zw_aaload (by decide +kernel)
theorem p37_70 : zwp zm_37 (70, [l0, l1, l2, l3, l4, l5, l6], .ref a :: st, M, uc, us) Q ↔ zok M a 1 6 ∧ zwp zm_37 (73, [l0, l1, l2, l3, l4, l5, l6], zrd M a 2 :: st, M, uc, us) Q := zw_getfield (by decide +kernel) (by decide +kernel) rfl
theorem p37_73 : zwp zm_37 (73, [l0, l1, l2, l3, l4, l5, l6], .int y :: .int x :: st, M, uc, us) Q ↔ if x < y then zwp zm_37 (76, [l0, l1, l2, l3, l4, l5, l6], st, M, uc, us) Q else zwp zm_37 (79, [l0, l1, l2, l3, l4, l5, l6], st, M, uc, us) Q := zw_icge (by decide +kernel) rfl rfl
theorem p37_76 : zwp zm_37 (76, [l0, l1, l2, l3, some (.int x), l5, l6], st, M, uc, us) Q ↔ zwp zm_37 (78, [l0, l1, l2, l3, some (.int x), l5, l6], .int x :: st, M, uc, us) Q := zwp_step (by decide +kernel) (fun _ => rfl)
theorem p37_78 : zwp zm_37 (78, [l0, l1, l2, l3, l4, l5, l6], .int x :: st, M, uc, us) Q ↔ zwp zm_37 (79, [l0, l1, zkl l2, some (.int x), l4, l5, l6], st, M, uc, us) Q := zwp_step (by decide +kernel) (fun _ => rfl)
theorem p37_79 : zwp zm_37 (79, [l0, l1, l2, l3, some (.int x), l5, l6], st, M, uc, us) Q ↔ zwp zm_37 (82, [l0, l1, l2, zkl l3, some (.int (x + nI 1)), l5, l6], st, M, uc, us) Q := zwp_step (by decide +kernel) (fun _ => rfl)
theorem p37_82 : zwp zm_37 (82, [l0, l1, l2, l3, l4, l5, l6], st, M, uc, us) Q ↔ zwp zm_37 (5, [l0, l1, l2, l3, l4, l5, l6], st, M, uc, us) Q := zw_goto (by decide +kernel) rfl
theorem p37_85 : zwp zm_37 (85, [l0, l1, l2, some (.int x), l4, l5, l6], st, M, uc, us) Q ↔ zwp zm_37 (86, [l0, l1, l2, some (.int x), l4, l5, l6], .int x :: st, M, uc, us) Q := zwp_step (by decide +kernel) (fun _ => rfl)
theorem p37_86 : zwp zm_37 (86, [l0, l1, l2, l3, l4, l5, l6], [.int x], M, uc, us) Q ↔ (uc ≤ 0 ∧ us ≤ 0) ∧ Q (.inl (some (.int x))) M := zw_iret (by decide +kernel) rfl rfl rfl
theorem p38_0 : zwp zm_38 (0, [some (.ref a), l1, l2, l3], st, M, uc, us) Q ↔ zwp zm_38 (1, [some (.ref a), l1, l2, l3], .ref a :: st, M, uc, us) Q := zwp_step (by decide +kernel) (fun _ => rfl)
theorem p38_1 : zwp zm_38 (1, [l0, l1, l2, l3], .ref a :: st, M, uc, us) Q ↔ zok M a 0 6 ∧ zwp zm_38 (4, [l0, l1, l2, l3], zrd M a 2 :: st, M, uc, us) Q := zw_getfield (by decide +kernel) (by decide +kernel) rfl
theorem p38_4 : zwp zm_38 (4, [l0, some (.int x), l2, l3], st, M, uc, us) Q ↔ zwp zm_38 (5, [l0, some (.int x), l2, l3], .int x :: st, M, uc, us) Q := zwp_step (by decide +kernel) (fun _ => rfl)
theorem p38_5 : zwp zm_38 (5, [l0, l1, l2, l3], .int x :: .ref a :: st, M, uc, us) Q ↔ ziar M a x ∧ zvr (zrd M a x.toNatClampNeg) (fun z => zwp zm_38 (6, [l0, l1, l2, l3], .ref z :: st, M, uc, us) Q) := zw_aaload (by decide +kernel)
theorem p38_6 : zwp zm_38 (6, [l0, l1, l2, l3], .ref a :: st, M, uc, us) Q ↔ zwp zm_38 (7, [l0, zkl l1, some (.ref a), l3], st, M, uc, us) Q := zwp_step (by decide +kernel) (fun _ => rfl)
theorem p38_7 : zwp zm_38 (7, [l0, some (.int x), l2, l3], st, M, uc, us) Q ↔ zwp zm_38 (8, [l0, some (.int x), l2, l3], .int x :: st, M, uc, us) Q := zwp_step (by decide +kernel) (fun _ => rfl)
theorem p38_8 : zwp zm_38 (8, [l0, l1, l2, l3], .int x :: st, M, uc, us) Q ↔ zwp zm_38 (9, [l0, l1, zkl l2, some (.int x)], st, M, uc, us) Q := zwp_step (by decide +kernel) (fun _ => rfl)
theorem p38_9 : zwp zm_38 (9, [l0, l1, l2, some (.int x)], st, M, uc, us) Q ↔ zwp zm_38 (10, [l0, l1, l2, some (.int x)], .int x :: st, M, uc, us) Q := zwp_step (by decide +kernel) (fun _ => rfl)
theorem p38_10 : zwp zm_38 (10, [l0, l1, l2, l3], st, M, uc, us) Q ↔ zwp zm_38 (11, [l0, l1, l2, l3], .int (nI 1) :: st, M, uc, us) Q := zwp_step (by decide +kernel) (fun _ => rfl)
theorem p38_11 : zwp zm_38 (11, [l0, l1, l2, l3], .int y :: .int x :: st, M, uc, us) Q ↔ zwp zm_38 (12, [l0, l1, l2, l3], .int (x + y) :: st, M, uc, us) Q := zwp_step (by decide +kernel) (fun _ => rfl)
theorem p38_12 : zwp zm_38 (12, [some (.ref a), l1, l2, l3], st, M, uc, us) Q ↔ zwp zm_38 (13, [some (.ref a), l1, l2, l3], .ref a :: st, M, uc, us) Q := zwp_step (by decide +kernel) (fun _ => rfl)
theorem p38_13 : zwp zm_38 (13, [l0, l1, l2, l3], .ref a :: st, M, uc, us) Q ↔ zok M a 0 6 ∧ zwp zm_38 (16, [l0, l1, l2, l3], zrd M a 3 :: st, M, uc, us) Q := zw_getfield (by decide +kernel) (by decide +kernel) rfl
theorem p38_16 : zwp zm_38 (16, [l0, l1, l2, l3], .int y :: .int x :: st, M, uc, us) Q ↔ if x < y then zwp zm_38 (19, [l0, l1, l2, l3], st, M, uc, us) Q else zwp zm_38 (39, [l0, l1, l2, l3], st, M, uc, us) Q := zw_icge (by decide +kernel) rfl rfl
theorem p38_19 : zwp zm_38 (19, [some (.ref a), l1, l2, l3], st, M, uc, us) Q ↔ zwp zm_38 (20, [some (.ref a), l1, l2, l3], .ref a :: st, M, uc, us) Q := zwp_step (by decide +kernel) (fun _ => rfl)
theorem p38_20 : zwp zm_38 (20, [l0, l1, l2, l3], .ref a :: st, M, uc, us) Q ↔ zok M a 0 6 ∧ zwp zm_38 (23, [l0, l1, l2, l3], zrd M a 2 :: st, M, uc, us) Q := zw_getfield (by decide +kernel) (by decide +kernel) rfl
theorem p38_23 : zwp zm_38 (23, [l0, l1, l2, some (.int x)], st, M, uc, us) Q ↔ zwp zm_38 (24, [l0, l1, l2, some (.int x)], .int x :: st, M, uc, us) Q := zwp_step (by decide +kernel) (fun _ => rfl)
theorem p38_24 : zwp zm_38 (24, [some (.ref a), l1, l2, l3], st, M, uc, us) Q ↔ zwp zm_38 (25, [some (.ref a), l1, l2, l3], .ref a :: st, M, uc, us) Q := zwp_step (by decide +kernel) (fun _ => rfl)
theorem p38_25 : zwp zm_38 (25, [l0, l1, l2, l3], .ref a :: st, M, uc, us) Q ↔ zok M a 0 6 ∧ zwp zm_38 (28, [l0, l1, l2, l3], zrd M a 2 :: st, M, uc, us) Q := zw_getfield (by decide +kernel) (by decide +kernel) rfl
theorem p38_28 : zwp zm_38 (28, [l0, l1, l2, some (.int x)], st, M, uc, us) Q ↔ zwp zm_38 (29, [l0, l1, l2, some (.int x)], .int x :: st, M, uc, us) Q := zwp_step (by decide +kernel) (fun _ => rfl)
theorem p38_29 : zwp zm_38 (29, [l0, l1, l2, l3], st, M, uc, us) Q ↔ zwp zm_38 (30, [l0, l1, l2, l3], .int (nI 1) :: st, M, uc, us) Q := zwp_step (by decide +kernel) (fun _ => rfl)
theorem p38_30 : zwp zm_38 (30, [l0, l1, l2, l3], .int y :: .int x :: st, M, uc, us) Q ↔ zwp zm_38 (31, [l0, l1, l2, l3], .int (x + y) :: st, M, uc, us) Q := zwp_step (by decide +kernel) (fun _ => rfl)
theorem p38_31 : zwp zm_38 (31, [l0, l1, l2, l3], .int x :: .ref a :: st, M, uc, us) Q ↔ ziar M a x ∧ zvr (zrd M a x.toNatClampNeg) (fun z => zwp zm_38 (32, [l0, l1, l2, l3], .ref z :: st, M, uc, us) Q) := zw_aaload (by decide +kernel)
theorem p38_32 : zwp zm_38 (32, [l0, l1, l2, l3], .ref b :: .int x :: .ref a :: st, M, uc, us) Q ↔ zias2 M b a x ∧ zwp zm_38 (33, [l0, l1, l2, l3], st, zput M a x.toNatClampNeg (.ref b), uc, us) Q := zw_aastore (by decide +kernel)
theorem p38_33 : zwp zm_38 (33, [l0, l1, l2, some (.int x)], st, M, uc, us) Q ↔ zwp zm_38 (36, [l0, l1, zkl l2, some (.int (x + nI 1))], st, M, uc, us) Q := zwp_step (by decide +kernel) (fun _ => rfl)
theorem p38_36 : zwp zm_38 (36, [l0, l1, l2, l3], st, M, uc, us) Q ↔ zwp zm_38 (9, [l0, l1, l2, l3], st, M, uc, us) Q := zw_goto (by decide +kernel) rfl
theorem p38_39 : zwp zm_38 (39, [some (.ref a), l1, l2, l3], st, M, uc, us) Q ↔ zwp zm_38 (40, [some (.ref a), l1, l2, l3], .ref a :: st, M, uc, us) Q := zwp_step (by decide +kernel) (fun _ => rfl)
theorem p38_40 : zwp zm_38 (40, [l0, l1, l2, l3], .ref a :: st, M, uc, us) Q ↔ zwp zm_38 (41, [l0, l1, l2, l3], .ref a :: .ref a :: st, M, uc, us) Q := zwp_step (by decide +kernel) (fun _ => rfl)
theorem p38_40i : zwp zm_38 (40, [l0, l1, l2, l3], .int x :: st, M, uc, us) Q ↔ zwp zm_38 (41, [l0, l1, l2, l3], .int x :: .int x :: st, M, uc, us) Q := zwp_step (by decide +kernel) (fun _ => rfl)
theorem p38_41 : zwp zm_38 (41, [l0, l1, l2, l3], .ref a :: st, M, uc, us) Q ↔ zok M a 0 6 ∧ zwp zm_38 (44, [l0, l1, l2, l3], zrd M a 3 :: st, M, uc, us) Q := zw_getfield (by decide +kernel) (by decide +kernel) rfl
theorem p38_44 : zwp zm_38 (44, [l0, l1, l2, l3], st, M, uc, us) Q ↔ zwp zm_38 (45, [l0, l1, l2, l3], .int (nI 1) :: st, M, uc, us) Q := zwp_step (by decide +kernel) (fun _ => rfl)
theorem p38_45 : zwp zm_38 (45, [l0, l1, l2, l3], .int y :: .int x :: st, M, uc, us) Q ↔ zwp zm_38 (46, [l0, l1, l2, l3], .int (x - y) :: st, M, uc, us) Q := zwp_step (by decide +kernel) (fun _ => rfl)
theorem p38_46 : zwp zm_38 (46, [l0, l1, l2, l3], .int x :: .ref a :: st, M, uc, us) Q ↔ zok M a 0 6 ∧ zwp zm_38 (49, [l0, l1, l2, l3], st, zput M a 3 (.int x), uc, us) Q := zw_putI (by decide +kernel) (by decide +kernel) rfl rfl (by decide +kernel)
theorem p38_49 : zwp zm_38 (49, [some (.ref a), l1, l2, l3], st, M, uc, us) Q ↔ zwp zm_38 (50, [some (.ref a), l1, l2, l3], .ref a :: st, M, uc, us) Q := zwp_step (by decide +kernel) (fun _ => rfl)
theorem p38_50 : zwp zm_38 (50, [l0, l1, l2, l3], .ref a :: st, M, uc, us) Q ↔ zok M a 0 6 ∧ zwp zm_38 (53, [l0, l1, l2, l3], zrd M a 2 :: st, M, uc, us) Q := zw_getfield (by decide +kernel) (by decide +kernel) rfl
theorem p38_53 : zwp zm_38 (53, [some (.ref a), l1, l2, l3], st, M, uc, us) Q ↔ zwp zm_38 (54, [some (.ref a), l1, l2, l3], .ref a :: st, M, uc, us) Q := zwp_step (by decide +kernel) (fun _ => rfl)
theorem p38_54 : zwp zm_38 (54, [l0, l1, l2, l3], .ref a :: st, M, uc, us) Q ↔ zok M a 0 6 ∧ zwp zm_38 (57, [l0, l1, l2, l3], zrd M a 3 :: st, M, uc, us) Q := zw_getfield (by decide +kernel) (by decide +kernel) rfl
theorem p38_57 : zwp zm_38 (57, [l0, l1, some (.ref a), l3], st, M, uc, us) Q ↔ zwp zm_38 (58, [l0, l1, some (.ref a), l3], .ref a :: st, M, uc, us) Q := zwp_step (by decide +kernel) (fun _ => rfl)
theorem p38_58 : zwp zm_38 (58, [l0, l1, l2, l3], .ref b :: .int x :: .ref a :: st, M, uc, us) Q ↔ zias2 M b a x ∧ zwp zm_38 (59, [l0, l1, l2, l3], st, zput M a x.toNatClampNeg (.ref b), uc, us) Q := zw_aastore (by decide +kernel)
theorem p38_59 : zwp zm_38 (59, [l0, l1, l2, l3], [], M, uc, us) Q ↔ (uc ≤ 0 ∧ us ≤ 0) ∧ Q (.inl none) M := zw_vret (by decide +kernel) rfl rfl rfl
theorem p39_0 : zwp zm_39 (0, [l0, l1, l2, some (.ref a), l4, l5, l6], st, M, uc, us) Q ↔ zwp zm_39 (1, [l0, l1, l2, some (.ref a), l4, l5, l6], .ref a :: st, M, uc, us) Q := zwp_step (by decide +kernel) (fun _ => rfl)
theorem p39_1 : zwp zm_39 (1, [l0, l1, l2, l3, l4, l5, l6], .ref a :: st, M, uc, us) Q ↔ ((zct st ≤ 8 ∧ uc + 0 ≤ 0 ∧ us + 0 ≤ 0) ∧ zok M a 3 5) ∧ zcl 15 [.ref a] M (zbk zm_39 4 1 [l0, l1, l2, l3, l4, l5, l6] st (uc + 0) (us + 0) Q) := zw_callV (by decide +kernel) (by decide +kernel) zmt_at_15 rfl rfl (by decide) (by decide) rfl rfl rfl rfl rfl rfl rfl
theorem p39_4 : zwp zm_39 (4, [l0, l1, l2, l3, l4, l5, l6], st, M, uc, us) Q ↔ zwp zm_39 (5, [l0, l1, l2, l3, l4, l5, l6], .int (nI 0) :: st, M, uc, us) Q := zwp_step (by decide +kernel) (fun _ => rfl)
theorem p39_5 : zwp zm_39 (5, [l0, l1, l2, l3, l4, l5, l6], .int x :: st, M, uc, us) Q ↔ zwp zm_39 (7, [l0, l1, l2, zkl l3, some (.int x), l5, l6], st, M, uc, us) Q := zwp_step (by decide +kernel) (fun _ => rfl)
theorem p39_7 : zwp zm_39 (7, [l0, l1, l2, l3, l4, l5, l6], st, M, uc, us) Q ↔ zwp zm_39 (8, [l0, l1, l2, l3, l4, l5, l6], .int (nI 0) :: st, M, uc, us) Q := zwp_step (by decide +kernel) (fun _ => rfl)
theorem p39_8 : zwp zm_39 (8, [l0, l1, l2, l3, l4, l5, l6], .int x :: st, M, uc, us) Q ↔ zwp zm_39 (10, [l0, l1, l2, l3, zkl l4, some (.int x), l6], st, M, uc, us) Q := zwp_step (by decide +kernel) (fun _ => rfl)
theorem p39_10 : zwp zm_39 (10, [l0, l1, l2, l3, l4, some (.int x), l6], st, M, uc, us) Q ↔ zwp zm_39 (12, [l0, l1, l2, l3, l4, some (.int x), l6], .int x :: st, M, uc, us) Q := zwp_step (by decide +kernel) (fun _ => rfl)
theorem p39_12 : zwp zm_39 (12, [some (.ref a), l1, l2, l3, l4, l5, l6], st, M, uc, us) Q ↔ zwp zm_39 (13, [some (.ref a), l1, l2, l3, l4, l5, l6], .ref a :: st, M, uc, us) Q := zwp_step (by decide +kernel) (fun _ => rfl)
theorem p39_13 : zwp zm_39 (13, [l0, l1, l2, l3, l4, l5, l6], .ref a :: st, M, uc, us) Q ↔ zok M a 0 6 ∧ zwp zm_39 (16, [l0, l1, l2, l3, l4, l5, l6], zrd M a 3 :: st, M, uc, us) Q := zw_getfield (by decide +kernel) (by decide +kernel) rfl
theorem p39_16 : zwp zm_39 (16, [l0, l1, l2, l3, l4, l5, l6], .int y :: .int x :: st, M, uc, us) Q ↔ if x < y then zwp zm_39 (19, [l0, l1, l2, l3, l4, l5, l6], st, M, uc, us) Q else zwp zm_39 (67, [l0, l1, l2, l3, l4, l5, l6], st, M, uc, us) Q := zw_icge (by decide +kernel) rfl rfl
theorem p39_19 : zwp zm_39 (19, [l0, l1, l2, l3, some (.int x), l5, l6], st, M, uc, us) Q ↔ zwp zm_39 (21, [l0, l1, l2, l3, some (.int x), l5, l6], .int x :: st, M, uc, us) Q := zwp_step (by decide +kernel) (fun _ => rfl)
theorem p39_21 : zwp zm_39 (21, [l0, l1, l2, l3, l4, l5, l6], .int x :: st, M, uc, us) Q ↔ if x = nI 0 then zwp zm_39 (24, [l0, l1, l2, l3, l4, l5, l6], st, M, uc, us) Q else zwp zm_39 (67, [l0, l1, l2, l3, l4, l5, l6], st, M, uc, us) Q := zw_ifne (by decide +kernel) rfl rfl
theorem p39_24 : zwp zm_39 (24, [some (.ref a), l1, l2, l3, l4, l5, l6], st, M, uc, us) Q ↔ zwp zm_39 (25, [some (.ref a), l1, l2, l3, l4, l5, l6], .ref a :: st, M, uc, us) Q := zwp_step (by decide +kernel) (fun _ => rfl)
theorem p39_25 : zwp zm_39 (25, [l0, l1, l2, l3, l4, l5, l6], .ref a :: st, M, uc, us) Q ↔ zok M a 0 6 ∧ zwp zm_39 (28, [l0, l1, l2, l3, l4, l5, l6], zrd M a 2 :: st, M, uc, us) Q := zw_getfield (by decide +kernel) (by decide +kernel) rfl
theorem p39_28 : zwp zm_39 (28, [l0, l1, l2, l3, l4, some (.int x), l6], st, M, uc, us) Q ↔ zwp zm_39 (30, [l0, l1, l2, l3, l4, some (.int x), l6], .int x :: st, M, uc, us) Q := zwp_step (by decide +kernel) (fun _ => rfl)
theorem p39_30 : zwp zm_39 (30, [l0, l1, l2, l3, l4, l5, l6], .int x :: .ref a :: st, M, uc, us) Q ↔ ziar M a x ∧ zvr (zrd M a x.toNatClampNeg) (fun z => zwp zm_39 (31, [l0, l1, l2, l3, l4, l5, l6], .ref z :: st, M, uc, us) Q) := zw_aaload (by decide +kernel)
theorem p39_31 : zwp zm_39 (31, [l0, l1, l2, l3, l4, l5, l6], .ref a :: st, M, uc, us) Q ↔ zwp zm_39 (33, [l0, l1, l2, l3, l4, zkl l5, some (.ref a)], st, M, uc, us) Q := zwp_step (by decide +kernel) (fun _ => rfl)
theorem p39_33 : zwp zm_39 (33, [l0, l1, l2, l3, l4, some (.int x), l6], st, M, uc, us) Q ↔ zwp zm_39 (35, [l0, l1, l2, l3, l4, some (.int x), l6], .int x :: st, M, uc, us) Q := zwp_step (by decide +kernel) (fun _ => rfl)
theorem p39_35 : zwp zm_39 (35, [l0, l1, some (.int x), l3, l4, l5, l6], st, M, uc, us) Q ↔ zwp zm_39 (36, [l0, l1, some (.int x), l3, l4, l5, l6], .int x :: st, M, uc, us) Q := zwp_step (by decide +kernel) (fun _ => rfl)
theorem p39_36 : zwp zm_39 (36, [l0, l1, l2, l3, l4, l5, l6], .int y :: .int x :: st, M, uc, us) Q ↔ if x = y then zwp zm_39 (61, [l0, l1, l2, l3, l4, l5, l6], st, M, uc, us) Q else zwp zm_39 (39, [l0, l1, l2, l3, l4, l5, l6], st, M, uc, us) Q := zw_iceq (by decide +kernel) rfl rfl
theorem p39_39 : zwp zm_39 (39, [l0, l1, l2, l3, l4, l5, some (.ref a)], st, M, uc, us) Q ↔ zwp zm_39 (41, [l0, l1, l2, l3, l4, l5, some (.ref a)], .ref a :: st, M, uc, us) Q := zwp_step (by decide +kernel) (fun _ => rfl)
theorem p39_41 : zwp zm_39 (41, [l0, some (.ref a), l2, l3, l4, l5, l6], st, M, uc, us) Q ↔ zwp zm_39 (42, [l0, some (.ref a), l2, l3, l4, l5, l6], .ref a :: st, M, uc, us) Q := zwp_step (by decide +kernel) (fun _ => rfl)
theorem p39_42 : zwp zm_39 (42, [l0, l1, l2, l3, l4, l5, l6], .ref u0 :: .ref a :: st, M, uc, us) Q ↔ ((zct st ≤ 8 ∧ uc + 0 ≤ 0 ∧ us + 0 ≤ 0) ∧ zok M a 6 6) ∧ zcl 12 [.ref a, .ref u0] M (zbk zm_39 45 42 [l0, l1, l2, l3, l4, l5, l6] st (uc + 0) (us + 0) Q) := zw_callV (by decide +kernel) (by decide +kernel) zmt_at_12 rfl rfl (by decide) (by decide) rfl rfl rfl rfl rfl rfl rfl
theorem p39_45 : zwp zm_39 (45, [l0, l1, l2, l3, l4, l5, l6], .int x :: st, M, uc, us) Q ↔ if x = nI 0 then zwp zm_39 (61, [l0, l1, l2, l3, l4, l5, l6], st, M, uc, us) Q else zwp zm_39 (48, [l0, l1, l2, l3, l4, l5, l6], st, M, uc, us) Q := zw_ifeq (by decide +kernel) rfl rfl
theorem p39_48 : zwp zm_39 (48, [l0, l1, l2, some (.ref a), l4, l5, l6], st, M, uc, us) Q ↔ zwp zm_39 (49, [l0, l1, l2, some (.ref a), l4, l5, l6], .ref a :: st, M, uc, us) Q := zwp_step (by decide +kernel) (fun _ => rfl)
theorem p39_49 : zwp zm_39 (49, [l0, l1, l2, l3, l4, l5, some (.ref a)], st, M, uc, us) Q ↔ zwp zm_39 (51, [l0, l1, l2, l3, l4, l5, some (.ref a)], .ref a :: st, M, uc, us) Q := zwp_step (by decide +kernel) (fun _ => rfl)
theorem p39_51 : zwp zm_39 (51, [l0, l1, l2, l3, l4, l5, l6], .ref u0 :: .ref a :: st, M, uc, us) Q ↔ ((zct st ≤ 8 ∧ uc + 0 ≤ 0 ∧ us + 0 ≤ 0) ∧ zok M a 3 5) ∧ zcl 16 [.ref a, .ref u0] M (zbk zm_39 54 51 [l0, l1, l2, l3, l4, l5, l6] st (uc + 0) (us + 0) Q) := zw_callV (by decide +kernel) (by decide +kernel) zmt_at_16 rfl rfl (by decide) (by decide) rfl rfl rfl rfl rfl rfl rfl
theorem p39_54 : zwp zm_39 (54, [l0, l1, l2, l3, l4, l5, some (.ref a)], st, M, uc, us) Q ↔ zwp zm_39 (56, [l0, l1, l2, l3, l4, l5, some (.ref a)], .ref a :: st, M, uc, us) Q := zwp_step (by decide +kernel) (fun _ => rfl)
theorem p39_56 : zwp zm_39 (56, [l0, l1, l2, l3, l4, l5, l6], .ref a :: st, M, uc, us) Q ↔ zok M a 6 6 ∧ zwp zm_39 (59, [l0, l1, l2, l3, l4, l5, l6], zrd M a 5 :: st, M, uc, us) Q := zw_getfield (by decide +kernel) (by decide +kernel) rfl
theorem p39_59 : zwp zm_39 (59, [l0, l1, l2, l3, l4, l5, l6], .int x :: st, M, uc, us) Q ↔ zwp zm_39 (61, [l0, l1, l2, zkl l3, some (.int x), l5, l6], st, M, uc, us) Q := zwp_step (by decide +kernel) (fun _ => rfl)
theorem p39_61 : zwp zm_39 (61, [l0, l1, l2, l3, l4, some (.int x), l6], st, M, uc, us) Q ↔ zwp zm_39 (64, [l0, l1, l2, l3, zkl l4, some (.int (x + nI 1)), l6], st, M, uc, us) Q := zwp_step (by decide +kernel) (fun _ => rfl)
theorem p39_64 : zwp zm_39 (64, [l0, l1, l2, l3, l4, l5, l6], st, M, uc, us) Q ↔ zwp zm_39 (10, [l0, l1, l2, l3, l4, l5, l6], st, M, uc, us) Q := zw_goto (by decide +kernel) rfl
theorem p39_67 : zwp zm_39 (67, [l0, l1, l2, l3, l4, l5, l6], [], M, uc, us) Q ↔ (uc ≤ 0 ∧ us ≤ 0) ∧ Q (.inl none) M := zw_vret (by decide +kernel) rfl rfl rfl
end ZPC
