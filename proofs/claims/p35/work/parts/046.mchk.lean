/-! what the tables say of each method, and of each call -/
def zNb (w : Cond) : Bool := match w with
  | .methodLinkNest _ _ _ _ => true
  | .arrayOver (.object _) => true
  | .castable _ _ => true
  | .declares _ => true
  | _ => false
def zcw (K : zI) : Cond := if zk_hs K = [] then .code (zk_y K) (zk_by K) (zk_ml K) (zk_rt K) else .codeWith (zk_y K) (zk_by K) (zk_ml K) (zk_rt K) (zk_hs K)
def zws (K : zI) : List Cond := zcw K :: zG
def zrm (K : zI) : Room := { frames := zk_rf K, cells := zk_mc K, slots := zk_ms K, locals := zk_rl K }
def zsts (K : zI) : Bool := decide (100000 ≤ (zk_ps K).2.1)
def zmchk (K : zI) : Bool := decide (lw_tbl[(zk_ps K).1]? = some (zcw K)) && ((if zsts K = true then decide (lw_tbl[(zk_ps K).2.1 - 100000]? = some (.static (zk_y K))) else decide (lw_tbl[(zk_ps K).2.1]? = some (.instanceMethod (zk_y K)))) && (decide (lw_tbl[(zk_ps K).2.2.1]? = some (.initialized (zk_y K).cls)) &&
  (decide ((zk_y K).cls = zcn (zk_own K)) && (plainName (zk_y K).cls && (decide ((zk_y K).cls ≠ "java/lang/invoke/MethodHandle" ∧ (zk_y K).cls ≠ "java/lang/invoke/VarHandle") && (decide ((parseMethodDescriptor (zk_y K).desc).map (fun d => d.parameters.length) = some (zk_na K)) && decide (zk_own K < 12)))))))
def zcchk (c : Nat) (e : zP) : Bool := match e with
  | (1, x, y, _) => match zmt[x]? with
    | some J => decide ((zk_ps J).1 ≠ 0) && if y = 0 then (!(zsts J) && (decide (zk_own J < 11) && (decide (zk_hs J = []) && decide (lw_tbl[(zk_ps J).2.2.2 % 100000]? = some (.selects (zcn (zk_own J)) (zk_y J) (zk_y J))))))
      else if y = 1 then (zsts J && (decide (zk_hs J = []) && decide (zk_own J = c)))
      else if y = 2 ∨ y = 5 then (!(zsts J) && (decide (zk_hs J = []) && (decide ((zk_y J).name = "<init>") && decide (zk_rt J = none))))
      else if y = 4 then (zsts J && decide (zk_hs J = []))
      else if y = 6 then (zsts J && (!(decide (zk_hs J = [])) && decide (zk_own J = c)))
      else false
    | none => false
  | _ => true
set_option maxRecDepth 100000 in
theorem zmk_0 : zmchk zm_0 = true := by decide +kernel
set_option maxRecDepth 100000 in
theorem zmk_1 : zmchk zm_1 = true := by decide +kernel
set_option maxRecDepth 100000 in
theorem zmk_2 : zmchk zm_2 = true := by decide +kernel
set_option maxRecDepth 100000 in
theorem zmk_3 : zmchk zm_3 = true := by decide +kernel
set_option maxRecDepth 100000 in
theorem zmk_4 : zmchk zm_4 = true := by decide +kernel
set_option maxRecDepth 100000 in
theorem zmk_5 : zmchk zm_5 = true := by decide +kernel
set_option maxRecDepth 100000 in
theorem zmk_6 : zmchk zm_6 = true := by decide +kernel
set_option maxRecDepth 100000 in
theorem zmk_7 : zmchk zm_7 = true := by decide +kernel
set_option maxRecDepth 100000 in
theorem zmk_8 : zmchk zm_8 = true := by decide +kernel
set_option maxRecDepth 100000 in
theorem zmk_9 : zmchk zm_9 = true := by decide +kernel
set_option maxRecDepth 100000 in
theorem zmk_10 : zmchk zm_10 = true := by decide +kernel
set_option maxRecDepth 100000 in
theorem zmk_11 : zmchk zm_11 = true := by decide +kernel
set_option maxRecDepth 100000 in
theorem zmk_12 : zmchk zm_12 = true := by decide +kernel
set_option maxRecDepth 100000 in
theorem zmk_13 : zmchk zm_13 = true := by decide +kernel
set_option maxRecDepth 100000 in
theorem zmk_14 : zmchk zm_14 = true := by decide +kernel
set_option maxRecDepth 100000 in
theorem zmk_15 : zmchk zm_15 = true := by decide +kernel
set_option maxRecDepth 100000 in
theorem zmk_16 : zmchk zm_16 = true := by decide +kernel
set_option maxRecDepth 100000 in
theorem zmk_17 : zmchk zm_17 = true := by decide +kernel
set_option maxRecDepth 100000 in
theorem zmk_18 : zmchk zm_18 = true := by decide +kernel
set_option maxRecDepth 100000 in
theorem zmk_19 : zmchk zm_19 = true := by decide +kernel
set_option maxRecDepth 100000 in
theorem zmk_20 : zmchk zm_20 = true := by decide +kernel
set_option maxRecDepth 100000 in
theorem zmk_21 : zmchk zm_21 = true := by decide +kernel
set_option maxRecDepth 100000 in
theorem zmk_22 : zmchk zm_22 = true := by decide +kernel
set_option maxRecDepth 100000 in
theorem zmk_23 : zmchk zm_23 = true := by decide +kernel
set_option maxRecDepth 100000 in
theorem zmk_24 : zmchk zm_24 = true := by decide +kernel
set_option maxRecDepth 100000 in
theorem zmk_25 : zmchk zm_25 = true := by decide +kernel
set_option maxRecDepth 100000 in
theorem zmk_26 : zmchk zm_26 = true := by decide +kernel
set_option maxRecDepth 100000 in
theorem zmk_27 : zmchk zm_27 = true := by decide +kernel
set_option maxRecDepth 100000 in
theorem zmk_28 : zmchk zm_28 = true := by decide +kernel
set_option maxRecDepth 100000 in
theorem zmk_29 : zmchk zm_29 = true := by decide +kernel
set_option maxRecDepth 100000 in
theorem zmk_30 : zmchk zm_30 = true := by decide +kernel
set_option maxRecDepth 100000 in
theorem zmk_31 : zmchk zm_31 = true := by decide +kernel
set_option maxRecDepth 100000 in
theorem zmk_32 : zmchk zm_32 = true := by decide +kernel
set_option maxRecDepth 100000 in
theorem zmk_33 : zmchk zm_33 = true := by decide +kernel
set_option maxRecDepth 100000 in
theorem zmk_34 : zmchk zm_34 = true := by decide +kernel
set_option maxRecDepth 100000 in
theorem zmk_35 : zmchk zm_35 = true := by decide +kernel
set_option maxRecDepth 100000 in
theorem zmk_36 : zmchk zm_36 = true := by decide +kernel
set_option maxRecDepth 100000 in
theorem zmk_37 : zmchk zm_37 = true := by decide +kernel
set_option maxRecDepth 100000 in
theorem zmk_38 : zmchk zm_38 = true := by decide +kernel
set_option maxRecDepth 100000 in
theorem zmk_39 : zmchk zm_39 = true := by decide +kernel
set_option maxRecDepth 100000 in
theorem zmk_40 : zmchk zm_40 = true := by decide +kernel
set_option maxRecDepth 100000 in
theorem zmk_41 : zmchk zm_41 = true := by decide +kernel
set_option maxRecDepth 100000 in
theorem zmk_42 : zmchk zm_42 = true := by decide +kernel
set_option maxRecDepth 100000 in
theorem zmk_43 : zmchk zm_43 = true := by decide +kernel
set_option maxRecDepth 100000 in
theorem zmk_44 : zmchk zm_44 = true := by decide +kernel
set_option maxRecDepth 100000 in
theorem zmk_45 : zmchk zm_45 = true := by decide +kernel
set_option maxRecDepth 100000 in
theorem zmk_46 : zmchk zm_46 = true := by decide +kernel
set_option maxRecDepth 100000 in
theorem zmk_47 : zmchk zm_47 = true := by decide +kernel
set_option maxRecDepth 100000 in
theorem zmk_48 : zmchk zm_48 = true := by decide +kernel
set_option maxRecDepth 100000 in
theorem zmk_49 : zmchk zm_49 = true := by decide +kernel
set_option maxRecDepth 100000 in
theorem zmk_50 : zmchk zm_50 = true := by decide +kernel
set_option maxRecDepth 100000 in
theorem zmk_51 : zmchk zm_51 = true := by decide +kernel
set_option maxRecDepth 100000 in
theorem zmk_52 : zmchk zm_52 = true := by decide +kernel
set_option maxRecDepth 100000 in
theorem zmk_53 : zmchk zm_53 = true := by decide +kernel
set_option maxRecDepth 100000 in
theorem zmk_54 : zmchk zm_54 = true := by decide +kernel
set_option maxRecDepth 100000 in
theorem zmk_55 : zmchk zm_55 = true := by decide +kernel
set_option maxRecDepth 100000 in
theorem zmk_56 : zmchk zm_56 = true := by decide +kernel
set_option maxRecDepth 100000 in
theorem zmk_57 : zmchk zm_57 = true := by decide +kernel
set_option maxRecDepth 100000 in
theorem zmk_58 : zmchk zm_58 = true := by decide +kernel
set_option maxRecDepth 100000 in
theorem zmk_59 : zmchk zm_59 = true := by decide +kernel
set_option maxRecDepth 100000 in
theorem zmk_60 : zmchk zm_60 = true := by decide +kernel
set_option maxRecDepth 100000 in
theorem zmk_61 : zmchk zm_61 = true := by decide +kernel
set_option maxRecDepth 100000 in
theorem zmk_62 : zmchk zm_62 = true := by decide +kernel
set_option maxRecDepth 100000 in
theorem zmk_63 : zmchk zm_63 = true := by decide +kernel
set_option maxRecDepth 100000 in
theorem zmk_64 : zmchk zm_64 = true := by decide +kernel
set_option maxRecDepth 100000 in
theorem zmk_65 : zmchk zm_65 = true := by decide +kernel
set_option maxRecDepth 100000 in
theorem zmk_66 : zmchk zm_66 = true := by decide +kernel
set_option maxRecDepth 100000 in
theorem zmk_67 : zmchk zm_67 = true := by decide +kernel
set_option maxRecDepth 100000 in
theorem zmk_68 : zmchk zm_68 = true := by decide +kernel
set_option maxRecDepth 100000 in
theorem zmk_69 : zmchk zm_69 = true := by decide +kernel
set_option maxRecDepth 100000 in
theorem zmk_70 : zmchk zm_70 = true := by decide +kernel
set_option maxRecDepth 100000 in
theorem zmk_71 : zmchk zm_71 = true := by decide +kernel
set_option maxRecDepth 100000 in
theorem zmk_72 : zmchk zm_72 = true := by decide +kernel
set_option maxRecDepth 100000 in
theorem zmk_73 : zmchk zm_73 = true := by decide +kernel
set_option maxRecDepth 100000 in
theorem zmk_74 : zmchk zm_74 = true := by decide +kernel
set_option maxRecDepth 100000 in
theorem zmk_75 : zmchk zm_75 = true := by decide +kernel
set_option maxRecDepth 100000 in
theorem zmk_76 : zmchk zm_76 = true := by decide +kernel
set_option maxRecDepth 100000 in
theorem zmk_77 : zmchk zm_77 = true := by decide +kernel
set_option maxRecDepth 100000 in
theorem zmk_78 : zmchk zm_78 = true := by decide +kernel
set_option maxRecDepth 100000 in
theorem zmk_79 : zmchk zm_79 = true := by decide +kernel
set_option maxRecDepth 100000 in
theorem zmk_80 : zmchk zm_80 = true := by decide +kernel
set_option maxRecDepth 100000 in
theorem zmk_81 : zmchk zm_81 = true := by decide +kernel
set_option maxRecDepth 100000 in
theorem zmk_82 : zmchk zm_82 = true := by decide +kernel
set_option maxRecDepth 100000 in
theorem zmk_83 : zmchk zm_83 = true := by decide +kernel
set_option maxRecDepth 100000 in
theorem zmk_84 : zmchk zm_84 = true := by decide +kernel
set_option maxRecDepth 100000 in
theorem zmk_85 : zmchk zm_85 = true := by decide +kernel
set_option maxRecDepth 100000 in
theorem zmk_86 : zmchk zm_86 = true := by decide +kernel
set_option maxRecDepth 100000 in
theorem zmk_87 : zmchk zm_87 = true := by decide +kernel
set_option maxRecDepth 100000 in
theorem zmk_88 : zmchk zm_88 = true := by decide +kernel
set_option maxRecDepth 100000 in
theorem zmk_89 : zmchk zm_89 = true := by decide +kernel
set_option maxRecDepth 100000 in
theorem zmk_90 : zmchk zm_90 = true := by decide +kernel
set_option maxRecDepth 100000 in
theorem zmk_91 : zmchk zm_91 = true := by decide +kernel
set_option maxRecDepth 100000 in
theorem zmk_92 : zmchk zm_92 = true := by decide +kernel
set_option maxRecDepth 100000 in
theorem zmk_93 : zmchk zm_93 = true := by decide +kernel
set_option maxRecDepth 100000 in
theorem zmk_94 : zmchk zm_94 = true := by decide +kernel
set_option maxRecDepth 100000 in
theorem zmk_95 : zmchk zm_95 = true := by decide +kernel
set_option maxRecDepth 100000 in
theorem zmk_96 : zmchk zm_96 = true := by decide +kernel
set_option maxRecDepth 100000 in
theorem zmk_97 : zmchk zm_97 = true := by decide +kernel
set_option maxRecDepth 100000 in
theorem zmk_98 : zmchk zm_98 = true := by decide +kernel
set_option maxRecDepth 100000 in
theorem zmk_99 : zmchk zm_99 = true := by decide +kernel
set_option maxRecDepth 100000 in
theorem zmk_100 : zmchk zm_100 = true := by decide +kernel
set_option maxRecDepth 100000 in
theorem zmk_101 : zmchk zm_101 = true := by decide +kernel
set_option maxRecDepth 100000 in
theorem zmk_102 : zmchk zm_102 = true := by decide +kernel
set_option maxRecDepth 100000 in
theorem zmk_103 : zmchk zm_103 = true := by decide +kernel
set_option maxRecDepth 100000 in
theorem zmk_104 : zmchk zm_104 = true := by decide +kernel
set_option maxRecDepth 100000 in
theorem zmk_105 : zmchk zm_105 = true := by decide +kernel
set_option maxRecDepth 100000 in
theorem zmk_106 : zmchk zm_106 = true := by decide +kernel
set_option maxRecDepth 100000 in
theorem zmk_107 : zmchk zm_107 = true := by decide +kernel
set_option maxRecDepth 100000 in
theorem zmk_108 : zmchk zm_108 = true := by decide +kernel
set_option maxRecDepth 100000 in
theorem zmk_109 : zmchk zm_109 = true := by decide +kernel
set_option maxRecDepth 100000 in
theorem zmk_110 : zmchk zm_110 = true := by decide +kernel
set_option maxRecDepth 100000 in
theorem zmk_111 : zmchk zm_111 = true := by decide +kernel
set_option maxRecDepth 100000 in
theorem zmk_112 : zmchk zm_112 = true := by decide +kernel
set_option maxRecDepth 100000 in
theorem zmk_113 : zmchk zm_113 = true := by decide +kernel
set_option maxRecDepth 100000 in
theorem zmk_114 : zmchk zm_114 = true := by decide +kernel
set_option maxRecDepth 100000 in
theorem zmk_115 : zmchk zm_115 = true := by decide +kernel
set_option maxRecDepth 100000 in
theorem zmk_116 : zmchk zm_116 = true := by decide +kernel
set_option maxRecDepth 100000 in
theorem zmk_117 : zmchk zm_117 = true := by decide +kernel
set_option maxRecDepth 100000 in
theorem zmk_118 : zmchk zm_118 = true := by decide +kernel
set_option maxRecDepth 100000 in
theorem zmk_119 : zmchk zm_119 = true := by decide +kernel
set_option maxRecDepth 100000 in
theorem zmk_120 : zmchk zm_120 = true := by decide +kernel
set_option maxRecDepth 100000 in
theorem zmk_121 : zmchk zm_121 = true := by decide +kernel
set_option maxRecDepth 100000 in
theorem zmk_122 : zmchk zm_122 = true := by decide +kernel
set_option maxRecDepth 100000 in
theorem zmk_123 : zmchk zm_123 = true := by decide +kernel
set_option maxRecDepth 100000 in
theorem zmk_124 : zmchk zm_124 = true := by decide +kernel
set_option maxRecDepth 100000 in
theorem zmk_125 : zmchk zm_125 = true := by decide +kernel
set_option maxRecDepth 100000 in
theorem zmk_126 : zmchk zm_126 = true := by decide +kernel
set_option maxRecDepth 100000 in
theorem zmk_127 : zmchk zm_127 = true := by decide +kernel
set_option maxRecDepth 100000 in
theorem zmk_128 : zmchk zm_128 = true := by decide +kernel
set_option maxRecDepth 100000 in
theorem zmk_129 : zmchk zm_129 = true := by decide +kernel
set_option maxRecDepth 100000 in
theorem zmk_130 : zmchk zm_130 = true := by decide +kernel
set_option maxRecDepth 100000 in
theorem zmk_131 : zmchk zm_131 = true := by decide +kernel
set_option maxRecDepth 100000 in
theorem zmk_132 : zmchk zm_132 = true := by decide +kernel
set_option maxRecDepth 100000 in
theorem zmk_133 : zmchk zm_133 = true := by decide +kernel
set_option maxRecDepth 100000 in
theorem zmk_134 : zmchk zm_134 = true := by decide +kernel
set_option maxRecDepth 100000 in
theorem zmk_135 : zmchk zm_135 = true := by decide +kernel
set_option maxRecDepth 100000 in
theorem zmk_136 : zmchk zm_136 = true := by decide +kernel
set_option maxRecDepth 100000 in
theorem zmk_137 : zmchk zm_137 = true := by decide +kernel
set_option maxRecDepth 100000 in
theorem zmk_138 : zmchk zm_138 = true := by decide +kernel
set_option maxRecDepth 100000 in
theorem zmk_139 : zmchk zm_139 = true := by decide +kernel
set_option maxRecDepth 100000 in
theorem zmk_140 : zmchk zm_140 = true := by decide +kernel
set_option maxRecDepth 100000 in
theorem zmk_141 : zmchk zm_141 = true := by decide +kernel
set_option maxRecDepth 100000 in
theorem zmk_142 : zmchk zm_142 = true := by decide +kernel
set_option maxRecDepth 100000 in
theorem zmk_143 : zmchk zm_143 = true := by decide +kernel
set_option maxRecDepth 100000 in
theorem zmk_144 : zmchk zm_144 = true := by decide +kernel
set_option maxRecDepth 100000 in
theorem zmk_145 : zmchk zm_145 = true := by decide +kernel
set_option maxRecDepth 100000 in
theorem zmk_146 : zmchk zm_146 = true := by decide +kernel
set_option maxRecDepth 100000 in
theorem zmk_147 : zmchk zm_147 = true := by decide +kernel
set_option maxRecDepth 100000 in
theorem zmk_148 : zmchk zm_148 = true := by decide +kernel
set_option maxRecDepth 100000 in
theorem zmk_149 : zmchk zm_149 = true := by decide +kernel
set_option maxRecDepth 100000 in
theorem zmk_150 : zmchk zm_150 = true := by decide +kernel
theorem zmkk_0 : ∀ K ∈ zmt_0, zmchk K = true ∨ K = zm_151 := List.forall_mem_cons.mpr ⟨Or.inl zmk_0, List.forall_mem_cons.mpr ⟨Or.inl zmk_1, List.forall_mem_cons.mpr ⟨Or.inl zmk_2, List.forall_mem_cons.mpr ⟨Or.inl zmk_3, List.forall_mem_cons.mpr ⟨Or.inl zmk_4, List.forall_mem_cons.mpr ⟨Or.inl zmk_5, List.forall_mem_cons.mpr ⟨Or.inl zmk_6, List.forall_mem_cons.mpr ⟨Or.inl zmk_7, List.forall_mem_cons.mpr ⟨Or.inl zmk_8, List.forall_mem_cons.mpr ⟨Or.inl zmk_9, List.forall_mem_cons.mpr ⟨Or.inl zmk_10, List.forall_mem_cons.mpr ⟨Or.inl zmk_11, List.forall_mem_cons.mpr ⟨Or.inl zmk_12, List.forall_mem_cons.mpr ⟨Or.inl zmk_13, List.forall_mem_cons.mpr ⟨Or.inl zmk_14, List.forall_mem_cons.mpr ⟨Or.inl zmk_15, List.forall_mem_cons.mpr ⟨Or.inl zmk_16, List.forall_mem_cons.mpr ⟨Or.inl zmk_17, List.forall_mem_cons.mpr ⟨Or.inl zmk_18, List.forall_mem_cons.mpr ⟨Or.inl zmk_19, (fun _ h => absurd h List.not_mem_nil)⟩⟩⟩⟩⟩⟩⟩⟩⟩⟩⟩⟩⟩⟩⟩⟩⟩⟩⟩⟩
theorem zmkk_1 : ∀ K ∈ zmt_1, zmchk K = true ∨ K = zm_151 := List.forall_mem_cons.mpr ⟨Or.inl zmk_20, List.forall_mem_cons.mpr ⟨Or.inl zmk_21, List.forall_mem_cons.mpr ⟨Or.inl zmk_22, List.forall_mem_cons.mpr ⟨Or.inl zmk_23, List.forall_mem_cons.mpr ⟨Or.inl zmk_24, List.forall_mem_cons.mpr ⟨Or.inl zmk_25, List.forall_mem_cons.mpr ⟨Or.inl zmk_26, List.forall_mem_cons.mpr ⟨Or.inl zmk_27, List.forall_mem_cons.mpr ⟨Or.inl zmk_28, List.forall_mem_cons.mpr ⟨Or.inl zmk_29, List.forall_mem_cons.mpr ⟨Or.inl zmk_30, List.forall_mem_cons.mpr ⟨Or.inl zmk_31, List.forall_mem_cons.mpr ⟨Or.inl zmk_32, List.forall_mem_cons.mpr ⟨Or.inl zmk_33, List.forall_mem_cons.mpr ⟨Or.inl zmk_34, List.forall_mem_cons.mpr ⟨Or.inl zmk_35, List.forall_mem_cons.mpr ⟨Or.inl zmk_36, List.forall_mem_cons.mpr ⟨Or.inl zmk_37, List.forall_mem_cons.mpr ⟨Or.inl zmk_38, List.forall_mem_cons.mpr ⟨Or.inl zmk_39, (fun _ h => absurd h List.not_mem_nil)⟩⟩⟩⟩⟩⟩⟩⟩⟩⟩⟩⟩⟩⟩⟩⟩⟩⟩⟩⟩
theorem zmkk_2 : ∀ K ∈ zmt_2, zmchk K = true ∨ K = zm_151 := List.forall_mem_cons.mpr ⟨Or.inl zmk_40, List.forall_mem_cons.mpr ⟨Or.inl zmk_41, List.forall_mem_cons.mpr ⟨Or.inl zmk_42, List.forall_mem_cons.mpr ⟨Or.inl zmk_43, List.forall_mem_cons.mpr ⟨Or.inl zmk_44, List.forall_mem_cons.mpr ⟨Or.inl zmk_45, List.forall_mem_cons.mpr ⟨Or.inl zmk_46, List.forall_mem_cons.mpr ⟨Or.inl zmk_47, List.forall_mem_cons.mpr ⟨Or.inl zmk_48, List.forall_mem_cons.mpr ⟨Or.inl zmk_49, List.forall_mem_cons.mpr ⟨Or.inl zmk_50, List.forall_mem_cons.mpr ⟨Or.inl zmk_51, List.forall_mem_cons.mpr ⟨Or.inl zmk_52, List.forall_mem_cons.mpr ⟨Or.inl zmk_53, List.forall_mem_cons.mpr ⟨Or.inl zmk_54, List.forall_mem_cons.mpr ⟨Or.inl zmk_55, List.forall_mem_cons.mpr ⟨Or.inl zmk_56, List.forall_mem_cons.mpr ⟨Or.inl zmk_57, List.forall_mem_cons.mpr ⟨Or.inl zmk_58, List.forall_mem_cons.mpr ⟨Or.inl zmk_59, (fun _ h => absurd h List.not_mem_nil)⟩⟩⟩⟩⟩⟩⟩⟩⟩⟩⟩⟩⟩⟩⟩⟩⟩⟩⟩⟩
theorem zmkk_3 : ∀ K ∈ zmt_3, zmchk K = true ∨ K = zm_151 := List.forall_mem_cons.mpr ⟨Or.inl zmk_60, List.forall_mem_cons.mpr ⟨Or.inl zmk_61, List.forall_mem_cons.mpr ⟨Or.inl zmk_62, List.forall_mem_cons.mpr ⟨Or.inl zmk_63, List.forall_mem_cons.mpr ⟨Or.inl zmk_64, List.forall_mem_cons.mpr ⟨Or.inl zmk_65, List.forall_mem_cons.mpr ⟨Or.inl zmk_66, List.forall_mem_cons.mpr ⟨Or.inl zmk_67, List.forall_mem_cons.mpr ⟨Or.inl zmk_68, List.forall_mem_cons.mpr ⟨Or.inl zmk_69, List.forall_mem_cons.mpr ⟨Or.inl zmk_70, List.forall_mem_cons.mpr ⟨Or.inl zmk_71, List.forall_mem_cons.mpr ⟨Or.inl zmk_72, List.forall_mem_cons.mpr ⟨Or.inl zmk_73, List.forall_mem_cons.mpr ⟨Or.inl zmk_74, List.forall_mem_cons.mpr ⟨Or.inl zmk_75, List.forall_mem_cons.mpr ⟨Or.inl zmk_76, List.forall_mem_cons.mpr ⟨Or.inl zmk_77, List.forall_mem_cons.mpr ⟨Or.inl zmk_78, List.forall_mem_cons.mpr ⟨Or.inl zmk_79, (fun _ h => absurd h List.not_mem_nil)⟩⟩⟩⟩⟩⟩⟩⟩⟩⟩⟩⟩⟩⟩⟩⟩⟩⟩⟩⟩
theorem zmkk_4 : ∀ K ∈ zmt_4, zmchk K = true ∨ K = zm_151 := List.forall_mem_cons.mpr ⟨Or.inl zmk_80, List.forall_mem_cons.mpr ⟨Or.inl zmk_81, List.forall_mem_cons.mpr ⟨Or.inl zmk_82, List.forall_mem_cons.mpr ⟨Or.inl zmk_83, List.forall_mem_cons.mpr ⟨Or.inl zmk_84, List.forall_mem_cons.mpr ⟨Or.inl zmk_85, List.forall_mem_cons.mpr ⟨Or.inl zmk_86, List.forall_mem_cons.mpr ⟨Or.inl zmk_87, List.forall_mem_cons.mpr ⟨Or.inl zmk_88, List.forall_mem_cons.mpr ⟨Or.inl zmk_89, List.forall_mem_cons.mpr ⟨Or.inl zmk_90, List.forall_mem_cons.mpr ⟨Or.inl zmk_91, List.forall_mem_cons.mpr ⟨Or.inl zmk_92, List.forall_mem_cons.mpr ⟨Or.inl zmk_93, List.forall_mem_cons.mpr ⟨Or.inl zmk_94, List.forall_mem_cons.mpr ⟨Or.inl zmk_95, List.forall_mem_cons.mpr ⟨Or.inl zmk_96, List.forall_mem_cons.mpr ⟨Or.inl zmk_97, List.forall_mem_cons.mpr ⟨Or.inl zmk_98, List.forall_mem_cons.mpr ⟨Or.inl zmk_99, (fun _ h => absurd h List.not_mem_nil)⟩⟩⟩⟩⟩⟩⟩⟩⟩⟩⟩⟩⟩⟩⟩⟩⟩⟩⟩⟩
theorem zmkk_5 : ∀ K ∈ zmt_5, zmchk K = true ∨ K = zm_151 := List.forall_mem_cons.mpr ⟨Or.inl zmk_100, List.forall_mem_cons.mpr ⟨Or.inl zmk_101, List.forall_mem_cons.mpr ⟨Or.inl zmk_102, List.forall_mem_cons.mpr ⟨Or.inl zmk_103, List.forall_mem_cons.mpr ⟨Or.inl zmk_104, List.forall_mem_cons.mpr ⟨Or.inl zmk_105, List.forall_mem_cons.mpr ⟨Or.inl zmk_106, List.forall_mem_cons.mpr ⟨Or.inl zmk_107, List.forall_mem_cons.mpr ⟨Or.inl zmk_108, List.forall_mem_cons.mpr ⟨Or.inl zmk_109, List.forall_mem_cons.mpr ⟨Or.inl zmk_110, List.forall_mem_cons.mpr ⟨Or.inl zmk_111, List.forall_mem_cons.mpr ⟨Or.inl zmk_112, List.forall_mem_cons.mpr ⟨Or.inl zmk_113, List.forall_mem_cons.mpr ⟨Or.inl zmk_114, List.forall_mem_cons.mpr ⟨Or.inl zmk_115, List.forall_mem_cons.mpr ⟨Or.inl zmk_116, List.forall_mem_cons.mpr ⟨Or.inl zmk_117, List.forall_mem_cons.mpr ⟨Or.inl zmk_118, List.forall_mem_cons.mpr ⟨Or.inl zmk_119, (fun _ h => absurd h List.not_mem_nil)⟩⟩⟩⟩⟩⟩⟩⟩⟩⟩⟩⟩⟩⟩⟩⟩⟩⟩⟩⟩
theorem zmkk_6 : ∀ K ∈ zmt_6, zmchk K = true ∨ K = zm_151 := List.forall_mem_cons.mpr ⟨Or.inl zmk_120, List.forall_mem_cons.mpr ⟨Or.inl zmk_121, List.forall_mem_cons.mpr ⟨Or.inl zmk_122, List.forall_mem_cons.mpr ⟨Or.inl zmk_123, List.forall_mem_cons.mpr ⟨Or.inl zmk_124, List.forall_mem_cons.mpr ⟨Or.inl zmk_125, List.forall_mem_cons.mpr ⟨Or.inl zmk_126, List.forall_mem_cons.mpr ⟨Or.inl zmk_127, List.forall_mem_cons.mpr ⟨Or.inl zmk_128, List.forall_mem_cons.mpr ⟨Or.inl zmk_129, List.forall_mem_cons.mpr ⟨Or.inl zmk_130, List.forall_mem_cons.mpr ⟨Or.inl zmk_131, List.forall_mem_cons.mpr ⟨Or.inl zmk_132, List.forall_mem_cons.mpr ⟨Or.inl zmk_133, List.forall_mem_cons.mpr ⟨Or.inl zmk_134, List.forall_mem_cons.mpr ⟨Or.inl zmk_135, List.forall_mem_cons.mpr ⟨Or.inl zmk_136, List.forall_mem_cons.mpr ⟨Or.inl zmk_137, List.forall_mem_cons.mpr ⟨Or.inl zmk_138, List.forall_mem_cons.mpr ⟨Or.inl zmk_139, (fun _ h => absurd h List.not_mem_nil)⟩⟩⟩⟩⟩⟩⟩⟩⟩⟩⟩⟩⟩⟩⟩⟩⟩⟩⟩⟩
theorem zmkk_7 : ∀ K ∈ zmt_7, zmchk K = true ∨ K = zm_151 := List.forall_mem_cons.mpr ⟨Or.inl zmk_140, List.forall_mem_cons.mpr ⟨Or.inl zmk_141, List.forall_mem_cons.mpr ⟨Or.inl zmk_142, List.forall_mem_cons.mpr ⟨Or.inl zmk_143, List.forall_mem_cons.mpr ⟨Or.inl zmk_144, List.forall_mem_cons.mpr ⟨Or.inl zmk_145, List.forall_mem_cons.mpr ⟨Or.inl zmk_146, List.forall_mem_cons.mpr ⟨Or.inl zmk_147, List.forall_mem_cons.mpr ⟨Or.inl zmk_148, List.forall_mem_cons.mpr ⟨Or.inl zmk_149, List.forall_mem_cons.mpr ⟨Or.inl zmk_150, List.forall_mem_cons.mpr ⟨Or.inr rfl, (fun _ h => absurd h List.not_mem_nil)⟩⟩⟩⟩⟩⟩⟩⟩⟩⟩⟩⟩
theorem zmkk : ∀ K ∈ zmt, zmchk K = true ∨ K = zm_151 := by
  unfold zmt
  exact List.forall_mem_append.mpr ⟨zmkk_0, List.forall_mem_append.mpr ⟨zmkk_1, List.forall_mem_append.mpr ⟨zmkk_2, List.forall_mem_append.mpr ⟨zmkk_3, List.forall_mem_append.mpr ⟨zmkk_4, List.forall_mem_append.mpr ⟨zmkk_5, List.forall_mem_append.mpr ⟨zmkk_6, zmkk_7⟩⟩⟩⟩⟩⟩⟩
set_option maxRecDepth 100000 in
theorem zcc_ok_0 : zpl_0.all (fun q => zcchk 0 q.2) = true := by decide +kernel
set_option maxRecDepth 100000 in
theorem zcc_ok_1 : zpl_1.all (fun q => zcchk 1 q.2) = true := by decide +kernel
set_option maxRecDepth 100000 in
theorem zcc_ok_2 : zpl_2.all (fun q => zcchk 2 q.2) = true := by decide +kernel
set_option maxRecDepth 100000 in
theorem zcc_ok_3 : zpl_3.all (fun q => zcchk 3 q.2) = true := by decide +kernel
set_option maxRecDepth 100000 in
theorem zcc_ok_4 : zpl_4.all (fun q => zcchk 4 q.2) = true := by decide +kernel
set_option maxRecDepth 100000 in
theorem zcc_ok_5 : zpl_5.all (fun q => zcchk 5 q.2) = true := by decide +kernel
set_option maxRecDepth 100000 in
theorem zcc_ok_6 : zpl_6.all (fun q => zcchk 6 q.2) = true := by decide +kernel
set_option maxRecDepth 100000 in
theorem zcc_ok_7 : zpl_7.all (fun q => zcchk 7 q.2) = true := by decide +kernel
set_option maxRecDepth 100000 in
theorem zcc_ok_8 : zpl_8.all (fun q => zcchk 8 q.2) = true := by decide +kernel
set_option maxRecDepth 100000 in
theorem zcc_ok_9 : zpl_9.all (fun q => zcchk 9 q.2) = true := by decide +kernel
set_option maxRecDepth 100000 in
theorem zcc_ok_10 : zpl_10.all (fun q => zcchk 10 q.2) = true := by decide +kernel
set_option maxRecDepth 100000 in
theorem zcc_ok_11 : zpl_11.all (fun q => zcchk 11 q.2) = true := by decide +kernel
theorem zcc_ok {c ix : Nat} {e : zP} (h : zpool c ix = some e) : zcchk c e = true := by
  have hm := zlk_mem h
  match c, hm with
  | 0, hm => exact List.all_eq_true.mp zcc_ok_0 _ hm
  | 1, hm => exact List.all_eq_true.mp zcc_ok_1 _ hm
  | 2, hm => exact List.all_eq_true.mp zcc_ok_2 _ hm
  | 3, hm => exact List.all_eq_true.mp zcc_ok_3 _ hm
  | 4, hm => exact List.all_eq_true.mp zcc_ok_4 _ hm
  | 5, hm => exact List.all_eq_true.mp zcc_ok_5 _ hm
  | 6, hm => exact List.all_eq_true.mp zcc_ok_6 _ hm
  | 7, hm => exact List.all_eq_true.mp zcc_ok_7 _ hm
  | 8, hm => exact List.all_eq_true.mp zcc_ok_8 _ hm
  | 9, hm => exact List.all_eq_true.mp zcc_ok_9 _ hm
  | 10, hm => exact List.all_eq_true.mp zcc_ok_10 _ hm
  | 11, hm => exact List.all_eq_true.mp zcc_ok_11 _ hm
  | c + 12, hm => exact absurd hm (by simp [zpls])
/-- what a place that throws needs of the tables -/
def ztnames : List String := ["java/lang/RuntimeException", "java/lang/Exception"]
def ztchk (K : zI) (t : Nat × Nat × Nat × Bool × Nat × Nat × String × Nat × Nat) : Bool := match t with
  | (pc, e, ik, wide, is, ic, tx, p1, p2) => decide (zk_own K = 9) && (decide (12 ≤ e ∧ e < 15) && (decide (decode (zk_by K) pc = .ok (.new ik, 3)) && (decide (decode (zk_by K) (pc + 3) = .ok (.dup, 1)) && ((if wide = true then decide (decode (zk_by K) (pc + 4) = .ok (.ldc_w is, 3)) && (decide (decode (zk_by K) (pc + 7) = .ok (.invokespecial ic, 3)) && decide (decode (zk_by K) (pc + 10) = .ok (.athrow, 1)))
    else decide (decode (zk_by K) (pc + 4) = .ok (.ldc is, 2)) && (decide (decode (zk_by K) (pc + 6) = .ok (.invokespecial ic, 3)) && decide (decode (zk_by K) (pc + 9) = .ok (.athrow, 1)))) &&
    (decide (lw_tbl[p1]? = some (.classLink (zcn 9) ik (zcn e))) && (decide (lw_tbl[p2]? = some (.stringRef (zcn 9) is tx)) && decide (ic = if e = 12 then 165 else if e = 13 then 81 else 91)))))))
set_option maxRecDepth 100000 in
theorem zth_41 : (zk_ts zm_41).all (ztchk zm_41) = true := by decide +kernel
set_option maxRecDepth 100000 in
theorem zth_42 : (zk_ts zm_42).all (ztchk zm_42) = true := by decide +kernel
set_option maxRecDepth 100000 in
theorem zth_46 : (zk_ts zm_46).all (ztchk zm_46) = true := by decide +kernel
set_option maxRecDepth 100000 in
theorem zth_50 : (zk_ts zm_50).all (ztchk zm_50) = true := by decide +kernel
set_option maxRecDepth 100000 in
theorem zth_52 : (zk_ts zm_52).all (ztchk zm_52) = true := by decide +kernel
set_option maxRecDepth 100000 in
theorem zth_56 : (zk_ts zm_56).all (ztchk zm_56) = true := by decide +kernel
set_option maxRecDepth 100000 in
theorem zth_57 : (zk_ts zm_57).all (ztchk zm_57) = true := by decide +kernel
set_option maxRecDepth 100000 in
theorem zth_64 : (zk_ts zm_64).all (ztchk zm_64) = true := by decide +kernel
set_option maxRecDepth 100000 in
theorem zth_66 : (zk_ts zm_66).all (ztchk zm_66) = true := by decide +kernel
set_option maxRecDepth 100000 in
theorem zth_73 : (zk_ts zm_73).all (ztchk zm_73) = true := by decide +kernel
set_option maxRecDepth 100000 in
theorem zth_74 : (zk_ts zm_74).all (ztchk zm_74) = true := by decide +kernel
set_option maxRecDepth 100000 in
theorem zth_75 : (zk_ts zm_75).all (ztchk zm_75) = true := by decide +kernel
set_option maxRecDepth 100000 in
theorem zth_76 : (zk_ts zm_76).all (ztchk zm_76) = true := by decide +kernel
set_option maxRecDepth 100000 in
theorem zth_77 : (zk_ts zm_77).all (ztchk zm_77) = true := by decide +kernel
set_option maxRecDepth 100000 in
theorem zth_78 : (zk_ts zm_78).all (ztchk zm_78) = true := by decide +kernel
set_option maxRecDepth 100000 in
theorem zth_79 : (zk_ts zm_79).all (ztchk zm_79) = true := by decide +kernel
theorem zthg_0 : ∀ K ∈ zmt_0, (zk_ts K).all (ztchk K) = true := List.forall_mem_cons.mpr ⟨rfl, List.forall_mem_cons.mpr ⟨rfl, List.forall_mem_cons.mpr ⟨rfl, List.forall_mem_cons.mpr ⟨rfl, List.forall_mem_cons.mpr ⟨rfl, List.forall_mem_cons.mpr ⟨rfl, List.forall_mem_cons.mpr ⟨rfl, List.forall_mem_cons.mpr ⟨rfl, List.forall_mem_cons.mpr ⟨rfl, List.forall_mem_cons.mpr ⟨rfl, List.forall_mem_cons.mpr ⟨rfl, List.forall_mem_cons.mpr ⟨rfl, List.forall_mem_cons.mpr ⟨rfl, List.forall_mem_cons.mpr ⟨rfl, List.forall_mem_cons.mpr ⟨rfl, List.forall_mem_cons.mpr ⟨rfl, List.forall_mem_cons.mpr ⟨rfl, List.forall_mem_cons.mpr ⟨rfl, List.forall_mem_cons.mpr ⟨rfl, List.forall_mem_cons.mpr ⟨rfl, (fun _ h => absurd h List.not_mem_nil)⟩⟩⟩⟩⟩⟩⟩⟩⟩⟩⟩⟩⟩⟩⟩⟩⟩⟩⟩⟩
theorem zthg_1 : ∀ K ∈ zmt_1, (zk_ts K).all (ztchk K) = true := List.forall_mem_cons.mpr ⟨rfl, List.forall_mem_cons.mpr ⟨rfl, List.forall_mem_cons.mpr ⟨rfl, List.forall_mem_cons.mpr ⟨rfl, List.forall_mem_cons.mpr ⟨rfl, List.forall_mem_cons.mpr ⟨rfl, List.forall_mem_cons.mpr ⟨rfl, List.forall_mem_cons.mpr ⟨rfl, List.forall_mem_cons.mpr ⟨rfl, List.forall_mem_cons.mpr ⟨rfl, List.forall_mem_cons.mpr ⟨rfl, List.forall_mem_cons.mpr ⟨rfl, List.forall_mem_cons.mpr ⟨rfl, List.forall_mem_cons.mpr ⟨rfl, List.forall_mem_cons.mpr ⟨rfl, List.forall_mem_cons.mpr ⟨rfl, List.forall_mem_cons.mpr ⟨rfl, List.forall_mem_cons.mpr ⟨rfl, List.forall_mem_cons.mpr ⟨rfl, List.forall_mem_cons.mpr ⟨rfl, (fun _ h => absurd h List.not_mem_nil)⟩⟩⟩⟩⟩⟩⟩⟩⟩⟩⟩⟩⟩⟩⟩⟩⟩⟩⟩⟩
theorem zthg_2 : ∀ K ∈ zmt_2, (zk_ts K).all (ztchk K) = true := List.forall_mem_cons.mpr ⟨rfl, List.forall_mem_cons.mpr ⟨zth_41, List.forall_mem_cons.mpr ⟨zth_42, List.forall_mem_cons.mpr ⟨rfl, List.forall_mem_cons.mpr ⟨rfl, List.forall_mem_cons.mpr ⟨rfl, List.forall_mem_cons.mpr ⟨zth_46, List.forall_mem_cons.mpr ⟨rfl, List.forall_mem_cons.mpr ⟨rfl, List.forall_mem_cons.mpr ⟨rfl, List.forall_mem_cons.mpr ⟨zth_50, List.forall_mem_cons.mpr ⟨rfl, List.forall_mem_cons.mpr ⟨zth_52, List.forall_mem_cons.mpr ⟨rfl, List.forall_mem_cons.mpr ⟨rfl, List.forall_mem_cons.mpr ⟨rfl, List.forall_mem_cons.mpr ⟨zth_56, List.forall_mem_cons.mpr ⟨zth_57, List.forall_mem_cons.mpr ⟨rfl, List.forall_mem_cons.mpr ⟨rfl, (fun _ h => absurd h List.not_mem_nil)⟩⟩⟩⟩⟩⟩⟩⟩⟩⟩⟩⟩⟩⟩⟩⟩⟩⟩⟩⟩
theorem zthg_3 : ∀ K ∈ zmt_3, (zk_ts K).all (ztchk K) = true := List.forall_mem_cons.mpr ⟨rfl, List.forall_mem_cons.mpr ⟨rfl, List.forall_mem_cons.mpr ⟨rfl, List.forall_mem_cons.mpr ⟨rfl, List.forall_mem_cons.mpr ⟨zth_64, List.forall_mem_cons.mpr ⟨rfl, List.forall_mem_cons.mpr ⟨zth_66, List.forall_mem_cons.mpr ⟨rfl, List.forall_mem_cons.mpr ⟨rfl, List.forall_mem_cons.mpr ⟨rfl, List.forall_mem_cons.mpr ⟨rfl, List.forall_mem_cons.mpr ⟨rfl, List.forall_mem_cons.mpr ⟨rfl, List.forall_mem_cons.mpr ⟨zth_73, List.forall_mem_cons.mpr ⟨zth_74, List.forall_mem_cons.mpr ⟨zth_75, List.forall_mem_cons.mpr ⟨zth_76, List.forall_mem_cons.mpr ⟨zth_77, List.forall_mem_cons.mpr ⟨zth_78, List.forall_mem_cons.mpr ⟨zth_79, (fun _ h => absurd h List.not_mem_nil)⟩⟩⟩⟩⟩⟩⟩⟩⟩⟩⟩⟩⟩⟩⟩⟩⟩⟩⟩⟩
theorem zthg_4 : ∀ K ∈ zmt_4, (zk_ts K).all (ztchk K) = true := List.forall_mem_cons.mpr ⟨rfl, List.forall_mem_cons.mpr ⟨rfl, List.forall_mem_cons.mpr ⟨rfl, List.forall_mem_cons.mpr ⟨rfl, List.forall_mem_cons.mpr ⟨rfl, List.forall_mem_cons.mpr ⟨rfl, List.forall_mem_cons.mpr ⟨rfl, List.forall_mem_cons.mpr ⟨rfl, List.forall_mem_cons.mpr ⟨rfl, List.forall_mem_cons.mpr ⟨rfl, List.forall_mem_cons.mpr ⟨rfl, List.forall_mem_cons.mpr ⟨rfl, List.forall_mem_cons.mpr ⟨rfl, List.forall_mem_cons.mpr ⟨rfl, List.forall_mem_cons.mpr ⟨rfl, List.forall_mem_cons.mpr ⟨rfl, List.forall_mem_cons.mpr ⟨rfl, List.forall_mem_cons.mpr ⟨rfl, List.forall_mem_cons.mpr ⟨rfl, List.forall_mem_cons.mpr ⟨rfl, (fun _ h => absurd h List.not_mem_nil)⟩⟩⟩⟩⟩⟩⟩⟩⟩⟩⟩⟩⟩⟩⟩⟩⟩⟩⟩⟩
theorem zthg_5 : ∀ K ∈ zmt_5, (zk_ts K).all (ztchk K) = true := List.forall_mem_cons.mpr ⟨rfl, List.forall_mem_cons.mpr ⟨rfl, List.forall_mem_cons.mpr ⟨rfl, List.forall_mem_cons.mpr ⟨rfl, List.forall_mem_cons.mpr ⟨rfl, List.forall_mem_cons.mpr ⟨rfl, List.forall_mem_cons.mpr ⟨rfl, List.forall_mem_cons.mpr ⟨rfl, List.forall_mem_cons.mpr ⟨rfl, List.forall_mem_cons.mpr ⟨rfl, List.forall_mem_cons.mpr ⟨rfl, List.forall_mem_cons.mpr ⟨rfl, List.forall_mem_cons.mpr ⟨rfl, List.forall_mem_cons.mpr ⟨rfl, List.forall_mem_cons.mpr ⟨rfl, List.forall_mem_cons.mpr ⟨rfl, List.forall_mem_cons.mpr ⟨rfl, List.forall_mem_cons.mpr ⟨rfl, List.forall_mem_cons.mpr ⟨rfl, List.forall_mem_cons.mpr ⟨rfl, (fun _ h => absurd h List.not_mem_nil)⟩⟩⟩⟩⟩⟩⟩⟩⟩⟩⟩⟩⟩⟩⟩⟩⟩⟩⟩⟩
theorem zthg_6 : ∀ K ∈ zmt_6, (zk_ts K).all (ztchk K) = true := List.forall_mem_cons.mpr ⟨rfl, List.forall_mem_cons.mpr ⟨rfl, List.forall_mem_cons.mpr ⟨rfl, List.forall_mem_cons.mpr ⟨rfl, List.forall_mem_cons.mpr ⟨rfl, List.forall_mem_cons.mpr ⟨rfl, List.forall_mem_cons.mpr ⟨rfl, List.forall_mem_cons.mpr ⟨rfl, List.forall_mem_cons.mpr ⟨rfl, List.forall_mem_cons.mpr ⟨rfl, List.forall_mem_cons.mpr ⟨rfl, List.forall_mem_cons.mpr ⟨rfl, List.forall_mem_cons.mpr ⟨rfl, List.forall_mem_cons.mpr ⟨rfl, List.forall_mem_cons.mpr ⟨rfl, List.forall_mem_cons.mpr ⟨rfl, List.forall_mem_cons.mpr ⟨rfl, List.forall_mem_cons.mpr ⟨rfl, List.forall_mem_cons.mpr ⟨rfl, List.forall_mem_cons.mpr ⟨rfl, (fun _ h => absurd h List.not_mem_nil)⟩⟩⟩⟩⟩⟩⟩⟩⟩⟩⟩⟩⟩⟩⟩⟩⟩⟩⟩⟩
theorem zthg_7 : ∀ K ∈ zmt_7, (zk_ts K).all (ztchk K) = true := List.forall_mem_cons.mpr ⟨rfl, List.forall_mem_cons.mpr ⟨rfl, List.forall_mem_cons.mpr ⟨rfl, List.forall_mem_cons.mpr ⟨rfl, List.forall_mem_cons.mpr ⟨rfl, List.forall_mem_cons.mpr ⟨rfl, List.forall_mem_cons.mpr ⟨rfl, List.forall_mem_cons.mpr ⟨rfl, List.forall_mem_cons.mpr ⟨rfl, List.forall_mem_cons.mpr ⟨rfl, List.forall_mem_cons.mpr ⟨rfl, List.forall_mem_cons.mpr ⟨rfl, (fun _ h => absurd h List.not_mem_nil)⟩⟩⟩⟩⟩⟩⟩⟩⟩⟩⟩⟩
theorem zthk : ∀ K ∈ zmt, (zk_ts K).all (ztchk K) = true := by
  unfold zmt
  exact List.forall_mem_append.mpr ⟨zthg_0, List.forall_mem_append.mpr ⟨zthg_1, List.forall_mem_append.mpr ⟨zthg_2, List.forall_mem_append.mpr ⟨zthg_3, List.forall_mem_append.mpr ⟨zthg_4, List.forall_mem_append.mpr ⟨zthg_5, List.forall_mem_append.mpr ⟨zthg_6, zthg_7⟩⟩⟩⟩⟩⟩⟩
def zatchk (e ic : Nat) : Bool := (vx_atS (zcn 9) ic (zcn e) ztnames).all (fun w => decide (w ∈ lw_tbl) && ((goodWord w || zNb w) && vx_ot w))
set_option maxRecDepth 100000 in
theorem zat_12 : zatchk 12 165 = true := by decide +kernel
set_option maxRecDepth 100000 in
theorem zat_13 : zatchk 13 81 = true := by decide +kernel
set_option maxRecDepth 100000 in
theorem zat_14 : zatchk 14 91 = true := by decide +kernel
theorem zei_12 : Cond.initialized (zcn 12) ∈ zG := zG_of (i := 57) (by decide +kernel) rfl
theorem zca_12 : Cond.castable (zcn 12) (zcn 12) ∈ lw_tbl := List.mem_of_getElem? (i := 72) (by decide +kernel)
theorem zei_13 : Cond.initialized (zcn 13) ∈ zG := zG_of (i := 58) (by decide +kernel) rfl
theorem zca_13 : Cond.castable (zcn 13) (zcn 13) ∈ lw_tbl := List.mem_of_getElem? (i := 160) (by decide +kernel)
theorem zei_14 : Cond.initialized (zcn 14) ∈ zG := zG_of (i := 59) (by decide +kernel) rfl
theorem zca_14 : Cond.castable (zcn 14) (zcn 14) ∈ lw_tbl := List.mem_of_getElem? (i := 331) (by decide +kernel)
