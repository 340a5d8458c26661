/-! ===== printed by wip/iv/gen_pub5.py: contracts by types as contracts by values ===== -/
def pb_C : List se_C := [sc_0, sc_1, sc_3, sc_7, sc_8, sc_9, sc_10, sc_11, sc_12, sc_14, sc_19, sc_36, sc_37, sc_38, sc_39, sc_40, sc_44, sc_55, sc_56, sc_58, sc_60, sc_121, sc_122, sc_123, sc_124, sc_125, sc_126, sc_128, sc_129, sc_136, sc_139, sc_144, sc_148, sc_150, sc_155, sc_156, sc_157, sc_170, sc_171, sc_176, sc_177, sc_178, sc_179, sc_184, sc_185, sc_186, sc_187, sc_188, sc_189, sc_191, sc_193, sc_194, sc_198, sc_202, sc_204, sc_206, sc_207, sc_208, sc_219, sc_220, sc_223, sc_224, sc_h2, sc_229, sc_231, sc_235, sc_236, sc_237, sc_238, sc_240, sc_242, sc_243, sc_246, sc_247, sc_248, sc_249, sc_250, sc_h5, sc_h6, sc_251, sc_182, sc_183, sc_h1, sc_197, sc_212, sc_209, sc_211, sc_213, sc_214, sc_216, sc_215, sc_218, sc_199, sc_201, sc_205, sc_196, sc_4, sc_5, sc_17, sc_45, sc_46, sc_47, sc_50, sc_51, sc_53, sc_52, sc_54, sc_6]
theorem pb_all {ty : Nat → Option Nat} {kx : Nat} {zs : List mm_Zt} (hO : se_Ok ty (rw_J ty) kx zs) (hz : ∃ tz, zs.find? (fun t => decide (t.1 = "jdk/internal/util/Preconditions" ∧ t.2.1 = "SIOOBE_FORMATTER" ∧ t.2.2.1 = "Ljava/util/function/BiFunction;")) = some tz ∧ tz.2.2.2.category = 1) : ∀ c ∈ pb_C, se_Met ty se_tt (rw_J ty) kx zs c ∧ c.1.2 ≤ 40 := by
  have h0h : se_Met ty se_tt (rw_J ty) kx zs sc_h0 := sm_h0 hz
  have h1h : se_Met ty se_tt (rw_J ty) kx zs sc_h1 := sm_h1
  have h2h : se_Met ty se_tt (rw_J ty) kx zs sc_h2 := sm_h2 hO
  have h4h : se_Met ty se_tt (rw_J ty) kx zs sc_h4 := sm_h4 hO
  have h5h : se_Met ty se_tt (rw_J ty) kx zs sc_h5 := sm_h5 hO
  have h6h : se_Met ty se_tt (rw_J ty) kx zs sc_h6 := sm_h6 hO
  have c0 : se_Met ty se_tt (rw_J ty) kx zs sc_0 := sm_0 hO
  have c1 : se_Met ty se_tt (rw_J ty) kx zs sc_1 := sm_1 hO
  have c2 : se_Met ty se_tt (rw_J ty) kx zs sc_2 := sm_2 hO
  have c3 : se_Met ty se_tt (rw_J ty) kx zs sc_3 := sm_3 hO c2
  have c4 : se_Met ty se_tt (rw_J ty) kx zs sc_4 := sm_4 hO
  have c5 : se_Met ty se_tt (rw_J ty) kx zs sc_5 := sm_5 hO
  have c6 : se_Met ty se_tt (rw_J ty) kx zs sc_6 := sm_6 hO
  have c7 : se_Met ty se_tt (rw_J ty) kx zs sc_7 := sm_7 hO c4 c5 c6
  have c8 : se_Met ty se_tt (rw_J ty) kx zs sc_8 := sm_8 hO
  have c9 : se_Met ty se_tt (rw_J ty) kx zs sc_9 := sm_9 hO c4 c5
  have c10 : se_Met ty se_tt (rw_J ty) kx zs sc_10 := sm_10 hO
  have c11 : se_Met ty se_tt (rw_J ty) kx zs sc_11 := sm_11 hO
  have c12 : se_Met ty se_tt (rw_J ty) kx zs sc_12 := sm_12 hO c4 c5
  have c13 : se_Met ty se_tt (rw_J ty) kx zs sc_13 := sm_13 hO
  have c14 : se_Met ty se_tt (rw_J ty) kx zs sc_14 := sm_14 hO c13
  have c15 : se_Met ty se_tt (rw_J ty) kx zs sc_15 := sm_15 hO
  have c16 : se_Met ty se_tt (rw_J ty) kx zs sc_16 := sm_16 hO
  have c17 : se_Met ty se_tt (rw_J ty) kx zs sc_17 := sm_17 hO
  have c18 : se_Met ty se_tt (rw_J ty) kx zs sc_18 := sm_18 hO
  have c19 : se_Met ty se_tt (rw_J ty) kx zs sc_19 := sm_19 hO c4 c5 c15 c16 c17 c18
  have c20 : se_Met ty se_tt (rw_J ty) kx zs sc_20 := sm_20 hO
  have c21 : se_Met ty se_tt (rw_J ty) kx zs sc_21 := sm_21 hO
  have c22 : se_Met ty se_tt (rw_J ty) kx zs sc_22 := sm_22 hO
  have c23 : se_Met ty se_tt (rw_J ty) kx zs sc_23 := sm_23 hO c5 c22
  have c24 : se_Met ty se_tt (rw_J ty) kx zs sc_24 := sm_24 hO
  have c25 : se_Met ty se_tt (rw_J ty) kx zs sc_25 := sm_25 hO
  have c26 : se_Met ty se_tt (rw_J ty) kx zs sc_26 := sm_26 hO c13 c24 c25
  have c27 : se_Met ty se_tt (rw_J ty) kx zs sc_27 := sm_27 hO
  have c28 : se_Met ty se_tt (rw_J ty) kx zs sc_28 := sm_28 hO c5 c21 c23 c24 c25 c26 c27
  have c29 : se_Met ty se_tt (rw_J ty) kx zs sc_29 := sm_29 hO
  have c31 : se_Met ty se_tt (rw_J ty) kx zs sc_31 := sm_31 hO
  have c33 : se_Met ty se_tt (rw_J ty) kx zs sc_33 := sm_33 hO
  have c34 : se_Met ty se_tt (rw_J ty) kx zs sc_34 := sm_34 hO c29 c31 c33
  have c35 : se_Met ty se_tt (rw_J ty) kx zs sc_35 := sm_35 hO c5
  have c36 : se_Met ty se_tt (rw_J ty) kx zs sc_36 := sm_36 hO c4 c5 c17 c20 c28 c34 c35
  have c37 : se_Met ty se_tt (rw_J ty) kx zs sc_37 := sm_37 hO c4 c23
  have c38 : se_Met ty se_tt (rw_J ty) kx zs sc_38 := sm_38 hO c4 c23
  have c39 : se_Met ty se_tt (rw_J ty) kx zs sc_39 := sm_39 hO c4 c35
  have c40 : se_Met ty se_tt (rw_J ty) kx zs sc_40 := sm_40 hO c4 c5
  have c41 : se_Met ty se_tt (rw_J ty) kx zs sc_41 := sm_41 hO c23
  have c42 : se_Met ty se_tt (rw_J ty) kx zs sc_42 := sm_42 hO c41
  have c43 : se_Met ty se_tt (rw_J ty) kx zs sc_43 := sm_43 hO c41
  have c44 : se_Met ty se_tt (rw_J ty) kx zs sc_44 := sm_44 hO c4 c42 c43
  have c45 : se_Met ty se_tt (rw_J ty) kx zs sc_45 := sm_45 hO c5 c17 c41
  have c46 : se_Met ty se_tt (rw_J ty) kx zs sc_46 := sm_46 hO
  have c47 : se_Met ty se_tt (rw_J ty) kx zs sc_47 := sm_47 hO
  have c48 : se_Met ty se_tt (rw_J ty) kx zs sc_48 := sm_48 hO c6
  have c49 : se_Met ty se_tt (rw_J ty) kx zs sc_49 := sm_49 hO c17 c48
  have c50 : se_Met ty se_tt (rw_J ty) kx zs sc_50 := sm_50 hO c5 c49
  have c51 : se_Met ty se_tt (rw_J ty) kx zs sc_51 := sm_51 hO
  have c52 : se_Met ty se_tt (rw_J ty) kx zs sc_52 := sm_52 hO c4 c5 c6 c17
  have c53 : se_Met ty se_tt (rw_J ty) kx zs sc_53 := sm_53 hO c52
  have c54 : se_Met ty se_tt (rw_J ty) kx zs sc_54 := sm_54 hO
  have c55 : se_Met ty se_tt (rw_J ty) kx zs sc_55 := sm_55 hO c4 c45 c46 c47 c50 c51 c53 c54
  have c56 : se_Met ty se_tt (rw_J ty) kx zs sc_56 := sm_56 hO c4 c45 c46 c47 c50 c51 c53 c54
  have c57 : se_Met ty se_tt (rw_J ty) kx zs sc_57 := sm_57 hO
  have c58 : se_Met ty se_tt (rw_J ty) kx zs sc_58 := sm_58 hO c4 c5 c24 c25 c27 c57
  have c59 : se_Met ty se_tt (rw_J ty) kx zs sc_59 := sm_59 hO
  have c60 : se_Met ty se_tt (rw_J ty) kx zs sc_60 := sm_60 hO c59
  have c62 : se_Met ty se_tt (rw_J ty) kx zs sc_62 := sm_62 hO
  have c63 : se_Met ty se_tt (rw_J ty) kx zs sc_63 := sm_63 hO h0h
  have c64 : se_Met ty se_tt (rw_J ty) kx zs sc_64 := sm_64 hO h0h
  have c65 : se_Met ty se_tt (rw_J ty) kx zs sc_65 := sm_65 hO h0h
  have c66 : se_Met ty se_tt (rw_J ty) kx zs sc_66 := sm_66 hO h0h
  have c67 : se_Met ty se_tt (rw_J ty) kx zs sc_67 := sm_67 hO h0h
  have c68 : se_Met ty se_tt (rw_J ty) kx zs sc_68 := sm_68 hO h0h
  have c69 : se_Met ty se_tt (rw_J ty) kx zs sc_69 := sm_69 hO h0h
  have c70 : se_Met ty se_tt (rw_J ty) kx zs sc_70 := sm_70 hO h0h
  have c71 : se_Met ty se_tt (rw_J ty) kx zs sc_71 := sm_71 hO h0h
  have c72 : se_Met ty se_tt (rw_J ty) kx zs sc_72 := sm_72 hO h0h
  have c73 : se_Met ty se_tt (rw_J ty) kx zs sc_73 := sm_73 hO h0h
  have c74 : se_Met ty se_tt (rw_J ty) kx zs sc_74 := sm_74 hO h0h
  have c75 : se_Met ty se_tt (rw_J ty) kx zs sc_75 := sm_75 hO h0h
  have c76 : se_Met ty se_tt (rw_J ty) kx zs sc_76 := sm_76 hO h0h
  have c77 : se_Met ty se_tt (rw_J ty) kx zs sc_77 := sm_77 hO h0h
  have c78 : se_Met ty se_tt (rw_J ty) kx zs sc_78 := sm_78 hO c63 c64 c65 c66 c67 c68 c69 c70 c71 c72 c73 c74 c75 c76 c77
  have c79 : se_Met ty se_tt (rw_J ty) kx zs sc_79 := sm_79 hO
  have c80 : se_Met ty se_tt (rw_J ty) kx zs sc_80 := sm_80 hO c78 c79
  have c82 : se_Met ty se_tt (rw_J ty) kx zs sc_82 := sm_82 hO
  have c84 : se_Met ty se_tt (rw_J ty) kx zs sc_84 := sm_84 hO c82
  have c85 : se_Met ty se_tt (rw_J ty) kx zs sc_85 := sm_85 hO c80 c82 c84
  have c86 : se_Met ty se_tt (rw_J ty) kx zs sc_86 := sm_86 hO c80 c84 c85
  have c87 : se_Met ty se_tt (rw_J ty) kx zs sc_87 := sm_87 hO c80 c84 c86
  have c88 : se_Met ty se_tt (rw_J ty) kx zs sc_88 := sm_88 hO c87
  have c89 : se_Met ty se_tt (rw_J ty) kx zs sc_89 := sm_89 hO c80 c84 c88
  have c90 : se_Met ty se_tt (rw_J ty) kx zs sc_90 := sm_90 hO c80 c84 c89
  have c91 : se_Met ty se_tt (rw_J ty) kx zs sc_91 := sm_91 hO c80 c82 c84 c90
  have c92 : se_Met ty se_tt (rw_J ty) kx zs sc_92 := sm_92 hO c80 c84 c91
  have c93 : se_Met ty se_tt (rw_J ty) kx zs sc_93 := sm_93 hO c80 c84 c92
  have c94 : se_Met ty se_tt (rw_J ty) kx zs sc_94 := sm_94 hO c80 c84 c88 c93
  have c95 : se_Met ty se_tt (rw_J ty) kx zs sc_95 := sm_95 hO c80 c84 c94
  have c96 : se_Met ty se_tt (rw_J ty) kx zs sc_96 := sm_96 hO c80 c84 c95
  have c97 : se_Met ty se_tt (rw_J ty) kx zs sc_97 := sm_97 hO c80 c82 c84 c96
  have c98 : se_Met ty se_tt (rw_J ty) kx zs sc_98 := sm_98 hO c80 c84 c97
  have c99 : se_Met ty se_tt (rw_J ty) kx zs sc_99 := sm_99 hO c80 c84 c98
  have c100 : se_Met ty se_tt (rw_J ty) kx zs sc_100 := sm_100 hO c80 c84 c94 c99
  have c101 : se_Met ty se_tt (rw_J ty) kx zs sc_101 := sm_101 hO c80 c84 c100
  have c102 : se_Met ty se_tt (rw_J ty) kx zs sc_102 := sm_102 hO c80 c84 c101
  have c103 : se_Met ty se_tt (rw_J ty) kx zs sc_103 := sm_103 hO c80 c82 c84 c102
  have c104 : se_Met ty se_tt (rw_J ty) kx zs sc_104 := sm_104 hO c80 c84 c103
  have c105 : se_Met ty se_tt (rw_J ty) kx zs sc_105 := sm_105 hO c80 c84 c104
  have c106 : se_Met ty se_tt (rw_J ty) kx zs sc_106 := sm_106 hO c80 c84 c100 c105
  have c107 : se_Met ty se_tt (rw_J ty) kx zs sc_107 := sm_107 hO c80 c84 c106
  have c108 : se_Met ty se_tt (rw_J ty) kx zs sc_108 := sm_108 hO c80 c84 c107
  have c109 : se_Met ty se_tt (rw_J ty) kx zs sc_109 := sm_109 hO c80 c82 c84 c108
  have c110 : se_Met ty se_tt (rw_J ty) kx zs sc_110 := sm_110 hO c80 c84 c109
  have c111 : se_Met ty se_tt (rw_J ty) kx zs sc_111 := sm_111 hO c80 c84 c110
  have c112 : se_Met ty se_tt (rw_J ty) kx zs sc_112 := sm_112 hO c80 c84 c106 c111
  have c113 : se_Met ty se_tt (rw_J ty) kx zs sc_113 := sm_113 hO c80 c84 c112
  have c114 : se_Met ty se_tt (rw_J ty) kx zs sc_114 := sm_114 hO c80 c84 c113
  have c116 : se_Met ty se_tt (rw_J ty) kx zs sc_116 := sm_116 hO
  have c117 : se_Met ty se_tt (rw_J ty) kx zs sc_117 := sm_117 hO c62 c80 c114 c116
  have c118 : se_Met ty se_tt (rw_J ty) kx zs sc_118 := sm_118 hO
  have c119 : se_Met ty se_tt (rw_J ty) kx zs sc_119 := sm_119 hO
  have c120 : se_Met ty se_tt (rw_J ty) kx zs sc_120 := sm_120 hO
  have c121 : se_Met ty se_tt (rw_J ty) kx zs sc_121 := sm_121 hO c117 c118
  have c122 : se_Met ty se_tt (rw_J ty) kx zs sc_122 := sm_122 hO c4 c5 c17
  have c123 : se_Met ty se_tt (rw_J ty) kx zs sc_123 := sm_123 hO c4 c5 c20
  have c124 : se_Met ty se_tt (rw_J ty) kx zs sc_124 := sm_124 hO c4 c5 c20 c28 c34
  have c125 : se_Met ty se_tt (rw_J ty) kx zs sc_125 := sm_125 hO c4 c5 c20 c21 c24 c25 c26 c27 c34
  have c126 : se_Met ty se_tt (rw_J ty) kx zs sc_126 := sm_126 hO c4 c5 c13 c20 c21 c24 c25 c27 c34
  have c127 : se_Met ty se_tt (rw_J ty) kx zs sc_127 := sm_127 hO
  have c128 : se_Met ty se_tt (rw_J ty) kx zs sc_128 := sm_128 hO c127
  have c129 : se_Met ty se_tt (rw_J ty) kx zs sc_129 := sm_129 hO
  have c130 : se_Met ty se_tt (rw_J ty) kx zs sc_130 := sm_130 hO
  have c131 : se_Met ty se_tt (rw_J ty) kx zs sc_131 := sm_131 hO c5
  have c132 : se_Met ty se_tt (rw_J ty) kx zs sc_132 := sm_132 hO c131
  have c133 : se_Met ty se_tt (rw_J ty) kx zs sc_133 := sm_133 hO c5
  have c134 : se_Met ty se_tt (rw_J ty) kx zs sc_134 := sm_134 hO c23
  have c135 : se_Met ty se_tt (rw_J ty) kx zs sc_135 := sm_135 hO c5 c25 c130 c132 c133 c134
  have c136 : se_Met ty se_tt (rw_J ty) kx zs sc_136 := sm_136 hO c4 c135
  have c137 : se_Met ty se_tt (rw_J ty) kx zs sc_137 := sm_137 hO c25 c134
  have c138 : se_Met ty se_tt (rw_J ty) kx zs sc_138 := sm_138 hO c25 c42 c132 c137
  have c139 : se_Met ty se_tt (rw_J ty) kx zs sc_139 := sm_139 hO c4 c25 c42 c138
  have c140 : se_Met ty se_tt (rw_J ty) kx zs sc_140 := sm_140 hO c23
  have c141 : se_Met ty se_tt (rw_J ty) kx zs sc_141 := sm_141 hO c23
  have c142 : se_Met ty se_tt (rw_J ty) kx zs sc_142 := sm_142 hO c23
  have c143 : se_Met ty se_tt (rw_J ty) kx zs sc_143 := sm_143 hO c23
  have c144 : se_Met ty se_tt (rw_J ty) kx zs sc_144 := sm_144 hO c4 c25 c140 c141 c142 c143
  have c145 : se_Met ty se_tt (rw_J ty) kx zs sc_145 := sm_145 hO
  have c146 : se_Met ty se_tt (rw_J ty) kx zs sc_146 := sm_146 hO
  have c147 : se_Met ty se_tt (rw_J ty) kx zs sc_147 := sm_147 hO c145 c146
  have c148 : se_Met ty se_tt (rw_J ty) kx zs sc_148 := sm_148 hO c4 c5 c57 c147
  have c149 : se_Met ty se_tt (rw_J ty) kx zs sc_149 := sm_149 hO c145
  have c150 : se_Met ty se_tt (rw_J ty) kx zs sc_150 := sm_150 hO c4 c5 c57 c149
  have c151 : se_Met ty se_tt (rw_J ty) kx zs sc_151 := sm_151 hO
  have c152 : se_Met ty se_tt (rw_J ty) kx zs sc_152 := sm_152 hO
  have c153 : se_Met ty se_tt (rw_J ty) kx zs sc_153 := sm_153 hO
  have c154 : se_Met ty se_tt (rw_J ty) kx zs sc_154 := sm_154 hO
  have c155 : se_Met ty se_tt (rw_J ty) kx zs sc_155 := sm_155 hO c151 c152 c153 c154
  have c156 : se_Met ty se_tt (rw_J ty) kx zs sc_156 := sm_156 hO
  have c157 : se_Met ty se_tt (rw_J ty) kx zs sc_157 := sm_157 hO
  have c158 : se_Met ty se_tt (rw_J ty) kx zs sc_158 := sm_158 hO
  have c159 : se_Met ty se_tt (rw_J ty) kx zs sc_159 := sm_159 hO
  have c160 : se_Met ty se_tt (rw_J ty) kx zs sc_160 := sm_160 hO
  have c161 : se_Met ty se_tt (rw_J ty) kx zs sc_161 := sm_161 hO
  have c162 : se_Met ty se_tt (rw_J ty) kx zs sc_162 := sm_162 hO
  have c163 : se_Met ty se_tt (rw_J ty) kx zs sc_163 := sm_163 hO
  have c164 : se_Met ty se_tt (rw_J ty) kx zs sc_164 := sm_164 hO
  have c165 : se_Met ty se_tt (rw_J ty) kx zs sc_165 := sm_165 hO
  have c166 : se_Met ty se_tt (rw_J ty) kx zs sc_166 := sm_166 hO
  have c167 : se_Met ty se_tt (rw_J ty) kx zs sc_167 := sm_167 hO
  have c168 : se_Met ty se_tt (rw_J ty) kx zs sc_168 := sm_168 hO c119 c158 c160 c162 c164 c166
  have c169 : se_Met ty se_tt (rw_J ty) kx zs sc_169 := sm_169 hO c120 c159 c161 c163 c165 c167
  have c170 : se_Met ty se_tt (rw_J ty) kx zs sc_170 := sm_170 hO c168
  have c171 : se_Met ty se_tt (rw_J ty) kx zs sc_171 := sm_171 hO c169
  have c172 : se_Met ty se_tt (rw_J ty) kx zs sc_172 := sm_172 hO
  have c173 : se_Met ty se_tt (rw_J ty) kx zs sc_173 := sm_173 hO
  have c174 : se_Met ty se_tt (rw_J ty) kx zs sc_174 := sm_174 hO
  have c175 : se_Met ty se_tt (rw_J ty) kx zs sc_175 := sm_175 hO
  have c176 : se_Met ty se_tt (rw_J ty) kx zs sc_176 := sm_176 hO c172 c173 c174 c175
  have c177 : se_Met ty se_tt (rw_J ty) kx zs sc_177 := sm_177 hO
  have c178 : se_Met ty se_tt (rw_J ty) kx zs sc_178 := sm_178 hO
  have c179 : se_Met ty se_tt (rw_J ty) kx zs sc_179 := sm_179 hO
  have c180 : se_Met ty se_tt (rw_J ty) kx zs sc_180 := sm_180 hO
  have c181 : se_Met ty se_tt (rw_J ty) kx zs sc_181 := sm_181 hO c180
  have c182 : se_Met ty se_tt (rw_J ty) kx zs sc_182 := sm_182 hO
  have c183 : se_Met ty se_tt (rw_J ty) kx zs sc_183 := sm_183 hO
  have c184 : se_Met ty se_tt (rw_J ty) kx zs sc_184 := sm_184 hO h1h c180 c181 c182 c183
  have c185 : se_Met ty se_tt (rw_J ty) kx zs sc_185 := sm_185 hO
  have c186 : se_Met ty se_tt (rw_J ty) kx zs sc_186 := sm_186 hO c182 c183
  have c187 : se_Met ty se_tt (rw_J ty) kx zs sc_187 := sm_187 hO
  have c188 : se_Met ty se_tt (rw_J ty) kx zs sc_188 := sm_188 hO
  have c189 : se_Met ty se_tt (rw_J ty) kx zs sc_189 := sm_189 hO c182 c183
  have c190 : se_Met ty se_tt (rw_J ty) kx zs sc_190 := sm_190 hO
  have c191 : se_Met ty se_tt (rw_J ty) kx zs sc_191 := sm_191 hO c190
  have c192 : se_Met ty se_tt (rw_J ty) kx zs sc_192 := sm_192 hO h1h c182 c183
  have c193 : se_Met ty se_tt (rw_J ty) kx zs sc_193 := sm_193 hO c192
  have c194 : se_Met ty se_tt (rw_J ty) kx zs sc_194 := sm_194 hO c182 c183
  have c195 : se_Met ty se_tt (rw_J ty) kx zs sc_195 := sm_195 hO
  have c196 : se_Met ty se_tt (rw_J ty) kx zs sc_196 := sm_196 hO
  have c197 : se_Met ty se_tt (rw_J ty) kx zs sc_197 := sm_197 hO
  have c198 : se_Met ty se_tt (rw_J ty) kx zs sc_198 := sm_198 hO c182 c183 c195 c196 c197
  have c199 : se_Met ty se_tt (rw_J ty) kx zs sc_199 := sm_199 hO c181
  have c200 : se_Met ty se_tt (rw_J ty) kx zs sc_200 := sm_200 hO
  have c201 : se_Met ty se_tt (rw_J ty) kx zs sc_201 := sm_201 hO c183 c200
  have c202 : se_Met ty se_tt (rw_J ty) kx zs sc_202 := sm_202 hO c182 c199 c201
  have c203 : se_Met ty se_tt (rw_J ty) kx zs sc_203 := sm_203 hO c201
  have c204 : se_Met ty se_tt (rw_J ty) kx zs sc_204 := sm_204 hO c182 c199 c203
  have c205 : se_Met ty se_tt (rw_J ty) kx zs sc_205 := sm_205 hO c203
  have c206 : se_Met ty se_tt (rw_J ty) kx zs sc_206 := sm_206 hO c182 c199 c205
  have c207 : se_Met ty se_tt (rw_J ty) kx zs sc_207 := sm_207 hO
  have c208 : se_Met ty se_tt (rw_J ty) kx zs sc_208 := sm_208 hO
  have c209 : se_Met ty se_tt (rw_J ty) kx zs sc_209 := sm_209 hO c182 c183 c197 c199 c205
  have c210 : se_Met ty se_tt (rw_J ty) kx zs sc_210 := sm_210 hO
  have c211 : se_Met ty se_tt (rw_J ty) kx zs sc_211 := sm_211 hO c180 c210
  have c212 : se_Met ty se_tt (rw_J ty) kx zs sc_212 := sm_212 hO c197
  have c213 : se_Met ty se_tt (rw_J ty) kx zs sc_213 := sm_213 hO c182 c183 c210 c212
  have c214 : se_Met ty se_tt (rw_J ty) kx zs sc_214 := sm_214 hO
  have c215 : se_Met ty se_tt (rw_J ty) kx zs sc_215 := sm_215 hO h1h c182 c183 c197 c212
  have c216 : se_Met ty se_tt (rw_J ty) kx zs sc_216 := sm_216 hO c215
  have c217 : se_Met ty se_tt (rw_J ty) kx zs sc_217 := sm_217 hO
  have c218 : se_Met ty se_tt (rw_J ty) kx zs sc_218 := sm_218 hO c217
  have c219 : se_Met ty se_tt (rw_J ty) kx zs sc_219 := sm_219 hO c209 c211 c213 c214 c216 c218
  have c220 : se_Met ty se_tt (rw_J ty) kx zs sc_220 := sm_220 hO c209 c211 c213 c214 c216 c218
  have c221 : se_Met ty se_tt (rw_J ty) kx zs sc_221 := sm_221 hO
  have c222 : se_Met ty se_tt (rw_J ty) kx zs sc_222 := sm_222 hO
  have c223 : se_Met ty se_tt (rw_J ty) kx zs sc_223 := sm_223 hO c182 c183 c221 c222
  have c224 : se_Met ty se_tt (rw_J ty) kx zs sc_224 := sm_224 hO
  have c229 : se_Met ty se_tt (rw_J ty) kx zs sc_229 := sm_229 hO c182 c183 c197
  have c230 : se_Met ty se_tt (rw_J ty) kx zs sc_230 := sm_230 hO
  have c231 : se_Met ty se_tt (rw_J ty) kx zs sc_231 := sm_231 hO c182 c183 c230
  have c232 : se_Met ty se_tt (rw_J ty) kx zs sc_232 := sm_232 hO c221 c222
  have c233 : se_Met ty se_tt (rw_J ty) kx zs sc_233 := sm_233 hO c190
  have c234 : se_Met ty se_tt (rw_J ty) kx zs sc_234 := sm_234 hO h4h c182 c199 c203 c232 c233
  have c235 : se_Met ty se_tt (rw_J ty) kx zs sc_235 := sm_235 hO c182 c183 c192 c197 c230 c234
  have c236 : se_Met ty se_tt (rw_J ty) kx zs sc_236 := sm_236 hO c182 c183 c230 c234
  have c237 : se_Met ty se_tt (rw_J ty) kx zs sc_237 := sm_237 hO h4h c182 c183 c230 c232 c233
  have c238 : se_Met ty se_tt (rw_J ty) kx zs sc_238 := sm_238 hO h4h c182 c183 c190 c230 c232
  have c239 : se_Met ty se_tt (rw_J ty) kx zs sc_239 := sm_239 hO
  have c240 : se_Met ty se_tt (rw_J ty) kx zs sc_240 := sm_240 hO c182 c183 c199 c205 c239
  have c241 : se_Met ty se_tt (rw_J ty) kx zs sc_241 := sm_241 hO c205
  have c242 : se_Met ty se_tt (rw_J ty) kx zs sc_242 := sm_242 hO c182 c199 c239 c241
  have c243 : se_Met ty se_tt (rw_J ty) kx zs sc_243 := sm_243 hO c182 c199 c203 c239
  have c244 : se_Met ty se_tt (rw_J ty) kx zs sc_244 := sm_244 hO
  have c245 : se_Met ty se_tt (rw_J ty) kx zs sc_245 := sm_245 hO
  have c246 : se_Met ty se_tt (rw_J ty) kx zs sc_246 := sm_246 hO c182 c183 c217 c244 c245
  have c247 : se_Met ty se_tt (rw_J ty) kx zs sc_247 := sm_247 hO c182 c183 c217 c244 c245
  have c248 : se_Met ty se_tt (rw_J ty) kx zs sc_248 := sm_248 hO
  have c249 : se_Met ty se_tt (rw_J ty) kx zs sc_249 := sm_249 hO
  have c250 : se_Met ty se_tt (rw_J ty) kx zs sc_250 := sm_250 hO
  have c251 : se_Met ty se_tt (rw_J ty) kx zs sc_251 := sm_251 hO c182 c239
  intro c hc
  unfold pb_C at hc
  rcases List.mem_cons.mp hc with rfl | hc
  · exact ⟨c0, by decide⟩
  rcases List.mem_cons.mp hc with rfl | hc
  · exact ⟨c1, by decide⟩
  rcases List.mem_cons.mp hc with rfl | hc
  · exact ⟨c3, by decide⟩
  rcases List.mem_cons.mp hc with rfl | hc
  · exact ⟨c7, by decide⟩
  rcases List.mem_cons.mp hc with rfl | hc
  · exact ⟨c8, by decide⟩
  rcases List.mem_cons.mp hc with rfl | hc
  · exact ⟨c9, by decide⟩
  rcases List.mem_cons.mp hc with rfl | hc
  · exact ⟨c10, by decide⟩
  rcases List.mem_cons.mp hc with rfl | hc
  · exact ⟨c11, by decide⟩
  rcases List.mem_cons.mp hc with rfl | hc
  · exact ⟨c12, by decide⟩
  rcases List.mem_cons.mp hc with rfl | hc
  · exact ⟨c14, by decide⟩
  rcases List.mem_cons.mp hc with rfl | hc
  · exact ⟨c19, by decide⟩
  rcases List.mem_cons.mp hc with rfl | hc
  · exact ⟨c36, by decide⟩
  rcases List.mem_cons.mp hc with rfl | hc
  · exact ⟨c37, by decide⟩
  rcases List.mem_cons.mp hc with rfl | hc
  · exact ⟨c38, by decide⟩
  rcases List.mem_cons.mp hc with rfl | hc
  · exact ⟨c39, by decide⟩
  rcases List.mem_cons.mp hc with rfl | hc
  · exact ⟨c40, by decide⟩
  rcases List.mem_cons.mp hc with rfl | hc
  · exact ⟨c44, by decide⟩
  rcases List.mem_cons.mp hc with rfl | hc
  · exact ⟨c55, by decide⟩
  rcases List.mem_cons.mp hc with rfl | hc
  · exact ⟨c56, by decide⟩
  rcases List.mem_cons.mp hc with rfl | hc
  · exact ⟨c58, by decide⟩
  rcases List.mem_cons.mp hc with rfl | hc
  · exact ⟨c60, by decide⟩
  rcases List.mem_cons.mp hc with rfl | hc
  · exact ⟨c121, by decide⟩
  rcases List.mem_cons.mp hc with rfl | hc
  · exact ⟨c122, by decide⟩
  rcases List.mem_cons.mp hc with rfl | hc
  · exact ⟨c123, by decide⟩
  rcases List.mem_cons.mp hc with rfl | hc
  · exact ⟨c124, by decide⟩
  rcases List.mem_cons.mp hc with rfl | hc
  · exact ⟨c125, by decide⟩
  rcases List.mem_cons.mp hc with rfl | hc
  · exact ⟨c126, by decide⟩
  rcases List.mem_cons.mp hc with rfl | hc
  · exact ⟨c128, by decide⟩
  rcases List.mem_cons.mp hc with rfl | hc
  · exact ⟨c129, by decide⟩
  rcases List.mem_cons.mp hc with rfl | hc
  · exact ⟨c136, by decide⟩
  rcases List.mem_cons.mp hc with rfl | hc
  · exact ⟨c139, by decide⟩
  rcases List.mem_cons.mp hc with rfl | hc
  · exact ⟨c144, by decide⟩
  rcases List.mem_cons.mp hc with rfl | hc
  · exact ⟨c148, by decide⟩
  rcases List.mem_cons.mp hc with rfl | hc
  · exact ⟨c150, by decide⟩
  rcases List.mem_cons.mp hc with rfl | hc
  · exact ⟨c155, by decide⟩
  rcases List.mem_cons.mp hc with rfl | hc
  · exact ⟨c156, by decide⟩
  rcases List.mem_cons.mp hc with rfl | hc
  · exact ⟨c157, by decide⟩
  rcases List.mem_cons.mp hc with rfl | hc
  · exact ⟨c170, by decide⟩
  rcases List.mem_cons.mp hc with rfl | hc
  · exact ⟨c171, by decide⟩
  rcases List.mem_cons.mp hc with rfl | hc
  · exact ⟨c176, by decide⟩
  rcases List.mem_cons.mp hc with rfl | hc
  · exact ⟨c177, by decide⟩
  rcases List.mem_cons.mp hc with rfl | hc
  · exact ⟨c178, by decide⟩
  rcases List.mem_cons.mp hc with rfl | hc
  · exact ⟨c179, by decide⟩
  rcases List.mem_cons.mp hc with rfl | hc
  · exact ⟨c184, by decide⟩
  rcases List.mem_cons.mp hc with rfl | hc
  · exact ⟨c185, by decide⟩
  rcases List.mem_cons.mp hc with rfl | hc
  · exact ⟨c186, by decide⟩
  rcases List.mem_cons.mp hc with rfl | hc
  · exact ⟨c187, by decide⟩
  rcases List.mem_cons.mp hc with rfl | hc
  · exact ⟨c188, by decide⟩
  rcases List.mem_cons.mp hc with rfl | hc
  · exact ⟨c189, by decide⟩
  rcases List.mem_cons.mp hc with rfl | hc
  · exact ⟨c191, by decide⟩
  rcases List.mem_cons.mp hc with rfl | hc
  · exact ⟨c193, by decide⟩
  rcases List.mem_cons.mp hc with rfl | hc
  · exact ⟨c194, by decide⟩
  rcases List.mem_cons.mp hc with rfl | hc
  · exact ⟨c198, by decide⟩
  rcases List.mem_cons.mp hc with rfl | hc
  · exact ⟨c202, by decide⟩
  rcases List.mem_cons.mp hc with rfl | hc
  · exact ⟨c204, by decide⟩
  rcases List.mem_cons.mp hc with rfl | hc
  · exact ⟨c206, by decide⟩
  rcases List.mem_cons.mp hc with rfl | hc
  · exact ⟨c207, by decide⟩
  rcases List.mem_cons.mp hc with rfl | hc
  · exact ⟨c208, by decide⟩
  rcases List.mem_cons.mp hc with rfl | hc
  · exact ⟨c219, by decide⟩
  rcases List.mem_cons.mp hc with rfl | hc
  · exact ⟨c220, by decide⟩
  rcases List.mem_cons.mp hc with rfl | hc
  · exact ⟨c223, by decide⟩
  rcases List.mem_cons.mp hc with rfl | hc
  · exact ⟨c224, by decide⟩
  rcases List.mem_cons.mp hc with rfl | hc
  · exact ⟨h2h, by decide⟩
  rcases List.mem_cons.mp hc with rfl | hc
  · exact ⟨c229, by decide⟩
  rcases List.mem_cons.mp hc with rfl | hc
  · exact ⟨c231, by decide⟩
  rcases List.mem_cons.mp hc with rfl | hc
  · exact ⟨c235, by decide⟩
  rcases List.mem_cons.mp hc with rfl | hc
  · exact ⟨c236, by decide⟩
  rcases List.mem_cons.mp hc with rfl | hc
  · exact ⟨c237, by decide⟩
  rcases List.mem_cons.mp hc with rfl | hc
  · exact ⟨c238, by decide⟩
  rcases List.mem_cons.mp hc with rfl | hc
  · exact ⟨c240, by decide⟩
  rcases List.mem_cons.mp hc with rfl | hc
  · exact ⟨c242, by decide⟩
  rcases List.mem_cons.mp hc with rfl | hc
  · exact ⟨c243, by decide⟩
  rcases List.mem_cons.mp hc with rfl | hc
  · exact ⟨c246, by decide⟩
  rcases List.mem_cons.mp hc with rfl | hc
  · exact ⟨c247, by decide⟩
  rcases List.mem_cons.mp hc with rfl | hc
  · exact ⟨c248, by decide⟩
  rcases List.mem_cons.mp hc with rfl | hc
  · exact ⟨c249, by decide⟩
  rcases List.mem_cons.mp hc with rfl | hc
  · exact ⟨c250, by decide⟩
  rcases List.mem_cons.mp hc with rfl | hc
  · exact ⟨h5h, by decide⟩
  rcases List.mem_cons.mp hc with rfl | hc
  · exact ⟨h6h, by decide⟩
  rcases List.mem_cons.mp hc with rfl | hc
  · exact ⟨c251, by decide⟩
  rcases List.mem_cons.mp hc with rfl | hc
  · exact ⟨c182, by decide⟩
  rcases List.mem_cons.mp hc with rfl | hc
  · exact ⟨c183, by decide⟩
  rcases List.mem_cons.mp hc with rfl | hc
  · exact ⟨h1h, by decide⟩
  rcases List.mem_cons.mp hc with rfl | hc
  · exact ⟨c197, by decide⟩
  rcases List.mem_cons.mp hc with rfl | hc
  · exact ⟨c212, by decide⟩
  rcases List.mem_cons.mp hc with rfl | hc
  · exact ⟨c209, by decide⟩
  rcases List.mem_cons.mp hc with rfl | hc
  · exact ⟨c211, by decide⟩
  rcases List.mem_cons.mp hc with rfl | hc
  · exact ⟨c213, by decide⟩
  rcases List.mem_cons.mp hc with rfl | hc
  · exact ⟨c214, by decide⟩
  rcases List.mem_cons.mp hc with rfl | hc
  · exact ⟨c216, by decide⟩
  rcases List.mem_cons.mp hc with rfl | hc
  · exact ⟨c215, by decide⟩
  rcases List.mem_cons.mp hc with rfl | hc
  · exact ⟨c218, by decide⟩
  rcases List.mem_cons.mp hc with rfl | hc
  · exact ⟨c199, by decide⟩
  rcases List.mem_cons.mp hc with rfl | hc
  · exact ⟨c201, by decide⟩
  rcases List.mem_cons.mp hc with rfl | hc
  · exact ⟨c205, by decide⟩
  rcases List.mem_cons.mp hc with rfl | hc
  · exact ⟨c196, by decide⟩
  rcases List.mem_cons.mp hc with rfl | hc
  · exact ⟨c4, by decide⟩
  rcases List.mem_cons.mp hc with rfl | hc
  · exact ⟨c5, by decide⟩
  rcases List.mem_cons.mp hc with rfl | hc
  · exact ⟨c17, by decide⟩
  rcases List.mem_cons.mp hc with rfl | hc
  · exact ⟨c45, by decide⟩
  rcases List.mem_cons.mp hc with rfl | hc
  · exact ⟨c46, by decide⟩
  rcases List.mem_cons.mp hc with rfl | hc
  · exact ⟨c47, by decide⟩
  rcases List.mem_cons.mp hc with rfl | hc
  · exact ⟨c50, by decide⟩
  rcases List.mem_cons.mp hc with rfl | hc
  · exact ⟨c51, by decide⟩
  rcases List.mem_cons.mp hc with rfl | hc
  · exact ⟨c53, by decide⟩
  rcases List.mem_cons.mp hc with rfl | hc
  · exact ⟨c52, by decide⟩
  rcases List.mem_cons.mp hc with rfl | hc
  · exact ⟨c54, by decide⟩
  rcases List.mem_cons.mp hc with rfl | hc
  · exact ⟨c6, by decide⟩
  exact absurd hc List.not_mem_nil
set_option maxRecDepth 100000 in
theorem pb_12 {L : Nat} {xs : Nat → Int32} {vz : Value} {μ : iv_M} {d : Nat} {x0 x1 x2 : Int} (hv : vz.category = 1) (hd : 13 ≤ d) (hJ : br_J L xs μ) : iv_C L xs vz d 12 [(13, 38), (0, x0), (0, x1), (0, x2)] μ (br_P L xs sc_0 μ) := by
  have hm := pb_all (st_Ok vz) (st_hz hv) sc_0 (List.mem_of_getElem? (i := 0) rfl)
  exact br_C (c := sc_0) hm.1 (by decide +kernel) (by decide +kernel) (show 13 * 1 ≤ d by omega) (fun h => ⟨⟨rfl, _, by decide +kernel, rfl⟩, ⟨rfl, rfl, (h (0, x0) (by simp)).1, (h (0, x0) (by simp)).2⟩, ⟨rfl, rfl, (h (0, x1) (by simp)).1, (h (0, x1) (by simp)).2⟩, ⟨rfl, rfl, (h (0, x2) (by simp)).1, (h (0, x2) (by simp)).2⟩, trivial⟩) rfl rfl rfl hJ
set_option maxRecDepth 100000 in
theorem pb_17 {L : Nat} {xs : Nat → Int32} {vz : Value} {μ : iv_M} {d : Nat} {x0 x1 x2 x3 : Int} (hv : vz.category = 1) (hd : 13 ≤ d) (hJ : br_J L xs μ) : iv_C L xs vz d 17 [(13, 38), (0, x0), (0, x1), (0, x2), (0, x3)] μ (br_P L xs sc_1 μ) := by
  have hm := pb_all (st_Ok vz) (st_hz hv) sc_1 (List.mem_of_getElem? (i := 1) rfl)
  exact br_C (c := sc_1) hm.1 (by decide +kernel) (by decide +kernel) (show 13 * 1 ≤ d by omega) (fun h => ⟨⟨rfl, _, by decide +kernel, rfl⟩, ⟨rfl, rfl, (h (0, x0) (by simp)).1, (h (0, x0) (by simp)).2⟩, ⟨rfl, rfl, (h (0, x1) (by simp)).1, (h (0, x1) (by simp)).2⟩, ⟨rfl, rfl, (h (0, x2) (by simp)).1, (h (0, x2) (by simp)).2⟩, ⟨rfl, rfl, (h (0, x3) (by simp)).1, (h (0, x3) (by simp)).2⟩, trivial⟩) rfl rfl rfl hJ
set_option maxRecDepth 100000 in
theorem pb_22 {L : Nat} {xs : Nat → Int32} {vz : Value} {μ : iv_M} {d : Nat} {x0 x1 : Int} (hv : vz.category = 1) (hd : 26 ≤ d) (hJ : br_J L xs μ) : iv_C L xs vz d 22 [(13, 38), (0, x0), (0, x1)] μ (br_P L xs sc_3 μ) := by
  have hm := pb_all (st_Ok vz) (st_hz hv) sc_3 (List.mem_of_getElem? (i := 2) rfl)
  exact br_C (c := sc_3) hm.1 (by decide +kernel) (by decide +kernel) (show 13 * 2 ≤ d by omega) (fun h => ⟨⟨rfl, _, by decide +kernel, rfl⟩, ⟨rfl, rfl, (h (0, x0) (by simp)).1, (h (0, x0) (by simp)).2⟩, ⟨rfl, rfl, (h (0, x1) (by simp)).1, (h (0, x1) (by simp)).2⟩, trivial⟩) rfl rfl rfl hJ
set_option maxRecDepth 100000 in
theorem pb_25 {L : Nat} {xs : Nat → Int32} {vz : Value} {μ : iv_M} {d : Nat} {x0 x1 : Int} (hv : vz.category = 1) (hd : 26 ≤ d) (hJ : br_J L xs μ) : iv_C L xs vz d 25 [(13, 38), (0, x0), (0, x1)] μ (br_P L xs sc_7 μ) := by
  have hm := pb_all (st_Ok vz) (st_hz hv) sc_7 (List.mem_of_getElem? (i := 3) rfl)
  exact br_C (c := sc_7) hm.1 (by decide +kernel) (by decide +kernel) (show 13 * 2 ≤ d by omega) (fun h => ⟨⟨rfl, _, by decide +kernel, rfl⟩, ⟨rfl, rfl, (h (0, x0) (by simp)).1, (h (0, x0) (by simp)).2⟩, ⟨rfl, rfl, (h (0, x1) (by simp)).1, (h (0, x1) (by simp)).2⟩, trivial⟩) rfl rfl rfl hJ
set_option maxRecDepth 100000 in
theorem pb_38 {L : Nat} {xs : Nat → Int32} {vz : Value} {μ : iv_M} {d : Nat} {x0 x1 x2 : Int} (hv : vz.category = 1) (hd : 13 ≤ d) (hJ : br_J L xs μ) (g2 : 0 ≤ x2 ∧ x2 ≤ 1) : iv_C L xs vz d 38 [(13, 38), (0, x0), (0, x1), (0, x2)] μ (br_P L xs sc_8 μ) := by
  have hm := pb_all (st_Ok vz) (st_hz hv) sc_8 (List.mem_of_getElem? (i := 4) rfl)
  exact br_C (c := sc_8) hm.1 (by decide +kernel) (by decide +kernel) (show 13 * 1 ≤ d by omega) (fun h => ⟨⟨rfl, _, by decide +kernel, rfl⟩, ⟨rfl, rfl, (h (0, x0) (by simp)).1, (h (0, x0) (by simp)).2⟩, ⟨rfl, rfl, (h (0, x1) (by simp)).1, (h (0, x1) (by simp)).2⟩, ⟨rfl, rfl, g2.1, g2.2⟩, trivial⟩) rfl rfl rfl hJ
set_option maxRecDepth 100000 in
theorem pb_42 {L : Nat} {xs : Nat → Int32} {vz : Value} {μ : iv_M} {d : Nat} {x0 x1 x2 x3 : Int} (hv : vz.category = 1) (hd : 26 ≤ d) (hJ : br_J L xs μ) (g3 : 0 ≤ x3 ∧ x3 ≤ 1) : iv_C L xs vz d 42 [(13, 38), (0, x0), (0, x1), (0, x2), (0, x3)] μ (br_P L xs sc_9 μ) := by
  have hm := pb_all (st_Ok vz) (st_hz hv) sc_9 (List.mem_of_getElem? (i := 5) rfl)
  exact br_C (c := sc_9) hm.1 (by decide +kernel) (by decide +kernel) (show 13 * 2 ≤ d by omega) (fun h => ⟨⟨rfl, _, by decide +kernel, rfl⟩, ⟨rfl, rfl, (h (0, x0) (by simp)).1, (h (0, x0) (by simp)).2⟩, ⟨rfl, rfl, (h (0, x1) (by simp)).1, (h (0, x1) (by simp)).2⟩, ⟨rfl, rfl, (h (0, x2) (by simp)).1, (h (0, x2) (by simp)).2⟩, ⟨rfl, rfl, g3.1, g3.2⟩, trivial⟩) rfl rfl rfl hJ
set_option maxRecDepth 100000 in
theorem pb_45 {L : Nat} {xs : Nat → Int32} {vz : Value} {μ : iv_M} {d : Nat} {x0 x1 x2 x3 : Int} (hv : vz.category = 1) (hd : 13 ≤ d) (hJ : br_J L xs μ) : iv_C L xs vz d 45 [(13, 38), (0, x0), (0, x1), (0, x2), (0, x3)] μ (br_P L xs sc_10 μ) := by
  have hm := pb_all (st_Ok vz) (st_hz hv) sc_10 (List.mem_of_getElem? (i := 6) rfl)
  exact br_C (c := sc_10) hm.1 (by decide +kernel) (by decide +kernel) (show 13 * 1 ≤ d by omega) (fun h => ⟨⟨rfl, _, by decide +kernel, rfl⟩, ⟨rfl, rfl, (h (0, x0) (by simp)).1, (h (0, x0) (by simp)).2⟩, ⟨rfl, rfl, (h (0, x1) (by simp)).1, (h (0, x1) (by simp)).2⟩, ⟨rfl, rfl, (h (0, x2) (by simp)).1, (h (0, x2) (by simp)).2⟩, ⟨rfl, rfl, (h (0, x3) (by simp)).1, (h (0, x3) (by simp)).2⟩, trivial⟩) rfl rfl rfl hJ
set_option maxRecDepth 100000 in
theorem pb_49 {L : Nat} {xs : Nat → Int32} {vz : Value} {μ : iv_M} {d : Nat} {x0 x1 : Int} (hv : vz.category = 1) (hd : 13 ≤ d) (hJ : br_J L xs μ) : iv_C L xs vz d 49 [(13, 38), (0, x0), (0, x1)] μ (br_P L xs sc_11 μ) := by
  have hm := pb_all (st_Ok vz) (st_hz hv) sc_11 (List.mem_of_getElem? (i := 7) rfl)
  exact br_C (c := sc_11) hm.1 (by decide +kernel) (by decide +kernel) (show 13 * 1 ≤ d by omega) (fun h => ⟨⟨rfl, _, by decide +kernel, rfl⟩, ⟨rfl, rfl, (h (0, x0) (by simp)).1, (h (0, x0) (by simp)).2⟩, ⟨rfl, rfl, (h (0, x1) (by simp)).1, (h (0, x1) (by simp)).2⟩, trivial⟩) rfl rfl rfl hJ
set_option maxRecDepth 100000 in
theorem pb_51 {L : Nat} {xs : Nat → Int32} {vz : Value} {μ : iv_M} {d : Nat} {x0 x1 : Int} (hv : vz.category = 1) (hd : 26 ≤ d) (hJ : br_J L xs μ) : iv_C L xs vz d 51 [(13, 38), (0, x0), (0, x1)] μ (br_P L xs sc_12 μ) := by
  have hm := pb_all (st_Ok vz) (st_hz hv) sc_12 (List.mem_of_getElem? (i := 8) rfl)
  exact br_C (c := sc_12) hm.1 (by decide +kernel) (by decide +kernel) (show 13 * 2 ≤ d by omega) (fun h => ⟨⟨rfl, _, by decide +kernel, rfl⟩, ⟨rfl, rfl, (h (0, x0) (by simp)).1, (h (0, x0) (by simp)).2⟩, ⟨rfl, rfl, (h (0, x1) (by simp)).1, (h (0, x1) (by simp)).2⟩, trivial⟩) rfl rfl rfl hJ
set_option maxRecDepth 100000 in
theorem pb_52 {L : Nat} {xs : Nat → Int32} {vz : Value} {μ : iv_M} {d : Nat} {x0 x1 : Int} (hv : vz.category = 1) (hd : 26 ≤ d) (hJ : br_J L xs μ) : iv_C L xs vz d 52 [(13, 38), (0, x0), (0, x1)] μ (br_P L xs sc_14 μ) := by
  have hm := pb_all (st_Ok vz) (st_hz hv) sc_14 (List.mem_of_getElem? (i := 9) rfl)
  exact br_C (c := sc_14) hm.1 (by decide +kernel) (by decide +kernel) (show 13 * 2 ≤ d by omega) (fun h => ⟨⟨rfl, _, by decide +kernel, rfl⟩, ⟨rfl, rfl, (h (0, x0) (by simp)).1, (h (0, x0) (by simp)).2⟩, ⟨rfl, rfl, (h (0, x1) (by simp)).1, (h (0, x1) (by simp)).2⟩, trivial⟩) rfl rfl rfl hJ
set_option maxRecDepth 100000 in
theorem pb_56 {L : Nat} {xs : Nat → Int32} {vz : Value} {μ : iv_M} {d : Nat} {x0 x1 x2 x3 x4 : Int} (hv : vz.category = 1) (hd : 26 ≤ d) (hJ : br_J L xs μ) : iv_C L xs vz d 56 [(13, 38), (0, x0), (0, x1), (0, x2), (0, x3), (0, x4)] μ (br_P L xs sc_19 μ) := by
  have hm := pb_all (st_Ok vz) (st_hz hv) sc_19 (List.mem_of_getElem? (i := 10) rfl)
  exact br_C (c := sc_19) hm.1 (by decide +kernel) (by decide +kernel) (show 13 * 2 ≤ d by omega) (fun h => ⟨⟨rfl, _, by decide +kernel, rfl⟩, ⟨rfl, rfl, (h (0, x0) (by simp)).1, (h (0, x0) (by simp)).2⟩, ⟨rfl, rfl, (h (0, x1) (by simp)).1, (h (0, x1) (by simp)).2⟩, ⟨rfl, rfl, (h (0, x2) (by simp)).1, (h (0, x2) (by simp)).2⟩, ⟨rfl, rfl, (h (0, x3) (by simp)).1, (h (0, x3) (by simp)).2⟩, ⟨rfl, rfl, (h (0, x4) (by simp)).1, (h (0, x4) (by simp)).2⟩, trivial⟩) rfl rfl rfl hJ
set_option maxRecDepth 100000 in
theorem pb_65 {L : Nat} {xs : Nat → Int32} {vz : Value} {μ : iv_M} {d : Nat} {x0 : Int} (hv : vz.category = 1) (hd : 52 ≤ d) (hJ : br_J L xs μ) : iv_C L xs vz d 65 [(13, 38), (0, x0)] μ (br_P L xs sc_36 μ) := by
  have hm := pb_all (st_Ok vz) (st_hz hv) sc_36 (List.mem_of_getElem? (i := 11) rfl)
  exact br_C (c := sc_36) hm.1 (by decide +kernel) (by decide +kernel) (show 13 * 4 ≤ d by omega) (fun h => ⟨⟨rfl, _, by decide +kernel, rfl⟩, ⟨rfl, rfl, (h (0, x0) (by simp)).1, (h (0, x0) (by simp)).2⟩, trivial⟩) rfl rfl rfl hJ
set_option maxRecDepth 100000 in
theorem pb_93 {L : Nat} {xs : Nat → Int32} {vz : Value} {μ : iv_M} {d : Nat} {x0 x1 : Int} (hv : vz.category = 1) (hd : 39 ≤ d) (hJ : br_J L xs μ) : iv_C L xs vz d 93 [(13, 38), (0, x0), (0, x1)] μ (br_P L xs sc_37 μ) := by
  have hm := pb_all (st_Ok vz) (st_hz hv) sc_37 (List.mem_of_getElem? (i := 12) rfl)
  exact br_C (c := sc_37) hm.1 (by decide +kernel) (by decide +kernel) (show 13 * 3 ≤ d by omega) (fun h => ⟨⟨rfl, _, by decide +kernel, rfl⟩, ⟨rfl, rfl, (h (0, x0) (by simp)).1, (h (0, x0) (by simp)).2⟩, ⟨rfl, rfl, (h (0, x1) (by simp)).1, (h (0, x1) (by simp)).2⟩, trivial⟩) rfl rfl rfl hJ
set_option maxRecDepth 100000 in
theorem pb_94 {L : Nat} {xs : Nat → Int32} {vz : Value} {μ : iv_M} {d : Nat} {x0 x1 : Int} (hv : vz.category = 1) (hd : 39 ≤ d) (hJ : br_J L xs μ) : iv_C L xs vz d 94 [(13, 38), (0, x0), (0, x1)] μ (br_P L xs sc_38 μ) := by
  have hm := pb_all (st_Ok vz) (st_hz hv) sc_38 (List.mem_of_getElem? (i := 13) rfl)
  exact br_C (c := sc_38) hm.1 (by decide +kernel) (by decide +kernel) (show 13 * 3 ≤ d by omega) (fun h => ⟨⟨rfl, _, by decide +kernel, rfl⟩, ⟨rfl, rfl, (h (0, x0) (by simp)).1, (h (0, x0) (by simp)).2⟩, ⟨rfl, rfl, (h (0, x1) (by simp)).1, (h (0, x1) (by simp)).2⟩, trivial⟩) rfl rfl rfl hJ
set_option maxRecDepth 100000 in
theorem pb_96 {L : Nat} {xs : Nat → Int32} {vz : Value} {μ : iv_M} {d : Nat} (hv : vz.category = 1) (hd : 39 ≤ d) (hJ : br_J L xs μ) : iv_C L xs vz d 96 [(13, 38)] μ (br_P L xs sc_39 μ) := by
  have hm := pb_all (st_Ok vz) (st_hz hv) sc_39 (List.mem_of_getElem? (i := 14) rfl)
  exact br_C (c := sc_39) hm.1 (by decide +kernel) (by decide +kernel) (show 13 * 3 ≤ d by omega) (fun h => ⟨⟨rfl, _, by decide +kernel, rfl⟩, trivial⟩) rfl rfl rfl hJ
set_option maxRecDepth 100000 in
theorem pb_97 {L : Nat} {xs : Nat → Int32} {vz : Value} {μ : iv_M} {d : Nat} {x0 : Int} (hv : vz.category = 1) (hd : 26 ≤ d) (hJ : br_J L xs μ) : iv_C L xs vz d 97 [(13, 38), (0, x0)] μ (br_P L xs sc_40 μ) := by
  have hm := pb_all (st_Ok vz) (st_hz hv) sc_40 (List.mem_of_getElem? (i := 15) rfl)
  exact br_C (c := sc_40) hm.1 (by decide +kernel) (by decide +kernel) (show 13 * 2 ≤ d by omega) (fun h => ⟨⟨rfl, _, by decide +kernel, rfl⟩, ⟨rfl, rfl, (h (0, x0) (by simp)).1, (h (0, x0) (by simp)).2⟩, trivial⟩) rfl rfl rfl hJ
set_option maxRecDepth 100000 in
theorem pb_98 {L : Nat} {xs : Nat → Int32} {vz : Value} {μ : iv_M} {d : Nat} {x0 x1 : Int} (hv : vz.category = 1) (hd : 65 ≤ d) (hJ : br_J L xs μ) : iv_C L xs vz d 98 [(13, 38), (0, x0), (0, x1)] μ (br_P L xs sc_44 μ) := by
  have hm := pb_all (st_Ok vz) (st_hz hv) sc_44 (List.mem_of_getElem? (i := 16) rfl)
  exact br_C (c := sc_44) hm.1 (by decide +kernel) (by decide +kernel) (show 13 * 5 ≤ d by omega) (fun h => ⟨⟨rfl, _, by decide +kernel, rfl⟩, ⟨rfl, rfl, (h (0, x0) (by simp)).1, (h (0, x0) (by simp)).2⟩, ⟨rfl, rfl, (h (0, x1) (by simp)).1, (h (0, x1) (by simp)).2⟩, trivial⟩) rfl rfl rfl hJ
set_option maxRecDepth 100000 in
theorem pb_102 {L : Nat} {xs : Nat → Int32} {vz : Value} {μ : iv_M} {d : Nat} {x0 x1 : Int} (hv : vz.category = 1) (hd : 65 ≤ d) (hJ : br_J L xs μ) : iv_C L xs vz d 102 [(13, 38), (0, x0), (0, x1)] μ (br_P L xs sc_55 μ) := by
  have hm := pb_all (st_Ok vz) (st_hz hv) sc_55 (List.mem_of_getElem? (i := 17) rfl)
  exact br_C (c := sc_55) hm.1 (by decide +kernel) (by decide +kernel) (show 13 * 5 ≤ d by omega) (fun h => ⟨⟨rfl, _, by decide +kernel, rfl⟩, ⟨rfl, rfl, (h (0, x0) (by simp)).1, (h (0, x0) (by simp)).2⟩, ⟨rfl, rfl, (h (0, x1) (by simp)).1, (h (0, x1) (by simp)).2⟩, trivial⟩) rfl rfl rfl hJ
set_option maxRecDepth 100000 in
theorem pb_121 {L : Nat} {xs : Nat → Int32} {vz : Value} {μ : iv_M} {d : Nat} {x0 x1 : Int} (hv : vz.category = 1) (hd : 65 ≤ d) (hJ : br_J L xs μ) : iv_C L xs vz d 121 [(13, 38), (0, x0), (0, x1)] μ (br_P L xs sc_56 μ) := by
  have hm := pb_all (st_Ok vz) (st_hz hv) sc_56 (List.mem_of_getElem? (i := 18) rfl)
  exact br_C (c := sc_56) hm.1 (by decide +kernel) (by decide +kernel) (show 13 * 5 ≤ d by omega) (fun h => ⟨⟨rfl, _, by decide +kernel, rfl⟩, ⟨rfl, rfl, (h (0, x0) (by simp)).1, (h (0, x0) (by simp)).2⟩, ⟨rfl, rfl, (h (0, x1) (by simp)).1, (h (0, x1) (by simp)).2⟩, trivial⟩) rfl rfl rfl hJ
set_option maxRecDepth 100000 in
theorem pb_125 {L : Nat} {xs : Nat → Int32} {vz : Value} {μ : iv_M} {d : Nat} {x0 : Int} (hv : vz.category = 1) (hd : 26 ≤ d) (hJ : br_J L xs μ) : iv_C L xs vz d 125 [(13, 38), (0, x0)] μ (br_P L xs sc_58 μ) := by
  have hm := pb_all (st_Ok vz) (st_hz hv) sc_58 (List.mem_of_getElem? (i := 19) rfl)
  exact br_C (c := sc_58) hm.1 (by decide +kernel) (by decide +kernel) (show 13 * 2 ≤ d by omega) (fun h => ⟨⟨rfl, _, by decide +kernel, rfl⟩, ⟨rfl, rfl, (h (0, x0) (by simp)).1, (h (0, x0) (by simp)).2⟩, trivial⟩) rfl rfl rfl hJ
set_option maxRecDepth 100000 in
theorem pb_127 {L : Nat} {xs : Nat → Int32} {vz : Value} {μ : iv_M} {d : Nat} {x0 x1 : Int} (hv : vz.category = 1) (hd : 26 ≤ d) (hJ : br_J L xs μ) : iv_C L xs vz d 127 [(13, 38), (0, x0), (1, x1)] μ (br_P L xs sc_60 μ) := by
  have hm := pb_all (st_Ok vz) (st_hz hv) sc_60 (List.mem_of_getElem? (i := 20) rfl)
  exact br_C (c := sc_60) hm.1 (by decide +kernel) (by decide +kernel) (show 13 * 2 ≤ d by omega) (fun h => ⟨⟨rfl, _, by decide +kernel, rfl⟩, ⟨rfl, rfl, (h (0, x0) (by simp)).1, (h (0, x0) (by simp)).2⟩, ⟨rfl, rfl⟩, trivial⟩) rfl rfl rfl hJ
set_option maxRecDepth 100000 in
theorem pb_130 {L : Nat} {xs : Nat → Int32} {vz : Value} {μ : iv_M} {d : Nat} {x0 : Int} (hv : vz.category = 1) (hd : 468 ≤ d) (hJ : br_J L xs μ) : iv_C L xs vz d 130 [(13, 38), (0, x0)] μ (br_P L xs sc_121 μ) := by
  have hm := pb_all (st_Ok vz) (st_hz hv) sc_121 (List.mem_of_getElem? (i := 21) rfl)
  exact br_C (c := sc_121) hm.1 (by decide +kernel) (by decide +kernel) (show 13 * 36 ≤ d by omega) (fun h => ⟨⟨rfl, _, by decide +kernel, rfl⟩, ⟨rfl, rfl, (h (0, x0) (by simp)).1, (h (0, x0) (by simp)).2⟩, trivial⟩) rfl rfl rfl hJ
set_option maxRecDepth 100000 in
theorem pb_165 {L : Nat} {xs : Nat → Int32} {vz : Value} {μ : iv_M} {d : Nat} {x0 x1 : Int} (hv : vz.category = 1) (hd : 26 ≤ d) (hJ : br_J L xs μ) : iv_C L xs vz d 165 [(13, 38), (0, x0), (0, x1)] μ (br_P L xs sc_122 μ) := by
  have hm := pb_all (st_Ok vz) (st_hz hv) sc_122 (List.mem_of_getElem? (i := 22) rfl)
  exact br_C (c := sc_122) hm.1 (by decide +kernel) (by decide +kernel) (show 13 * 2 ≤ d by omega) (fun h => ⟨⟨rfl, _, by decide +kernel, rfl⟩, ⟨rfl, rfl, (h (0, x0) (by simp)).1, (h (0, x0) (by simp)).2⟩, ⟨rfl, rfl, (h (0, x1) (by simp)).1, (h (0, x1) (by simp)).2⟩, trivial⟩) rfl rfl rfl hJ
set_option maxRecDepth 100000 in
theorem pb_167 {L : Nat} {xs : Nat → Int32} {vz : Value} {μ : iv_M} {d : Nat} {x0 : Int} (hv : vz.category = 1) (hd : 26 ≤ d) (hJ : br_J L xs μ) : iv_C L xs vz d 167 [(13, 38), (0, x0)] μ (br_P L xs sc_123 μ) := by
  have hm := pb_all (st_Ok vz) (st_hz hv) sc_123 (List.mem_of_getElem? (i := 23) rfl)
  exact br_C (c := sc_123) hm.1 (by decide +kernel) (by decide +kernel) (show 13 * 2 ≤ d by omega) (fun h => ⟨⟨rfl, _, by decide +kernel, rfl⟩, ⟨rfl, rfl, (h (0, x0) (by simp)).1, (h (0, x0) (by simp)).2⟩, trivial⟩) rfl rfl rfl hJ
set_option maxRecDepth 100000 in
theorem pb_169 {L : Nat} {xs : Nat → Int32} {vz : Value} {μ : iv_M} {d : Nat} {x0 x1 : Int} (hv : vz.category = 1) (hd : 52 ≤ d) (hJ : br_J L xs μ) : iv_C L xs vz d 169 [(13, 38), (0, x0), (0, x1)] μ (br_P L xs sc_124 μ) := by
  have hm := pb_all (st_Ok vz) (st_hz hv) sc_124 (List.mem_of_getElem? (i := 24) rfl)
  exact br_C (c := sc_124) hm.1 (by decide +kernel) (by decide +kernel) (show 13 * 4 ≤ d by omega) (fun h => ⟨⟨rfl, _, by decide +kernel, rfl⟩, ⟨rfl, rfl, (h (0, x0) (by simp)).1, (h (0, x0) (by simp)).2⟩, ⟨rfl, rfl, (h (0, x1) (by simp)).1, (h (0, x1) (by simp)).2⟩, trivial⟩) rfl rfl rfl hJ
set_option maxRecDepth 100000 in
theorem pb_170 {L : Nat} {xs : Nat → Int32} {vz : Value} {μ : iv_M} {d : Nat} {x0 x1 : Int} (hv : vz.category = 1) (hd : 39 ≤ d) (hJ : br_J L xs μ) : iv_C L xs vz d 170 [(13, 38), (0, x0), (0, x1)] μ (br_P L xs sc_125 μ) := by
  have hm := pb_all (st_Ok vz) (st_hz hv) sc_125 (List.mem_of_getElem? (i := 25) rfl)
  exact br_C (c := sc_125) hm.1 (by decide +kernel) (by decide +kernel) (show 13 * 3 ≤ d by omega) (fun h => ⟨⟨rfl, _, by decide +kernel, rfl⟩, ⟨rfl, rfl, (h (0, x0) (by simp)).1, (h (0, x0) (by simp)).2⟩, ⟨rfl, rfl, (h (0, x1) (by simp)).1, (h (0, x1) (by simp)).2⟩, trivial⟩) rfl rfl rfl hJ
set_option maxRecDepth 100000 in
theorem pb_172 {L : Nat} {xs : Nat → Int32} {vz : Value} {μ : iv_M} {d : Nat} {x0 : Int} (hv : vz.category = 1) (hd : 39 ≤ d) (hJ : br_J L xs μ) : iv_C L xs vz d 172 [(13, 38), (0, x0)] μ (br_P L xs sc_126 μ) := by
  have hm := pb_all (st_Ok vz) (st_hz hv) sc_126 (List.mem_of_getElem? (i := 26) rfl)
  exact br_C (c := sc_126) hm.1 (by decide +kernel) (by decide +kernel) (show 13 * 3 ≤ d by omega) (fun h => ⟨⟨rfl, _, by decide +kernel, rfl⟩, ⟨rfl, rfl, (h (0, x0) (by simp)).1, (h (0, x0) (by simp)).2⟩, trivial⟩) rfl rfl rfl hJ
set_option maxRecDepth 100000 in
theorem pb_174 {L : Nat} {xs : Nat → Int32} {vz : Value} {μ : iv_M} {d : Nat} {x0 : Int} (hv : vz.category = 1) (hd : 26 ≤ d) (hJ : br_J L xs μ) : iv_C L xs vz d 174 [(13, 38), (0, x0)] μ (br_P L xs sc_128 μ) := by
  have hm := pb_all (st_Ok vz) (st_hz hv) sc_128 (List.mem_of_getElem? (i := 27) rfl)
  exact br_C (c := sc_128) hm.1 (by decide +kernel) (by decide +kernel) (show 13 * 2 ≤ d by omega) (fun h => ⟨⟨rfl, _, by decide +kernel, rfl⟩, ⟨rfl, rfl, (h (0, x0) (by simp)).1, (h (0, x0) (by simp)).2⟩, trivial⟩) rfl rfl rfl hJ
set_option maxRecDepth 100000 in
theorem pb_176 {L : Nat} {xs : Nat → Int32} {vz : Value} {μ : iv_M} {d : Nat} {x0 x1 : Int} (hv : vz.category = 1) (hd : 13 ≤ d) (hJ : br_J L xs μ) : iv_C L xs vz d 176 [(13, 38), (0, x0), (0, x1)] μ (br_P L xs sc_129 μ) := by
  have hm := pb_all (st_Ok vz) (st_hz hv) sc_129 (List.mem_of_getElem? (i := 28) rfl)
  exact br_C (c := sc_129) hm.1 (by decide +kernel) (by decide +kernel) (show 13 * 1 ≤ d by omega) (fun h => ⟨⟨rfl, _, by decide +kernel, rfl⟩, ⟨rfl, rfl, (h (0, x0) (by simp)).1, (h (0, x0) (by simp)).2⟩, ⟨rfl, rfl, (h (0, x1) (by simp)).1, (h (0, x1) (by simp)).2⟩, trivial⟩) rfl rfl rfl hJ
set_option maxRecDepth 100000 in
theorem pb_178 {L : Nat} {xs : Nat → Int32} {vz : Value} {μ : iv_M} {d : Nat} {x0 x1 : Int} (hv : vz.category = 1) (hd : 65 ≤ d) (hJ : br_J L xs μ) : iv_C L xs vz d 178 [(13, 38), (0, x0), (0, x1)] μ (br_P L xs sc_136 μ) := by
  have hm := pb_all (st_Ok vz) (st_hz hv) sc_136 (List.mem_of_getElem? (i := 29) rfl)
  exact br_C (c := sc_136) hm.1 (by decide +kernel) (by decide +kernel) (show 13 * 5 ≤ d by omega) (fun h => ⟨⟨rfl, _, by decide +kernel, rfl⟩, ⟨rfl, rfl, (h (0, x0) (by simp)).1, (h (0, x0) (by simp)).2⟩, ⟨rfl, rfl, (h (0, x1) (by simp)).1, (h (0, x1) (by simp)).2⟩, trivial⟩) rfl rfl rfl hJ
set_option maxRecDepth 100000 in
theorem pb_186 {L : Nat} {xs : Nat → Int32} {vz : Value} {μ : iv_M} {d : Nat} {x0 x1 : Int} (hv : vz.category = 1) (hd : 78 ≤ d) (hJ : br_J L xs μ) (g1 : 0 ≤ x1 ∧ x1 ≤ 1) : iv_C L xs vz d 186 [(13, 38), (0, x0), (0, x1)] μ (br_P L xs sc_139 μ) := by
  have hm := pb_all (st_Ok vz) (st_hz hv) sc_139 (List.mem_of_getElem? (i := 30) rfl)
  exact br_C (c := sc_139) hm.1 (by decide +kernel) (by decide +kernel) (show 13 * 6 ≤ d by omega) (fun h => ⟨⟨rfl, _, by decide +kernel, rfl⟩, ⟨rfl, rfl, (h (0, x0) (by simp)).1, (h (0, x0) (by simp)).2⟩, ⟨rfl, rfl, g1.1, g1.2⟩, trivial⟩) rfl rfl rfl hJ
set_option maxRecDepth 100000 in
theorem pb_190 {L : Nat} {xs : Nat → Int32} {vz : Value} {μ : iv_M} {d : Nat} {x0 x1 x2 : Int} (hv : vz.category = 1) (hd : 52 ≤ d) (hJ : br_J L xs μ) : iv_C L xs vz d 190 [(13, 38), (0, x0), (0, x1), (0, x2)] μ (br_P L xs sc_144 μ) := by
  have hm := pb_all (st_Ok vz) (st_hz hv) sc_144 (List.mem_of_getElem? (i := 31) rfl)
  exact br_C (c := sc_144) hm.1 (by decide +kernel) (by decide +kernel) (show 13 * 4 ≤ d by omega) (fun h => ⟨⟨rfl, _, by decide +kernel, rfl⟩, ⟨rfl, rfl, (h (0, x0) (by simp)).1, (h (0, x0) (by simp)).2⟩, ⟨rfl, rfl, (h (0, x1) (by simp)).1, (h (0, x1) (by simp)).2⟩, ⟨rfl, rfl, (h (0, x2) (by simp)).1, (h (0, x2) (by simp)).2⟩, trivial⟩) rfl rfl rfl hJ
set_option maxRecDepth 100000 in
theorem pb_192 {L : Nat} {xs : Nat → Int32} {vz : Value} {μ : iv_M} {d : Nat} {x0 x1 : Int} (hv : vz.category = 1) (hd : 39 ≤ d) (hJ : br_J L xs μ) : iv_C L xs vz d 192 [(13, 38), (0, x0), (0, x1)] μ (br_P L xs sc_148 μ) := by
  have hm := pb_all (st_Ok vz) (st_hz hv) sc_148 (List.mem_of_getElem? (i := 32) rfl)
  exact br_C (c := sc_148) hm.1 (by decide +kernel) (by decide +kernel) (show 13 * 3 ≤ d by omega) (fun h => ⟨⟨rfl, _, by decide +kernel, rfl⟩, ⟨rfl, rfl, (h (0, x0) (by simp)).1, (h (0, x0) (by simp)).2⟩, ⟨rfl, rfl, (h (0, x1) (by simp)).1, (h (0, x1) (by simp)).2⟩, trivial⟩) rfl rfl rfl hJ
set_option maxRecDepth 100000 in
theorem pb_197 {L : Nat} {xs : Nat → Int32} {vz : Value} {μ : iv_M} {d : Nat} {x0 x1 : Int} (hv : vz.category = 1) (hd : 39 ≤ d) (hJ : br_J L xs μ) : iv_C L xs vz d 197 [(13, 38), (0, x0), (0, x1)] μ (br_P L xs sc_150 μ) := by
  have hm := pb_all (st_Ok vz) (st_hz hv) sc_150 (List.mem_of_getElem? (i := 33) rfl)
  exact br_C (c := sc_150) hm.1 (by decide +kernel) (by decide +kernel) (show 13 * 3 ≤ d by omega) (fun h => ⟨⟨rfl, _, by decide +kernel, rfl⟩, ⟨rfl, rfl, (h (0, x0) (by simp)).1, (h (0, x0) (by simp)).2⟩, ⟨rfl, rfl, (h (0, x1) (by simp)).1, (h (0, x1) (by simp)).2⟩, trivial⟩) rfl rfl rfl hJ
set_option maxRecDepth 100000 in
theorem pb_199 {L : Nat} {xs : Nat → Int32} {vz : Value} {μ : iv_M} {d : Nat} {x0 x1 x2 : Int} (hv : vz.category = 1) (hd : 26 ≤ d) (hJ : br_J L xs μ) : iv_C L xs vz d 199 [(13, 38), (0, x0), (0, x1), (0, x2)] μ (br_P L xs sc_155 μ) := by
  have hm := pb_all (st_Ok vz) (st_hz hv) sc_155 (List.mem_of_getElem? (i := 34) rfl)
  exact br_C (c := sc_155) hm.1 (by decide +kernel) (by decide +kernel) (show 13 * 2 ≤ d by omega) (fun h => ⟨⟨rfl, _, by decide +kernel, rfl⟩, ⟨rfl, rfl, (h (0, x0) (by simp)).1, (h (0, x0) (by simp)).2⟩, ⟨rfl, rfl, (h (0, x1) (by simp)).1, (h (0, x1) (by simp)).2⟩, ⟨rfl, rfl, (h (0, x2) (by simp)).1, (h (0, x2) (by simp)).2⟩, trivial⟩) rfl rfl rfl hJ
set_option maxRecDepth 100000 in
theorem pb_201 {L : Nat} {xs : Nat → Int32} {vz : Value} {μ : iv_M} {d : Nat} {x0 x1 x2 : Int} (hv : vz.category = 1) (hd : 13 ≤ d) (hJ : br_J L xs μ) : iv_C L xs vz d 201 [(13, 38), (0, x0), (0, x1), (0, x2)] μ (br_P L xs sc_156 μ) := by
  have hm := pb_all (st_Ok vz) (st_hz hv) sc_156 (List.mem_of_getElem? (i := 35) rfl)
  exact br_C (c := sc_156) hm.1 (by decide +kernel) (by decide +kernel) (show 13 * 1 ≤ d by omega) (fun h => ⟨⟨rfl, _, by decide +kernel, rfl⟩, ⟨rfl, rfl, (h (0, x0) (by simp)).1, (h (0, x0) (by simp)).2⟩, ⟨rfl, rfl, (h (0, x1) (by simp)).1, (h (0, x1) (by simp)).2⟩, ⟨rfl, rfl, (h (0, x2) (by simp)).1, (h (0, x2) (by simp)).2⟩, trivial⟩) rfl rfl rfl hJ
set_option maxRecDepth 100000 in
theorem pb_203 {L : Nat} {xs : Nat → Int32} {vz : Value} {μ : iv_M} {d : Nat} {x0 x1 x2 x3 x4 : Int} (hv : vz.category = 1) (hd : 13 ≤ d) (hJ : br_J L xs μ) : iv_C L xs vz d 203 [(13, 38), (0, x0), (0, x1), (0, x2), (0, x3), (0, x4)] μ (br_P L xs sc_157 μ) := by
  have hm := pb_all (st_Ok vz) (st_hz hv) sc_157 (List.mem_of_getElem? (i := 36) rfl)
  exact br_C (c := sc_157) hm.1 (by decide +kernel) (by decide +kernel) (show 13 * 1 ≤ d by omega) (fun h => ⟨⟨rfl, _, by decide +kernel, rfl⟩, ⟨rfl, rfl, (h (0, x0) (by simp)).1, (h (0, x0) (by simp)).2⟩, ⟨rfl, rfl, (h (0, x1) (by simp)).1, (h (0, x1) (by simp)).2⟩, ⟨rfl, rfl, (h (0, x2) (by simp)).1, (h (0, x2) (by simp)).2⟩, ⟨rfl, rfl, (h (0, x3) (by simp)).1, (h (0, x3) (by simp)).2⟩, ⟨rfl, rfl, (h (0, x4) (by simp)).1, (h (0, x4) (by simp)).2⟩, trivial⟩) rfl rfl rfl hJ
set_option maxRecDepth 100000 in
theorem pb_205 {L : Nat} {xs : Nat → Int32} {vz : Value} {μ : iv_M} {d : Nat} (hv : vz.category = 1) (hd : 39 ≤ d) (hJ : br_J L xs μ) : iv_C L xs vz d 205 [(13, 38)] μ (br_P L xs sc_170 μ) := by
  have hm := pb_all (st_Ok vz) (st_hz hv) sc_170 (List.mem_of_getElem? (i := 37) rfl)
  exact br_C (c := sc_170) hm.1 (by decide +kernel) (by decide +kernel) (show 13 * 3 ≤ d by omega) (fun h => ⟨⟨rfl, _, by decide +kernel, rfl⟩, trivial⟩) rfl rfl rfl hJ
set_option maxRecDepth 100000 in
theorem pb_212 {L : Nat} {xs : Nat → Int32} {vz : Value} {μ : iv_M} {d : Nat} (hv : vz.category = 1) (hd : 39 ≤ d) (hJ : br_J L xs μ) : iv_C L xs vz d 212 [(13, 38)] μ (br_P L xs sc_171 μ) := by
  have hm := pb_all (st_Ok vz) (st_hz hv) sc_171 (List.mem_of_getElem? (i := 38) rfl)
  exact br_C (c := sc_171) hm.1 (by decide +kernel) (by decide +kernel) (show 13 * 3 ≤ d by omega) (fun h => ⟨⟨rfl, _, by decide +kernel, rfl⟩, trivial⟩) rfl rfl rfl hJ
set_option maxRecDepth 100000 in
theorem pb_213 {L : Nat} {xs : Nat → Int32} {vz : Value} {μ : iv_M} {d : Nat} {x0 : Int} (hv : vz.category = 1) (hd : 26 ≤ d) (hJ : br_J L xs μ) : iv_C L xs vz d 213 [(13, 38), (0, x0)] μ (br_P L xs sc_176 μ) := by
  have hm := pb_all (st_Ok vz) (st_hz hv) sc_176 (List.mem_of_getElem? (i := 39) rfl)
  exact br_C (c := sc_176) hm.1 (by decide +kernel) (by decide +kernel) (show 13 * 2 ≤ d by omega) (fun h => ⟨⟨rfl, _, by decide +kernel, rfl⟩, ⟨rfl, rfl, (h (0, x0) (by simp)).1, (h (0, x0) (by simp)).2⟩, trivial⟩) rfl rfl rfl hJ
set_option maxRecDepth 100000 in
theorem pb_219 {L : Nat} {xs : Nat → Int32} {vz : Value} {μ : iv_M} {d : Nat} {x0 x1 x2 : Int} (hv : vz.category = 1) (hd : 13 ≤ d) (hJ : br_J L xs μ) : iv_C L xs vz d 219 [(14, 195), (0, x0), (0, x1), (0, x2)] μ (br_P L xs sc_177 μ) := by
  have hm := pb_all (st_Ok vz) (st_hz hv) sc_177 (List.mem_of_getElem? (i := 40) rfl)
  exact br_C (c := sc_177) hm.1 (by decide +kernel) (by decide +kernel) (show 13 * 1 ≤ d by omega) (fun h => ⟨⟨rfl, _, by decide +kernel, rfl⟩, ⟨rfl, rfl, (h (0, x0) (by simp)).1, (h (0, x0) (by simp)).2⟩, ⟨rfl, rfl, (h (0, x1) (by simp)).1, (h (0, x1) (by simp)).2⟩, ⟨rfl, rfl, (h (0, x2) (by simp)).1, (h (0, x2) (by simp)).2⟩, trivial⟩) rfl rfl rfl hJ
set_option maxRecDepth 100000 in
theorem pb_222 {L : Nat} {xs : Nat → Int32} {vz : Value} {μ : iv_M} {d : Nat} {x0 x1 x2 x3 : Int} (hv : vz.category = 1) (hd : 13 ≤ d) (hJ : br_J L xs μ) : iv_C L xs vz d 222 [(14, 195), (0, x0), (0, x1), (0, x2), (0, x3)] μ (br_P L xs sc_178 μ) := by
  have hm := pb_all (st_Ok vz) (st_hz hv) sc_178 (List.mem_of_getElem? (i := 41) rfl)
  exact br_C (c := sc_178) hm.1 (by decide +kernel) (by decide +kernel) (show 13 * 1 ≤ d by omega) (fun h => ⟨⟨rfl, _, by decide +kernel, rfl⟩, ⟨rfl, rfl, (h (0, x0) (by simp)).1, (h (0, x0) (by simp)).2⟩, ⟨rfl, rfl, (h (0, x1) (by simp)).1, (h (0, x1) (by simp)).2⟩, ⟨rfl, rfl, (h (0, x2) (by simp)).1, (h (0, x2) (by simp)).2⟩, ⟨rfl, rfl, (h (0, x3) (by simp)).1, (h (0, x3) (by simp)).2⟩, trivial⟩) rfl rfl rfl hJ
set_option maxRecDepth 100000 in
theorem pb_224 {L : Nat} {xs : Nat → Int32} {vz : Value} {μ : iv_M} {d : Nat} {x0 x1 : Int} (hv : vz.category = 1) (hd : 13 ≤ d) (hJ : br_J L xs μ) : iv_C L xs vz d 224 [(14, 195), (0, x0), (0, x1)] μ (br_P L xs sc_179 μ) := by
  have hm := pb_all (st_Ok vz) (st_hz hv) sc_179 (List.mem_of_getElem? (i := 42) rfl)
  exact br_C (c := sc_179) hm.1 (by decide +kernel) (by decide +kernel) (show 13 * 1 ≤ d by omega) (fun h => ⟨⟨rfl, _, by decide +kernel, rfl⟩, ⟨rfl, rfl, (h (0, x0) (by simp)).1, (h (0, x0) (by simp)).2⟩, ⟨rfl, rfl, (h (0, x1) (by simp)).1, (h (0, x1) (by simp)).2⟩, trivial⟩) rfl rfl rfl hJ
set_option maxRecDepth 100000 in
theorem pb_227 {L : Nat} {xs : Nat → Int32} {vz : Value} {μ : iv_M} {d : Nat} {x0 x1 : Int} (hv : vz.category = 1) (hd : 39 ≤ d) (hJ : br_J L xs μ) : iv_C L xs vz d 227 [(14, 195), (0, x0), (0, x1)] μ (br_P L xs sc_184 μ) := by
  have hm := pb_all (st_Ok vz) (st_hz hv) sc_184 (List.mem_of_getElem? (i := 43) rfl)
  exact br_C (c := sc_184) hm.1 (by decide +kernel) (by decide +kernel) (show 13 * 3 ≤ d by omega) (fun h => ⟨⟨rfl, _, by decide +kernel, rfl⟩, ⟨rfl, rfl, (h (0, x0) (by simp)).1, (h (0, x0) (by simp)).2⟩, ⟨rfl, rfl, (h (0, x1) (by simp)).1, (h (0, x1) (by simp)).2⟩, trivial⟩) rfl rfl rfl hJ
set_option maxRecDepth 100000 in
theorem pb_238 {L : Nat} {xs : Nat → Int32} {vz : Value} {μ : iv_M} {d : Nat} {x0 x1 x2 : Int} (hv : vz.category = 1) (hd : 13 ≤ d) (hJ : br_J L xs μ) (g2 : 0 ≤ x2 ∧ x2 ≤ 1) : iv_C L xs vz d 238 [(14, 195), (0, x0), (0, x1), (0, x2)] μ (br_P L xs sc_185 μ) := by
  have hm := pb_all (st_Ok vz) (st_hz hv) sc_185 (List.mem_of_getElem? (i := 44) rfl)
  exact br_C (c := sc_185) hm.1 (by decide +kernel) (by decide +kernel) (show 13 * 1 ≤ d by omega) (fun h => ⟨⟨rfl, _, by decide +kernel, rfl⟩, ⟨rfl, rfl, (h (0, x0) (by simp)).1, (h (0, x0) (by simp)).2⟩, ⟨rfl, rfl, (h (0, x1) (by simp)).1, (h (0, x1) (by simp)).2⟩, ⟨rfl, rfl, g2.1, g2.2⟩, trivial⟩) rfl rfl rfl hJ
set_option maxRecDepth 100000 in
theorem pb_241 {L : Nat} {xs : Nat → Int32} {vz : Value} {μ : iv_M} {d : Nat} {x0 x1 x2 x3 : Int} (hv : vz.category = 1) (hd : 26 ≤ d) (hJ : br_J L xs μ) (g3 : 0 ≤ x3 ∧ x3 ≤ 1) : iv_C L xs vz d 241 [(14, 195), (0, x0), (0, x1), (0, x2), (0, x3)] μ (br_P L xs sc_186 μ) := by
  have hm := pb_all (st_Ok vz) (st_hz hv) sc_186 (List.mem_of_getElem? (i := 45) rfl)
  exact br_C (c := sc_186) hm.1 (by decide +kernel) (by decide +kernel) (show 13 * 2 ≤ d by omega) (fun h => ⟨⟨rfl, _, by decide +kernel, rfl⟩, ⟨rfl, rfl, (h (0, x0) (by simp)).1, (h (0, x0) (by simp)).2⟩, ⟨rfl, rfl, (h (0, x1) (by simp)).1, (h (0, x1) (by simp)).2⟩, ⟨rfl, rfl, (h (0, x2) (by simp)).1, (h (0, x2) (by simp)).2⟩, ⟨rfl, rfl, g3.1, g3.2⟩, trivial⟩) rfl rfl rfl hJ
set_option maxRecDepth 100000 in
theorem pb_242 {L : Nat} {xs : Nat → Int32} {vz : Value} {μ : iv_M} {d : Nat} {x0 x1 x2 x3 : Int} (hv : vz.category = 1) (hd : 13 ≤ d) (hJ : br_J L xs μ) : iv_C L xs vz d 242 [(14, 195), (0, x0), (0, x1), (0, x2), (0, x3)] μ (br_P L xs sc_187 μ) := by
  have hm := pb_all (st_Ok vz) (st_hz hv) sc_187 (List.mem_of_getElem? (i := 46) rfl)
  exact br_C (c := sc_187) hm.1 (by decide +kernel) (by decide +kernel) (show 13 * 1 ≤ d by omega) (fun h => ⟨⟨rfl, _, by decide +kernel, rfl⟩, ⟨rfl, rfl, (h (0, x0) (by simp)).1, (h (0, x0) (by simp)).2⟩, ⟨rfl, rfl, (h (0, x1) (by simp)).1, (h (0, x1) (by simp)).2⟩, ⟨rfl, rfl, (h (0, x2) (by simp)).1, (h (0, x2) (by simp)).2⟩, ⟨rfl, rfl, (h (0, x3) (by simp)).1, (h (0, x3) (by simp)).2⟩, trivial⟩) rfl rfl rfl hJ
set_option maxRecDepth 100000 in
theorem pb_243 {L : Nat} {xs : Nat → Int32} {vz : Value} {μ : iv_M} {d : Nat} {x0 x1 : Int} (hv : vz.category = 1) (hd : 13 ≤ d) (hJ : br_J L xs μ) : iv_C L xs vz d 243 [(14, 195), (0, x0), (0, x1)] μ (br_P L xs sc_188 μ) := by
  have hm := pb_all (st_Ok vz) (st_hz hv) sc_188 (List.mem_of_getElem? (i := 47) rfl)
  exact br_C (c := sc_188) hm.1 (by decide +kernel) (by decide +kernel) (show 13 * 1 ≤ d by omega) (fun h => ⟨⟨rfl, _, by decide +kernel, rfl⟩, ⟨rfl, rfl, (h (0, x0) (by simp)).1, (h (0, x0) (by simp)).2⟩, ⟨rfl, rfl, (h (0, x1) (by simp)).1, (h (0, x1) (by simp)).2⟩, trivial⟩) rfl rfl rfl hJ
set_option maxRecDepth 100000 in
theorem pb_245 {L : Nat} {xs : Nat → Int32} {vz : Value} {μ : iv_M} {d : Nat} {x0 x1 : Int} (hv : vz.category = 1) (hd : 26 ≤ d) (hJ : br_J L xs μ) : iv_C L xs vz d 245 [(14, 195), (0, x0), (0, x1)] μ (br_P L xs sc_189 μ) := by
  have hm := pb_all (st_Ok vz) (st_hz hv) sc_189 (List.mem_of_getElem? (i := 48) rfl)
  exact br_C (c := sc_189) hm.1 (by decide +kernel) (by decide +kernel) (show 13 * 2 ≤ d by omega) (fun h => ⟨⟨rfl, _, by decide +kernel, rfl⟩, ⟨rfl, rfl, (h (0, x0) (by simp)).1, (h (0, x0) (by simp)).2⟩, ⟨rfl, rfl, (h (0, x1) (by simp)).1, (h (0, x1) (by simp)).2⟩, trivial⟩) rfl rfl rfl hJ
set_option maxRecDepth 100000 in
theorem pb_246 {L : Nat} {xs : Nat → Int32} {vz : Value} {μ : iv_M} {d : Nat} {x0 x1 : Int} (hv : vz.category = 1) (hd : 26 ≤ d) (hJ : br_J L xs μ) : iv_C L xs vz d 246 [(14, 195), (0, x0), (0, x1)] μ (br_P L xs sc_191 μ) := by
  have hm := pb_all (st_Ok vz) (st_hz hv) sc_191 (List.mem_of_getElem? (i := 49) rfl)
  exact br_C (c := sc_191) hm.1 (by decide +kernel) (by decide +kernel) (show 13 * 2 ≤ d by omega) (fun h => ⟨⟨rfl, _, by decide +kernel, rfl⟩, ⟨rfl, rfl, (h (0, x0) (by simp)).1, (h (0, x0) (by simp)).2⟩, ⟨rfl, rfl, (h (0, x1) (by simp)).1, (h (0, x1) (by simp)).2⟩, trivial⟩) rfl rfl rfl hJ
set_option maxRecDepth 100000 in
theorem pb_249 {L : Nat} {xs : Nat → Int32} {vz : Value} {μ : iv_M} {d : Nat} (hv : vz.category = 1) (hd : 39 ≤ d) (hJ : br_J L xs μ) : iv_C L xs vz d 249 [(14, 195)] μ (br_P L xs sc_193 μ) := by
  have hm := pb_all (st_Ok vz) (st_hz hv) sc_193 (List.mem_of_getElem? (i := 50) rfl)
  exact br_C (c := sc_193) hm.1 (by decide +kernel) (by decide +kernel) (show 13 * 3 ≤ d by omega) (fun h => ⟨⟨rfl, _, by decide +kernel, rfl⟩, trivial⟩) rfl rfl rfl hJ
set_option maxRecDepth 100000 in
theorem pb_251 {L : Nat} {xs : Nat → Int32} {vz : Value} {μ : iv_M} {d : Nat} {x0 : Int} (hv : vz.category = 1) (hd : 26 ≤ d) (hJ : br_J L xs μ) : iv_C L xs vz d 251 [(14, 195), (0, x0)] μ (br_P L xs sc_194 μ) := by
  have hm := pb_all (st_Ok vz) (st_hz hv) sc_194 (List.mem_of_getElem? (i := 51) rfl)
  exact br_C (c := sc_194) hm.1 (by decide +kernel) (by decide +kernel) (show 13 * 2 ≤ d by omega) (fun h => ⟨⟨rfl, _, by decide +kernel, rfl⟩, ⟨rfl, rfl, (h (0, x0) (by simp)).1, (h (0, x0) (by simp)).2⟩, trivial⟩) rfl rfl rfl hJ
set_option maxRecDepth 100000 in
theorem pb_252 {L : Nat} {xs : Nat → Int32} {vz : Value} {μ : iv_M} {d : Nat} {x0 x1 x2 x3 x4 : Int} (hv : vz.category = 1) (hd : 26 ≤ d) (hJ : br_J L xs μ) : iv_C L xs vz d 252 [(14, 195), (0, x0), (0, x1), (0, x2), (0, x3), (0, x4)] μ (br_P L xs sc_198 μ) := by
  have hm := pb_all (st_Ok vz) (st_hz hv) sc_198 (List.mem_of_getElem? (i := 52) rfl)
  exact br_C (c := sc_198) hm.1 (by decide +kernel) (by decide +kernel) (show 13 * 2 ≤ d by omega) (fun h => ⟨⟨rfl, _, by decide +kernel, rfl⟩, ⟨rfl, rfl, (h (0, x0) (by simp)).1, (h (0, x0) (by simp)).2⟩, ⟨rfl, rfl, (h (0, x1) (by simp)).1, (h (0, x1) (by simp)).2⟩, ⟨rfl, rfl, (h (0, x2) (by simp)).1, (h (0, x2) (by simp)).2⟩, ⟨rfl, rfl, (h (0, x3) (by simp)).1, (h (0, x3) (by simp)).2⟩, ⟨rfl, rfl, (h (0, x4) (by simp)).1, (h (0, x4) (by simp)).2⟩, trivial⟩) rfl rfl rfl hJ
set_option maxRecDepth 100000 in
theorem pb_256 {L : Nat} {xs : Nat → Int32} {vz : Value} {μ : iv_M} {d : Nat} {x0 x1 : Int} (hv : vz.category = 1) (hd : 52 ≤ d) (hJ : br_J L xs μ) : iv_C L xs vz d 256 [(14, 195), (0, x0), (0, x1)] μ (br_P L xs sc_202 μ) := by
  have hm := pb_all (st_Ok vz) (st_hz hv) sc_202 (List.mem_of_getElem? (i := 53) rfl)
  exact br_C (c := sc_202) hm.1 (by decide +kernel) (by decide +kernel) (show 13 * 4 ≤ d by omega) (fun h => ⟨⟨rfl, _, by decide +kernel, rfl⟩, ⟨rfl, rfl, (h (0, x0) (by simp)).1, (h (0, x0) (by simp)).2⟩, ⟨rfl, rfl, (h (0, x1) (by simp)).1, (h (0, x1) (by simp)).2⟩, trivial⟩) rfl rfl rfl hJ
set_option maxRecDepth 100000 in
theorem pb_262 {L : Nat} {xs : Nat → Int32} {vz : Value} {μ : iv_M} {d : Nat} {x0 x1 : Int} (hv : vz.category = 1) (hd : 52 ≤ d) (hJ : br_J L xs μ) : iv_C L xs vz d 262 [(14, 195), (0, x0), (0, x1)] μ (br_P L xs sc_204 μ) := by
  have hm := pb_all (st_Ok vz) (st_hz hv) sc_204 (List.mem_of_getElem? (i := 54) rfl)
  exact br_C (c := sc_204) hm.1 (by decide +kernel) (by decide +kernel) (show 13 * 4 ≤ d by omega) (fun h => ⟨⟨rfl, _, by decide +kernel, rfl⟩, ⟨rfl, rfl, (h (0, x0) (by simp)).1, (h (0, x0) (by simp)).2⟩, ⟨rfl, rfl, (h (0, x1) (by simp)).1, (h (0, x1) (by simp)).2⟩, trivial⟩) rfl rfl rfl hJ
set_option maxRecDepth 100000 in
theorem pb_265 {L : Nat} {xs : Nat → Int32} {vz : Value} {μ : iv_M} {d : Nat} {x0 x1 : Int} (hv : vz.category = 1) (hd : 65 ≤ d) (hJ : br_J L xs μ) : iv_C L xs vz d 265 [(14, 195), (0, x0), (0, x1)] μ (br_P L xs sc_206 μ) := by
  have hm := pb_all (st_Ok vz) (st_hz hv) sc_206 (List.mem_of_getElem? (i := 55) rfl)
  exact br_C (c := sc_206) hm.1 (by decide +kernel) (by decide +kernel) (show 13 * 5 ≤ d by omega) (fun h => ⟨⟨rfl, _, by decide +kernel, rfl⟩, ⟨rfl, rfl, (h (0, x0) (by simp)).1, (h (0, x0) (by simp)).2⟩, ⟨rfl, rfl, (h (0, x1) (by simp)).1, (h (0, x1) (by simp)).2⟩, trivial⟩) rfl rfl rfl hJ
set_option maxRecDepth 100000 in
theorem pb_267 {L : Nat} {xs : Nat → Int32} {vz : Value} {μ : iv_M} {d : Nat} {x0 : Int} (hv : vz.category = 1) (hd : 13 ≤ d) (hJ : br_J L xs μ) : iv_C L xs vz d 267 [(14, 195), (0, x0)] μ (br_P L xs sc_207 μ) := by
  have hm := pb_all (st_Ok vz) (st_hz hv) sc_207 (List.mem_of_getElem? (i := 56) rfl)
  exact br_C (c := sc_207) hm.1 (by decide +kernel) (by decide +kernel) (show 13 * 1 ≤ d by omega) (fun h => ⟨⟨rfl, _, by decide +kernel, rfl⟩, ⟨rfl, rfl, (h (0, x0) (by simp)).1, (h (0, x0) (by simp)).2⟩, trivial⟩) rfl rfl rfl hJ
set_option maxRecDepth 100000 in
theorem pb_268 {L : Nat} {xs : Nat → Int32} {vz : Value} {μ : iv_M} {d : Nat} {x0 x1 : Int} (hv : vz.category = 1) (hd : 13 ≤ d) (hJ : br_J L xs μ) : iv_C L xs vz d 268 [(14, 195), (0, x0), (0, x1)] μ (br_P L xs sc_208 μ) := by
  have hm := pb_all (st_Ok vz) (st_hz hv) sc_208 (List.mem_of_getElem? (i := 57) rfl)
  exact br_C (c := sc_208) hm.1 (by decide +kernel) (by decide +kernel) (show 13 * 1 ≤ d by omega) (fun h => ⟨⟨rfl, _, by decide +kernel, rfl⟩, ⟨rfl, rfl, (h (0, x0) (by simp)).1, (h (0, x0) (by simp)).2⟩, ⟨rfl, rfl, (h (0, x1) (by simp)).1, (h (0, x1) (by simp)).2⟩, trivial⟩) rfl rfl rfl hJ
set_option maxRecDepth 100000 in
theorem pb_269 {L : Nat} {xs : Nat → Int32} {vz : Value} {μ : iv_M} {d : Nat} {x0 x1 : Int} (hv : vz.category = 1) (hd : 78 ≤ d) (hJ : br_J L xs μ) : iv_C L xs vz d 269 [(14, 195), (0, x0), (0, x1)] μ (br_P L xs sc_219 μ) := by
  have hm := pb_all (st_Ok vz) (st_hz hv) sc_219 (List.mem_of_getElem? (i := 58) rfl)
  exact br_C (c := sc_219) hm.1 (by decide +kernel) (by decide +kernel) (show 13 * 6 ≤ d by omega) (fun h => ⟨⟨rfl, _, by decide +kernel, rfl⟩, ⟨rfl, rfl, (h (0, x0) (by simp)).1, (h (0, x0) (by simp)).2⟩, ⟨rfl, rfl, (h (0, x1) (by simp)).1, (h (0, x1) (by simp)).2⟩, trivial⟩) rfl rfl rfl hJ
set_option maxRecDepth 100000 in
theorem pb_281 {L : Nat} {xs : Nat → Int32} {vz : Value} {μ : iv_M} {d : Nat} {x0 x1 : Int} (hv : vz.category = 1) (hd : 78 ≤ d) (hJ : br_J L xs μ) : iv_C L xs vz d 281 [(14, 195), (0, x0), (0, x1)] μ (br_P L xs sc_220 μ) := by
  have hm := pb_all (st_Ok vz) (st_hz hv) sc_220 (List.mem_of_getElem? (i := 59) rfl)
  exact br_C (c := sc_220) hm.1 (by decide +kernel) (by decide +kernel) (show 13 * 6 ≤ d by omega) (fun h => ⟨⟨rfl, _, by decide +kernel, rfl⟩, ⟨rfl, rfl, (h (0, x0) (by simp)).1, (h (0, x0) (by simp)).2⟩, ⟨rfl, rfl, (h (0, x1) (by simp)).1, (h (0, x1) (by simp)).2⟩, trivial⟩) rfl rfl rfl hJ
set_option maxRecDepth 100000 in
theorem pb_283 {L : Nat} {xs : Nat → Int32} {vz : Value} {μ : iv_M} {d : Nat} {x0 : Int} (hv : vz.category = 1) (hd : 26 ≤ d) (hJ : br_J L xs μ) : iv_C L xs vz d 283 [(14, 195), (0, x0)] μ (br_P L xs sc_223 μ) := by
  have hm := pb_all (st_Ok vz) (st_hz hv) sc_223 (List.mem_of_getElem? (i := 60) rfl)
  exact br_C (c := sc_223) hm.1 (by decide +kernel) (by decide +kernel) (show 13 * 2 ≤ d by omega) (fun h => ⟨⟨rfl, _, by decide +kernel, rfl⟩, ⟨rfl, rfl, (h (0, x0) (by simp)).1, (h (0, x0) (by simp)).2⟩, trivial⟩) rfl rfl rfl hJ
set_option maxRecDepth 100000 in
theorem pb_286 {L : Nat} {xs : Nat → Int32} {vz : Value} {μ : iv_M} {d : Nat} {x0 x1 : Int} (hv : vz.category = 1) (hd : 13 ≤ d) (hJ : br_J L xs μ) : iv_C L xs vz d 286 [(14, 195), (0, x0), (1, x1)] μ (br_P L xs sc_224 μ) := by
  have hm := pb_all (st_Ok vz) (st_hz hv) sc_224 (List.mem_of_getElem? (i := 61) rfl)
  exact br_C (c := sc_224) hm.1 (by decide +kernel) (by decide +kernel) (show 13 * 1 ≤ d by omega) (fun h => ⟨⟨rfl, _, by decide +kernel, rfl⟩, ⟨rfl, rfl, (h (0, x0) (by simp)).1, (h (0, x0) (by simp)).2⟩, ⟨rfl, rfl⟩, trivial⟩) rfl rfl rfl hJ
set_option maxRecDepth 100000 in
theorem pb_287 {L : Nat} {xs : Nat → Int32} {vz : Value} {μ : iv_M} {d : Nat} {x0 : Int} (hv : vz.category = 1) (hd : 52 ≤ d) (hJ : br_J L xs μ) : iv_C L xs vz d 287 [(14, 195), (0, x0)] μ (br_P L xs sc_h2 μ) := by
  have hm := pb_all (st_Ok vz) (st_hz hv) sc_h2 (List.mem_of_getElem? (i := 62) rfl)
  exact br_C (c := sc_h2) hm.1 (by decide +kernel) (by decide +kernel) (show 13 * 4 ≤ d by omega) (fun h => ⟨⟨rfl, _, by decide +kernel, rfl⟩, ⟨rfl, rfl, (h (0, x0) (by simp)).1, (h (0, x0) (by simp)).2⟩, trivial⟩) rfl rfl rfl hJ
set_option maxRecDepth 100000 in
theorem pb_301 {L : Nat} {xs : Nat → Int32} {vz : Value} {μ : iv_M} {d : Nat} {x0 x1 : Int} (hv : vz.category = 1) (hd : 26 ≤ d) (hJ : br_J L xs μ) : iv_C L xs vz d 301 [(14, 195), (0, x0), (0, x1)] μ (br_P L xs sc_229 μ) := by
  have hm := pb_all (st_Ok vz) (st_hz hv) sc_229 (List.mem_of_getElem? (i := 63) rfl)
  exact br_C (c := sc_229) hm.1 (by decide +kernel) (by decide +kernel) (show 13 * 2 ≤ d by omega) (fun h => ⟨⟨rfl, _, by decide +kernel, rfl⟩, ⟨rfl, rfl, (h (0, x0) (by simp)).1, (h (0, x0) (by simp)).2⟩, ⟨rfl, rfl, (h (0, x1) (by simp)).1, (h (0, x1) (by simp)).2⟩, trivial⟩) rfl rfl rfl hJ
set_option maxRecDepth 100000 in
theorem pb_302 {L : Nat} {xs : Nat → Int32} {vz : Value} {μ : iv_M} {d : Nat} {x0 : Int} (hv : vz.category = 1) (hd : 26 ≤ d) (hJ : br_J L xs μ) : iv_C L xs vz d 302 [(14, 195), (0, x0)] μ (br_P L xs sc_231 μ) := by
  have hm := pb_all (st_Ok vz) (st_hz hv) sc_231 (List.mem_of_getElem? (i := 64) rfl)
  exact br_C (c := sc_231) hm.1 (by decide +kernel) (by decide +kernel) (show 13 * 2 ≤ d by omega) (fun h => ⟨⟨rfl, _, by decide +kernel, rfl⟩, ⟨rfl, rfl, (h (0, x0) (by simp)).1, (h (0, x0) (by simp)).2⟩, trivial⟩) rfl rfl rfl hJ
set_option maxRecDepth 100000 in
theorem pb_304 {L : Nat} {xs : Nat → Int32} {vz : Value} {μ : iv_M} {d : Nat} {x0 : Int} (hv : vz.category = 1) (hd : 65 ≤ d) (hJ : br_J L xs μ) : iv_C L xs vz d 304 [(14, 195), (0, x0)] μ (br_P L xs sc_235 μ) := by
  have hm := pb_all (st_Ok vz) (st_hz hv) sc_235 (List.mem_of_getElem? (i := 65) rfl)
  exact br_C (c := sc_235) hm.1 (by decide +kernel) (by decide +kernel) (show 13 * 5 ≤ d by omega) (fun h => ⟨⟨rfl, _, by decide +kernel, rfl⟩, ⟨rfl, rfl, (h (0, x0) (by simp)).1, (h (0, x0) (by simp)).2⟩, trivial⟩) rfl rfl rfl hJ
set_option maxRecDepth 100000 in
theorem pb_310 {L : Nat} {xs : Nat → Int32} {vz : Value} {μ : iv_M} {d : Nat} {x0 x1 : Int} (hv : vz.category = 1) (hd : 65 ≤ d) (hJ : br_J L xs μ) : iv_C L xs vz d 310 [(14, 195), (0, x0), (0, x1)] μ (br_P L xs sc_236 μ) := by
  have hm := pb_all (st_Ok vz) (st_hz hv) sc_236 (List.mem_of_getElem? (i := 66) rfl)
  exact br_C (c := sc_236) hm.1 (by decide +kernel) (by decide +kernel) (show 13 * 5 ≤ d by omega) (fun h => ⟨⟨rfl, _, by decide +kernel, rfl⟩, ⟨rfl, rfl, (h (0, x0) (by simp)).1, (h (0, x0) (by simp)).2⟩, ⟨rfl, rfl, (h (0, x1) (by simp)).1, (h (0, x1) (by simp)).2⟩, trivial⟩) rfl rfl rfl hJ
set_option maxRecDepth 100000 in
theorem pb_311 {L : Nat} {xs : Nat → Int32} {vz : Value} {μ : iv_M} {d : Nat} {x0 x1 : Int} (hv : vz.category = 1) (hd : 39 ≤ d) (hJ : br_J L xs μ) : iv_C L xs vz d 311 [(14, 195), (0, x0), (0, x1)] μ (br_P L xs sc_237 μ) := by
  have hm := pb_all (st_Ok vz) (st_hz hv) sc_237 (List.mem_of_getElem? (i := 67) rfl)
  exact br_C (c := sc_237) hm.1 (by decide +kernel) (by decide +kernel) (show 13 * 3 ≤ d by omega) (fun h => ⟨⟨rfl, _, by decide +kernel, rfl⟩, ⟨rfl, rfl, (h (0, x0) (by simp)).1, (h (0, x0) (by simp)).2⟩, ⟨rfl, rfl, (h (0, x1) (by simp)).1, (h (0, x1) (by simp)).2⟩, trivial⟩) rfl rfl rfl hJ
set_option maxRecDepth 100000 in
theorem pb_312 {L : Nat} {xs : Nat → Int32} {vz : Value} {μ : iv_M} {d : Nat} {x0 : Int} (hv : vz.category = 1) (hd : 39 ≤ d) (hJ : br_J L xs μ) : iv_C L xs vz d 312 [(14, 195), (0, x0)] μ (br_P L xs sc_238 μ) := by
  have hm := pb_all (st_Ok vz) (st_hz hv) sc_238 (List.mem_of_getElem? (i := 68) rfl)
  exact br_C (c := sc_238) hm.1 (by decide +kernel) (by decide +kernel) (show 13 * 3 ≤ d by omega) (fun h => ⟨⟨rfl, _, by decide +kernel, rfl⟩, ⟨rfl, rfl, (h (0, x0) (by simp)).1, (h (0, x0) (by simp)).2⟩, trivial⟩) rfl rfl rfl hJ
set_option maxRecDepth 100000 in
theorem pb_313 {L : Nat} {xs : Nat → Int32} {vz : Value} {μ : iv_M} {d : Nat} {x0 x1 : Int} (hv : vz.category = 1) (hd : 65 ≤ d) (hJ : br_J L xs μ) : iv_C L xs vz d 313 [(14, 195), (0, x0), (0, x1)] μ (br_P L xs sc_240 μ) := by
  have hm := pb_all (st_Ok vz) (st_hz hv) sc_240 (List.mem_of_getElem? (i := 69) rfl)
  exact br_C (c := sc_240) hm.1 (by decide +kernel) (by decide +kernel) (show 13 * 5 ≤ d by omega) (fun h => ⟨⟨rfl, _, by decide +kernel, rfl⟩, ⟨rfl, rfl, (h (0, x0) (by simp)).1, (h (0, x0) (by simp)).2⟩, ⟨rfl, rfl, (h (0, x1) (by simp)).1, (h (0, x1) (by simp)).2⟩, trivial⟩) rfl rfl rfl hJ
set_option maxRecDepth 100000 in
theorem pb_316 {L : Nat} {xs : Nat → Int32} {vz : Value} {μ : iv_M} {d : Nat} {x0 x1 : Int} (hv : vz.category = 1) (hd : 78 ≤ d) (hJ : br_J L xs μ) (g1 : 0 ≤ x1 ∧ x1 ≤ 1) : iv_C L xs vz d 316 [(14, 195), (0, x0), (0, x1)] μ (br_P L xs sc_242 μ) := by
  have hm := pb_all (st_Ok vz) (st_hz hv) sc_242 (List.mem_of_getElem? (i := 70) rfl)
  exact br_C (c := sc_242) hm.1 (by decide +kernel) (by decide +kernel) (show 13 * 6 ≤ d by omega) (fun h => ⟨⟨rfl, _, by decide +kernel, rfl⟩, ⟨rfl, rfl, (h (0, x0) (by simp)).1, (h (0, x0) (by simp)).2⟩, ⟨rfl, rfl, g1.1, g1.2⟩, trivial⟩) rfl rfl rfl hJ
set_option maxRecDepth 100000 in
theorem pb_318 {L : Nat} {xs : Nat → Int32} {vz : Value} {μ : iv_M} {d : Nat} {x0 x1 x2 : Int} (hv : vz.category = 1) (hd : 52 ≤ d) (hJ : br_J L xs μ) : iv_C L xs vz d 318 [(14, 195), (0, x0), (0, x1), (0, x2)] μ (br_P L xs sc_243 μ) := by
  have hm := pb_all (st_Ok vz) (st_hz hv) sc_243 (List.mem_of_getElem? (i := 71) rfl)
  exact br_C (c := sc_243) hm.1 (by decide +kernel) (by decide +kernel) (show 13 * 4 ≤ d by omega) (fun h => ⟨⟨rfl, _, by decide +kernel, rfl⟩, ⟨rfl, rfl, (h (0, x0) (by simp)).1, (h (0, x0) (by simp)).2⟩, ⟨rfl, rfl, (h (0, x1) (by simp)).1, (h (0, x1) (by simp)).2⟩, ⟨rfl, rfl, (h (0, x2) (by simp)).1, (h (0, x2) (by simp)).2⟩, trivial⟩) rfl rfl rfl hJ
set_option maxRecDepth 100000 in
theorem pb_319 {L : Nat} {xs : Nat → Int32} {vz : Value} {μ : iv_M} {d : Nat} {x0 x1 : Int} (hv : vz.category = 1) (hd : 26 ≤ d) (hJ : br_J L xs μ) : iv_C L xs vz d 319 [(14, 195), (0, x0), (0, x1)] μ (br_P L xs sc_246 μ) := by
  have hm := pb_all (st_Ok vz) (st_hz hv) sc_246 (List.mem_of_getElem? (i := 72) rfl)
  exact br_C (c := sc_246) hm.1 (by decide +kernel) (by decide +kernel) (show 13 * 2 ≤ d by omega) (fun h => ⟨⟨rfl, _, by decide +kernel, rfl⟩, ⟨rfl, rfl, (h (0, x0) (by simp)).1, (h (0, x0) (by simp)).2⟩, ⟨rfl, rfl, (h (0, x1) (by simp)).1, (h (0, x1) (by simp)).2⟩, trivial⟩) rfl rfl rfl hJ
set_option maxRecDepth 100000 in
theorem pb_323 {L : Nat} {xs : Nat → Int32} {vz : Value} {μ : iv_M} {d : Nat} {x0 x1 : Int} (hv : vz.category = 1) (hd : 26 ≤ d) (hJ : br_J L xs μ) : iv_C L xs vz d 323 [(14, 195), (0, x0), (0, x1)] μ (br_P L xs sc_247 μ) := by
  have hm := pb_all (st_Ok vz) (st_hz hv) sc_247 (List.mem_of_getElem? (i := 73) rfl)
  exact br_C (c := sc_247) hm.1 (by decide +kernel) (by decide +kernel) (show 13 * 2 ≤ d by omega) (fun h => ⟨⟨rfl, _, by decide +kernel, rfl⟩, ⟨rfl, rfl, (h (0, x0) (by simp)).1, (h (0, x0) (by simp)).2⟩, ⟨rfl, rfl, (h (0, x1) (by simp)).1, (h (0, x1) (by simp)).2⟩, trivial⟩) rfl rfl rfl hJ
set_option maxRecDepth 100000 in
theorem pb_324 {L : Nat} {xs : Nat → Int32} {vz : Value} {μ : iv_M} {d : Nat} {x0 x1 x2 : Int} (hv : vz.category = 1) (hd : 13 ≤ d) (hJ : br_J L xs μ) : iv_C L xs vz d 324 [(14, 195), (0, x0), (0, x1), (0, x2)] μ (br_P L xs sc_248 μ) := by
  have hm := pb_all (st_Ok vz) (st_hz hv) sc_248 (List.mem_of_getElem? (i := 74) rfl)
  exact br_C (c := sc_248) hm.1 (by decide +kernel) (by decide +kernel) (show 13 * 1 ≤ d by omega) (fun h => ⟨⟨rfl, _, by decide +kernel, rfl⟩, ⟨rfl, rfl, (h (0, x0) (by simp)).1, (h (0, x0) (by simp)).2⟩, ⟨rfl, rfl, (h (0, x1) (by simp)).1, (h (0, x1) (by simp)).2⟩, ⟨rfl, rfl, (h (0, x2) (by simp)).1, (h (0, x2) (by simp)).2⟩, trivial⟩) rfl rfl rfl hJ
set_option maxRecDepth 100000 in
theorem pb_325 {L : Nat} {xs : Nat → Int32} {vz : Value} {μ : iv_M} {d : Nat} {x0 x1 x2 : Int} (hv : vz.category = 1) (hd : 13 ≤ d) (hJ : br_J L xs μ) : iv_C L xs vz d 325 [(14, 195), (0, x0), (0, x1), (0, x2)] μ (br_P L xs sc_249 μ) := by
  have hm := pb_all (st_Ok vz) (st_hz hv) sc_249 (List.mem_of_getElem? (i := 75) rfl)
  exact br_C (c := sc_249) hm.1 (by decide +kernel) (by decide +kernel) (show 13 * 1 ≤ d by omega) (fun h => ⟨⟨rfl, _, by decide +kernel, rfl⟩, ⟨rfl, rfl, (h (0, x0) (by simp)).1, (h (0, x0) (by simp)).2⟩, ⟨rfl, rfl, (h (0, x1) (by simp)).1, (h (0, x1) (by simp)).2⟩, ⟨rfl, rfl, (h (0, x2) (by simp)).1, (h (0, x2) (by simp)).2⟩, trivial⟩) rfl rfl rfl hJ
set_option maxRecDepth 100000 in
theorem pb_326 {L : Nat} {xs : Nat → Int32} {vz : Value} {μ : iv_M} {d : Nat} {x0 x1 x2 x3 x4 : Int} (hv : vz.category = 1) (hd : 13 ≤ d) (hJ : br_J L xs μ) : iv_C L xs vz d 326 [(14, 195), (0, x0), (0, x1), (0, x2), (0, x3), (0, x4)] μ (br_P L xs sc_250 μ) := by
  have hm := pb_all (st_Ok vz) (st_hz hv) sc_250 (List.mem_of_getElem? (i := 76) rfl)
  exact br_C (c := sc_250) hm.1 (by decide +kernel) (by decide +kernel) (show 13 * 1 ≤ d by omega) (fun h => ⟨⟨rfl, _, by decide +kernel, rfl⟩, ⟨rfl, rfl, (h (0, x0) (by simp)).1, (h (0, x0) (by simp)).2⟩, ⟨rfl, rfl, (h (0, x1) (by simp)).1, (h (0, x1) (by simp)).2⟩, ⟨rfl, rfl, (h (0, x2) (by simp)).1, (h (0, x2) (by simp)).2⟩, ⟨rfl, rfl, (h (0, x3) (by simp)).1, (h (0, x3) (by simp)).2⟩, ⟨rfl, rfl, (h (0, x4) (by simp)).1, (h (0, x4) (by simp)).2⟩, trivial⟩) rfl rfl rfl hJ
set_option maxRecDepth 100000 in
theorem pb_327 {L : Nat} {xs : Nat → Int32} {vz : Value} {μ : iv_M} {d : Nat} (hv : vz.category = 1) (hd : 13 ≤ d) (hJ : br_J L xs μ) : iv_C L xs vz d 327 [(14, 195)] μ (br_P L xs sc_h5 μ) := by
  have hm := pb_all (st_Ok vz) (st_hz hv) sc_h5 (List.mem_of_getElem? (i := 77) rfl)
  exact br_C (c := sc_h5) hm.1 (by decide +kernel) (by decide +kernel) (show 13 * 1 ≤ d by omega) (fun h => ⟨⟨rfl, _, by decide +kernel, rfl⟩, trivial⟩) rfl rfl rfl hJ
set_option maxRecDepth 100000 in
theorem pb_328 {L : Nat} {xs : Nat → Int32} {vz : Value} {μ : iv_M} {d : Nat} (hv : vz.category = 1) (hd : 13 ≤ d) (hJ : br_J L xs μ) : iv_C L xs vz d 328 [(14, 195)] μ (br_P L xs sc_h6 μ) := by
  have hm := pb_all (st_Ok vz) (st_hz hv) sc_h6 (List.mem_of_getElem? (i := 78) rfl)
  exact br_C (c := sc_h6) hm.1 (by decide +kernel) (by decide +kernel) (show 13 * 1 ≤ d by omega) (fun h => ⟨⟨rfl, _, by decide +kernel, rfl⟩, trivial⟩) rfl rfl rfl hJ
set_option maxRecDepth 100000 in
theorem pb_329 {L : Nat} {xs : Nat → Int32} {vz : Value} {μ : iv_M} {d : Nat} {x0 : Int} (hv : vz.category = 1) (hd : 26 ≤ d) (hJ : br_J L xs μ) : iv_C L xs vz d 329 [(14, 195), (0, x0)] μ (br_P L xs sc_251 μ) := by
  have hm := pb_all (st_Ok vz) (st_hz hv) sc_251 (List.mem_of_getElem? (i := 79) rfl)
  exact br_C (c := sc_251) hm.1 (by decide +kernel) (by decide +kernel) (show 13 * 2 ≤ d by omega) (fun h => ⟨⟨rfl, _, by decide +kernel, rfl⟩, ⟨rfl, rfl, (h (0, x0) (by simp)).1, (h (0, x0) (by simp)).2⟩, trivial⟩) rfl rfl rfl hJ
set_option maxRecDepth 100000 in
theorem pb_233 {L : Nat} {xs : Nat → Int32} {vz : Value} {μ : iv_M} {d : Nat} (hv : vz.category = 1) (hd : 13 ≤ d) (hJ : br_J L xs μ) : iv_C L xs vz d 233 [(14, 195)] μ (br_P L xs sc_182 μ) := by
  have hm := pb_all (st_Ok vz) (st_hz hv) sc_182 (List.mem_of_getElem? (i := 80) rfl)
  exact br_C (c := sc_182) hm.1 (by decide +kernel) (by decide +kernel) (show 13 * 1 ≤ d by omega) (fun h => ⟨⟨rfl, _, by decide +kernel, rfl⟩, trivial⟩) rfl rfl rfl hJ
set_option maxRecDepth 100000 in
theorem pb_236 {L : Nat} {xs : Nat → Int32} {vz : Value} {μ : iv_M} {d : Nat} {x0 x1 : Int} (hv : vz.category = 1) (hd : 13 ≤ d) (hJ : br_J L xs μ) (g0 : 0 ≤ x0 ∧ x0 ≤ 9) : iv_C L xs vz d 236 [(14, 195), (0, x0), (0, x1)] μ (br_P L xs sc_183 μ) := by
  have hm := pb_all (st_Ok vz) (st_hz hv) sc_183 (List.mem_of_getElem? (i := 81) rfl)
  exact br_C (c := sc_183) hm.1 (by decide +kernel) (by decide +kernel) (show 13 * 1 ≤ d by omega) (fun h => ⟨⟨rfl, _, by decide +kernel, rfl⟩, ⟨rfl, rfl, g0.1, g0.2⟩, ⟨rfl, rfl, (h (0, x1) (by simp)).1, (h (0, x1) (by simp)).2⟩, trivial⟩) rfl rfl rfl hJ
set_option maxRecDepth 100000 in
theorem pb_237 {L : Nat} {xs : Nat → Int32} {vz : Value} {μ : iv_M} {d : Nat} {x0 : Int} (hv : vz.category = 1) (hd : 13 ≤ d) (hJ : br_J L xs μ) (g0 : 1 ≤ x0 ∧ x0 ≤ 1023) : iv_C L xs vz d 237 [(0, x0)] μ (br_P L xs sc_h1 μ) := by
  have hm := pb_all (st_Ok vz) (st_hz hv) sc_h1 (List.mem_of_getElem? (i := 82) rfl)
  exact br_C (c := sc_h1) hm.1 (by decide +kernel) (by decide +kernel) (show 13 * 1 ≤ d by omega) (fun h => ⟨⟨rfl, rfl, g0.1, g0.2⟩, trivial⟩) rfl rfl rfl hJ
set_option maxRecDepth 100000 in
theorem pb_255 {L : Nat} {xs : Nat → Int32} {vz : Value} {μ : iv_M} {d : Nat} {x0 x1 x2 : Int} (hv : vz.category = 1) (hd : 13 ≤ d) (hJ : br_J L xs μ) : iv_C L xs vz d 255 [(14, 195), (0, x0), (0, x1), (0, x2)] μ (br_P L xs sc_197 μ) := by
  have hm := pb_all (st_Ok vz) (st_hz hv) sc_197 (List.mem_of_getElem? (i := 83) rfl)
  exact br_C (c := sc_197) hm.1 (by decide +kernel) (by decide +kernel) (show 13 * 1 ≤ d by omega) (fun h => ⟨⟨rfl, _, by decide +kernel, rfl⟩, ⟨rfl, rfl, (h (0, x0) (by simp)).1, (h (0, x0) (by simp)).2⟩, ⟨rfl, rfl, (h (0, x1) (by simp)).1, (h (0, x1) (by simp)).2⟩, ⟨rfl, rfl, (h (0, x2) (by simp)).1, (h (0, x2) (by simp)).2⟩, trivial⟩) rfl rfl rfl hJ
set_option maxRecDepth 100000 in
theorem pb_275 {L : Nat} {xs : Nat → Int32} {vz : Value} {μ : iv_M} {d : Nat} {x0 x1 : Int} (hv : vz.category = 1) (hd : 26 ≤ d) (hJ : br_J L xs μ) (g0 : 0 ≤ x0 ∧ x0 ≤ 13) : iv_C L xs vz d 275 [(14, 195), (0, x0), (0, x1)] μ (br_P L xs sc_212 μ) := by
  have hm := pb_all (st_Ok vz) (st_hz hv) sc_212 (List.mem_of_getElem? (i := 84) rfl)
  exact br_C (c := sc_212) hm.1 (by decide +kernel) (by decide +kernel) (show 13 * 2 ≤ d by omega) (fun h => ⟨⟨rfl, _, by decide +kernel, rfl⟩, ⟨rfl, rfl, g0.1, g0.2⟩, ⟨rfl, rfl, (h (0, x1) (by simp)).1, (h (0, x1) (by simp)).2⟩, trivial⟩) rfl rfl rfl hJ
set_option maxRecDepth 100000 in
theorem pb_271 {L : Nat} {xs : Nat → Int32} {vz : Value} {μ : iv_M} {d : Nat} {x0 : Int} (hv : vz.category = 1) (hd : 65 ≤ d) (hJ : br_J L xs μ) : iv_C L xs vz d 271 [(14, 195), (0, x0)] μ (br_P L xs sc_209 μ) := by
  have hm := pb_all (st_Ok vz) (st_hz hv) sc_209 (List.mem_of_getElem? (i := 85) rfl)
  exact br_C (c := sc_209) hm.1 (by decide +kernel) (by decide +kernel) (show 13 * 5 ≤ d by omega) (fun h => ⟨⟨rfl, _, by decide +kernel, rfl⟩, ⟨rfl, rfl, (h (0, x0) (by simp)).1, (h (0, x0) (by simp)).2⟩, trivial⟩) rfl rfl rfl hJ
set_option maxRecDepth 100000 in
theorem pb_272 {L : Nat} {xs : Nat → Int32} {vz : Value} {μ : iv_M} {d : Nat} {x0 : Int} (hv : vz.category = 1) (hd : 26 ≤ d) (hJ : br_J L xs μ) : iv_C L xs vz d 272 [(14, 195), (0, x0)] μ (br_P L xs sc_211 μ) := by
  have hm := pb_all (st_Ok vz) (st_hz hv) sc_211 (List.mem_of_getElem? (i := 86) rfl)
  exact br_C (c := sc_211) hm.1 (by decide +kernel) (by decide +kernel) (show 13 * 2 ≤ d by omega) (fun h => ⟨⟨rfl, _, by decide +kernel, rfl⟩, ⟨rfl, rfl, (h (0, x0) (by simp)).1, (h (0, x0) (by simp)).2⟩, trivial⟩) rfl rfl rfl hJ
set_option maxRecDepth 100000 in
theorem pb_274 {L : Nat} {xs : Nat → Int32} {vz : Value} {μ : iv_M} {d : Nat} (hv : vz.category = 1) (hd : 39 ≤ d) (hJ : br_J L xs μ) : iv_C L xs vz d 274 [(14, 195)] μ (br_P L xs sc_213 μ) := by
  have hm := pb_all (st_Ok vz) (st_hz hv) sc_213 (List.mem_of_getElem? (i := 87) rfl)
  exact br_C (c := sc_213) hm.1 (by decide +kernel) (by decide +kernel) (show 13 * 3 ≤ d by omega) (fun h => ⟨⟨rfl, _, by decide +kernel, rfl⟩, trivial⟩) rfl rfl rfl hJ
set_option maxRecDepth 100000 in
theorem pb_276 {L : Nat} {xs : Nat → Int32} {vz : Value} {μ : iv_M} {d : Nat} {x0 : Int} (hv : vz.category = 1) (hd : 13 ≤ d) (hJ : br_J L xs μ) : iv_C L xs vz d 276 [(14, 195), (0, x0)] μ (br_P L xs sc_214 μ) := by
  have hm := pb_all (st_Ok vz) (st_hz hv) sc_214 (List.mem_of_getElem? (i := 88) rfl)
  exact br_C (c := sc_214) hm.1 (by decide +kernel) (by decide +kernel) (show 13 * 1 ≤ d by omega) (fun h => ⟨⟨rfl, _, by decide +kernel, rfl⟩, ⟨rfl, rfl, (h (0, x0) (by simp)).1, (h (0, x0) (by simp)).2⟩, trivial⟩) rfl rfl rfl hJ
set_option maxRecDepth 100000 in
theorem pb_277 {L : Nat} {xs : Nat → Int32} {vz : Value} {μ : iv_M} {d : Nat} (hv : vz.category = 1) (hd : 52 ≤ d) (hJ : br_J L xs μ) : iv_C L xs vz d 277 [(14, 195)] μ (br_P L xs sc_216 μ) := by
  have hm := pb_all (st_Ok vz) (st_hz hv) sc_216 (List.mem_of_getElem? (i := 89) rfl)
  exact br_C (c := sc_216) hm.1 (by decide +kernel) (by decide +kernel) (show 13 * 4 ≤ d by omega) (fun h => ⟨⟨rfl, _, by decide +kernel, rfl⟩, trivial⟩) rfl rfl rfl hJ
set_option maxRecDepth 100000 in
theorem pb_278 {L : Nat} {xs : Nat → Int32} {vz : Value} {μ : iv_M} {d : Nat} {x0 : Int} (hv : vz.category = 1) (hd : 39 ≤ d) (hJ : br_J L xs μ) (g0 : 0 ≤ x0 ∧ x0 ≤ 9) : iv_C L xs vz d 278 [(14, 195), (0, x0)] μ (br_P L xs sc_215 μ) := by
  have hm := pb_all (st_Ok vz) (st_hz hv) sc_215 (List.mem_of_getElem? (i := 90) rfl)
  exact br_C (c := sc_215) hm.1 (by decide +kernel) (by decide +kernel) (show 13 * 3 ≤ d by omega) (fun h => ⟨⟨rfl, _, by decide +kernel, rfl⟩, ⟨rfl, rfl, g0.1, g0.2⟩, trivial⟩) rfl rfl rfl hJ
set_option maxRecDepth 100000 in
theorem pb_279 {L : Nat} {xs : Nat → Int32} {vz : Value} {μ : iv_M} {d : Nat} (hv : vz.category = 1) (hd : 26 ≤ d) (hJ : br_J L xs μ) : iv_C L xs vz d 279 [(14, 195)] μ (br_P L xs sc_218 μ) := by
  have hm := pb_all (st_Ok vz) (st_hz hv) sc_218 (List.mem_of_getElem? (i := 91) rfl)
  exact br_C (c := sc_218) hm.1 (by decide +kernel) (by decide +kernel) (show 13 * 2 ≤ d by omega) (fun h => ⟨⟨rfl, _, by decide +kernel, rfl⟩, trivial⟩) rfl rfl rfl hJ
set_option maxRecDepth 100000 in
theorem pb_259 {L : Nat} {xs : Nat → Int32} {vz : Value} {μ : iv_M} {d : Nat} (hv : vz.category = 1) (hd : 39 ≤ d) (hJ : br_J L xs μ) : iv_C L xs vz d 259 [(14, 195)] μ (br_P L xs sc_199 μ) := by
  have hm := pb_all (st_Ok vz) (st_hz hv) sc_199 (List.mem_of_getElem? (i := 92) rfl)
  exact br_C (c := sc_199) hm.1 (by decide +kernel) (by decide +kernel) (show 13 * 3 ≤ d by omega) (fun h => ⟨⟨rfl, _, by decide +kernel, rfl⟩, trivial⟩) rfl rfl rfl hJ
set_option maxRecDepth 100000 in
theorem pb_260 {L : Nat} {xs : Nat → Int32} {vz : Value} {μ : iv_M} {d : Nat} {x0 x1 : Int} (hv : vz.category = 1) (hd : 26 ≤ d) (hJ : br_J L xs μ) (g0 : 0 ≤ x0 ∧ x0 ≤ 11) : iv_C L xs vz d 260 [(14, 195), (0, x0), (0, x1)] μ (br_P L xs sc_201 μ) := by
  have hm := pb_all (st_Ok vz) (st_hz hv) sc_201 (List.mem_of_getElem? (i := 93) rfl)
  exact br_C (c := sc_201) hm.1 (by decide +kernel) (by decide +kernel) (show 13 * 2 ≤ d by omega) (fun h => ⟨⟨rfl, _, by decide +kernel, rfl⟩, ⟨rfl, rfl, g0.1, g0.2⟩, ⟨rfl, rfl, (h (0, x1) (by simp)).1, (h (0, x1) (by simp)).2⟩, trivial⟩) rfl rfl rfl hJ
set_option maxRecDepth 100000 in
theorem pb_254 {L : Nat} {xs : Nat → Int32} {vz : Value} {μ : iv_M} {d : Nat} {x0 : Int} (hv : vz.category = 1) (hd : 13 ≤ d) (hJ : br_J L xs μ) : iv_C L xs vz d 254 [(14, 195), (0, x0)] μ (br_P L xs sc_196 μ) := by
  have hm := pb_all (st_Ok vz) (st_hz hv) sc_196 (List.mem_of_getElem? (i := 95) rfl)
  exact br_C (c := sc_196) hm.1 (by decide +kernel) (by decide +kernel) (show 13 * 1 ≤ d by omega) (fun h => ⟨⟨rfl, _, by decide +kernel, rfl⟩, ⟨rfl, rfl, (h (0, x0) (by simp)).1, (h (0, x0) (by simp)).2⟩, trivial⟩) rfl rfl rfl hJ
set_option maxRecDepth 100000 in
theorem pb_27 {L : Nat} {xs : Nat → Int32} {vz : Value} {μ : iv_M} {d : Nat} (hv : vz.category = 1) (hd : 13 ≤ d) (hJ : br_J L xs μ) : iv_C L xs vz d 27 [(4, 187), (12, 39)] μ (br_P L xs sc_4 μ) := by
  have hm := pb_all (st_Ok vz) (st_hz hv) sc_4 (List.mem_of_getElem? (i := 96) rfl)
  exact br_C (c := sc_4) hm.1 (by decide +kernel) (by decide +kernel) (show 13 * 1 ≤ d by omega) (fun h => ⟨⟨rfl, _, by decide +kernel, rfl⟩, ⟨rfl, _, by decide +kernel, rfl⟩, trivial⟩) rfl rfl rfl hJ
set_option maxRecDepth 100000 in
theorem pb_35 {L : Nat} {xs : Nat → Int32} {vz : Value} {μ : iv_M} {d : Nat} {x0 x1 : Int} (hv : vz.category = 1) (hd : 13 ≤ d) (hJ : br_J L xs μ) : iv_C L xs vz d 35 [(4, 187), (0, x0), (0, x1)] μ (br_P L xs sc_5 μ) := by
  have hm := pb_all (st_Ok vz) (st_hz hv) sc_5 (List.mem_of_getElem? (i := 97) rfl)
  exact br_C (c := sc_5) hm.1 (by decide +kernel) (by decide +kernel) (show 13 * 1 ≤ d by omega) (fun h => ⟨⟨rfl, _, by decide +kernel, rfl⟩, ⟨rfl, rfl, (h (0, x0) (by simp)).1, (h (0, x0) (by simp)).2⟩, ⟨rfl, rfl, (h (0, x1) (by simp)).1, (h (0, x1) (by simp)).2⟩, trivial⟩) rfl rfl rfl hJ
set_option maxRecDepth 100000 in
theorem pb_62 {L : Nat} {xs : Nat → Int32} {vz : Value} {μ : iv_M} {d : Nat} {x0 x1 x2 x3 : Int} (hv : vz.category = 1) (hd : 13 ≤ d) (hJ : br_J L xs μ) : iv_C L xs vz d 62 [(3, 47), (0, x0), (0, x1), (0, x2), (0, x3)] μ (br_P L xs sc_17 μ) := by
  have hm := pb_all (st_Ok vz) (st_hz hv) sc_17 (List.mem_of_getElem? (i := 98) rfl)
  exact br_C (c := sc_17) hm.1 (by decide +kernel) (by decide +kernel) (show 13 * 1 ≤ d by omega) (fun h => ⟨⟨rfl, _, by decide +kernel, rfl⟩, ⟨rfl, rfl, (h (0, x0) (by simp)).1, (h (0, x0) (by simp)).2⟩, ⟨rfl, rfl, (h (0, x1) (by simp)).1, (h (0, x1) (by simp)).2⟩, ⟨rfl, rfl, (h (0, x2) (by simp)).1, (h (0, x2) (by simp)).2⟩, ⟨rfl, rfl, (h (0, x3) (by simp)).1, (h (0, x3) (by simp)).2⟩, trivial⟩) rfl rfl rfl hJ
set_option maxRecDepth 100000 in
theorem pb_105 {L : Nat} {xs : Nat → Int32} {vz : Value} {μ : iv_M} {d : Nat} {x0 : Int} (hv : vz.category = 1) (hd : 52 ≤ d) (hJ : br_J L xs μ) : iv_C L xs vz d 105 [(12, 39), (0, x0), (4, 187)] μ (br_P L xs sc_45 μ) := by
  have hm := pb_all (st_Ok vz) (st_hz hv) sc_45 (List.mem_of_getElem? (i := 99) rfl)
  exact br_C (c := sc_45) hm.1 (by decide +kernel) (by decide +kernel) (show 13 * 4 ≤ d by omega) (fun h => ⟨⟨rfl, _, by decide +kernel, rfl⟩, ⟨rfl, rfl, (h (0, x0) (by simp)).1, (h (0, x0) (by simp)).2⟩, ⟨rfl, _, by decide +kernel, rfl⟩, trivial⟩) rfl rfl rfl hJ
set_option maxRecDepth 100000 in
theorem pb_107 {L : Nat} {xs : Nat → Int32} {vz : Value} {μ : iv_M} {d : Nat} {x0 : Int} (hv : vz.category = 1) (hd : 13 ≤ d) (hJ : br_J L xs μ) : iv_C L xs vz d 107 [(12, 39), (0, x0)] μ (br_P L xs sc_46 μ) := by
  have hm := pb_all (st_Ok vz) (st_hz hv) sc_46 (List.mem_of_getElem? (i := 100) rfl)
  exact br_C (c := sc_46) hm.1 (by decide +kernel) (by decide +kernel) (show 13 * 1 ≤ d by omega) (fun h => ⟨⟨rfl, _, by decide +kernel, rfl⟩, ⟨rfl, rfl, (h (0, x0) (by simp)).1, (h (0, x0) (by simp)).2⟩, trivial⟩) rfl rfl rfl hJ
set_option maxRecDepth 100000 in
theorem pb_108 {L : Nat} {xs : Nat → Int32} {vz : Value} {μ : iv_M} {d : Nat} (hv : vz.category = 1) (hd : 13 ≤ d) (hJ : br_J L xs μ) : iv_C L xs vz d 108 [(12, 39)] μ (br_P L xs sc_47 μ) := by
  have hm := pb_all (st_Ok vz) (st_hz hv) sc_47 (List.mem_of_getElem? (i := 101) rfl)
  exact br_C (c := sc_47) hm.1 (by decide +kernel) (by decide +kernel) (show 13 * 1 ≤ d by omega) (fun h => ⟨⟨rfl, _, by decide +kernel, rfl⟩, trivial⟩) rfl rfl rfl hJ
set_option maxRecDepth 100000 in
theorem pb_109 {L : Nat} {xs : Nat → Int32} {vz : Value} {μ : iv_M} {d : Nat} (hv : vz.category = 1) (hd : 52 ≤ d) (hJ : br_J L xs μ) : iv_C L xs vz d 109 [(12, 39), (4, 187)] μ (br_P L xs sc_50 μ) := by
  have hm := pb_all (st_Ok vz) (st_hz hv) sc_50 (List.mem_of_getElem? (i := 102) rfl)
  exact br_C (c := sc_50) hm.1 (by decide +kernel) (by decide +kernel) (show 13 * 4 ≤ d by omega) (fun h => ⟨⟨rfl, _, by decide +kernel, rfl⟩, ⟨rfl, _, by decide +kernel, rfl⟩, trivial⟩) rfl rfl rfl hJ
set_option maxRecDepth 100000 in
theorem pb_113 {L : Nat} {xs : Nat → Int32} {vz : Value} {μ : iv_M} {d : Nat} {x0 : Int} (hv : vz.category = 1) (hd : 13 ≤ d) (hJ : br_J L xs μ) (g0 : 0 ≤ x0 ∧ x0 ≤ 1) : iv_C L xs vz d 113 [(12, 39), (0, x0)] μ (br_P L xs sc_51 μ) := by
  have hm := pb_all (st_Ok vz) (st_hz hv) sc_51 (List.mem_of_getElem? (i := 103) rfl)
  exact br_C (c := sc_51) hm.1 (by decide +kernel) (by decide +kernel) (show 13 * 1 ≤ d by omega) (fun h => ⟨⟨rfl, _, by decide +kernel, rfl⟩, ⟨rfl, rfl, g0.1, g0.2⟩, trivial⟩) rfl rfl rfl hJ
set_option maxRecDepth 100000 in
theorem pb_114 {L : Nat} {xs : Nat → Int32} {vz : Value} {μ : iv_M} {d : Nat} (hv : vz.category = 1) (hd : 39 ≤ d) (hJ : br_J L xs μ) : iv_C L xs vz d 114 [(12, 39), (4, 187)] μ (br_P L xs sc_53 μ) := by
  have hm := pb_all (st_Ok vz) (st_hz hv) sc_53 (List.mem_of_getElem? (i := 104) rfl)
  exact br_C (c := sc_53) hm.1 (by decide +kernel) (by decide +kernel) (show 13 * 3 ≤ d by omega) (fun h => ⟨⟨rfl, _, by decide +kernel, rfl⟩, ⟨rfl, _, by decide +kernel, rfl⟩, trivial⟩) rfl rfl rfl hJ
set_option maxRecDepth 100000 in
theorem pb_115 {L : Nat} {xs : Nat → Int32} {vz : Value} {μ : iv_M} {d : Nat} {x0 : Int} (hv : vz.category = 1) (hd : 26 ≤ d) (hJ : br_J L xs μ) : iv_C L xs vz d 115 [(12, 39), (0, x0), (4, 187)] μ (br_P L xs sc_52 μ) := by
  have hm := pb_all (st_Ok vz) (st_hz hv) sc_52 (List.mem_of_getElem? (i := 105) rfl)
  exact br_C (c := sc_52) hm.1 (by decide +kernel) (by decide +kernel) (show 13 * 2 ≤ d by omega) (fun h => ⟨⟨rfl, _, by decide +kernel, rfl⟩, ⟨rfl, rfl, (h (0, x0) (by simp)).1, (h (0, x0) (by simp)).2⟩, ⟨rfl, _, by decide +kernel, rfl⟩, trivial⟩) rfl rfl rfl hJ
set_option maxRecDepth 100000 in
theorem pb_117 {L : Nat} {xs : Nat → Int32} {vz : Value} {μ : iv_M} {d : Nat} (hv : vz.category = 1) (hd : 13 ≤ d) (hJ : br_J L xs μ) : iv_C L xs vz d 117 [(12, 39)] μ (br_P L xs sc_54 μ) := by
  have hm := pb_all (st_Ok vz) (st_hz hv) sc_54 (List.mem_of_getElem? (i := 106) rfl)
  exact br_C (c := sc_54) hm.1 (by decide +kernel) (by decide +kernel) (show 13 * 1 ≤ d by omega) (fun h => ⟨⟨rfl, _, by decide +kernel, rfl⟩, trivial⟩) rfl rfl rfl hJ
set_option maxRecDepth 100000 in
theorem pb_37 {L : Nat} {xs : Nat → Int32} {vz : Value} {μ : iv_M} {d : Nat} {x0 : Int} (hv : vz.category = 1) (hd : 13 ≤ d) (hJ : br_J L xs μ) : iv_C L xs vz d 37 [(0, x0)] μ (br_P L xs sc_6 μ) := by
  have hm := pb_all (st_Ok vz) (st_hz hv) sc_6 (List.mem_of_getElem? (i := 107) rfl)
  exact br_C (c := sc_6) hm.1 (by decide +kernel) (by decide +kernel) (show 13 * 1 ≤ d by omega) (fun h => ⟨⟨rfl, rfl, (h (0, x0) (by simp)).1, (h (0, x0) (by simp)).2⟩, trivial⟩) rfl rfl rfl hJ
