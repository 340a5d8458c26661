/-! ===== printed by wip/p37/gen_law4.py: contracts by region; all contracts; the law's arms ===== -/
def la_C : List se_C := [sc_q0, sc_w0, sc_q1, sc_w1, sc_q2, sc_w2, sc_q3, sc_w3, sc_q4, sc_w4, sc_q5, sc_w5, sc_q6, sc_w6, sc_q7, sc_w7, sc_q8, sc_w8, sc_q9, sc_w9, sc_q10, sc_w10, sc_q11, sc_w11, sc_q12, sc_w12, sc_q13, sc_w13, sc_q14, sc_w14, sc_q15, sc_w15, sc_q16, sc_w16, sc_q17, sc_w17, sc_q18, sc_w18, sc_q19, sc_w19, sc_q20, sc_w20, sc_q21, sc_w21, sc_q22, sc_w22, sc_q23, sc_w23, sc_q24, sc_w24, sc_q25, sc_w25, sc_q26, sc_w26, sc_q27, sc_w27, sc_q28, sc_w28, sc_q29, sc_w29, sc_q30, sc_w30, sc_q31, sc_i3, sc_q32, sc_w32, sc_q33, sc_r3, sc_q34, sc_w34, sc_q35, sc_w35, sc_q36, sc_w36, sc_q37, sc_w37, sc_q38, sc_w38, sc_q39, sc_w39, sc_q40, sc_w40, sc_q41, sc_w41, sc_q42, sc_w42, sc_q43, sc_w43, sc_q44, sc_w44, sc_q45, sc_w45, sc_q46, sc_w46, sc_q47, sc_w47, sc_q48, sc_w48, sc_q49, sc_w49, sc_q50, sc_w50, sc_0, sc_1, sc_3, sc_7, sc_8, sc_9, sc_10, sc_11, sc_12, sc_14, sc_19, sc_36, sc_37, sc_38, sc_39, sc_40, sc_44, sc_58, sc_60, sc_121, sc_122, sc_123, sc_124, sc_125, sc_126, sc_128, sc_129, sc_136, sc_139, sc_144, sc_148, sc_150, sc_156, sc_157, sc_176, sc_177, sc_178, sc_179, sc_184, sc_185, sc_186, sc_187, sc_188, sc_189, sc_191, sc_193, sc_194, sc_198, sc_202, sc_204, sc_206, sc_207, sc_208, sc_223, sc_224, sc_h2, sc_229, sc_231, sc_235, sc_236, sc_237, sc_238, sc_240, sc_242, sc_243, sc_246, sc_247, sc_249, sc_250, sc_251]
theorem la_all {ty : Nat → Option Nat} {kx : Nat} {zs : List mm_Zt} (hO : se_Ok ty (rw_J ty) kx zs) (hz : ∃ tz, zs.find? (fun t => decide (t.1 = "jdk/internal/util/Preconditions" ∧ t.2.1 = "SIOOBE_FORMATTER" ∧ t.2.2.1 = "Ljava/util/function/BiFunction;")) = some tz ∧ tz.2.2.2.category = 1) : ∀ c ∈ la_C, se_Met ty se_tt (rw_J ty) kx zs c ∧ c.1.2 ≤ 40 := by
  have h0h : se_Met ty se_tt (rw_J ty) kx zs sc_h0 := sm_h0 hz
  have h1h : se_Met ty se_tt (rw_J ty) kx zs sc_h1 := sm_h1
  have h2h : se_Met ty se_tt (rw_J ty) kx zs sc_h2 := sm_h2 hO
  have h4h : se_Met ty se_tt (rw_J ty) kx zs sc_h4 := sm_h4 hO
  have h5h : se_Met ty se_tt (rw_J ty) kx zs sc_h5 := sm_h5 hO
  have h6h : se_Met ty se_tt (rw_J ty) kx zs sc_h6 := sm_h6 hO
  have c0 : se_Met ty se_tt (rw_J ty) kx zs sc_0 := sm_0 hO
  have c1 : se_Met ty se_tt (rw_J ty) kx zs sc_1 := sm_1 hO
  have c2 : se_Met ty se_tt (rw_J ty) kx zs sc_2 := sm_2 hO
  have c3 : se_Met ty se_tt (rw_J ty) kx zs sc_3 := sm_3 hO c2
  have c4 : se_Met ty se_tt (rw_J ty) kx zs sc_4 := sm_4 hO
  have c5 : se_Met ty se_tt (rw_J ty) kx zs sc_5 := sm_5 hO
  have c6 : se_Met ty se_tt (rw_J ty) kx zs sc_6 := sm_6 hO
  have c7 : se_Met ty se_tt (rw_J ty) kx zs sc_7 := sm_7 hO c4 c5 c6
  have c8 : se_Met ty se_tt (rw_J ty) kx zs sc_8 := sm_8 hO
  have c9 : se_Met ty se_tt (rw_J ty) kx zs sc_9 := sm_9 hO c4 c5
  have c10 : se_Met ty se_tt (rw_J ty) kx zs sc_10 := sm_10 hO
  have c11 : se_Met ty se_tt (rw_J ty) kx zs sc_11 := sm_11 hO
  have c12 : se_Met ty se_tt (rw_J ty) kx zs sc_12 := sm_12 hO c4 c5
  have c13 : se_Met ty se_tt (rw_J ty) kx zs sc_13 := sm_13 hO
  have c14 : se_Met ty se_tt (rw_J ty) kx zs sc_14 := sm_14 hO c13
  have c15 : se_Met ty se_tt (rw_J ty) kx zs sc_15 := sm_15 hO
  have c16 : se_Met ty se_tt (rw_J ty) kx zs sc_16 := sm_16 hO
  have c17 : se_Met ty se_tt (rw_J ty) kx zs sc_17 := sm_17 hO
  have c18 : se_Met ty se_tt (rw_J ty) kx zs sc_18 := sm_18 hO
  have c19 : se_Met ty se_tt (rw_J ty) kx zs sc_19 := sm_19 hO c4 c5 c15 c16 c17 c18
  have c20 : se_Met ty se_tt (rw_J ty) kx zs sc_20 := sm_20 hO
  have c21 : se_Met ty se_tt (rw_J ty) kx zs sc_21 := sm_21 hO
  have c22 : se_Met ty se_tt (rw_J ty) kx zs sc_22 := sm_22 hO
  have c23 : se_Met ty se_tt (rw_J ty) kx zs sc_23 := sm_23 hO c5 c22
  have c24 : se_Met ty se_tt (rw_J ty) kx zs sc_24 := sm_24 hO
  have c25 : se_Met ty se_tt (rw_J ty) kx zs sc_25 := sm_25 hO
  have c26 : se_Met ty se_tt (rw_J ty) kx zs sc_26 := sm_26 hO c13 c24 c25
  have c27 : se_Met ty se_tt (rw_J ty) kx zs sc_27 := sm_27 hO
  have c28 : se_Met ty se_tt (rw_J ty) kx zs sc_28 := sm_28 hO c5 c21 c23 c24 c25 c26 c27
  have c29 : se_Met ty se_tt (rw_J ty) kx zs sc_29 := sm_29 hO
  have c31 : se_Met ty se_tt (rw_J ty) kx zs sc_31 := sm_31 hO
  have c33 : se_Met ty se_tt (rw_J ty) kx zs sc_33 := sm_33 hO
  have c34 : se_Met ty se_tt (rw_J ty) kx zs sc_34 := sm_34 hO c29 c31 c33
  have c35 : se_Met ty se_tt (rw_J ty) kx zs sc_35 := sm_35 hO c5
  have c36 : se_Met ty se_tt (rw_J ty) kx zs sc_36 := sm_36 hO c4 c5 c17 c20 c28 c34 c35
  have c37 : se_Met ty se_tt (rw_J ty) kx zs sc_37 := sm_37 hO c4 c23
  have c38 : se_Met ty se_tt (rw_J ty) kx zs sc_38 := sm_38 hO c4 c23
  have c39 : se_Met ty se_tt (rw_J ty) kx zs sc_39 := sm_39 hO c4 c35
  have c40 : se_Met ty se_tt (rw_J ty) kx zs sc_40 := sm_40 hO c4 c5
  have c41 : se_Met ty se_tt (rw_J ty) kx zs sc_41 := sm_41 hO c23
  have c42 : se_Met ty se_tt (rw_J ty) kx zs sc_42 := sm_42 hO c41
  have c43 : se_Met ty se_tt (rw_J ty) kx zs sc_43 := sm_43 hO c41
  have c44 : se_Met ty se_tt (rw_J ty) kx zs sc_44 := sm_44 hO c4 c42 c43
  have c45 : se_Met ty se_tt (rw_J ty) kx zs sc_45 := sm_45 hO c5 c17 c41
  have c46 : se_Met ty se_tt (rw_J ty) kx zs sc_46 := sm_46 hO
  have c47 : se_Met ty se_tt (rw_J ty) kx zs sc_47 := sm_47 hO
  have c48 : se_Met ty se_tt (rw_J ty) kx zs sc_48 := sm_48 hO c6
  have c49 : se_Met ty se_tt (rw_J ty) kx zs sc_49 := sm_49 hO c17 c48
  have c50 : se_Met ty se_tt (rw_J ty) kx zs sc_50 := sm_50 hO c5 c49
  have c51 : se_Met ty se_tt (rw_J ty) kx zs sc_51 := sm_51 hO
  have c52 : se_Met ty se_tt (rw_J ty) kx zs sc_52 := sm_52 hO c4 c5 c6 c17
  have c53 : se_Met ty se_tt (rw_J ty) kx zs sc_53 := sm_53 hO c52
  have c54 : se_Met ty se_tt (rw_J ty) kx zs sc_54 := sm_54 hO
  have c57 : se_Met ty se_tt (rw_J ty) kx zs sc_57 := sm_57 hO
  have c58 : se_Met ty se_tt (rw_J ty) kx zs sc_58 := sm_58 hO c4 c5 c24 c25 c27 c57
  have c59 : se_Met ty se_tt (rw_J ty) kx zs sc_59 := sm_59 hO
  have c60 : se_Met ty se_tt (rw_J ty) kx zs sc_60 := sm_60 hO c59
  have c62 : se_Met ty se_tt (rw_J ty) kx zs sc_62 := sm_62 hO
  have c63 : se_Met ty se_tt (rw_J ty) kx zs sc_63 := sm_63 hO h0h
  have c64 : se_Met ty se_tt (rw_J ty) kx zs sc_64 := sm_64 hO h0h
  have c65 : se_Met ty se_tt (rw_J ty) kx zs sc_65 := sm_65 hO h0h
  have c66 : se_Met ty se_tt (rw_J ty) kx zs sc_66 := sm_66 hO h0h
  have c67 : se_Met ty se_tt (rw_J ty) kx zs sc_67 := sm_67 hO h0h
  have c68 : se_Met ty se_tt (rw_J ty) kx zs sc_68 := sm_68 hO h0h
  have c69 : se_Met ty se_tt (rw_J ty) kx zs sc_69 := sm_69 hO h0h
  have c70 : se_Met ty se_tt (rw_J ty) kx zs sc_70 := sm_70 hO h0h
  have c71 : se_Met ty se_tt (rw_J ty) kx zs sc_71 := sm_71 hO h0h
  have c72 : se_Met ty se_tt (rw_J ty) kx zs sc_72 := sm_72 hO h0h
  have c73 : se_Met ty se_tt (rw_J ty) kx zs sc_73 := sm_73 hO h0h
  have c74 : se_Met ty se_tt (rw_J ty) kx zs sc_74 := sm_74 hO h0h
  have c75 : se_Met ty se_tt (rw_J ty) kx zs sc_75 := sm_75 hO h0h
  have c76 : se_Met ty se_tt (rw_J ty) kx zs sc_76 := sm_76 hO h0h
  have c77 : se_Met ty se_tt (rw_J ty) kx zs sc_77 := sm_77 hO h0h
  have c78 : se_Met ty se_tt (rw_J ty) kx zs sc_78 := sm_78 hO c63 c64 c65 c66 c67 c68 c69 c70 c71 c72 c73 c74 c75 c76 c77
  have c79 : se_Met ty se_tt (rw_J ty) kx zs sc_79 := sm_79 hO
  have c80 : se_Met ty se_tt (rw_J ty) kx zs sc_80 := sm_80 hO c78 c79
  have c82 : se_Met ty se_tt (rw_J ty) kx zs sc_82 := sm_82 hO
  have c84 : se_Met ty se_tt (rw_J ty) kx zs sc_84 := sm_84 hO c82
  have c85 : se_Met ty se_tt (rw_J ty) kx zs sc_85 := sm_85 hO c80 c82 c84
  have c86 : se_Met ty se_tt (rw_J ty) kx zs sc_86 := sm_86 hO c80 c84 c85
  have c87 : se_Met ty se_tt (rw_J ty) kx zs sc_87 := sm_87 hO c80 c84 c86
  have c88 : se_Met ty se_tt (rw_J ty) kx zs sc_88 := sm_88 hO c87
  have c89 : se_Met ty se_tt (rw_J ty) kx zs sc_89 := sm_89 hO c80 c84 c88
  have c90 : se_Met ty se_tt (rw_J ty) kx zs sc_90 := sm_90 hO c80 c84 c89
  have c91 : se_Met ty se_tt (rw_J ty) kx zs sc_91 := sm_91 hO c80 c82 c84 c90
  have c92 : se_Met ty se_tt (rw_J ty) kx zs sc_92 := sm_92 hO c80 c84 c91
  have c93 : se_Met ty se_tt (rw_J ty) kx zs sc_93 := sm_93 hO c80 c84 c92
  have c94 : se_Met ty se_tt (rw_J ty) kx zs sc_94 := sm_94 hO c80 c84 c88 c93
  have c95 : se_Met ty se_tt (rw_J ty) kx zs sc_95 := sm_95 hO c80 c84 c94
  have c96 : se_Met ty se_tt (rw_J ty) kx zs sc_96 := sm_96 hO c80 c84 c95
  have c97 : se_Met ty se_tt (rw_J ty) kx zs sc_97 := sm_97 hO c80 c82 c84 c96
  have c98 : se_Met ty se_tt (rw_J ty) kx zs sc_98 := sm_98 hO c80 c84 c97
  have c99 : se_Met ty se_tt (rw_J ty) kx zs sc_99 := sm_99 hO c80 c84 c98
  have c100 : se_Met ty se_tt (rw_J ty) kx zs sc_100 := sm_100 hO c80 c84 c94 c99
  have c101 : se_Met ty se_tt (rw_J ty) kx zs sc_101 := sm_101 hO c80 c84 c100
  have c102 : se_Met ty se_tt (rw_J ty) kx zs sc_102 := sm_102 hO c80 c84 c101
  have c103 : se_Met ty se_tt (rw_J ty) kx zs sc_103 := sm_103 hO c80 c82 c84 c102
  have c104 : se_Met ty se_tt (rw_J ty) kx zs sc_104 := sm_104 hO c80 c84 c103
  have c105 : se_Met ty se_tt (rw_J ty) kx zs sc_105 := sm_105 hO c80 c84 c104
  have c106 : se_Met ty se_tt (rw_J ty) kx zs sc_106 := sm_106 hO c80 c84 c100 c105
  have c107 : se_Met ty se_tt (rw_J ty) kx zs sc_107 := sm_107 hO c80 c84 c106
  have c108 : se_Met ty se_tt (rw_J ty) kx zs sc_108 := sm_108 hO c80 c84 c107
  have c109 : se_Met ty se_tt (rw_J ty) kx zs sc_109 := sm_109 hO c80 c82 c84 c108
  have c110 : se_Met ty se_tt (rw_J ty) kx zs sc_110 := sm_110 hO c80 c84 c109
  have c111 : se_Met ty se_tt (rw_J ty) kx zs sc_111 := sm_111 hO c80 c84 c110
  have c112 : se_Met ty se_tt (rw_J ty) kx zs sc_112 := sm_112 hO c80 c84 c106 c111
  have c113 : se_Met ty se_tt (rw_J ty) kx zs sc_113 := sm_113 hO c80 c84 c112
  have c114 : se_Met ty se_tt (rw_J ty) kx zs sc_114 := sm_114 hO c80 c84 c113
  have c116 : se_Met ty se_tt (rw_J ty) kx zs sc_116 := sm_116 hO
  have c117 : se_Met ty se_tt (rw_J ty) kx zs sc_117 := sm_117 hO c62 c80 c114 c116
  have c118 : se_Met ty se_tt (rw_J ty) kx zs sc_118 := sm_118 hO
  have c119 : se_Met ty se_tt (rw_J ty) kx zs sc_119 := sm_119 hO
  have c120 : se_Met ty se_tt (rw_J ty) kx zs sc_120 := sm_120 hO
  have c121 : se_Met ty se_tt (rw_J ty) kx zs sc_121 := sm_121 hO c117 c118
  have c122 : se_Met ty se_tt (rw_J ty) kx zs sc_122 := sm_122 hO c4 c5 c17
  have c123 : se_Met ty se_tt (rw_J ty) kx zs sc_123 := sm_123 hO c4 c5 c20
  have c124 : se_Met ty se_tt (rw_J ty) kx zs sc_124 := sm_124 hO c4 c5 c20 c28 c34
  have c125 : se_Met ty se_tt (rw_J ty) kx zs sc_125 := sm_125 hO c4 c5 c20 c21 c24 c25 c26 c27 c34
  have c126 : se_Met ty se_tt (rw_J ty) kx zs sc_126 := sm_126 hO c4 c5 c13 c20 c21 c24 c25 c27 c34
  have c127 : se_Met ty se_tt (rw_J ty) kx zs sc_127 := sm_127 hO
  have c128 : se_Met ty se_tt (rw_J ty) kx zs sc_128 := sm_128 hO c127
  have c129 : se_Met ty se_tt (rw_J ty) kx zs sc_129 := sm_129 hO
  have c130 : se_Met ty se_tt (rw_J ty) kx zs sc_130 := sm_130 hO
  have c131 : se_Met ty se_tt (rw_J ty) kx zs sc_131 := sm_131 hO c5
  have c132 : se_Met ty se_tt (rw_J ty) kx zs sc_132 := sm_132 hO c131
  have c133 : se_Met ty se_tt (rw_J ty) kx zs sc_133 := sm_133 hO c5
  have c134 : se_Met ty se_tt (rw_J ty) kx zs sc_134 := sm_134 hO c23
  have c135 : se_Met ty se_tt (rw_J ty) kx zs sc_135 := sm_135 hO c5 c25 c130 c132 c133 c134
  have c136 : se_Met ty se_tt (rw_J ty) kx zs sc_136 := sm_136 hO c4 c135
  have c137 : se_Met ty se_tt (rw_J ty) kx zs sc_137 := sm_137 hO c25 c134
  have c138 : se_Met ty se_tt (rw_J ty) kx zs sc_138 := sm_138 hO c25 c42 c132 c137
  have c139 : se_Met ty se_tt (rw_J ty) kx zs sc_139 := sm_139 hO c4 c25 c42 c138
  have c140 : se_Met ty se_tt (rw_J ty) kx zs sc_140 := sm_140 hO c23
  have c141 : se_Met ty se_tt (rw_J ty) kx zs sc_141 := sm_141 hO c23
  have c142 : se_Met ty se_tt (rw_J ty) kx zs sc_142 := sm_142 hO c23
  have c143 : se_Met ty se_tt (rw_J ty) kx zs sc_143 := sm_143 hO c23
  have c144 : se_Met ty se_tt (rw_J ty) kx zs sc_144 := sm_144 hO c4 c25 c140 c141 c142 c143
  have c145 : se_Met ty se_tt (rw_J ty) kx zs sc_145 := sm_145 hO
  have c146 : se_Met ty se_tt (rw_J ty) kx zs sc_146 := sm_146 hO
  have c147 : se_Met ty se_tt (rw_J ty) kx zs sc_147 := sm_147 hO c145 c146
  have c148 : se_Met ty se_tt (rw_J ty) kx zs sc_148 := sm_148 hO c4 c5 c57 c147
  have c149 : se_Met ty se_tt (rw_J ty) kx zs sc_149 := sm_149 hO c145
  have c150 : se_Met ty se_tt (rw_J ty) kx zs sc_150 := sm_150 hO c4 c5 c57 c149
  have c156 : se_Met ty se_tt (rw_J ty) kx zs sc_156 := sm_156 hO
  have c157 : se_Met ty se_tt (rw_J ty) kx zs sc_157 := sm_157 hO
  have c158 : se_Met ty se_tt (rw_J ty) kx zs sc_158 := sm_158 hO
  have c159 : se_Met ty se_tt (rw_J ty) kx zs sc_159 := sm_159 hO
  have c160 : se_Met ty se_tt (rw_J ty) kx zs sc_160 := sm_160 hO
  have c161 : se_Met ty se_tt (rw_J ty) kx zs sc_161 := sm_161 hO
  have c162 : se_Met ty se_tt (rw_J ty) kx zs sc_162 := sm_162 hO
  have c163 : se_Met ty se_tt (rw_J ty) kx zs sc_163 := sm_163 hO
  have c164 : se_Met ty se_tt (rw_J ty) kx zs sc_164 := sm_164 hO
  have c165 : se_Met ty se_tt (rw_J ty) kx zs sc_165 := sm_165 hO
  have c166 : se_Met ty se_tt (rw_J ty) kx zs sc_166 := sm_166 hO
  have c167 : se_Met ty se_tt (rw_J ty) kx zs sc_167 := sm_167 hO
  have c172 : se_Met ty se_tt (rw_J ty) kx zs sc_172 := sm_172 hO
  have c173 : se_Met ty se_tt (rw_J ty) kx zs sc_173 := sm_173 hO
  have c174 : se_Met ty se_tt (rw_J ty) kx zs sc_174 := sm_174 hO
  have c175 : se_Met ty se_tt (rw_J ty) kx zs sc_175 := sm_175 hO
  have c176 : se_Met ty se_tt (rw_J ty) kx zs sc_176 := sm_176 hO c172 c173 c174 c175
  have c177 : se_Met ty se_tt (rw_J ty) kx zs sc_177 := sm_177 hO
  have c178 : se_Met ty se_tt (rw_J ty) kx zs sc_178 := sm_178 hO
  have c179 : se_Met ty se_tt (rw_J ty) kx zs sc_179 := sm_179 hO
  have c180 : se_Met ty se_tt (rw_J ty) kx zs sc_180 := sm_180 hO
  have c181 : se_Met ty se_tt (rw_J ty) kx zs sc_181 := sm_181 hO c180
  have c182 : se_Met ty se_tt (rw_J ty) kx zs sc_182 := sm_182 hO
  have c183 : se_Met ty se_tt (rw_J ty) kx zs sc_183 := sm_183 hO
  have c184 : se_Met ty se_tt (rw_J ty) kx zs sc_184 := sm_184 hO h1h c180 c181 c182 c183
  have c185 : se_Met ty se_tt (rw_J ty) kx zs sc_185 := sm_185 hO
  have c186 : se_Met ty se_tt (rw_J ty) kx zs sc_186 := sm_186 hO c182 c183
  have c187 : se_Met ty se_tt (rw_J ty) kx zs sc_187 := sm_187 hO
  have c188 : se_Met ty se_tt (rw_J ty) kx zs sc_188 := sm_188 hO
  have c189 : se_Met ty se_tt (rw_J ty) kx zs sc_189 := sm_189 hO c182 c183
  have c190 : se_Met ty se_tt (rw_J ty) kx zs sc_190 := sm_190 hO
  have c191 : se_Met ty se_tt (rw_J ty) kx zs sc_191 := sm_191 hO c190
  have c192 : se_Met ty se_tt (rw_J ty) kx zs sc_192 := sm_192 hO h1h c182 c183
  have c193 : se_Met ty se_tt (rw_J ty) kx zs sc_193 := sm_193 hO c192
  have c194 : se_Met ty se_tt (rw_J ty) kx zs sc_194 := sm_194 hO c182 c183
  have c195 : se_Met ty se_tt (rw_J ty) kx zs sc_195 := sm_195 hO
  have c196 : se_Met ty se_tt (rw_J ty) kx zs sc_196 := sm_196 hO
  have c197 : se_Met ty se_tt (rw_J ty) kx zs sc_197 := sm_197 hO
  have c198 : se_Met ty se_tt (rw_J ty) kx zs sc_198 := sm_198 hO c182 c183 c195 c196 c197
  have c199 : se_Met ty se_tt (rw_J ty) kx zs sc_199 := sm_199 hO c181
  have c200 : se_Met ty se_tt (rw_J ty) kx zs sc_200 := sm_200 hO
  have c201 : se_Met ty se_tt (rw_J ty) kx zs sc_201 := sm_201 hO c183 c200
  have c202 : se_Met ty se_tt (rw_J ty) kx zs sc_202 := sm_202 hO c182 c199 c201
  have c203 : se_Met ty se_tt (rw_J ty) kx zs sc_203 := sm_203 hO c201
  have c204 : se_Met ty se_tt (rw_J ty) kx zs sc_204 := sm_204 hO c182 c199 c203
  have c205 : se_Met ty se_tt (rw_J ty) kx zs sc_205 := sm_205 hO c203
  have c206 : se_Met ty se_tt (rw_J ty) kx zs sc_206 := sm_206 hO c182 c199 c205
  have c207 : se_Met ty se_tt (rw_J ty) kx zs sc_207 := sm_207 hO
  have c208 : se_Met ty se_tt (rw_J ty) kx zs sc_208 := sm_208 hO
  have c209 : se_Met ty se_tt (rw_J ty) kx zs sc_209 := sm_209 hO c182 c183 c197 c199 c205
  have c210 : se_Met ty se_tt (rw_J ty) kx zs sc_210 := sm_210 hO
  have c211 : se_Met ty se_tt (rw_J ty) kx zs sc_211 := sm_211 hO c180 c210
  have c212 : se_Met ty se_tt (rw_J ty) kx zs sc_212 := sm_212 hO c197
  have c213 : se_Met ty se_tt (rw_J ty) kx zs sc_213 := sm_213 hO c182 c183 c210 c212
  have c214 : se_Met ty se_tt (rw_J ty) kx zs sc_214 := sm_214 hO
  have c215 : se_Met ty se_tt (rw_J ty) kx zs sc_215 := sm_215 hO h1h c182 c183 c197 c212
  have c216 : se_Met ty se_tt (rw_J ty) kx zs sc_216 := sm_216 hO c215
  have c217 : se_Met ty se_tt (rw_J ty) kx zs sc_217 := sm_217 hO
  have c218 : se_Met ty se_tt (rw_J ty) kx zs sc_218 := sm_218 hO c217
  have c221 : se_Met ty se_tt (rw_J ty) kx zs sc_221 := sm_221 hO
  have c222 : se_Met ty se_tt (rw_J ty) kx zs sc_222 := sm_222 hO
  have c223 : se_Met ty se_tt (rw_J ty) kx zs sc_223 := sm_223 hO c182 c183 c221 c222
  have c224 : se_Met ty se_tt (rw_J ty) kx zs sc_224 := sm_224 hO
  have c229 : se_Met ty se_tt (rw_J ty) kx zs sc_229 := sm_229 hO c182 c183 c197
  have c230 : se_Met ty se_tt (rw_J ty) kx zs sc_230 := sm_230 hO
  have c231 : se_Met ty se_tt (rw_J ty) kx zs sc_231 := sm_231 hO c182 c183 c230
  have c232 : se_Met ty se_tt (rw_J ty) kx zs sc_232 := sm_232 hO c221 c222
  have c233 : se_Met ty se_tt (rw_J ty) kx zs sc_233 := sm_233 hO c190
  have c234 : se_Met ty se_tt (rw_J ty) kx zs sc_234 := sm_234 hO h4h c182 c199 c203 c232 c233
  have c235 : se_Met ty se_tt (rw_J ty) kx zs sc_235 := sm_235 hO c182 c183 c192 c197 c230 c234
  have c236 : se_Met ty se_tt (rw_J ty) kx zs sc_236 := sm_236 hO c182 c183 c230 c234
  have c237 : se_Met ty se_tt (rw_J ty) kx zs sc_237 := sm_237 hO h4h c182 c183 c230 c232 c233
  have c238 : se_Met ty se_tt (rw_J ty) kx zs sc_238 := sm_238 hO h4h c182 c183 c190 c230 c232
  have c239 : se_Met ty se_tt (rw_J ty) kx zs sc_239 := sm_239 hO
  have c240 : se_Met ty se_tt (rw_J ty) kx zs sc_240 := sm_240 hO c182 c183 c199 c205 c239
  have c241 : se_Met ty se_tt (rw_J ty) kx zs sc_241 := sm_241 hO c205
  have c242 : se_Met ty se_tt (rw_J ty) kx zs sc_242 := sm_242 hO c182 c199 c239 c241
  have c243 : se_Met ty se_tt (rw_J ty) kx zs sc_243 := sm_243 hO c182 c199 c203 c239
  have c244 : se_Met ty se_tt (rw_J ty) kx zs sc_244 := sm_244 hO
  have c245 : se_Met ty se_tt (rw_J ty) kx zs sc_245 := sm_245 hO
  have c246 : se_Met ty se_tt (rw_J ty) kx zs sc_246 := sm_246 hO c182 c183 c217 c244 c245
  have c247 : se_Met ty se_tt (rw_J ty) kx zs sc_247 := sm_247 hO c182 c183 c217 c244 c245
  have c249 : se_Met ty se_tt (rw_J ty) kx zs sc_249 := sm_249 hO
  have c250 : se_Met ty se_tt (rw_J ty) kx zs sc_250 := sm_250 hO
  have c251 : se_Met ty se_tt (rw_J ty) kx zs sc_251 := sm_251 hO c182 c239
  have r0_0 : se_Met ty se_tt (rw_J ty) kx zs sc_r0_0 := sm_r0_0 hO
  have r0_8 : se_Met ty se_tt (rw_J ty) kx zs sc_r0_8 := sm_r0_8 hO
  have r0_16 : se_Met ty se_tt (rw_J ty) kx zs sc_r0_16 := sm_r0_16 hO
  have r0_32 : se_Met ty se_tt (rw_J ty) kx zs sc_r0_32 := sm_r0_32 hO
  have r1_0 : se_Met ty se_tt (rw_J ty) kx zs sc_r1_0 := sm_r1_0 hO
  have r1_8 : se_Met ty se_tt (rw_J ty) kx zs sc_r1_8 := sm_r1_8 hO
  have r1_16 : se_Met ty se_tt (rw_J ty) kx zs sc_r1_16 := sm_r1_16 hO
  have r1_32 : se_Met ty se_tt (rw_J ty) kx zs sc_r1_32 := sm_r1_32 hO
  have r2_0 : se_Met ty se_tt (rw_J ty) kx zs sc_r2_0 := sm_r2_0 hO
  have r2_8 : se_Met ty se_tt (rw_J ty) kx zs sc_r2_8 := sm_r2_8 hO
  have r2_16 : se_Met ty se_tt (rw_J ty) kx zs sc_r2_16 := sm_r2_16 hO
  have r2_32 : se_Met ty se_tt (rw_J ty) kx zs sc_r2_32 := sm_r2_32 hO
  have r3_0 : se_Met ty se_tt (rw_J ty) kx zs sc_r3_0 := sm_r3_0 hO
  have r3_8 : se_Met ty se_tt (rw_J ty) kx zs sc_r3_8 := sm_r3_8 hO
  have r3_16 : se_Met ty se_tt (rw_J ty) kx zs sc_r3_16 := sm_r3_16 hO
  have r3_32 : se_Met ty se_tt (rw_J ty) kx zs sc_r3_32 := sm_r3_32 hO
  have tk : se_Met ty se_tt (rw_J ty) kx zs sc_tk := sm_tk hO c119 c158 c160 c162 c164 c166
  have tl : se_Met ty se_tt (rw_J ty) kx zs sc_tl := sm_tl hO c120 c159 c161 c163 c165 c167
  have pd : se_Met ty se_tt (rw_J ty) kx zs sc_pd := sm_pd hO c4 c45 c46 c47 c50 c51 c53 c54
  have ps : se_Met ty se_tt (rw_J ty) kx zs sc_ps := sm_ps hO c209 c211 c213 c214 c216 c218
  have q0 : se_Met ty se_tt (rw_J ty) kx zs sc_q0 := sm_q0 hO
  have w0 : se_Met ty se_tt (rw_J ty) kx zs sc_w0 := sm_w0 hO
  have q1 : se_Met ty se_tt (rw_J ty) kx zs sc_q1 := sm_q1 hO
  have w1 : se_Met ty se_tt (rw_J ty) kx zs sc_w1 := sm_w1 hO
  have q2 : se_Met ty se_tt (rw_J ty) kx zs sc_q2 := sm_q2 hO
  have w2 : se_Met ty se_tt (rw_J ty) kx zs sc_w2 := sm_w2 hO
  have q3 : se_Met ty se_tt (rw_J ty) kx zs sc_q3 := sm_q3 hO r0_0
  have w3 : se_Met ty se_tt (rw_J ty) kx zs sc_w3 := sm_w3 hO
  have q4 : se_Met ty se_tt (rw_J ty) kx zs sc_q4 := sm_q4 hO r1_0
  have w4 : se_Met ty se_tt (rw_J ty) kx zs sc_w4 := sm_w4 hO
  have q5 : se_Met ty se_tt (rw_J ty) kx zs sc_q5 := sm_q5 hO r2_0
  have w5 : se_Met ty se_tt (rw_J ty) kx zs sc_w5 := sm_w5 hO
  have q6 : se_Met ty se_tt (rw_J ty) kx zs sc_q6 := sm_q6 hO r3_0
  have w6 : se_Met ty se_tt (rw_J ty) kx zs sc_w6 := sm_w6 hO
  have q7 : se_Met ty se_tt (rw_J ty) kx zs sc_q7 := sm_q7 hO
  have w7 : se_Met ty se_tt (rw_J ty) kx zs sc_w7 := sm_w7 hO
  have q8 : se_Met ty se_tt (rw_J ty) kx zs sc_q8 := sm_q8 hO
  have w8 : se_Met ty se_tt (rw_J ty) kx zs sc_w8 := sm_w8 hO
  have q9 : se_Met ty se_tt (rw_J ty) kx zs sc_q9 := sm_q9 hO
  have w9 : se_Met ty se_tt (rw_J ty) kx zs sc_w9 := sm_w9 hO
  have q10 : se_Met ty se_tt (rw_J ty) kx zs sc_q10 := sm_q10 hO r0_8
  have w10 : se_Met ty se_tt (rw_J ty) kx zs sc_w10 := sm_w10 hO
  have q11 : se_Met ty se_tt (rw_J ty) kx zs sc_q11 := sm_q11 hO r1_8
  have w11 : se_Met ty se_tt (rw_J ty) kx zs sc_w11 := sm_w11 hO
  have q12 : se_Met ty se_tt (rw_J ty) kx zs sc_q12 := sm_q12 hO r2_8
  have w12 : se_Met ty se_tt (rw_J ty) kx zs sc_w12 := sm_w12 hO
  have q13 : se_Met ty se_tt (rw_J ty) kx zs sc_q13 := sm_q13 hO r3_8
  have w13 : se_Met ty se_tt (rw_J ty) kx zs sc_w13 := sm_w13 hO
  have q14 : se_Met ty se_tt (rw_J ty) kx zs sc_q14 := sm_q14 hO
  have w14 : se_Met ty se_tt (rw_J ty) kx zs sc_w14 := sm_w14 hO
  have q15 : se_Met ty se_tt (rw_J ty) kx zs sc_q15 := sm_q15 hO
  have w15 : se_Met ty se_tt (rw_J ty) kx zs sc_w15 := sm_w15 hO
  have q16 : se_Met ty se_tt (rw_J ty) kx zs sc_q16 := sm_q16 hO
  have w16 : se_Met ty se_tt (rw_J ty) kx zs sc_w16 := sm_w16 hO
  have q17 : se_Met ty se_tt (rw_J ty) kx zs sc_q17 := sm_q17 hO r0_16
  have w17 : se_Met ty se_tt (rw_J ty) kx zs sc_w17 := sm_w17 hO
  have q18 : se_Met ty se_tt (rw_J ty) kx zs sc_q18 := sm_q18 hO r1_16
  have w18 : se_Met ty se_tt (rw_J ty) kx zs sc_w18 := sm_w18 hO
  have q19 : se_Met ty se_tt (rw_J ty) kx zs sc_q19 := sm_q19 hO r2_16
  have w19 : se_Met ty se_tt (rw_J ty) kx zs sc_w19 := sm_w19 hO
  have q20 : se_Met ty se_tt (rw_J ty) kx zs sc_q20 := sm_q20 hO r3_16
  have w20 : se_Met ty se_tt (rw_J ty) kx zs sc_w20 := sm_w20 hO
  have q21 : se_Met ty se_tt (rw_J ty) kx zs sc_q21 := sm_q21 hO
  have w21 : se_Met ty se_tt (rw_J ty) kx zs sc_w21 := sm_w21 hO
  have q22 : se_Met ty se_tt (rw_J ty) kx zs sc_q22 := sm_q22 hO
  have w22 : se_Met ty se_tt (rw_J ty) kx zs sc_w22 := sm_w22 hO
  have q23 : se_Met ty se_tt (rw_J ty) kx zs sc_q23 := sm_q23 hO
  have w23 : se_Met ty se_tt (rw_J ty) kx zs sc_w23 := sm_w23 hO
  have q24 : se_Met ty se_tt (rw_J ty) kx zs sc_q24 := sm_q24 hO r0_32
  have w24 : se_Met ty se_tt (rw_J ty) kx zs sc_w24 := sm_w24 hO
  have q25 : se_Met ty se_tt (rw_J ty) kx zs sc_q25 := sm_q25 hO r1_32
  have w25 : se_Met ty se_tt (rw_J ty) kx zs sc_w25 := sm_w25 hO
  have q26 : se_Met ty se_tt (rw_J ty) kx zs sc_q26 := sm_q26 hO r2_32
  have w26 : se_Met ty se_tt (rw_J ty) kx zs sc_w26 := sm_w26 hO
  have q27 : se_Met ty se_tt (rw_J ty) kx zs sc_q27 := sm_q27 hO r3_32
  have w27 : se_Met ty se_tt (rw_J ty) kx zs sc_w27 := sm_w27 hO
  have q28 : se_Met ty se_tt (rw_J ty) kx zs sc_q28 := sm_q28 hO
  have w28 : se_Met ty se_tt (rw_J ty) kx zs sc_w28 := sm_w28 hO
  have q29 : se_Met ty se_tt (rw_J ty) kx zs sc_q29 := sm_q29 hO
  have w29 : se_Met ty se_tt (rw_J ty) kx zs sc_w29 := sm_w29 hO
  have q30 : se_Met ty se_tt (rw_J ty) kx zs sc_q30 := sm_q30 hO
  have w30 : se_Met ty se_tt (rw_J ty) kx zs sc_w30 := sm_w30 hO
  have q31 : se_Met ty se_tt (rw_J ty) kx zs sc_q31 := sm_q31 hO tk
  have i3 : se_Met ty se_tt (rw_J ty) kx zs sc_i3 := sm_i3 hO
  have q32 : se_Met ty se_tt (rw_J ty) kx zs sc_q32 := sm_q32 hO
  have w32 : se_Met ty se_tt (rw_J ty) kx zs sc_w32 := sm_w32 hO
  have q33 : se_Met ty se_tt (rw_J ty) kx zs sc_q33 := sm_q33 hO tl
  have r3 : se_Met ty se_tt (rw_J ty) kx zs sc_r3 := sm_r3 hO
  have q34 : se_Met ty se_tt (rw_J ty) kx zs sc_q34 := sm_q34 hO
  have w34 : se_Met ty se_tt (rw_J ty) kx zs sc_w34 := sm_w34 hO
  have q35 : se_Met ty se_tt (rw_J ty) kx zs sc_q35 := sm_q35 hO
  have w35 : se_Met ty se_tt (rw_J ty) kx zs sc_w35 := sm_w35 hO
  have q36 : se_Met ty se_tt (rw_J ty) kx zs sc_q36 := sm_q36 hO pd
  have w36 : se_Met ty se_tt (rw_J ty) kx zs sc_w36 := sm_w36 hO ps
  have q37 : se_Met ty se_tt (rw_J ty) kx zs sc_q37 := sm_q37 hO
  have w37 : se_Met ty se_tt (rw_J ty) kx zs sc_w37 := sm_w37 hO
  have q38 : se_Met ty se_tt (rw_J ty) kx zs sc_q38 := sm_q38 hO
  have w38 : se_Met ty se_tt (rw_J ty) kx zs sc_w38 := sm_w38 hO
  have q39 : se_Met ty se_tt (rw_J ty) kx zs sc_q39 := sm_q39 hO
  have w39 : se_Met ty se_tt (rw_J ty) kx zs sc_w39 := sm_w39 hO
  have q40 : se_Met ty se_tt (rw_J ty) kx zs sc_q40 := sm_q40 hO
  have w40 : se_Met ty se_tt (rw_J ty) kx zs sc_w40 := sm_w40 hO
  have q41 : se_Met ty se_tt (rw_J ty) kx zs sc_q41 := sm_q41 hO
  have w41 : se_Met ty se_tt (rw_J ty) kx zs sc_w41 := sm_w41 hO
  have q42 : se_Met ty se_tt (rw_J ty) kx zs sc_q42 := sm_q42 hO pd
  have w42 : se_Met ty se_tt (rw_J ty) kx zs sc_w42 := sm_w42 hO ps
  have q43 : se_Met ty se_tt (rw_J ty) kx zs sc_q43 := sm_q43 hO
  have w43 : se_Met ty se_tt (rw_J ty) kx zs sc_w43 := sm_w43 hO
  have q44 : se_Met ty se_tt (rw_J ty) kx zs sc_q44 := sm_q44 hO pd
  have w44 : se_Met ty se_tt (rw_J ty) kx zs sc_w44 := sm_w44 hO ps
  have q45 : se_Met ty se_tt (rw_J ty) kx zs sc_q45 := sm_q45 hO
  have w45 : se_Met ty se_tt (rw_J ty) kx zs sc_w45 := sm_w45 hO
  have q46 : se_Met ty se_tt (rw_J ty) kx zs sc_q46 := sm_q46 hO pd
  have w46 : se_Met ty se_tt (rw_J ty) kx zs sc_w46 := sm_w46 hO ps
  have q47 : se_Met ty se_tt (rw_J ty) kx zs sc_q47 := sm_q47 hO
  have w47 : se_Met ty se_tt (rw_J ty) kx zs sc_w47 := sm_w47 hO
  have q48 : se_Met ty se_tt (rw_J ty) kx zs sc_q48 := sm_q48 hO pd
  have w48 : se_Met ty se_tt (rw_J ty) kx zs sc_w48 := sm_w48 hO ps
  have q49 : se_Met ty se_tt (rw_J ty) kx zs sc_q49 := sm_q49 hO
  have w49 : se_Met ty se_tt (rw_J ty) kx zs sc_w49 := sm_w49 hO
  have q50 : se_Met ty se_tt (rw_J ty) kx zs sc_q50 := sm_q50 hO
  have w50 : se_Met ty se_tt (rw_J ty) kx zs sc_w50 := sm_w50 hO
  intro c hc
  unfold la_C at hc
  rcases List.mem_cons.mp hc with rfl | hc
  · exact ⟨q0, by decide⟩
  rcases List.mem_cons.mp hc with rfl | hc
  · exact ⟨w0, by decide⟩
  rcases List.mem_cons.mp hc with rfl | hc
  · exact ⟨q1, by decide⟩
  rcases List.mem_cons.mp hc with rfl | hc
  · exact ⟨w1, by decide⟩
  rcases List.mem_cons.mp hc with rfl | hc
  · exact ⟨q2, by decide⟩
  rcases List.mem_cons.mp hc with rfl | hc
  · exact ⟨w2, by decide⟩
  rcases List.mem_cons.mp hc with rfl | hc
  · exact ⟨q3, by decide⟩
  rcases List.mem_cons.mp hc with rfl | hc
  · exact ⟨w3, by decide⟩
  rcases List.mem_cons.mp hc with rfl | hc
  · exact ⟨q4, by decide⟩
  rcases List.mem_cons.mp hc with rfl | hc
  · exact ⟨w4, by decide⟩
  rcases List.mem_cons.mp hc with rfl | hc
  · exact ⟨q5, by decide⟩
  rcases List.mem_cons.mp hc with rfl | hc
  · exact ⟨w5, by decide⟩
  rcases List.mem_cons.mp hc with rfl | hc
  · exact ⟨q6, by decide⟩
  rcases List.mem_cons.mp hc with rfl | hc
  · exact ⟨w6, by decide⟩
  rcases List.mem_cons.mp hc with rfl | hc
  · exact ⟨q7, by decide⟩
  rcases List.mem_cons.mp hc with rfl | hc
  · exact ⟨w7, by decide⟩
  rcases List.mem_cons.mp hc with rfl | hc
  · exact ⟨q8, by decide⟩
  rcases List.mem_cons.mp hc with rfl | hc
  · exact ⟨w8, by decide⟩
  rcases List.mem_cons.mp hc with rfl | hc
  · exact ⟨q9, by decide⟩
  rcases List.mem_cons.mp hc with rfl | hc
  · exact ⟨w9, by decide⟩
  rcases List.mem_cons.mp hc with rfl | hc
  · exact ⟨q10, by decide⟩
  rcases List.mem_cons.mp hc with rfl | hc
  · exact ⟨w10, by decide⟩
  rcases List.mem_cons.mp hc with rfl | hc
  · exact ⟨q11, by decide⟩
  rcases List.mem_cons.mp hc with rfl | hc
  · exact ⟨w11, by decide⟩
  rcases List.mem_cons.mp hc with rfl | hc
  · exact ⟨q12, by decide⟩
  rcases List.mem_cons.mp hc with rfl | hc
  · exact ⟨w12, by decide⟩
  rcases List.mem_cons.mp hc with rfl | hc
  · exact ⟨q13, by decide⟩
  rcases List.mem_cons.mp hc with rfl | hc
  · exact ⟨w13, by decide⟩
  rcases List.mem_cons.mp hc with rfl | hc
  · exact ⟨q14, by decide⟩
  rcases List.mem_cons.mp hc with rfl | hc
  · exact ⟨w14, by decide⟩
  rcases List.mem_cons.mp hc with rfl | hc
  · exact ⟨q15, by decide⟩
  rcases List.mem_cons.mp hc with rfl | hc
  · exact ⟨w15, by decide⟩
  rcases List.mem_cons.mp hc with rfl | hc
  · exact ⟨q16, by decide⟩
  rcases List.mem_cons.mp hc with rfl | hc
  · exact ⟨w16, by decide⟩
  rcases List.mem_cons.mp hc with rfl | hc
  · exact ⟨q17, by decide⟩
  rcases List.mem_cons.mp hc with rfl | hc
  · exact ⟨w17, by decide⟩
  rcases List.mem_cons.mp hc with rfl | hc
  · exact ⟨q18, by decide⟩
  rcases List.mem_cons.mp hc with rfl | hc
  · exact ⟨w18, by decide⟩
  rcases List.mem_cons.mp hc with rfl | hc
  · exact ⟨q19, by decide⟩
  rcases List.mem_cons.mp hc with rfl | hc
  · exact ⟨w19, by decide⟩
  rcases List.mem_cons.mp hc with rfl | hc
  · exact ⟨q20, by decide⟩
  rcases List.mem_cons.mp hc with rfl | hc
  · exact ⟨w20, by decide⟩
  rcases List.mem_cons.mp hc with rfl | hc
  · exact ⟨q21, by decide⟩
  rcases List.mem_cons.mp hc with rfl | hc
  · exact ⟨w21, by decide⟩
  rcases List.mem_cons.mp hc with rfl | hc
  · exact ⟨q22, by decide⟩
  rcases List.mem_cons.mp hc with rfl | hc
  · exact ⟨w22, by decide⟩
  rcases List.mem_cons.mp hc with rfl | hc
  · exact ⟨q23, by decide⟩
  rcases List.mem_cons.mp hc with rfl | hc
  · exact ⟨w23, by decide⟩
  rcases List.mem_cons.mp hc with rfl | hc
  · exact ⟨q24, by decide⟩
  rcases List.mem_cons.mp hc with rfl | hc
  · exact ⟨w24, by decide⟩
  rcases List.mem_cons.mp hc with rfl | hc
  · exact ⟨q25, by decide⟩
  rcases List.mem_cons.mp hc with rfl | hc
  · exact ⟨w25, by decide⟩
  rcases List.mem_cons.mp hc with rfl | hc
  · exact ⟨q26, by decide⟩
  rcases List.mem_cons.mp hc with rfl | hc
  · exact ⟨w26, by decide⟩
  rcases List.mem_cons.mp hc with rfl | hc
  · exact ⟨q27, by decide⟩
  rcases List.mem_cons.mp hc with rfl | hc
  · exact ⟨w27, by decide⟩
  rcases List.mem_cons.mp hc with rfl | hc
  · exact ⟨q28, by decide⟩
  rcases List.mem_cons.mp hc with rfl | hc
  · exact ⟨w28, by decide⟩
  rcases List.mem_cons.mp hc with rfl | hc
  · exact ⟨q29, by decide⟩
  rcases List.mem_cons.mp hc with rfl | hc
  · exact ⟨w29, by decide⟩
  rcases List.mem_cons.mp hc with rfl | hc
  · exact ⟨q30, by decide⟩
  rcases List.mem_cons.mp hc with rfl | hc
  · exact ⟨w30, by decide⟩
  rcases List.mem_cons.mp hc with rfl | hc
  · exact ⟨q31, by decide⟩
  rcases List.mem_cons.mp hc with rfl | hc
  · exact ⟨i3, by decide⟩
  rcases List.mem_cons.mp hc with rfl | hc
  · exact ⟨q32, by decide⟩
  rcases List.mem_cons.mp hc with rfl | hc
  · exact ⟨w32, by decide⟩
  rcases List.mem_cons.mp hc with rfl | hc
  · exact ⟨q33, by decide⟩
  rcases List.mem_cons.mp hc with rfl | hc
  · exact ⟨r3, by decide⟩
  rcases List.mem_cons.mp hc with rfl | hc
  · exact ⟨q34, by decide⟩
  rcases List.mem_cons.mp hc with rfl | hc
  · exact ⟨w34, by decide⟩
  rcases List.mem_cons.mp hc with rfl | hc
  · exact ⟨q35, by decide⟩
  rcases List.mem_cons.mp hc with rfl | hc
  · exact ⟨w35, by decide⟩
  rcases List.mem_cons.mp hc with rfl | hc
  · exact ⟨q36, by decide⟩
  rcases List.mem_cons.mp hc with rfl | hc
  · exact ⟨w36, by decide⟩
  rcases List.mem_cons.mp hc with rfl | hc
  · exact ⟨q37, by decide⟩
  rcases List.mem_cons.mp hc with rfl | hc
  · exact ⟨w37, by decide⟩
  rcases List.mem_cons.mp hc with rfl | hc
  · exact ⟨q38, by decide⟩
  rcases List.mem_cons.mp hc with rfl | hc
  · exact ⟨w38, by decide⟩
  rcases List.mem_cons.mp hc with rfl | hc
  · exact ⟨q39, by decide⟩
  rcases List.mem_cons.mp hc with rfl | hc
  · exact ⟨w39, by decide⟩
  rcases List.mem_cons.mp hc with rfl | hc
  · exact ⟨q40, by decide⟩
  rcases List.mem_cons.mp hc with rfl | hc
  · exact ⟨w40, by decide⟩
  rcases List.mem_cons.mp hc with rfl | hc
  · exact ⟨q41, by decide⟩
  rcases List.mem_cons.mp hc with rfl | hc
  · exact ⟨w41, by decide⟩
  rcases List.mem_cons.mp hc with rfl | hc
  · exact ⟨q42, by decide⟩
  rcases List.mem_cons.mp hc with rfl | hc
  · exact ⟨w42, by decide⟩
  rcases List.mem_cons.mp hc with rfl | hc
  · exact ⟨q43, by decide⟩
  rcases List.mem_cons.mp hc with rfl | hc
  · exact ⟨w43, by decide⟩
  rcases List.mem_cons.mp hc with rfl | hc
  · exact ⟨q44, by decide⟩
  rcases List.mem_cons.mp hc with rfl | hc
  · exact ⟨w44, by decide⟩
  rcases List.mem_cons.mp hc with rfl | hc
  · exact ⟨q45, by decide⟩
  rcases List.mem_cons.mp hc with rfl | hc
  · exact ⟨w45, by decide⟩
  rcases List.mem_cons.mp hc with rfl | hc
  · exact ⟨q46, by decide⟩
  rcases List.mem_cons.mp hc with rfl | hc
  · exact ⟨w46, by decide⟩
  rcases List.mem_cons.mp hc with rfl | hc
  · exact ⟨q47, by decide⟩
  rcases List.mem_cons.mp hc with rfl | hc
  · exact ⟨w47, by decide⟩
  rcases List.mem_cons.mp hc with rfl | hc
  · exact ⟨q48, by decide⟩
  rcases List.mem_cons.mp hc with rfl | hc
  · exact ⟨w48, by decide⟩
  rcases List.mem_cons.mp hc with rfl | hc
  · exact ⟨q49, by decide⟩
  rcases List.mem_cons.mp hc with rfl | hc
  · exact ⟨w49, by decide⟩
  rcases List.mem_cons.mp hc with rfl | hc
  · exact ⟨q50, by decide⟩
  rcases List.mem_cons.mp hc with rfl | hc
  · exact ⟨w50, by decide⟩
  rcases List.mem_cons.mp hc with rfl | hc
  · exact ⟨c0, by decide⟩
  rcases List.mem_cons.mp hc with rfl | hc
  · exact ⟨c1, by decide⟩
  rcases List.mem_cons.mp hc with rfl | hc
  · exact ⟨c3, by decide⟩
  rcases List.mem_cons.mp hc with rfl | hc
  · exact ⟨c7, by decide⟩
  rcases List.mem_cons.mp hc with rfl | hc
  · exact ⟨c8, by decide⟩
  rcases List.mem_cons.mp hc with rfl | hc
  · exact ⟨c9, by decide⟩
  rcases List.mem_cons.mp hc with rfl | hc
  · exact ⟨c10, by decide⟩
  rcases List.mem_cons.mp hc with rfl | hc
  · exact ⟨c11, by decide⟩
  rcases List.mem_cons.mp hc with rfl | hc
  · exact ⟨c12, by decide⟩
  rcases List.mem_cons.mp hc with rfl | hc
  · exact ⟨c14, by decide⟩
  rcases List.mem_cons.mp hc with rfl | hc
  · exact ⟨c19, by decide⟩
  rcases List.mem_cons.mp hc with rfl | hc
  · exact ⟨c36, by decide⟩
  rcases List.mem_cons.mp hc with rfl | hc
  · exact ⟨c37, by decide⟩
  rcases List.mem_cons.mp hc with rfl | hc
  · exact ⟨c38, by decide⟩
  rcases List.mem_cons.mp hc with rfl | hc
  · exact ⟨c39, by decide⟩
  rcases List.mem_cons.mp hc with rfl | hc
  · exact ⟨c40, by decide⟩
  rcases List.mem_cons.mp hc with rfl | hc
  · exact ⟨c44, by decide⟩
  rcases List.mem_cons.mp hc with rfl | hc
  · exact ⟨c58, by decide⟩
  rcases List.mem_cons.mp hc with rfl | hc
  · exact ⟨c60, by decide⟩
  rcases List.mem_cons.mp hc with rfl | hc
  · exact ⟨c121, by decide⟩
  rcases List.mem_cons.mp hc with rfl | hc
  · exact ⟨c122, by decide⟩
  rcases List.mem_cons.mp hc with rfl | hc
  · exact ⟨c123, by decide⟩
  rcases List.mem_cons.mp hc with rfl | hc
  · exact ⟨c124, by decide⟩
  rcases List.mem_cons.mp hc with rfl | hc
  · exact ⟨c125, by decide⟩
  rcases List.mem_cons.mp hc with rfl | hc
  · exact ⟨c126, by decide⟩
  rcases List.mem_cons.mp hc with rfl | hc
  · exact ⟨c128, by decide⟩
  rcases List.mem_cons.mp hc with rfl | hc
  · exact ⟨c129, by decide⟩
  rcases List.mem_cons.mp hc with rfl | hc
  · exact ⟨c136, by decide⟩
  rcases List.mem_cons.mp hc with rfl | hc
  · exact ⟨c139, by decide⟩
  rcases List.mem_cons.mp hc with rfl | hc
  · exact ⟨c144, by decide⟩
  rcases List.mem_cons.mp hc with rfl | hc
  · exact ⟨c148, by decide⟩
  rcases List.mem_cons.mp hc with rfl | hc
  · exact ⟨c150, by decide⟩
  rcases List.mem_cons.mp hc with rfl | hc
  · exact ⟨c156, by decide⟩
  rcases List.mem_cons.mp hc with rfl | hc
  · exact ⟨c157, by decide⟩
  rcases List.mem_cons.mp hc with rfl | hc
  · exact ⟨c176, by decide⟩
  rcases List.mem_cons.mp hc with rfl | hc
  · exact ⟨c177, by decide⟩
  rcases List.mem_cons.mp hc with rfl | hc
  · exact ⟨c178, by decide⟩
  rcases List.mem_cons.mp hc with rfl | hc
  · exact ⟨c179, by decide⟩
  rcases List.mem_cons.mp hc with rfl | hc
  · exact ⟨c184, by decide⟩
  rcases List.mem_cons.mp hc with rfl | hc
  · exact ⟨c185, by decide⟩
  rcases List.mem_cons.mp hc with rfl | hc
  · exact ⟨c186, by decide⟩
  rcases List.mem_cons.mp hc with rfl | hc
  · exact ⟨c187, by decide⟩
  rcases List.mem_cons.mp hc with rfl | hc
  · exact ⟨c188, by decide⟩
  rcases List.mem_cons.mp hc with rfl | hc
  · exact ⟨c189, by decide⟩
  rcases List.mem_cons.mp hc with rfl | hc
  · exact ⟨c191, by decide⟩
  rcases List.mem_cons.mp hc with rfl | hc
  · exact ⟨c193, by decide⟩
  rcases List.mem_cons.mp hc with rfl | hc
  · exact ⟨c194, by decide⟩
  rcases List.mem_cons.mp hc with rfl | hc
  · exact ⟨c198, by decide⟩
  rcases List.mem_cons.mp hc with rfl | hc
  · exact ⟨c202, by decide⟩
  rcases List.mem_cons.mp hc with rfl | hc
  · exact ⟨c204, by decide⟩
  rcases List.mem_cons.mp hc with rfl | hc
  · exact ⟨c206, by decide⟩
  rcases List.mem_cons.mp hc with rfl | hc
  · exact ⟨c207, by decide⟩
  rcases List.mem_cons.mp hc with rfl | hc
  · exact ⟨c208, by decide⟩
  rcases List.mem_cons.mp hc with rfl | hc
  · exact ⟨c223, by decide⟩
  rcases List.mem_cons.mp hc with rfl | hc
  · exact ⟨c224, by decide⟩
  rcases List.mem_cons.mp hc with rfl | hc
  · exact ⟨h2h, by decide⟩
  rcases List.mem_cons.mp hc with rfl | hc
  · exact ⟨c229, by decide⟩
  rcases List.mem_cons.mp hc with rfl | hc
  · exact ⟨c231, by decide⟩
  rcases List.mem_cons.mp hc with rfl | hc
  · exact ⟨c235, by decide⟩
  rcases List.mem_cons.mp hc with rfl | hc
  · exact ⟨c236, by decide⟩
  rcases List.mem_cons.mp hc with rfl | hc
  · exact ⟨c237, by decide⟩
  rcases List.mem_cons.mp hc with rfl | hc
  · exact ⟨c238, by decide⟩
  rcases List.mem_cons.mp hc with rfl | hc
  · exact ⟨c240, by decide⟩
  rcases List.mem_cons.mp hc with rfl | hc
  · exact ⟨c242, by decide⟩
  rcases List.mem_cons.mp hc with rfl | hc
  · exact ⟨c243, by decide⟩
  rcases List.mem_cons.mp hc with rfl | hc
  · exact ⟨c246, by decide⟩
  rcases List.mem_cons.mp hc with rfl | hc
  · exact ⟨c247, by decide⟩
  rcases List.mem_cons.mp hc with rfl | hc
  · exact ⟨c249, by decide⟩
  rcases List.mem_cons.mp hc with rfl | hc
  · exact ⟨c250, by decide⟩
  rcases List.mem_cons.mp hc with rfl | hc
  · exact ⟨c251, by decide⟩
  exact absurd hc List.not_mem_nil
def la_pk : List se_K := [(90, 0, 0), (91, 0, 0), (88, 0, 0), (81, 0, 0), (121, 0, 0), (122, 0, 0), (123, 0, 0), (70, 0, 0), (71, 0, 0), (89, 0, 0), (117, 0, 0), (58, 0, 0), (105, 0, 0)]
def la_R0 : la_R := ([((1, 0, 0), (0, 0, 3), (1, 2, 0)), ((1, 2, 0), (0, 0, 0), (1, 3, 0)), ((1, 2, 0), (0, 0, 1), (1, 4, 0)), ((1, 2, 0), (0, 0, 2), (1, 5, 0)), ((1, 2, 0), (0, 0, 3), (1, 6, 0)), ((1, 1, 0), (0, 0, 22), (1, 7, 0)), ((1, 1, 0), (0, 0, 23), (1, 8, 0)), ((1, 0, 0), (0, 0, 0), (1, 9, 0)), ((1, 0, 0), (0, 0, 1), (1, 10, 0)), ((1, 1, 0), (0, 0, 0), (1, 11, 0)), ((1, 1, 0), (0, 0, 1), (1, 12, 0))], [((0, 0, 32), ((1, 3, 0), (0, 0, 0)), ((1, 7, 0), (0, 0, 0))), ((0, 0, 20), ((1, 3, 0), (0, 0, 1)), ((1, 8, 0), (0, 0, 0))), ((0, 0, 32), ((1, 4, 0), (0, 0, 0)), ((1, 7, 0), (0, 0, 1))), ((0, 0, 20), ((1, 4, 0), (0, 0, 1)), ((1, 8, 0), (0, 0, 1))), ((0, 0, 32), ((1, 5, 0), (0, 0, 0)), ((1, 7, 0), (0, 0, 2))), ((0, 0, 20), ((1, 5, 0), (0, 0, 1)), ((1, 8, 0), (0, 0, 2))), ((0, 0, 32), ((1, 6, 0), (0, 0, 0)), ((1, 7, 0), (0, 0, 3))), ((0, 0, 20), ((1, 6, 0), (0, 0, 1)), ((1, 8, 0), (0, 0, 3))), ((0, 0, 1), ((1, 0, 0), (0, 0, 2)), ((1, 1, 0), (0, 0, 2))), ((0, (-2147483648), 2147483647), ((1, 9, 0), (0, 0, 9)), ((1, 11, 0), (0, 0, 3))), ((0, (-2147483648), 2147483647), ((1, 10, 0), (0, 0, 9)), ((1, 12, 0), (0, 0, 3)))])
/-- a context: kinds of the relation's values, of the script's ints; differences (a value less an int); facts between these (0 ints, 1 values, 2 differences) -/
abbrev la_cx : Type := List se_K × List se_K × List (Nat × Nat) × List (Jvm.ClassFile.Cond × (Nat × Nat) × (Nat × Nat))
def la_cxs_any : List la_cx := [([(0, 0, 32), (0, 0, 20), (0, 0, 32), (0, 0, 20), (0, 0, 32), (0, 0, 20), (0, 0, 32), (0, 0, 20), (0, 0, 1), (0, (-2147483648), 2147483647), (0, (-2147483648), 2147483647)], [(0, (-2147483648), 2147483647), (0, (-2147483648), 2147483647), (0, (-2147483648), 2147483647), (0, (-2147483648), 2147483647), (0, (-2147483648), 2147483647)], [], [])]
def la_cxc_sheet_0 : la_cx := ([(0, 0, 32), (0, 0, 20), (0, 0, 32), (0, 0, 20), (0, 0, 32), (0, 0, 20), (0, 0, 32), (0, 0, 20), (0, 0, 1), (0, (-2147483648), 2147483647), (0, (-2147483648), 2147483647)], [(0, (-2147483648), (-1)), (0, (-2147483648), 2147483647), (0, (-2147483648), 2147483647), (0, (-2147483648), 2147483647), (0, (-2147483648), 2147483647)], [], [])
def la_cxc_sheet_1 : la_cx := ([(0, 0, 32), (0, 0, 20), (0, 0, 32), (0, 0, 20), (0, 0, 32), (0, 0, 20), (0, 0, 32), (0, 0, 20), (0, 0, 1), (0, (-2147483648), 2147483647), (0, (-2147483648), 2147483647)], [(0, 0, 3), (0, (-2147483648), (-1)), (0, (-2147483648), 2147483647), (0, (-2147483648), 2147483647), (0, (-2147483648), 2147483647)], [], [])
def la_cxc_sheet_2 : la_cx := ([(0, 0, 32), (0, 0, 20), (0, 0, 32), (0, 0, 20), (0, 0, 32), (0, 0, 20), (0, 0, 32), (0, 0, 20), (0, 0, 1), (0, (-2147483648), 2147483647), (0, (-2147483648), 2147483647)], [(0, 0, 3), (0, 0, 0), (0, (-2147483648), (-1)), (0, (-2147483648), 2147483647), (0, (-2147483648), 2147483647)], [], [])
def la_cxc_sheet_3 : la_cx := ([(0, 0, 32), (0, 0, 20), (0, 0, 32), (0, 0, 20), (0, 0, 32), (0, 0, 20), (0, 0, 32), (0, 0, 20), (0, 0, 1), (0, (-2147483648), 2147483647), (0, (-2147483648), 2147483647)], [(0, 0, 0), (0, 0, 0), (0, 0, 20), (0, (-2147483648), 2147483647), (0, (-2147483648), 2147483647)], [], [])
def la_cxc_sheet_4 : la_cx := ([(0, 0, 32), (0, 0, 20), (0, 0, 32), (0, 0, 20), (0, 0, 32), (0, 0, 20), (0, 0, 32), (0, 0, 20), (0, 0, 1), (0, (-2147483648), 2147483647), (0, (-2147483648), 2147483647)], [(0, 1, 1), (0, 0, 0), (0, 0, 20), (0, (-2147483648), 2147483647), (0, (-2147483648), 2147483647)], [], [])
def la_cxc_sheet_5 : la_cx := ([(0, 0, 32), (0, 0, 20), (0, 0, 32), (0, 0, 20), (0, 0, 32), (0, 0, 20), (0, 0, 32), (0, 0, 20), (0, 0, 1), (0, (-2147483648), 2147483647), (0, (-2147483648), 2147483647)], [(0, 2, 2), (0, 0, 0), (0, 0, 20), (0, (-2147483648), 2147483647), (0, (-2147483648), 2147483647)], [], [])
def la_cxc_sheet_6 : la_cx := ([(0, 0, 32), (0, 0, 20), (0, 0, 32), (0, 0, 20), (0, 0, 32), (0, 0, 20), (0, 0, 32), (0, 0, 20), (0, 0, 1), (0, (-2147483648), 2147483647), (0, (-2147483648), 2147483647)], [(0, 3, 3), (0, 0, 0), (0, 0, 20), (0, (-2147483648), 2147483647), (0, (-2147483648), 2147483647)], [], [])
def la_cxc_sheet_7 : la_cx := ([(0, 0, 32), (0, 0, 20), (0, 0, 32), (0, 0, 20), (0, 0, 32), (0, 0, 20), (0, 0, 32), (0, 0, 20), (0, 0, 1), (0, (-2147483648), 2147483647), (0, (-2147483648), 2147483647)], [(0, 0, 3), (0, 0, 0), (0, 21, 2147483647), (0, (-2147483648), 2147483647), (0, (-2147483648), 2147483647)], [], [])
def la_cxc_sheet_8 : la_cx := ([(0, 0, 32), (0, 0, 20), (0, 0, 32), (0, 0, 20), (0, 0, 32), (0, 0, 20), (0, 0, 32), (0, 0, 20), (0, 0, 1), (0, (-2147483648), 2147483647), (0, (-2147483648), 2147483647)], [(0, 0, 3), (0, 1, 7), (0, (-2147483648), 2147483647), (0, (-2147483648), 2147483647), (0, (-2147483648), 2147483647)], [], [])
def la_cxc_sheet_9 : la_cx := ([(0, 0, 32), (0, 0, 20), (0, 0, 32), (0, 0, 20), (0, 0, 32), (0, 0, 20), (0, 0, 32), (0, 0, 20), (0, 0, 1), (0, (-2147483648), 2147483647), (0, (-2147483648), 2147483647)], [(0, 0, 3), (0, 8, 8), (0, (-2147483648), (-1)), (0, (-2147483648), 2147483647), (0, (-2147483648), 2147483647)], [], [])
def la_cxc_sheet_10 : la_cx := ([(0, 0, 32), (0, 0, 20), (0, 0, 32), (0, 0, 20), (0, 0, 32), (0, 0, 20), (0, 0, 32), (0, 0, 20), (0, 0, 1), (0, (-2147483648), 2147483647), (0, (-2147483648), 2147483647)], [(0, 0, 0), (0, 8, 8), (0, 0, 20), (0, (-2147483648), 2147483647), (0, (-2147483648), 2147483647)], [], [])
def la_cxc_sheet_11 : la_cx := ([(0, 0, 32), (0, 0, 20), (0, 0, 32), (0, 0, 20), (0, 0, 32), (0, 0, 20), (0, 0, 32), (0, 0, 20), (0, 0, 1), (0, (-2147483648), 2147483647), (0, (-2147483648), 2147483647)], [(0, 1, 1), (0, 8, 8), (0, 0, 20), (0, (-2147483648), 2147483647), (0, (-2147483648), 2147483647)], [], [])
def la_cxc_sheet_12 : la_cx := ([(0, 0, 32), (0, 0, 20), (0, 0, 32), (0, 0, 20), (0, 0, 32), (0, 0, 20), (0, 0, 32), (0, 0, 20), (0, 0, 1), (0, (-2147483648), 2147483647), (0, (-2147483648), 2147483647)], [(0, 2, 2), (0, 8, 8), (0, 0, 20), (0, (-2147483648), 2147483647), (0, (-2147483648), 2147483647)], [], [])
def la_cxc_sheet_13 : la_cx := ([(0, 0, 32), (0, 0, 20), (0, 0, 32), (0, 0, 20), (0, 0, 32), (0, 0, 20), (0, 0, 32), (0, 0, 20), (0, 0, 1), (0, (-2147483648), 2147483647), (0, (-2147483648), 2147483647)], [(0, 3, 3), (0, 8, 8), (0, 0, 20), (0, (-2147483648), 2147483647), (0, (-2147483648), 2147483647)], [], [])
def la_cxc_sheet_14 : la_cx := ([(0, 0, 32), (0, 0, 20), (0, 0, 32), (0, 0, 20), (0, 0, 32), (0, 0, 20), (0, 0, 32), (0, 0, 20), (0, 0, 1), (0, (-2147483648), 2147483647), (0, (-2147483648), 2147483647)], [(0, 0, 3), (0, 8, 8), (0, 21, 2147483647), (0, (-2147483648), 2147483647), (0, (-2147483648), 2147483647)], [], [])
def la_cxc_sheet_15 : la_cx := ([(0, 0, 32), (0, 0, 20), (0, 0, 32), (0, 0, 20), (0, 0, 32), (0, 0, 20), (0, 0, 32), (0, 0, 20), (0, 0, 1), (0, (-2147483648), 2147483647), (0, (-2147483648), 2147483647)], [(0, 0, 3), (0, 9, 15), (0, (-2147483648), 2147483647), (0, (-2147483648), 2147483647), (0, (-2147483648), 2147483647)], [], [])
def la_cxc_sheet_16 : la_cx := ([(0, 0, 32), (0, 0, 20), (0, 0, 32), (0, 0, 20), (0, 0, 32), (0, 0, 20), (0, 0, 32), (0, 0, 20), (0, 0, 1), (0, (-2147483648), 2147483647), (0, (-2147483648), 2147483647)], [(0, 0, 3), (0, 16, 16), (0, (-2147483648), (-1)), (0, (-2147483648), 2147483647), (0, (-2147483648), 2147483647)], [], [])
def la_cxc_sheet_17 : la_cx := ([(0, 0, 32), (0, 0, 20), (0, 0, 32), (0, 0, 20), (0, 0, 32), (0, 0, 20), (0, 0, 32), (0, 0, 20), (0, 0, 1), (0, (-2147483648), 2147483647), (0, (-2147483648), 2147483647)], [(0, 0, 0), (0, 16, 16), (0, 0, 20), (0, (-2147483648), 2147483647), (0, (-2147483648), 2147483647)], [], [])
def la_cxc_sheet_18 : la_cx := ([(0, 0, 32), (0, 0, 20), (0, 0, 32), (0, 0, 20), (0, 0, 32), (0, 0, 20), (0, 0, 32), (0, 0, 20), (0, 0, 1), (0, (-2147483648), 2147483647), (0, (-2147483648), 2147483647)], [(0, 1, 1), (0, 16, 16), (0, 0, 20), (0, (-2147483648), 2147483647), (0, (-2147483648), 2147483647)], [], [])
def la_cxc_sheet_19 : la_cx := ([(0, 0, 32), (0, 0, 20), (0, 0, 32), (0, 0, 20), (0, 0, 32), (0, 0, 20), (0, 0, 32), (0, 0, 20), (0, 0, 1), (0, (-2147483648), 2147483647), (0, (-2147483648), 2147483647)], [(0, 2, 2), (0, 16, 16), (0, 0, 20), (0, (-2147483648), 2147483647), (0, (-2147483648), 2147483647)], [], [])
def la_cxc_sheet_20 : la_cx := ([(0, 0, 32), (0, 0, 20), (0, 0, 32), (0, 0, 20), (0, 0, 32), (0, 0, 20), (0, 0, 32), (0, 0, 20), (0, 0, 1), (0, (-2147483648), 2147483647), (0, (-2147483648), 2147483647)], [(0, 3, 3), (0, 16, 16), (0, 0, 20), (0, (-2147483648), 2147483647), (0, (-2147483648), 2147483647)], [], [])
def la_cxc_sheet_21 : la_cx := ([(0, 0, 32), (0, 0, 20), (0, 0, 32), (0, 0, 20), (0, 0, 32), (0, 0, 20), (0, 0, 32), (0, 0, 20), (0, 0, 1), (0, (-2147483648), 2147483647), (0, (-2147483648), 2147483647)], [(0, 0, 3), (0, 16, 16), (0, 21, 2147483647), (0, (-2147483648), 2147483647), (0, (-2147483648), 2147483647)], [], [])
def la_cxc_sheet_22 : la_cx := ([(0, 0, 32), (0, 0, 20), (0, 0, 32), (0, 0, 20), (0, 0, 32), (0, 0, 20), (0, 0, 32), (0, 0, 20), (0, 0, 1), (0, (-2147483648), 2147483647), (0, (-2147483648), 2147483647)], [(0, 0, 3), (0, 17, 31), (0, (-2147483648), 2147483647), (0, (-2147483648), 2147483647), (0, (-2147483648), 2147483647)], [], [])
def la_cxc_sheet_23 : la_cx := ([(0, 0, 32), (0, 0, 20), (0, 0, 32), (0, 0, 20), (0, 0, 32), (0, 0, 20), (0, 0, 32), (0, 0, 20), (0, 0, 1), (0, (-2147483648), 2147483647), (0, (-2147483648), 2147483647)], [(0, 0, 3), (0, 32, 32), (0, (-2147483648), (-1)), (0, (-2147483648), 2147483647), (0, (-2147483648), 2147483647)], [], [])
def la_cxc_sheet_24 : la_cx := ([(0, 0, 32), (0, 0, 20), (0, 0, 32), (0, 0, 20), (0, 0, 32), (0, 0, 20), (0, 0, 32), (0, 0, 20), (0, 0, 1), (0, (-2147483648), 2147483647), (0, (-2147483648), 2147483647)], [(0, 0, 0), (0, 32, 32), (0, 0, 20), (0, (-2147483648), 2147483647), (0, (-2147483648), 2147483647)], [], [])
def la_cxc_sheet_25 : la_cx := ([(0, 0, 32), (0, 0, 20), (0, 0, 32), (0, 0, 20), (0, 0, 32), (0, 0, 20), (0, 0, 32), (0, 0, 20), (0, 0, 1), (0, (-2147483648), 2147483647), (0, (-2147483648), 2147483647)], [(0, 1, 1), (0, 32, 32), (0, 0, 20), (0, (-2147483648), 2147483647), (0, (-2147483648), 2147483647)], [], [])
def la_cxc_sheet_26 : la_cx := ([(0, 0, 32), (0, 0, 20), (0, 0, 32), (0, 0, 20), (0, 0, 32), (0, 0, 20), (0, 0, 32), (0, 0, 20), (0, 0, 1), (0, (-2147483648), 2147483647), (0, (-2147483648), 2147483647)], [(0, 2, 2), (0, 32, 32), (0, 0, 20), (0, (-2147483648), 2147483647), (0, (-2147483648), 2147483647)], [], [])
def la_cxc_sheet_27 : la_cx := ([(0, 0, 32), (0, 0, 20), (0, 0, 32), (0, 0, 20), (0, 0, 32), (0, 0, 20), (0, 0, 32), (0, 0, 20), (0, 0, 1), (0, (-2147483648), 2147483647), (0, (-2147483648), 2147483647)], [(0, 3, 3), (0, 32, 32), (0, 0, 20), (0, (-2147483648), 2147483647), (0, (-2147483648), 2147483647)], [], [])
def la_cxc_sheet_28 : la_cx := ([(0, 0, 32), (0, 0, 20), (0, 0, 32), (0, 0, 20), (0, 0, 32), (0, 0, 20), (0, 0, 32), (0, 0, 20), (0, 0, 1), (0, (-2147483648), 2147483647), (0, (-2147483648), 2147483647)], [(0, 0, 3), (0, 32, 32), (0, 21, 2147483647), (0, (-2147483648), 2147483647), (0, (-2147483648), 2147483647)], [], [])
def la_cxc_sheet_29 : la_cx := ([(0, 0, 32), (0, 0, 20), (0, 0, 32), (0, 0, 20), (0, 0, 32), (0, 0, 20), (0, 0, 32), (0, 0, 20), (0, 0, 1), (0, (-2147483648), 2147483647), (0, (-2147483648), 2147483647)], [(0, 0, 3), (0, 33, 2147483647), (0, (-2147483648), 2147483647), (0, (-2147483648), 2147483647), (0, (-2147483648), 2147483647)], [], [])
def la_cxc_sheet_30 : la_cx := ([(0, 0, 32), (0, 0, 20), (0, 0, 32), (0, 0, 20), (0, 0, 32), (0, 0, 20), (0, 0, 32), (0, 0, 20), (0, 0, 1), (0, (-2147483648), 2147483647), (0, (-2147483648), 2147483647)], [(0, 4, 2147483647), (0, (-2147483648), 2147483647), (0, (-2147483648), 2147483647), (0, (-2147483648), 2147483647), (0, (-2147483648), 2147483647)], [], [])
def la_cxs_sheet : List la_cx := [la_cxc_sheet_0, la_cxc_sheet_1, la_cxc_sheet_2, la_cxc_sheet_3, la_cxc_sheet_4, la_cxc_sheet_5, la_cxc_sheet_6, la_cxc_sheet_7, la_cxc_sheet_8, la_cxc_sheet_9, la_cxc_sheet_10, la_cxc_sheet_11, la_cxc_sheet_12, la_cxc_sheet_13, la_cxc_sheet_14, la_cxc_sheet_15, la_cxc_sheet_16, la_cxc_sheet_17, la_cxc_sheet_18, la_cxc_sheet_19, la_cxc_sheet_20, la_cxc_sheet_21, la_cxc_sheet_22, la_cxc_sheet_23, la_cxc_sheet_24, la_cxc_sheet_25, la_cxc_sheet_26, la_cxc_sheet_27, la_cxc_sheet_28, la_cxc_sheet_29, la_cxc_sheet_30]
def la_cxc_image_0 : la_cx := ([(0, 0, 32), (0, 0, 20), (0, 0, 32), (0, 0, 20), (0, 0, 32), (0, 0, 20), (0, 0, 32), (0, 0, 20), (0, 0, 1), (0, (-2147483648), 2147483647), (0, (-2147483648), 2147483647)], [(0, (-2147483648), 2147483647), (0, (-2147483648), 2147483647), (0, (-2147483648), 2147483647), (0, (-2147483648), 2147483647), (0, (-2147483648), 2147483647)], [], [])
def la_cxs_image : List la_cx := [la_cxc_image_0]
def la_cxc_restore_0 : la_cx := ([(0, 0, 32), (0, 0, 20), (0, 0, 32), (0, 0, 20), (0, 0, 32), (0, 0, 20), (0, 0, 32), (0, 0, 20), (0, 0, 0), (0, (-2147483648), 2147483647), (0, (-2147483648), 2147483647)], [(0, (-2147483648), 2147483647), (0, (-2147483648), 2147483647), (0, (-2147483648), 2147483647), (0, (-2147483648), 2147483647), (0, (-2147483648), 2147483647)], [], [])
def la_cxc_restore_1 : la_cx := ([(0, 0, 32), (0, 0, 20), (0, 0, 32), (0, 0, 20), (0, 0, 32), (0, 0, 20), (0, 0, 32), (0, 0, 20), (0, 1, 1), (0, (-2147483648), 2147483647), (0, (-2147483648), 2147483647)], [(0, (-2147483648), 2147483647), (0, (-2147483648), 2147483647), (0, (-2147483648), 2147483647), (0, (-2147483648), 2147483647), (0, (-2147483648), 2147483647)], [], [])
def la_cxs_restore : List la_cx := [la_cxc_restore_0, la_cxc_restore_1]
def la_cxc_day_0 : la_cx := ([(0, 0, 32), (0, 0, 20), (0, 0, 32), (0, 0, 20), (0, 0, 32), (0, 0, 20), (0, 0, 32), (0, 0, 20), (0, 0, 1), (0, (-2147483648), 2147483647), (0, (-2147483648), 2147483647)], [(0, (-2147483648), (-1)), (0, (-2147483648), 2147483647), (0, (-2147483648), 2147483647), (0, (-2147483648), 2147483647), (0, (-2147483648), 2147483647)], [], [])
def la_cxc_day_1 : la_cx := ([(0, 0, 32), (0, 0, 20), (0, 0, 32), (0, 0, 20), (0, 0, 32), (0, 0, 20), (0, 0, 32), (0, 0, 20), (0, 0, 1), (0, (-2147483648), 2147483647), (0, (-2147483648), 2147483647)], [(0, 0, 20), (0, (-2147483648), (-1)), (0, (-2147483648), 2147483647), (0, (-2147483648), 2147483647), (0, (-2147483648), 2147483647)], [], [])
def la_cxc_day_2 : la_cx := ([(0, 0, 32), (0, 0, 20), (0, 0, 32), (0, 0, 20), (0, 0, 32), (0, 0, 20), (0, 0, 32), (0, 0, 20), (0, 0, 1), (0, (-2147483648), 2147483647), (0, (-2147483648), 2147483647)], [(0, 0, 20), (0, 0, 9), (0, (-2147483648), 2147483647), (0, (-2147483648), 2147483647), (0, (-2147483648), 2147483647)], [], [])
def la_cxc_day_3 : la_cx := ([(0, 0, 32), (0, 0, 20), (0, 0, 32), (0, 0, 20), (0, 0, 32), (0, 0, 20), (0, 0, 32), (0, 0, 20), (0, 0, 1), (0, (-2147483648), 2147483647), (0, (-2147483648), 2147483647)], [(0, 0, 20), (0, 10, 2147483647), (0, (-2147483648), 2147483647), (0, (-2147483648), 2147483647), (0, (-2147483648), 2147483647)], [], [])
def la_cxc_day_4 : la_cx := ([(0, 0, 32), (0, 0, 20), (0, 0, 32), (0, 0, 20), (0, 0, 32), (0, 0, 20), (0, 0, 32), (0, 0, 20), (0, 0, 1), (0, (-2147483648), 2147483647), (0, (-2147483648), 2147483647)], [(0, 21, 2147483647), (0, (-2147483648), 2147483647), (0, (-2147483648), 2147483647), (0, (-2147483648), 2147483647), (0, (-2147483648), 2147483647)], [], [])
def la_cxs_day : List la_cx := [la_cxc_day_0, la_cxc_day_1, la_cxc_day_2, la_cxc_day_3, la_cxc_day_4]
def la_cxc_days_0 : la_cx := ([(0, 0, 32), (0, 0, 20), (0, 0, 32), (0, 0, 20), (0, 0, 32), (0, 0, 20), (0, 0, 32), (0, 0, 20), (0, 0, 1), (0, (-2147483648), 2147483647), (0, (-2147483648), 2147483647)], [(0, (-2147483648), 0), (0, (-2147483648), 2147483647), (0, (-2147483648), 2147483647), (0, (-2147483648), 2147483647), (0, (-2147483648), 2147483647)], [], [])
def la_cxc_days_1 : la_cx := ([(0, 0, 32), (0, 0, 20), (0, 0, 32), (0, 0, 20), (0, 0, 32), (0, 0, 20), (0, 0, 32), (0, 0, 20), (0, 0, 1), (0, (-2147483648), 2147483647), (0, (-2147483648), 2147483647)], [(0, 1, 30), (0, (-2147483648), (-1)), (0, (-2147483648), 2147483647), (0, (-2147483648), 2147483647), (0, (-2147483648), 2147483647)], [], [])
def la_cxc_days_2 : la_cx := ([(0, 0, 0), (0, 0, 20), (0, 0, 32), (0, 0, 20), (0, 0, 32), (0, 0, 20), (0, 0, 32), (0, 0, 20), (0, 0, 1), (0, (-2147483648), 2147483647), (0, (-2147483648), 2147483647)], [(0, 1, 30), (0, 0, 0), (0, (-2147483648), 2147483647), (0, (-2147483648), 2147483647), (0, (-2147483648), 2147483647)], [], [])
def la_cxc_days_3 : la_cx := ([(0, 1, 32), (0, 0, 20), (0, 0, 32), (0, 0, 20), (0, 0, 32), (0, 0, 20), (0, 0, 32), (0, 0, 20), (0, 0, 1), (0, (-2147483648), 2147483647), (0, (-2147483648), 2147483647)], [(0, 1, 30), (0, 0, 0), (0, (-2147483648), 2147483647), (0, (-2147483648), 2147483647), (0, (-2147483648), 2147483647)], [], [])
def la_cxc_days_4 : la_cx := ([(0, 0, 32), (0, 0, 20), (0, 0, 0), (0, 0, 20), (0, 0, 32), (0, 0, 20), (0, 0, 32), (0, 0, 20), (0, 0, 1), (0, (-2147483648), 2147483647), (0, (-2147483648), 2147483647)], [(0, 1, 30), (0, 1, 1), (0, (-2147483648), 2147483647), (0, (-2147483648), 2147483647), (0, (-2147483648), 2147483647)], [], [])
def la_cxc_days_5 : la_cx := ([(0, 0, 32), (0, 0, 20), (0, 1, 32), (0, 0, 20), (0, 0, 32), (0, 0, 20), (0, 0, 32), (0, 0, 20), (0, 0, 1), (0, (-2147483648), 2147483647), (0, (-2147483648), 2147483647)], [(0, 1, 30), (0, 1, 1), (0, (-2147483648), 2147483647), (0, (-2147483648), 2147483647), (0, (-2147483648), 2147483647)], [], [])
def la_cxc_days_6 : la_cx := ([(0, 0, 32), (0, 0, 20), (0, 0, 32), (0, 0, 20), (0, 0, 0), (0, 0, 20), (0, 0, 32), (0, 0, 20), (0, 0, 1), (0, (-2147483648), 2147483647), (0, (-2147483648), 2147483647)], [(0, 1, 30), (0, 2, 2), (0, (-2147483648), 2147483647), (0, (-2147483648), 2147483647), (0, (-2147483648), 2147483647)], [], [])
def la_cxc_days_7 : la_cx := ([(0, 0, 32), (0, 0, 20), (0, 0, 32), (0, 0, 20), (0, 1, 32), (0, 0, 20), (0, 0, 32), (0, 0, 20), (0, 0, 1), (0, (-2147483648), 2147483647), (0, (-2147483648), 2147483647)], [(0, 1, 30), (0, 2, 2), (0, (-2147483648), 2147483647), (0, (-2147483648), 2147483647), (0, (-2147483648), 2147483647)], [], [])
def la_cxc_days_8 : la_cx := ([(0, 0, 32), (0, 0, 20), (0, 0, 32), (0, 0, 20), (0, 0, 32), (0, 0, 20), (0, 0, 0), (0, 0, 20), (0, 0, 1), (0, (-2147483648), 2147483647), (0, (-2147483648), 2147483647)], [(0, 1, 30), (0, 3, 3), (0, (-2147483648), 2147483647), (0, (-2147483648), 2147483647), (0, (-2147483648), 2147483647)], [], [])
def la_cxc_days_9 : la_cx := ([(0, 0, 32), (0, 0, 20), (0, 0, 32), (0, 0, 20), (0, 0, 32), (0, 0, 20), (0, 1, 32), (0, 0, 20), (0, 0, 1), (0, (-2147483648), 2147483647), (0, (-2147483648), 2147483647)], [(0, 1, 30), (0, 3, 3), (0, (-2147483648), 2147483647), (0, (-2147483648), 2147483647), (0, (-2147483648), 2147483647)], [], [])
def la_cxc_days_10 : la_cx := ([(0, 0, 32), (0, 0, 20), (0, 0, 32), (0, 0, 20), (0, 0, 32), (0, 0, 20), (0, 0, 32), (0, 0, 20), (0, 0, 1), (0, (-2147483648), 2147483647), (0, (-2147483648), 2147483647)], [(0, 1, 30), (0, 4, 2147483647), (0, (-2147483648), 2147483647), (0, (-2147483648), 2147483647), (0, (-2147483648), 2147483647)], [], [])
def la_cxc_days_11 : la_cx := ([(0, 0, 32), (0, 0, 20), (0, 0, 32), (0, 0, 20), (0, 0, 32), (0, 0, 20), (0, 0, 32), (0, 0, 20), (0, 0, 1), (0, (-2147483648), 2147483647), (0, (-2147483648), 2147483647)], [(0, 31, 2147483647), (0, (-2147483648), 2147483647), (0, (-2147483648), 2147483647), (0, (-2147483648), 2147483647), (0, (-2147483648), 2147483647)], [], [])
def la_cxs_days : List la_cx := [la_cxc_days_0, la_cxc_days_1, la_cxc_days_2, la_cxc_days_3, la_cxc_days_4, la_cxc_days_5, la_cxc_days_6, la_cxc_days_7, la_cxc_days_8, la_cxc_days_9, la_cxc_days_10, la_cxc_days_11]
def la_cxl (n : Nat) : List la_cx := match n with
  | 0 => la_cxs_any
  | 1 => la_cxs_sheet
  | 2 => la_cxs_image
  | 3 => la_cxs_restore
  | 4 => la_cxs_day
  | 5 => la_cxs_days
  | _ => []
def la_ar : List (Nat × Nat) := [(208, 0), (251, 0), (304, 0), (337, 0), (370, 0), (429, 0), (498, 0), (551, 0), (584, 0), (617, 0), (650, 0), (713, 0), (736, 0), (769, 0), (802, 0), (815, 0), (838, 0), (871, 4), (904, 5), (937, 0), (960, 0), (1023, 0), (1046, 0), (1079, 0), (1102, 0), (1135, 0), (1168, 0), (1191, 0), (1214, 0), (1247, 0), (1280, 0), (1329, 0), (1372, 0), (1405, 0), (1438, 1), (1481, 0), (1524, 0), (1587, 2), (1600, 3), (1613, 0)]
def la_arms : List (Nat × List la_cx) := la_ar.map (fun a => (a.1, la_cxl a.2))
def la_dd (e : Nat × Nat) : se_D := ((0, se_lo, se_hi), 2, (1, 13 + e.1, 0), (1, 24 + e.2, 0))
def la_cds (c : la_cx) : List se_D := (la_pk ++ (c.1 ++ c.2.1)).map la_dk ++ c.2.2.1.map la_dd
def la_ti (t : Nat × Nat) : se_V := match t.1 with
  | 0 => (1, 24 + t.2, 0)
  | 1 => (1, 13 + t.2, 0)
  | _ => (1, 24 + 5 + t.2, 0)
def la_cP (c : la_cx) : se_P := c.2.2.2.map (fun e => (e.1, la_ti e.2.1, la_ti e.2.2))
def la_tw (c : la_cx) (t : Nat × Nat) : Bool := match t.1 with
  | 0 => Nat.blt t.2 5
  | 1 => Nat.blt t.2 11
  | _ => Nat.blt t.2 c.2.2.1.length
def la_cxw (c : la_cx) : Bool := c.2.2.1.all (fun e => Nat.blt e.1 11 && Nat.blt e.2 5) && c.2.2.2.all (fun e => la_tw c e.2.1 && la_tw c e.2.2)
def la_np : Nat := 13
def la_nR : Nat := 11
def la_g : Nat := 24
def la_some (r : se_R) : Bool := match r with
  | some _ => true
  | none => false
theorem la_ac {α : Type} {f : α → Bool} {a : α} {l : List α} (h : f a = true) (k : l.all f = true) : (a :: l).all f = true := by rw [List.all_cons, h, k]; rfl
theorem la_an {a b : Bool} (h : a = true) (k : b = true) : (a && b) = true := by rw [h, k]; rfl
set_option maxRecDepth 100000 in
theorem la_ta_208 : la_cxs_any.all (fun c => (Nat.beq c.1.length 11 && Nat.beq c.2.1.length 5) && la_some (la_go la_C la_R0 24 200 (sx_c330.dropWhile (fun e => !(Nat.beq e.1 208))) (la_cds c) (la_M0 13 la_R0) (la_cP c) [])) = true := by decide +kernel
set_option maxRecDepth 100000 in
theorem la_ta_251 : la_cxs_any.all (fun c => (Nat.beq c.1.length 11 && Nat.beq c.2.1.length 5) && la_some (la_go la_C la_R0 24 200 (sx_c330.dropWhile (fun e => !(Nat.beq e.1 251))) (la_cds c) (la_M0 13 la_R0) (la_cP c) [])) = true := by decide +kernel
set_option maxRecDepth 100000 in
theorem la_ta_304 : la_cxs_any.all (fun c => (Nat.beq c.1.length 11 && Nat.beq c.2.1.length 5) && la_some (la_go la_C la_R0 24 200 (sx_c330.dropWhile (fun e => !(Nat.beq e.1 304))) (la_cds c) (la_M0 13 la_R0) (la_cP c) [])) = true := by decide +kernel
set_option maxRecDepth 100000 in
theorem la_ta_337 : la_cxs_any.all (fun c => (Nat.beq c.1.length 11 && Nat.beq c.2.1.length 5) && la_some (la_go la_C la_R0 24 200 (sx_c330.dropWhile (fun e => !(Nat.beq e.1 337))) (la_cds c) (la_M0 13 la_R0) (la_cP c) [])) = true := by decide +kernel
set_option maxRecDepth 100000 in
theorem la_ta_370 : la_cxs_any.all (fun c => (Nat.beq c.1.length 11 && Nat.beq c.2.1.length 5) && la_some (la_go la_C la_R0 24 200 (sx_c330.dropWhile (fun e => !(Nat.beq e.1 370))) (la_cds c) (la_M0 13 la_R0) (la_cP c) [])) = true := by decide +kernel
set_option maxRecDepth 100000 in
theorem la_ta_429 : la_cxs_any.all (fun c => (Nat.beq c.1.length 11 && Nat.beq c.2.1.length 5) && la_some (la_go la_C la_R0 24 200 (sx_c330.dropWhile (fun e => !(Nat.beq e.1 429))) (la_cds c) (la_M0 13 la_R0) (la_cP c) [])) = true := by decide +kernel
set_option maxRecDepth 100000 in
theorem la_ta_498 : la_cxs_any.all (fun c => (Nat.beq c.1.length 11 && Nat.beq c.2.1.length 5) && la_some (la_go la_C la_R0 24 200 (sx_c330.dropWhile (fun e => !(Nat.beq e.1 498))) (la_cds c) (la_M0 13 la_R0) (la_cP c) [])) = true := by decide +kernel
set_option maxRecDepth 100000 in
theorem la_ta_551 : la_cxs_any.all (fun c => (Nat.beq c.1.length 11 && Nat.beq c.2.1.length 5) && la_some (la_go la_C la_R0 24 200 (sx_c330.dropWhile (fun e => !(Nat.beq e.1 551))) (la_cds c) (la_M0 13 la_R0) (la_cP c) [])) = true := by decide +kernel
set_option maxRecDepth 100000 in
theorem la_ta_584 : la_cxs_any.all (fun c => (Nat.beq c.1.length 11 && Nat.beq c.2.1.length 5) && la_some (la_go la_C la_R0 24 200 (sx_c330.dropWhile (fun e => !(Nat.beq e.1 584))) (la_cds c) (la_M0 13 la_R0) (la_cP c) [])) = true := by decide +kernel
set_option maxRecDepth 100000 in
theorem la_ta_617 : la_cxs_any.all (fun c => (Nat.beq c.1.length 11 && Nat.beq c.2.1.length 5) && la_some (la_go la_C la_R0 24 200 (sx_c330.dropWhile (fun e => !(Nat.beq e.1 617))) (la_cds c) (la_M0 13 la_R0) (la_cP c) [])) = true := by decide +kernel
set_option maxRecDepth 100000 in
theorem la_ta_650 : la_cxs_any.all (fun c => (Nat.beq c.1.length 11 && Nat.beq c.2.1.length 5) && la_some (la_go la_C la_R0 24 200 (sx_c330.dropWhile (fun e => !(Nat.beq e.1 650))) (la_cds c) (la_M0 13 la_R0) (la_cP c) [])) = true := by decide +kernel
set_option maxRecDepth 100000 in
theorem la_ta_713 : la_cxs_any.all (fun c => (Nat.beq c.1.length 11 && Nat.beq c.2.1.length 5) && la_some (la_go la_C la_R0 24 200 (sx_c330.dropWhile (fun e => !(Nat.beq e.1 713))) (la_cds c) (la_M0 13 la_R0) (la_cP c) [])) = true := by decide +kernel
set_option maxRecDepth 100000 in
theorem la_ta_736 : la_cxs_any.all (fun c => (Nat.beq c.1.length 11 && Nat.beq c.2.1.length 5) && la_some (la_go la_C la_R0 24 200 (sx_c330.dropWhile (fun e => !(Nat.beq e.1 736))) (la_cds c) (la_M0 13 la_R0) (la_cP c) [])) = true := by decide +kernel
set_option maxRecDepth 100000 in
theorem la_ta_769 : la_cxs_any.all (fun c => (Nat.beq c.1.length 11 && Nat.beq c.2.1.length 5) && la_some (la_go la_C la_R0 24 200 (sx_c330.dropWhile (fun e => !(Nat.beq e.1 769))) (la_cds c) (la_M0 13 la_R0) (la_cP c) [])) = true := by decide +kernel
set_option maxRecDepth 100000 in
theorem la_ta_802 : la_cxs_any.all (fun c => (Nat.beq c.1.length 11 && Nat.beq c.2.1.length 5) && la_some (la_go la_C la_R0 24 200 (sx_c330.dropWhile (fun e => !(Nat.beq e.1 802))) (la_cds c) (la_M0 13 la_R0) (la_cP c) [])) = true := by decide +kernel
set_option maxRecDepth 100000 in
theorem la_ta_815 : la_cxs_any.all (fun c => (Nat.beq c.1.length 11 && Nat.beq c.2.1.length 5) && la_some (la_go la_C la_R0 24 200 (sx_c330.dropWhile (fun e => !(Nat.beq e.1 815))) (la_cds c) (la_M0 13 la_R0) (la_cP c) [])) = true := by decide +kernel
set_option maxRecDepth 100000 in
theorem la_ta_838 : la_cxs_any.all (fun c => (Nat.beq c.1.length 11 && Nat.beq c.2.1.length 5) && la_some (la_go la_C la_R0 24 200 (sx_c330.dropWhile (fun e => !(Nat.beq e.1 838))) (la_cds c) (la_M0 13 la_R0) (la_cP c) [])) = true := by decide +kernel
set_option maxRecDepth 100000 in
theorem la_ta_871 : la_cxs_day.all (fun c => (Nat.beq c.1.length 11 && Nat.beq c.2.1.length 5) && la_some (la_go la_C la_R0 24 200 (sx_c330.dropWhile (fun e => !(Nat.beq e.1 871))) (la_cds c) (la_M0 13 la_R0) (la_cP c) [])) = true := by decide +kernel
set_option maxRecDepth 100000 in
theorem la_ta_904 : la_cxs_days.all (fun c => (Nat.beq c.1.length 11 && Nat.beq c.2.1.length 5) && la_some (la_go la_C la_R0 24 200 (sx_c330.dropWhile (fun e => !(Nat.beq e.1 904))) (la_cds c) (la_M0 13 la_R0) (la_cP c) [])) = true := by decide +kernel
set_option maxRecDepth 100000 in
theorem la_ta_937 : la_cxs_any.all (fun c => (Nat.beq c.1.length 11 && Nat.beq c.2.1.length 5) && la_some (la_go la_C la_R0 24 200 (sx_c330.dropWhile (fun e => !(Nat.beq e.1 937))) (la_cds c) (la_M0 13 la_R0) (la_cP c) [])) = true := by decide +kernel
set_option maxRecDepth 100000 in
theorem la_ta_960 : la_cxs_any.all (fun c => (Nat.beq c.1.length 11 && Nat.beq c.2.1.length 5) && la_some (la_go la_C la_R0 24 200 (sx_c330.dropWhile (fun e => !(Nat.beq e.1 960))) (la_cds c) (la_M0 13 la_R0) (la_cP c) [])) = true := by decide +kernel
set_option maxRecDepth 100000 in
theorem la_ta_1023 : la_cxs_any.all (fun c => (Nat.beq c.1.length 11 && Nat.beq c.2.1.length 5) && la_some (la_go la_C la_R0 24 200 (sx_c330.dropWhile (fun e => !(Nat.beq e.1 1023))) (la_cds c) (la_M0 13 la_R0) (la_cP c) [])) = true := by decide +kernel
set_option maxRecDepth 100000 in
theorem la_ta_1046 : la_cxs_any.all (fun c => (Nat.beq c.1.length 11 && Nat.beq c.2.1.length 5) && la_some (la_go la_C la_R0 24 200 (sx_c330.dropWhile (fun e => !(Nat.beq e.1 1046))) (la_cds c) (la_M0 13 la_R0) (la_cP c) [])) = true := by decide +kernel
set_option maxRecDepth 100000 in
theorem la_ta_1079 : la_cxs_any.all (fun c => (Nat.beq c.1.length 11 && Nat.beq c.2.1.length 5) && la_some (la_go la_C la_R0 24 200 (sx_c330.dropWhile (fun e => !(Nat.beq e.1 1079))) (la_cds c) (la_M0 13 la_R0) (la_cP c) [])) = true := by decide +kernel
set_option maxRecDepth 100000 in
theorem la_ta_1102 : la_cxs_any.all (fun c => (Nat.beq c.1.length 11 && Nat.beq c.2.1.length 5) && la_some (la_go la_C la_R0 24 200 (sx_c330.dropWhile (fun e => !(Nat.beq e.1 1102))) (la_cds c) (la_M0 13 la_R0) (la_cP c) [])) = true := by decide +kernel
set_option maxRecDepth 100000 in
theorem la_ta_1135 : la_cxs_any.all (fun c => (Nat.beq c.1.length 11 && Nat.beq c.2.1.length 5) && la_some (la_go la_C la_R0 24 200 (sx_c330.dropWhile (fun e => !(Nat.beq e.1 1135))) (la_cds c) (la_M0 13 la_R0) (la_cP c) [])) = true := by decide +kernel
set_option maxRecDepth 100000 in
theorem la_ta_1168 : la_cxs_any.all (fun c => (Nat.beq c.1.length 11 && Nat.beq c.2.1.length 5) && la_some (la_go la_C la_R0 24 200 (sx_c330.dropWhile (fun e => !(Nat.beq e.1 1168))) (la_cds c) (la_M0 13 la_R0) (la_cP c) [])) = true := by decide +kernel
set_option maxRecDepth 100000 in
theorem la_ta_1191 : la_cxs_any.all (fun c => (Nat.beq c.1.length 11 && Nat.beq c.2.1.length 5) && la_some (la_go la_C la_R0 24 200 (sx_c330.dropWhile (fun e => !(Nat.beq e.1 1191))) (la_cds c) (la_M0 13 la_R0) (la_cP c) [])) = true := by decide +kernel
set_option maxRecDepth 100000 in
theorem la_ta_1214 : la_cxs_any.all (fun c => (Nat.beq c.1.length 11 && Nat.beq c.2.1.length 5) && la_some (la_go la_C la_R0 24 200 (sx_c330.dropWhile (fun e => !(Nat.beq e.1 1214))) (la_cds c) (la_M0 13 la_R0) (la_cP c) [])) = true := by decide +kernel
set_option maxRecDepth 100000 in
theorem la_ta_1247 : la_cxs_any.all (fun c => (Nat.beq c.1.length 11 && Nat.beq c.2.1.length 5) && la_some (la_go la_C la_R0 24 200 (sx_c330.dropWhile (fun e => !(Nat.beq e.1 1247))) (la_cds c) (la_M0 13 la_R0) (la_cP c) [])) = true := by decide +kernel
set_option maxRecDepth 100000 in
theorem la_ta_1280 : la_cxs_any.all (fun c => (Nat.beq c.1.length 11 && Nat.beq c.2.1.length 5) && la_some (la_go la_C la_R0 24 200 (sx_c330.dropWhile (fun e => !(Nat.beq e.1 1280))) (la_cds c) (la_M0 13 la_R0) (la_cP c) [])) = true := by decide +kernel
set_option maxRecDepth 100000 in
theorem la_ta_1329 : la_cxs_any.all (fun c => (Nat.beq c.1.length 11 && Nat.beq c.2.1.length 5) && la_some (la_go la_C la_R0 24 200 (sx_c330.dropWhile (fun e => !(Nat.beq e.1 1329))) (la_cds c) (la_M0 13 la_R0) (la_cP c) [])) = true := by decide +kernel
set_option maxRecDepth 100000 in
theorem la_ta_1372 : la_cxs_any.all (fun c => (Nat.beq c.1.length 11 && Nat.beq c.2.1.length 5) && la_some (la_go la_C la_R0 24 200 (sx_c330.dropWhile (fun e => !(Nat.beq e.1 1372))) (la_cds c) (la_M0 13 la_R0) (la_cP c) [])) = true := by decide +kernel
set_option maxRecDepth 100000 in
theorem la_ta_1405 : la_cxs_any.all (fun c => (Nat.beq c.1.length 11 && Nat.beq c.2.1.length 5) && la_some (la_go la_C la_R0 24 200 (sx_c330.dropWhile (fun e => !(Nat.beq e.1 1405))) (la_cds c) (la_M0 13 la_R0) (la_cP c) [])) = true := by decide +kernel
set_option maxRecDepth 100000 in
theorem la_ta_1438 : la_cxs_sheet.all (fun c => (Nat.beq c.1.length 11 && Nat.beq c.2.1.length 5) && la_some (la_go la_C la_R0 24 200 (sx_c330.dropWhile (fun e => !(Nat.beq e.1 1438))) (la_cds c) (la_M0 13 la_R0) (la_cP c) [])) = true := by decide +kernel
set_option maxRecDepth 100000 in
theorem la_ta_1481 : la_cxs_any.all (fun c => (Nat.beq c.1.length 11 && Nat.beq c.2.1.length 5) && la_some (la_go la_C la_R0 24 200 (sx_c330.dropWhile (fun e => !(Nat.beq e.1 1481))) (la_cds c) (la_M0 13 la_R0) (la_cP c) [])) = true := by decide +kernel
set_option maxRecDepth 100000 in
theorem la_ta_1524 : la_cxs_any.all (fun c => (Nat.beq c.1.length 11 && Nat.beq c.2.1.length 5) && la_some (la_go la_C la_R0 24 200 (sx_c330.dropWhile (fun e => !(Nat.beq e.1 1524))) (la_cds c) (la_M0 13 la_R0) (la_cP c) [])) = true := by decide +kernel
set_option maxRecDepth 100000 in
theorem la_ta_1587 : la_cxs_image.all (fun c => (Nat.beq c.1.length 11 && Nat.beq c.2.1.length 5) && la_some (la_go la_C la_R0 24 200 (sx_c330.dropWhile (fun e => !(Nat.beq e.1 1587))) (la_cds c) (la_M0 13 la_R0) (la_cP c) [])) = true := by decide +kernel
set_option maxRecDepth 100000 in
theorem la_ta_1600 : la_cxs_restore.all (fun c => (Nat.beq c.1.length 11 && Nat.beq c.2.1.length 5) && la_some (la_go la_C la_R0 24 200 (sx_c330.dropWhile (fun e => !(Nat.beq e.1 1600))) (la_cds c) (la_M0 13 la_R0) (la_cP c) [])) = true := by decide +kernel
set_option maxRecDepth 100000 in
theorem la_ta_1613 : la_cxs_any.all (fun c => (Nat.beq c.1.length 11 && Nat.beq c.2.1.length 5) && la_some (la_go la_C la_R0 24 200 (sx_c330.dropWhile (fun e => !(Nat.beq e.1 1613))) (la_cds c) (la_M0 13 la_R0) (la_cP c) [])) = true := by decide +kernel
set_option maxRecDepth 100000 in
theorem la_armc : la_arms.all (fun p => p.2.all (fun c => (Nat.beq c.1.length 11 && Nat.beq c.2.1.length 5) && la_some (la_go la_C la_R0 24 200 (sx_c330.dropWhile (fun e => !(Nat.beq e.1 p.1))) (la_cds c) (la_M0 13 la_R0) (la_cP c) []))) = true := la_ac (a := (208, la_cxs_any)) la_ta_208 (la_ac (a := (251, la_cxs_any)) la_ta_251 (la_ac (a := (304, la_cxs_any)) la_ta_304 (la_ac (a := (337, la_cxs_any)) la_ta_337 (la_ac (a := (370, la_cxs_any)) la_ta_370 (la_ac (a := (429, la_cxs_any)) la_ta_429 (la_ac (a := (498, la_cxs_any)) la_ta_498 (la_ac (a := (551, la_cxs_any)) la_ta_551 (la_ac (a := (584, la_cxs_any)) la_ta_584 (la_ac (a := (617, la_cxs_any)) la_ta_617 (la_ac (a := (650, la_cxs_any)) la_ta_650 (la_ac (a := (713, la_cxs_any)) la_ta_713 (la_ac (a := (736, la_cxs_any)) la_ta_736 (la_ac (a := (769, la_cxs_any)) la_ta_769 (la_ac (a := (802, la_cxs_any)) la_ta_802 (la_ac (a := (815, la_cxs_any)) la_ta_815 (la_ac (a := (838, la_cxs_any)) la_ta_838 (la_ac (a := (871, la_cxs_day)) la_ta_871 (la_ac (a := (904, la_cxs_days)) la_ta_904 (la_ac (a := (937, la_cxs_any)) la_ta_937 (la_ac (a := (960, la_cxs_any)) la_ta_960 (la_ac (a := (1023, la_cxs_any)) la_ta_1023 (la_ac (a := (1046, la_cxs_any)) la_ta_1046 (la_ac (a := (1079, la_cxs_any)) la_ta_1079 (la_ac (a := (1102, la_cxs_any)) la_ta_1102 (la_ac (a := (1135, la_cxs_any)) la_ta_1135 (la_ac (a := (1168, la_cxs_any)) la_ta_1168 (la_ac (a := (1191, la_cxs_any)) la_ta_1191 (la_ac (a := (1214, la_cxs_any)) la_ta_1214 (la_ac (a := (1247, la_cxs_any)) la_ta_1247 (la_ac (a := (1280, la_cxs_any)) la_ta_1280 (la_ac (a := (1329, la_cxs_any)) la_ta_1329 (la_ac (a := (1372, la_cxs_any)) la_ta_1372 (la_ac (a := (1405, la_cxs_any)) la_ta_1405 (la_ac (a := (1438, la_cxs_sheet)) la_ta_1438 (la_ac (a := (1481, la_cxs_any)) la_ta_1481 (la_ac (a := (1524, la_cxs_any)) la_ta_1524 (la_ac (a := (1587, la_cxs_image)) la_ta_1587 (la_ac (a := (1600, la_cxs_restore)) la_ta_1600 (la_ac (a := (1613, la_cxs_any)) la_ta_1613 (rfl))))))))))))))))))))))))))))))))))))))))
theorem la_wf0 : la_wf 13 la_R0 = true := by decide +kernel
def la_in (k : se_K) (x : Int32) : Prop := k.1 = 0 ∧ k.2.1 ≤ x.toInt ∧ x.toInt ≤ k.2.2
def la_al : List se_K → (Nat → Int32) → Prop
  | [], _ => True
  | k :: t, x => la_in k (x 0) ∧ la_al t (fun j => x (j + 1))
def la_tv (D : List (Nat × Nat)) (x v : Nat → Int32) (t : Nat × Nat) : Int32 := match t.1 with
  | 0 => x t.2
  | 1 => v t.2
  | _ => match D[t.2]? with
    | some e => v e.1 - x e.2
    | none => 0
def la_pfl (D : List (Nat × Nat)) : List (Jvm.ClassFile.Cond × (Nat × Nat) × (Nat × Nat)) → (Nat → Int32) → (Nat → Int32) → Prop
  | [], _, _ => True
  | e :: t, x, v => mm_P2 e.1 (la_tv D x v e.2.1) (la_tv D x v e.2.2) = true ∧ la_pfl D t x v
def la_pfx (c : la_cx) (x v : Nat → Int32) : Prop := la_pfl c.2.2.1 c.2.2.2 x v
theorem la_p_gt {a b : Int32} (h : b.toInt < a.toInt) : mm_P2 .gt a b = true := decide_eq_true (Int32.lt_iff_toInt_lt.mpr h)
theorem la_p_le {a b : Int32} (h : ¬ b.toInt < a.toInt) : mm_P2 .le a b = true := decide_eq_true (Int32.le_iff_toInt_le.mpr (by omega))
theorem la_n_gt {a b : Int32} (h : ¬ mm_P2 .gt a b = true) : mm_P2 .le a b = true := decide_eq_true (Int32.not_lt.mp (fun q => h (decide_eq_true q)))
theorem la_n_lt {a b : Int32} (h : ¬ mm_P2 .lt a b = true) : mm_P2 .ge a b = true := decide_eq_true (Int32.not_lt.mp (fun q => h (decide_eq_true q)))
theorem la_n_ne {a b : Int32} (h : ¬ mm_P2 .ne a b = true) : mm_P2 .eq a b = true := by
  show decide (a = b) = true
  cases hd : decide (a = b) with
  | true => rfl
  | false => exact absurd (show (!decide (a = b)) = true by rw [hd]; rfl) h
theorem la_p_lt {a b : Int32} (h : a.toInt < b.toInt) : mm_P2 .lt a b = true := decide_eq_true (Int32.lt_iff_toInt_lt.mpr h)
theorem la_p_ge {a b : Int32} (h : ¬ a.toInt < b.toInt) : mm_P2 .ge a b = true := decide_eq_true (Int32.le_iff_toInt_le.mpr (by omega))
theorem la_n_tri {a b : Int32} (h : ¬ mm_P2 .lt a b = true) (k : ¬ mm_P2 .gt a b = true) : mm_P2 .eq a b = true := decide_eq_true (Int32.toInt_inj.mp (Int.le_antisymm (Int32.le_iff_toInt_le.mp (of_decide_eq_true (la_n_gt k))) (Int32.le_iff_toInt_le.mp (of_decide_eq_true (la_n_lt h)))))
def la_vk : List se_K := [(0, 0, 32), (0, 0, 20), (0, 0, 32), (0, 0, 20), (0, 0, 32), (0, 0, 20), (0, 0, 32), (0, 0, 20), (0, 0, 1), (0, (-2147483648), 2147483647), (0, (-2147483648), 2147483647)]
set_option maxRecDepth 100000 in
set_option maxHeartbeats 4000000 in
theorem la_cov_sheet (x v : Nat → Int32) (hv : la_al la_vk v) : ∃ c ∈ la_cxs_sheet, la_al c.1 v ∧ la_al c.2.1 x ∧ la_pfx c x v := by
  have a0 := se_i32 (x 0)
  have a1 := se_i32 (x 1)
  have a2 := se_i32 (x 2)
  have a3 := se_i32 (x 3)
  have a4 := se_i32 (x 4)
  unfold se_lo se_hi at a0 a1 a2 a3 a4
  obtain ⟨⟨-, b0, c0⟩, ⟨-, b1, c1⟩, ⟨-, b2, c2⟩, ⟨-, b3, c3⟩, ⟨-, b4, c4⟩, ⟨-, b5, c5⟩, ⟨-, b6, c6⟩, ⟨-, b7, c7⟩, ⟨-, b8, c8⟩, ⟨-, b9, c9⟩, ⟨-, b10, c10⟩, -⟩ := hv
  have b0 : (0 : Int) ≤ (v 0).toInt := b0
  have c0 : (v 0).toInt ≤ (32 : Int) := c0
  have b1 : (0 : Int) ≤ (v 1).toInt := b1
  have c1 : (v 1).toInt ≤ (20 : Int) := c1
  have b2 : (0 : Int) ≤ (v 2).toInt := b2
  have c2 : (v 2).toInt ≤ (32 : Int) := c2
  have b3 : (0 : Int) ≤ (v 3).toInt := b3
  have c3 : (v 3).toInt ≤ (20 : Int) := c3
  have b4 : (0 : Int) ≤ (v 4).toInt := b4
  have c4 : (v 4).toInt ≤ (32 : Int) := c4
  have b5 : (0 : Int) ≤ (v 5).toInt := b5
  have c5 : (v 5).toInt ≤ (20 : Int) := c5
  have b6 : (0 : Int) ≤ (v 6).toInt := b6
  have c6 : (v 6).toInt ≤ (32 : Int) := c6
  have b7 : (0 : Int) ≤ (v 7).toInt := b7
  have c7 : (v 7).toInt ≤ (20 : Int) := c7
  have b8 : (0 : Int) ≤ (v 8).toInt := b8
  have c8 : (v 8).toInt ≤ (1 : Int) := c8
  have b9 : (-2147483648 : Int) ≤ (v 9).toInt := b9
  have c9 : (v 9).toInt ≤ (2147483647 : Int) := c9
  have b10 : (-2147483648 : Int) ≤ (v 10).toInt := b10
  have c10 : (v 10).toInt ≤ (2147483647 : Int) := c10
  by_cases h2 : (x 0).toInt ≤ 3
  · skip
    by_cases h4 : (x 0).toInt ≤ -1
    · skip
      exact ⟨_, List.mem_of_getElem? (i := 0) rfl, ⟨⟨rfl, b0, c0⟩, ⟨rfl, b1, c1⟩, ⟨rfl, b2, c2⟩, ⟨rfl, b3, c3⟩, ⟨rfl, b4, c4⟩, ⟨rfl, b5, c5⟩, ⟨rfl, b6, c6⟩, ⟨rfl, b7, c7⟩, ⟨rfl, b8, c8⟩, ⟨rfl, b9, c9⟩, ⟨rfl, b10, c10⟩, trivial⟩, ⟨⟨rfl, a0.1, by show (x 0).toInt ≤ (-1 : Int); omega⟩, ⟨rfl, a1.1, a1.2⟩, ⟨rfl, a2.1, a2.2⟩, ⟨rfl, a3.1, a3.2⟩, ⟨rfl, a4.1, a4.2⟩, trivial⟩, trivial⟩
    · skip
      by_cases h6 : (x 1).toInt ≤ 15
      · skip
        by_cases h8 : (x 1).toInt ≤ 7
        · skip
          by_cases h10 : (x 1).toInt ≤ 0
          · skip
            by_cases h12 : (x 1).toInt ≤ -1
            · skip
              exact ⟨_, List.mem_of_getElem? (i := 1) rfl, ⟨⟨rfl, b0, c0⟩, ⟨rfl, b1, c1⟩, ⟨rfl, b2, c2⟩, ⟨rfl, b3, c3⟩, ⟨rfl, b4, c4⟩, ⟨rfl, b5, c5⟩, ⟨rfl, b6, c6⟩, ⟨rfl, b7, c7⟩, ⟨rfl, b8, c8⟩, ⟨rfl, b9, c9⟩, ⟨rfl, b10, c10⟩, trivial⟩, ⟨⟨rfl, by show (0 : Int) ≤ (x 0).toInt; omega, by show (x 0).toInt ≤ (3 : Int); omega⟩, ⟨rfl, a1.1, by show (x 1).toInt ≤ (-1 : Int); omega⟩, ⟨rfl, a2.1, a2.2⟩, ⟨rfl, a3.1, a3.2⟩, ⟨rfl, a4.1, a4.2⟩, trivial⟩, trivial⟩
            · skip
              by_cases h14 : (x 2).toInt ≤ 20
              · skip
                by_cases h16 : (x 2).toInt ≤ -1
                · skip
                  exact ⟨_, List.mem_of_getElem? (i := 2) rfl, ⟨⟨rfl, b0, c0⟩, ⟨rfl, b1, c1⟩, ⟨rfl, b2, c2⟩, ⟨rfl, b3, c3⟩, ⟨rfl, b4, c4⟩, ⟨rfl, b5, c5⟩, ⟨rfl, b6, c6⟩, ⟨rfl, b7, c7⟩, ⟨rfl, b8, c8⟩, ⟨rfl, b9, c9⟩, ⟨rfl, b10, c10⟩, trivial⟩, ⟨⟨rfl, by show (0 : Int) ≤ (x 0).toInt; omega, by show (x 0).toInt ≤ (3 : Int); omega⟩, ⟨rfl, by show (0 : Int) ≤ (x 1).toInt; omega, by show (x 1).toInt ≤ (0 : Int); omega⟩, ⟨rfl, a2.1, by show (x 2).toInt ≤ (-1 : Int); omega⟩, ⟨rfl, a3.1, a3.2⟩, ⟨rfl, a4.1, a4.2⟩, trivial⟩, trivial⟩
                · skip
                  by_cases h18 : (x 0).toInt ≤ 1
                  · skip
                    by_cases h20 : (x 0).toInt ≤ 0
                    · skip
                      exact ⟨_, List.mem_of_getElem? (i := 3) rfl, ⟨⟨rfl, b0, c0⟩, ⟨rfl, b1, c1⟩, ⟨rfl, b2, c2⟩, ⟨rfl, b3, c3⟩, ⟨rfl, b4, c4⟩, ⟨rfl, b5, c5⟩, ⟨rfl, b6, c6⟩, ⟨rfl, b7, c7⟩, ⟨rfl, b8, c8⟩, ⟨rfl, b9, c9⟩, ⟨rfl, b10, c10⟩, trivial⟩, ⟨⟨rfl, by show (0 : Int) ≤ (x 0).toInt; omega, by show (x 0).toInt ≤ (0 : Int); omega⟩, ⟨rfl, by show (0 : Int) ≤ (x 1).toInt; omega, by show (x 1).toInt ≤ (0 : Int); omega⟩, ⟨rfl, by show (0 : Int) ≤ (x 2).toInt; omega, by show (x 2).toInt ≤ (20 : Int); omega⟩, ⟨rfl, a3.1, a3.2⟩, ⟨rfl, a4.1, a4.2⟩, trivial⟩, trivial⟩
                    · skip
                      exact ⟨_, List.mem_of_getElem? (i := 4) rfl, ⟨⟨rfl, b0, c0⟩, ⟨rfl, b1, c1⟩, ⟨rfl, b2, c2⟩, ⟨rfl, b3, c3⟩, ⟨rfl, b4, c4⟩, ⟨rfl, b5, c5⟩, ⟨rfl, b6, c6⟩, ⟨rfl, b7, c7⟩, ⟨rfl, b8, c8⟩, ⟨rfl, b9, c9⟩, ⟨rfl, b10, c10⟩, trivial⟩, ⟨⟨rfl, by show (1 : Int) ≤ (x 0).toInt; omega, by show (x 0).toInt ≤ (1 : Int); omega⟩, ⟨rfl, by show (0 : Int) ≤ (x 1).toInt; omega, by show (x 1).toInt ≤ (0 : Int); omega⟩, ⟨rfl, by show (0 : Int) ≤ (x 2).toInt; omega, by show (x 2).toInt ≤ (20 : Int); omega⟩, ⟨rfl, a3.1, a3.2⟩, ⟨rfl, a4.1, a4.2⟩, trivial⟩, trivial⟩
                  · skip
                    by_cases h20 : (x 0).toInt ≤ 2
                    · skip
                      exact ⟨_, List.mem_of_getElem? (i := 5) rfl, ⟨⟨rfl, b0, c0⟩, ⟨rfl, b1, c1⟩, ⟨rfl, b2, c2⟩, ⟨rfl, b3, c3⟩, ⟨rfl, b4, c4⟩, ⟨rfl, b5, c5⟩, ⟨rfl, b6, c6⟩, ⟨rfl, b7, c7⟩, ⟨rfl, b8, c8⟩, ⟨rfl, b9, c9⟩, ⟨rfl, b10, c10⟩, trivial⟩, ⟨⟨rfl, by show (2 : Int) ≤ (x 0).toInt; omega, by show (x 0).toInt ≤ (2 : Int); omega⟩, ⟨rfl, by show (0 : Int) ≤ (x 1).toInt; omega, by show (x 1).toInt ≤ (0 : Int); omega⟩, ⟨rfl, by show (0 : Int) ≤ (x 2).toInt; omega, by show (x 2).toInt ≤ (20 : Int); omega⟩, ⟨rfl, a3.1, a3.2⟩, ⟨rfl, a4.1, a4.2⟩, trivial⟩, trivial⟩
                    · skip
                      exact ⟨_, List.mem_of_getElem? (i := 6) rfl, ⟨⟨rfl, b0, c0⟩, ⟨rfl, b1, c1⟩, ⟨rfl, b2, c2⟩, ⟨rfl, b3, c3⟩, ⟨rfl, b4, c4⟩, ⟨rfl, b5, c5⟩, ⟨rfl, b6, c6⟩, ⟨rfl, b7, c7⟩, ⟨rfl, b8, c8⟩, ⟨rfl, b9, c9⟩, ⟨rfl, b10, c10⟩, trivial⟩, ⟨⟨rfl, by show (3 : Int) ≤ (x 0).toInt; omega, by show (x 0).toInt ≤ (3 : Int); omega⟩, ⟨rfl, by show (0 : Int) ≤ (x 1).toInt; omega, by show (x 1).toInt ≤ (0 : Int); omega⟩, ⟨rfl, by show (0 : Int) ≤ (x 2).toInt; omega, by show (x 2).toInt ≤ (20 : Int); omega⟩, ⟨rfl, a3.1, a3.2⟩, ⟨rfl, a4.1, a4.2⟩, trivial⟩, trivial⟩
              · skip
                exact ⟨_, List.mem_of_getElem? (i := 7) rfl, ⟨⟨rfl, b0, c0⟩, ⟨rfl, b1, c1⟩, ⟨rfl, b2, c2⟩, ⟨rfl, b3, c3⟩, ⟨rfl, b4, c4⟩, ⟨rfl, b5, c5⟩, ⟨rfl, b6, c6⟩, ⟨rfl, b7, c7⟩, ⟨rfl, b8, c8⟩, ⟨rfl, b9, c9⟩, ⟨rfl, b10, c10⟩, trivial⟩, ⟨⟨rfl, by show (0 : Int) ≤ (x 0).toInt; omega, by show (x 0).toInt ≤ (3 : Int); omega⟩, ⟨rfl, by show (0 : Int) ≤ (x 1).toInt; omega, by show (x 1).toInt ≤ (0 : Int); omega⟩, ⟨rfl, by show (21 : Int) ≤ (x 2).toInt; omega, a2.2⟩, ⟨rfl, a3.1, a3.2⟩, ⟨rfl, a4.1, a4.2⟩, trivial⟩, trivial⟩
          · skip
            exact ⟨_, List.mem_of_getElem? (i := 8) rfl, ⟨⟨rfl, b0, c0⟩, ⟨rfl, b1, c1⟩, ⟨rfl, b2, c2⟩, ⟨rfl, b3, c3⟩, ⟨rfl, b4, c4⟩, ⟨rfl, b5, c5⟩, ⟨rfl, b6, c6⟩, ⟨rfl, b7, c7⟩, ⟨rfl, b8, c8⟩, ⟨rfl, b9, c9⟩, ⟨rfl, b10, c10⟩, trivial⟩, ⟨⟨rfl, by show (0 : Int) ≤ (x 0).toInt; omega, by show (x 0).toInt ≤ (3 : Int); omega⟩, ⟨rfl, by show (1 : Int) ≤ (x 1).toInt; omega, by show (x 1).toInt ≤ (7 : Int); omega⟩, ⟨rfl, a2.1, a2.2⟩, ⟨rfl, a3.1, a3.2⟩, ⟨rfl, a4.1, a4.2⟩, trivial⟩, trivial⟩
        · skip
          by_cases h10 : (x 1).toInt ≤ 8
          · skip
            by_cases h12 : (x 2).toInt ≤ 20
            · skip
              by_cases h14 : (x 2).toInt ≤ -1
              · skip
                exact ⟨_, List.mem_of_getElem? (i := 9) rfl, ⟨⟨rfl, b0, c0⟩, ⟨rfl, b1, c1⟩, ⟨rfl, b2, c2⟩, ⟨rfl, b3, c3⟩, ⟨rfl, b4, c4⟩, ⟨rfl, b5, c5⟩, ⟨rfl, b6, c6⟩, ⟨rfl, b7, c7⟩, ⟨rfl, b8, c8⟩, ⟨rfl, b9, c9⟩, ⟨rfl, b10, c10⟩, trivial⟩, ⟨⟨rfl, by show (0 : Int) ≤ (x 0).toInt; omega, by show (x 0).toInt ≤ (3 : Int); omega⟩, ⟨rfl, by show (8 : Int) ≤ (x 1).toInt; omega, by show (x 1).toInt ≤ (8 : Int); omega⟩, ⟨rfl, a2.1, by show (x 2).toInt ≤ (-1 : Int); omega⟩, ⟨rfl, a3.1, a3.2⟩, ⟨rfl, a4.1, a4.2⟩, trivial⟩, trivial⟩
              · skip
                by_cases h16 : (x 0).toInt ≤ 1
                · skip
                  by_cases h18 : (x 0).toInt ≤ 0
                  · skip
                    exact ⟨_, List.mem_of_getElem? (i := 10) rfl, ⟨⟨rfl, b0, c0⟩, ⟨rfl, b1, c1⟩, ⟨rfl, b2, c2⟩, ⟨rfl, b3, c3⟩, ⟨rfl, b4, c4⟩, ⟨rfl, b5, c5⟩, ⟨rfl, b6, c6⟩, ⟨rfl, b7, c7⟩, ⟨rfl, b8, c8⟩, ⟨rfl, b9, c9⟩, ⟨rfl, b10, c10⟩, trivial⟩, ⟨⟨rfl, by show (0 : Int) ≤ (x 0).toInt; omega, by show (x 0).toInt ≤ (0 : Int); omega⟩, ⟨rfl, by show (8 : Int) ≤ (x 1).toInt; omega, by show (x 1).toInt ≤ (8 : Int); omega⟩, ⟨rfl, by show (0 : Int) ≤ (x 2).toInt; omega, by show (x 2).toInt ≤ (20 : Int); omega⟩, ⟨rfl, a3.1, a3.2⟩, ⟨rfl, a4.1, a4.2⟩, trivial⟩, trivial⟩
                  · skip
                    exact ⟨_, List.mem_of_getElem? (i := 11) rfl, ⟨⟨rfl, b0, c0⟩, ⟨rfl, b1, c1⟩, ⟨rfl, b2, c2⟩, ⟨rfl, b3, c3⟩, ⟨rfl, b4, c4⟩, ⟨rfl, b5, c5⟩, ⟨rfl, b6, c6⟩, ⟨rfl, b7, c7⟩, ⟨rfl, b8, c8⟩, ⟨rfl, b9, c9⟩, ⟨rfl, b10, c10⟩, trivial⟩, ⟨⟨rfl, by show (1 : Int) ≤ (x 0).toInt; omega, by show (x 0).toInt ≤ (1 : Int); omega⟩, ⟨rfl, by show (8 : Int) ≤ (x 1).toInt; omega, by show (x 1).toInt ≤ (8 : Int); omega⟩, ⟨rfl, by show (0 : Int) ≤ (x 2).toInt; omega, by show (x 2).toInt ≤ (20 : Int); omega⟩, ⟨rfl, a3.1, a3.2⟩, ⟨rfl, a4.1, a4.2⟩, trivial⟩, trivial⟩
                · skip
                  by_cases h18 : (x 0).toInt ≤ 2
                  · skip
                    exact ⟨_, List.mem_of_getElem? (i := 12) rfl, ⟨⟨rfl, b0, c0⟩, ⟨rfl, b1, c1⟩, ⟨rfl, b2, c2⟩, ⟨rfl, b3, c3⟩, ⟨rfl, b4, c4⟩, ⟨rfl, b5, c5⟩, ⟨rfl, b6, c6⟩, ⟨rfl, b7, c7⟩, ⟨rfl, b8, c8⟩, ⟨rfl, b9, c9⟩, ⟨rfl, b10, c10⟩, trivial⟩, ⟨⟨rfl, by show (2 : Int) ≤ (x 0).toInt; omega, by show (x 0).toInt ≤ (2 : Int); omega⟩, ⟨rfl, by show (8 : Int) ≤ (x 1).toInt; omega, by show (x 1).toInt ≤ (8 : Int); omega⟩, ⟨rfl, by show (0 : Int) ≤ (x 2).toInt; omega, by show (x 2).toInt ≤ (20 : Int); omega⟩, ⟨rfl, a3.1, a3.2⟩, ⟨rfl, a4.1, a4.2⟩, trivial⟩, trivial⟩
                  · skip
                    exact ⟨_, List.mem_of_getElem? (i := 13) rfl, ⟨⟨rfl, b0, c0⟩, ⟨rfl, b1, c1⟩, ⟨rfl, b2, c2⟩, ⟨rfl, b3, c3⟩, ⟨rfl, b4, c4⟩, ⟨rfl, b5, c5⟩, ⟨rfl, b6, c6⟩, ⟨rfl, b7, c7⟩, ⟨rfl, b8, c8⟩, ⟨rfl, b9, c9⟩, ⟨rfl, b10, c10⟩, trivial⟩, ⟨⟨rfl, by show (3 : Int) ≤ (x 0).toInt; omega, by show (x 0).toInt ≤ (3 : Int); omega⟩, ⟨rfl, by show (8 : Int) ≤ (x 1).toInt; omega, by show (x 1).toInt ≤ (8 : Int); omega⟩, ⟨rfl, by show (0 : Int) ≤ (x 2).toInt; omega, by show (x 2).toInt ≤ (20 : Int); omega⟩, ⟨rfl, a3.1, a3.2⟩, ⟨rfl, a4.1, a4.2⟩, trivial⟩, trivial⟩
            · skip
              exact ⟨_, List.mem_of_getElem? (i := 14) rfl, ⟨⟨rfl, b0, c0⟩, ⟨rfl, b1, c1⟩, ⟨rfl, b2, c2⟩, ⟨rfl, b3, c3⟩, ⟨rfl, b4, c4⟩, ⟨rfl, b5, c5⟩, ⟨rfl, b6, c6⟩, ⟨rfl, b7, c7⟩, ⟨rfl, b8, c8⟩, ⟨rfl, b9, c9⟩, ⟨rfl, b10, c10⟩, trivial⟩, ⟨⟨rfl, by show (0 : Int) ≤ (x 0).toInt; omega, by show (x 0).toInt ≤ (3 : Int); omega⟩, ⟨rfl, by show (8 : Int) ≤ (x 1).toInt; omega, by show (x 1).toInt ≤ (8 : Int); omega⟩, ⟨rfl, by show (21 : Int) ≤ (x 2).toInt; omega, a2.2⟩, ⟨rfl, a3.1, a3.2⟩, ⟨rfl, a4.1, a4.2⟩, trivial⟩, trivial⟩
          · skip
            exact ⟨_, List.mem_of_getElem? (i := 15) rfl, ⟨⟨rfl, b0, c0⟩, ⟨rfl, b1, c1⟩, ⟨rfl, b2, c2⟩, ⟨rfl, b3, c3⟩, ⟨rfl, b4, c4⟩, ⟨rfl, b5, c5⟩, ⟨rfl, b6, c6⟩, ⟨rfl, b7, c7⟩, ⟨rfl, b8, c8⟩, ⟨rfl, b9, c9⟩, ⟨rfl, b10, c10⟩, trivial⟩, ⟨⟨rfl, by show (0 : Int) ≤ (x 0).toInt; omega, by show (x 0).toInt ≤ (3 : Int); omega⟩, ⟨rfl, by show (9 : Int) ≤ (x 1).toInt; omega, by show (x 1).toInt ≤ (15 : Int); omega⟩, ⟨rfl, a2.1, a2.2⟩, ⟨rfl, a3.1, a3.2⟩, ⟨rfl, a4.1, a4.2⟩, trivial⟩, trivial⟩
      · skip
        by_cases h8 : (x 1).toInt ≤ 31
        · skip
          by_cases h10 : (x 1).toInt ≤ 16
          · skip
            by_cases h12 : (x 2).toInt ≤ 20
            · skip
              by_cases h14 : (x 2).toInt ≤ -1
              · skip
                exact ⟨_, List.mem_of_getElem? (i := 16) rfl, ⟨⟨rfl, b0, c0⟩, ⟨rfl, b1, c1⟩, ⟨rfl, b2, c2⟩, ⟨rfl, b3, c3⟩, ⟨rfl, b4, c4⟩, ⟨rfl, b5, c5⟩, ⟨rfl, b6, c6⟩, ⟨rfl, b7, c7⟩, ⟨rfl, b8, c8⟩, ⟨rfl, b9, c9⟩, ⟨rfl, b10, c10⟩, trivial⟩, ⟨⟨rfl, by show (0 : Int) ≤ (x 0).toInt; omega, by show (x 0).toInt ≤ (3 : Int); omega⟩, ⟨rfl, by show (16 : Int) ≤ (x 1).toInt; omega, by show (x 1).toInt ≤ (16 : Int); omega⟩, ⟨rfl, a2.1, by show (x 2).toInt ≤ (-1 : Int); omega⟩, ⟨rfl, a3.1, a3.2⟩, ⟨rfl, a4.1, a4.2⟩, trivial⟩, trivial⟩
              · skip
                by_cases h16 : (x 0).toInt ≤ 1
                · skip
                  by_cases h18 : (x 0).toInt ≤ 0
                  · skip
                    exact ⟨_, List.mem_of_getElem? (i := 17) rfl, ⟨⟨rfl, b0, c0⟩, ⟨rfl, b1, c1⟩, ⟨rfl, b2, c2⟩, ⟨rfl, b3, c3⟩, ⟨rfl, b4, c4⟩, ⟨rfl, b5, c5⟩, ⟨rfl, b6, c6⟩, ⟨rfl, b7, c7⟩, ⟨rfl, b8, c8⟩, ⟨rfl, b9, c9⟩, ⟨rfl, b10, c10⟩, trivial⟩, ⟨⟨rfl, by show (0 : Int) ≤ (x 0).toInt; omega, by show (x 0).toInt ≤ (0 : Int); omega⟩, ⟨rfl, by show (16 : Int) ≤ (x 1).toInt; omega, by show (x 1).toInt ≤ (16 : Int); omega⟩, ⟨rfl, by show (0 : Int) ≤ (x 2).toInt; omega, by show (x 2).toInt ≤ (20 : Int); omega⟩, ⟨rfl, a3.1, a3.2⟩, ⟨rfl, a4.1, a4.2⟩, trivial⟩, trivial⟩
                  · skip
                    exact ⟨_, List.mem_of_getElem? (i := 18) rfl, ⟨⟨rfl, b0, c0⟩, ⟨rfl, b1, c1⟩, ⟨rfl, b2, c2⟩, ⟨rfl, b3, c3⟩, ⟨rfl, b4, c4⟩, ⟨rfl, b5, c5⟩, ⟨rfl, b6, c6⟩, ⟨rfl, b7, c7⟩, ⟨rfl, b8, c8⟩, ⟨rfl, b9, c9⟩, ⟨rfl, b10, c10⟩, trivial⟩, ⟨⟨rfl, by show (1 : Int) ≤ (x 0).toInt; omega, by show (x 0).toInt ≤ (1 : Int); omega⟩, ⟨rfl, by show (16 : Int) ≤ (x 1).toInt; omega, by show (x 1).toInt ≤ (16 : Int); omega⟩, ⟨rfl, by show (0 : Int) ≤ (x 2).toInt; omega, by show (x 2).toInt ≤ (20 : Int); omega⟩, ⟨rfl, a3.1, a3.2⟩, ⟨rfl, a4.1, a4.2⟩, trivial⟩, trivial⟩
                · skip
                  by_cases h18 : (x 0).toInt ≤ 2
                  · skip
                    exact ⟨_, List.mem_of_getElem? (i := 19) rfl, ⟨⟨rfl, b0, c0⟩, ⟨rfl, b1, c1⟩, ⟨rfl, b2, c2⟩, ⟨rfl, b3, c3⟩, ⟨rfl, b4, c4⟩, ⟨rfl, b5, c5⟩, ⟨rfl, b6, c6⟩, ⟨rfl, b7, c7⟩, ⟨rfl, b8, c8⟩, ⟨rfl, b9, c9⟩, ⟨rfl, b10, c10⟩, trivial⟩, ⟨⟨rfl, by show (2 : Int) ≤ (x 0).toInt; omega, by show (x 0).toInt ≤ (2 : Int); omega⟩, ⟨rfl, by show (16 : Int) ≤ (x 1).toInt; omega, by show (x 1).toInt ≤ (16 : Int); omega⟩, ⟨rfl, by show (0 : Int) ≤ (x 2).toInt; omega, by show (x 2).toInt ≤ (20 : Int); omega⟩, ⟨rfl, a3.1, a3.2⟩, ⟨rfl, a4.1, a4.2⟩, trivial⟩, trivial⟩
                  · skip
                    exact ⟨_, List.mem_of_getElem? (i := 20) rfl, ⟨⟨rfl, b0, c0⟩, ⟨rfl, b1, c1⟩, ⟨rfl, b2, c2⟩, ⟨rfl, b3, c3⟩, ⟨rfl, b4, c4⟩, ⟨rfl, b5, c5⟩, ⟨rfl, b6, c6⟩, ⟨rfl, b7, c7⟩, ⟨rfl, b8, c8⟩, ⟨rfl, b9, c9⟩, ⟨rfl, b10, c10⟩, trivial⟩, ⟨⟨rfl, by show (3 : Int) ≤ (x 0).toInt; omega, by show (x 0).toInt ≤ (3 : Int); omega⟩, ⟨rfl, by show (16 : Int) ≤ (x 1).toInt; omega, by show (x 1).toInt ≤ (16 : Int); omega⟩, ⟨rfl, by show (0 : Int) ≤ (x 2).toInt; omega, by show (x 2).toInt ≤ (20 : Int); omega⟩, ⟨rfl, a3.1, a3.2⟩, ⟨rfl, a4.1, a4.2⟩, trivial⟩, trivial⟩
            · skip
              exact ⟨_, List.mem_of_getElem? (i := 21) rfl, ⟨⟨rfl, b0, c0⟩, ⟨rfl, b1, c1⟩, ⟨rfl, b2, c2⟩, ⟨rfl, b3, c3⟩, ⟨rfl, b4, c4⟩, ⟨rfl, b5, c5⟩, ⟨rfl, b6, c6⟩, ⟨rfl, b7, c7⟩, ⟨rfl, b8, c8⟩, ⟨rfl, b9, c9⟩, ⟨rfl, b10, c10⟩, trivial⟩, ⟨⟨rfl, by show (0 : Int) ≤ (x 0).toInt; omega, by show (x 0).toInt ≤ (3 : Int); omega⟩, ⟨rfl, by show (16 : Int) ≤ (x 1).toInt; omega, by show (x 1).toInt ≤ (16 : Int); omega⟩, ⟨rfl, by show (21 : Int) ≤ (x 2).toInt; omega, a2.2⟩, ⟨rfl, a3.1, a3.2⟩, ⟨rfl, a4.1, a4.2⟩, trivial⟩, trivial⟩
          · skip
            exact ⟨_, List.mem_of_getElem? (i := 22) rfl, ⟨⟨rfl, b0, c0⟩, ⟨rfl, b1, c1⟩, ⟨rfl, b2, c2⟩, ⟨rfl, b3, c3⟩, ⟨rfl, b4, c4⟩, ⟨rfl, b5, c5⟩, ⟨rfl, b6, c6⟩, ⟨rfl, b7, c7⟩, ⟨rfl, b8, c8⟩, ⟨rfl, b9, c9⟩, ⟨rfl, b10, c10⟩, trivial⟩, ⟨⟨rfl, by show (0 : Int) ≤ (x 0).toInt; omega, by show (x 0).toInt ≤ (3 : Int); omega⟩, ⟨rfl, by show (17 : Int) ≤ (x 1).toInt; omega, by show (x 1).toInt ≤ (31 : Int); omega⟩, ⟨rfl, a2.1, a2.2⟩, ⟨rfl, a3.1, a3.2⟩, ⟨rfl, a4.1, a4.2⟩, trivial⟩, trivial⟩
        · skip
          by_cases h10 : (x 1).toInt ≤ 32
          · skip
            by_cases h12 : (x 2).toInt ≤ 20
            · skip
              by_cases h14 : (x 2).toInt ≤ -1
              · skip
                exact ⟨_, List.mem_of_getElem? (i := 23) rfl, ⟨⟨rfl, b0, c0⟩, ⟨rfl, b1, c1⟩, ⟨rfl, b2, c2⟩, ⟨rfl, b3, c3⟩, ⟨rfl, b4, c4⟩, ⟨rfl, b5, c5⟩, ⟨rfl, b6, c6⟩, ⟨rfl, b7, c7⟩, ⟨rfl, b8, c8⟩, ⟨rfl, b9, c9⟩, ⟨rfl, b10, c10⟩, trivial⟩, ⟨⟨rfl, by show (0 : Int) ≤ (x 0).toInt; omega, by show (x 0).toInt ≤ (3 : Int); omega⟩, ⟨rfl, by show (32 : Int) ≤ (x 1).toInt; omega, by show (x 1).toInt ≤ (32 : Int); omega⟩, ⟨rfl, a2.1, by show (x 2).toInt ≤ (-1 : Int); omega⟩, ⟨rfl, a3.1, a3.2⟩, ⟨rfl, a4.1, a4.2⟩, trivial⟩, trivial⟩
              · skip
                by_cases h16 : (x 0).toInt ≤ 1
                · skip
                  by_cases h18 : (x 0).toInt ≤ 0
                  · skip
                    exact ⟨_, List.mem_of_getElem? (i := 24) rfl, ⟨⟨rfl, b0, c0⟩, ⟨rfl, b1, c1⟩, ⟨rfl, b2, c2⟩, ⟨rfl, b3, c3⟩, ⟨rfl, b4, c4⟩, ⟨rfl, b5, c5⟩, ⟨rfl, b6, c6⟩, ⟨rfl, b7, c7⟩, ⟨rfl, b8, c8⟩, ⟨rfl, b9, c9⟩, ⟨rfl, b10, c10⟩, trivial⟩, ⟨⟨rfl, by show (0 : Int) ≤ (x 0).toInt; omega, by show (x 0).toInt ≤ (0 : Int); omega⟩, ⟨rfl, by show (32 : Int) ≤ (x 1).toInt; omega, by show (x 1).toInt ≤ (32 : Int); omega⟩, ⟨rfl, by show (0 : Int) ≤ (x 2).toInt; omega, by show (x 2).toInt ≤ (20 : Int); omega⟩, ⟨rfl, a3.1, a3.2⟩, ⟨rfl, a4.1, a4.2⟩, trivial⟩, trivial⟩
                  · skip
                    exact ⟨_, List.mem_of_getElem? (i := 25) rfl, ⟨⟨rfl, b0, c0⟩, ⟨rfl, b1, c1⟩, ⟨rfl, b2, c2⟩, ⟨rfl, b3, c3⟩, ⟨rfl, b4, c4⟩, ⟨rfl, b5, c5⟩, ⟨rfl, b6, c6⟩, ⟨rfl, b7, c7⟩, ⟨rfl, b8, c8⟩, ⟨rfl, b9, c9⟩, ⟨rfl, b10, c10⟩, trivial⟩, ⟨⟨rfl, by show (1 : Int) ≤ (x 0).toInt; omega, by show (x 0).toInt ≤ (1 : Int); omega⟩, ⟨rfl, by show (32 : Int) ≤ (x 1).toInt; omega, by show (x 1).toInt ≤ (32 : Int); omega⟩, ⟨rfl, by show (0 : Int) ≤ (x 2).toInt; omega, by show (x 2).toInt ≤ (20 : Int); omega⟩, ⟨rfl, a3.1, a3.2⟩, ⟨rfl, a4.1, a4.2⟩, trivial⟩, trivial⟩
                · skip
                  by_cases h18 : (x 0).toInt ≤ 2
                  · skip
                    exact ⟨_, List.mem_of_getElem? (i := 26) rfl, ⟨⟨rfl, b0, c0⟩, ⟨rfl, b1, c1⟩, ⟨rfl, b2, c2⟩, ⟨rfl, b3, c3⟩, ⟨rfl, b4, c4⟩, ⟨rfl, b5, c5⟩, ⟨rfl, b6, c6⟩, ⟨rfl, b7, c7⟩, ⟨rfl, b8, c8⟩, ⟨rfl, b9, c9⟩, ⟨rfl, b10, c10⟩, trivial⟩, ⟨⟨rfl, by show (2 : Int) ≤ (x 0).toInt; omega, by show (x 0).toInt ≤ (2 : Int); omega⟩, ⟨rfl, by show (32 : Int) ≤ (x 1).toInt; omega, by show (x 1).toInt ≤ (32 : Int); omega⟩, ⟨rfl, by show (0 : Int) ≤ (x 2).toInt; omega, by show (x 2).toInt ≤ (20 : Int); omega⟩, ⟨rfl, a3.1, a3.2⟩, ⟨rfl, a4.1, a4.2⟩, trivial⟩, trivial⟩
                  · skip
                    exact ⟨_, List.mem_of_getElem? (i := 27) rfl, ⟨⟨rfl, b0, c0⟩, ⟨rfl, b1, c1⟩, ⟨rfl, b2, c2⟩, ⟨rfl, b3, c3⟩, ⟨rfl, b4, c4⟩, ⟨rfl, b5, c5⟩, ⟨rfl, b6, c6⟩, ⟨rfl, b7, c7⟩, ⟨rfl, b8, c8⟩, ⟨rfl, b9, c9⟩, ⟨rfl, b10, c10⟩, trivial⟩, ⟨⟨rfl, by show (3 : Int) ≤ (x 0).toInt; omega, by show (x 0).toInt ≤ (3 : Int); omega⟩, ⟨rfl, by show (32 : Int) ≤ (x 1).toInt; omega, by show (x 1).toInt ≤ (32 : Int); omega⟩, ⟨rfl, by show (0 : Int) ≤ (x 2).toInt; omega, by show (x 2).toInt ≤ (20 : Int); omega⟩, ⟨rfl, a3.1, a3.2⟩, ⟨rfl, a4.1, a4.2⟩, trivial⟩, trivial⟩
            · skip
              exact ⟨_, List.mem_of_getElem? (i := 28) rfl, ⟨⟨rfl, b0, c0⟩, ⟨rfl, b1, c1⟩, ⟨rfl, b2, c2⟩, ⟨rfl, b3, c3⟩, ⟨rfl, b4, c4⟩, ⟨rfl, b5, c5⟩, ⟨rfl, b6, c6⟩, ⟨rfl, b7, c7⟩, ⟨rfl, b8, c8⟩, ⟨rfl, b9, c9⟩, ⟨rfl, b10, c10⟩, trivial⟩, ⟨⟨rfl, by show (0 : Int) ≤ (x 0).toInt; omega, by show (x 0).toInt ≤ (3 : Int); omega⟩, ⟨rfl, by show (32 : Int) ≤ (x 1).toInt; omega, by show (x 1).toInt ≤ (32 : Int); omega⟩, ⟨rfl, by show (21 : Int) ≤ (x 2).toInt; omega, a2.2⟩, ⟨rfl, a3.1, a3.2⟩, ⟨rfl, a4.1, a4.2⟩, trivial⟩, trivial⟩
          · skip
            exact ⟨_, List.mem_of_getElem? (i := 29) rfl, ⟨⟨rfl, b0, c0⟩, ⟨rfl, b1, c1⟩, ⟨rfl, b2, c2⟩, ⟨rfl, b3, c3⟩, ⟨rfl, b4, c4⟩, ⟨rfl, b5, c5⟩, ⟨rfl, b6, c6⟩, ⟨rfl, b7, c7⟩, ⟨rfl, b8, c8⟩, ⟨rfl, b9, c9⟩, ⟨rfl, b10, c10⟩, trivial⟩, ⟨⟨rfl, by show (0 : Int) ≤ (x 0).toInt; omega, by show (x 0).toInt ≤ (3 : Int); omega⟩, ⟨rfl, by show (33 : Int) ≤ (x 1).toInt; omega, a1.2⟩, ⟨rfl, a2.1, a2.2⟩, ⟨rfl, a3.1, a3.2⟩, ⟨rfl, a4.1, a4.2⟩, trivial⟩, trivial⟩
  · skip
    exact ⟨_, List.mem_of_getElem? (i := 30) rfl, ⟨⟨rfl, b0, c0⟩, ⟨rfl, b1, c1⟩, ⟨rfl, b2, c2⟩, ⟨rfl, b3, c3⟩, ⟨rfl, b4, c4⟩, ⟨rfl, b5, c5⟩, ⟨rfl, b6, c6⟩, ⟨rfl, b7, c7⟩, ⟨rfl, b8, c8⟩, ⟨rfl, b9, c9⟩, ⟨rfl, b10, c10⟩, trivial⟩, ⟨⟨rfl, by show (4 : Int) ≤ (x 0).toInt; omega, a0.2⟩, ⟨rfl, a1.1, a1.2⟩, ⟨rfl, a2.1, a2.2⟩, ⟨rfl, a3.1, a3.2⟩, ⟨rfl, a4.1, a4.2⟩, trivial⟩, trivial⟩
set_option maxRecDepth 100000 in
set_option maxHeartbeats 4000000 in
theorem la_cov_image (x v : Nat → Int32) (hv : la_al la_vk v) : ∃ c ∈ la_cxs_image, la_al c.1 v ∧ la_al c.2.1 x ∧ la_pfx c x v := by
  have a0 := se_i32 (x 0)
  have a1 := se_i32 (x 1)
  have a2 := se_i32 (x 2)
  have a3 := se_i32 (x 3)
  have a4 := se_i32 (x 4)
  unfold se_lo se_hi at a0 a1 a2 a3 a4
  obtain ⟨⟨-, b0, c0⟩, ⟨-, b1, c1⟩, ⟨-, b2, c2⟩, ⟨-, b3, c3⟩, ⟨-, b4, c4⟩, ⟨-, b5, c5⟩, ⟨-, b6, c6⟩, ⟨-, b7, c7⟩, ⟨-, b8, c8⟩, ⟨-, b9, c9⟩, ⟨-, b10, c10⟩, -⟩ := hv
  have b0 : (0 : Int) ≤ (v 0).toInt := b0
  have c0 : (v 0).toInt ≤ (32 : Int) := c0
  have b1 : (0 : Int) ≤ (v 1).toInt := b1
  have c1 : (v 1).toInt ≤ (20 : Int) := c1
  have b2 : (0 : Int) ≤ (v 2).toInt := b2
  have c2 : (v 2).toInt ≤ (32 : Int) := c2
  have b3 : (0 : Int) ≤ (v 3).toInt := b3
  have c3 : (v 3).toInt ≤ (20 : Int) := c3
  have b4 : (0 : Int) ≤ (v 4).toInt := b4
  have c4 : (v 4).toInt ≤ (32 : Int) := c4
  have b5 : (0 : Int) ≤ (v 5).toInt := b5
  have c5 : (v 5).toInt ≤ (20 : Int) := c5
  have b6 : (0 : Int) ≤ (v 6).toInt := b6
  have c6 : (v 6).toInt ≤ (32 : Int) := c6
  have b7 : (0 : Int) ≤ (v 7).toInt := b7
  have c7 : (v 7).toInt ≤ (20 : Int) := c7
  have b8 : (0 : Int) ≤ (v 8).toInt := b8
  have c8 : (v 8).toInt ≤ (1 : Int) := c8
  have b9 : (-2147483648 : Int) ≤ (v 9).toInt := b9
  have c9 : (v 9).toInt ≤ (2147483647 : Int) := c9
  have b10 : (-2147483648 : Int) ≤ (v 10).toInt := b10
  have c10 : (v 10).toInt ≤ (2147483647 : Int) := c10
  exact ⟨_, List.mem_of_getElem? (i := 0) rfl, ⟨⟨rfl, b0, c0⟩, ⟨rfl, b1, c1⟩, ⟨rfl, b2, c2⟩, ⟨rfl, b3, c3⟩, ⟨rfl, b4, c4⟩, ⟨rfl, b5, c5⟩, ⟨rfl, b6, c6⟩, ⟨rfl, b7, c7⟩, ⟨rfl, b8, c8⟩, ⟨rfl, b9, c9⟩, ⟨rfl, b10, c10⟩, trivial⟩, ⟨⟨rfl, a0.1, a0.2⟩, ⟨rfl, a1.1, a1.2⟩, ⟨rfl, a2.1, a2.2⟩, ⟨rfl, a3.1, a3.2⟩, ⟨rfl, a4.1, a4.2⟩, trivial⟩, trivial⟩
set_option maxRecDepth 100000 in
set_option maxHeartbeats 4000000 in
theorem la_cov_restore (x v : Nat → Int32) (hv : la_al la_vk v) : ∃ c ∈ la_cxs_restore, la_al c.1 v ∧ la_al c.2.1 x ∧ la_pfx c x v := by
  have a0 := se_i32 (x 0)
  have a1 := se_i32 (x 1)
  have a2 := se_i32 (x 2)
  have a3 := se_i32 (x 3)
  have a4 := se_i32 (x 4)
  unfold se_lo se_hi at a0 a1 a2 a3 a4
  obtain ⟨⟨-, b0, c0⟩, ⟨-, b1, c1⟩, ⟨-, b2, c2⟩, ⟨-, b3, c3⟩, ⟨-, b4, c4⟩, ⟨-, b5, c5⟩, ⟨-, b6, c6⟩, ⟨-, b7, c7⟩, ⟨-, b8, c8⟩, ⟨-, b9, c9⟩, ⟨-, b10, c10⟩, -⟩ := hv
  have b0 : (0 : Int) ≤ (v 0).toInt := b0
  have c0 : (v 0).toInt ≤ (32 : Int) := c0
  have b1 : (0 : Int) ≤ (v 1).toInt := b1
  have c1 : (v 1).toInt ≤ (20 : Int) := c1
  have b2 : (0 : Int) ≤ (v 2).toInt := b2
  have c2 : (v 2).toInt ≤ (32 : Int) := c2
  have b3 : (0 : Int) ≤ (v 3).toInt := b3
  have c3 : (v 3).toInt ≤ (20 : Int) := c3
  have b4 : (0 : Int) ≤ (v 4).toInt := b4
  have c4 : (v 4).toInt ≤ (32 : Int) := c4
  have b5 : (0 : Int) ≤ (v 5).toInt := b5
  have c5 : (v 5).toInt ≤ (20 : Int) := c5
  have b6 : (0 : Int) ≤ (v 6).toInt := b6
  have c6 : (v 6).toInt ≤ (32 : Int) := c6
  have b7 : (0 : Int) ≤ (v 7).toInt := b7
  have c7 : (v 7).toInt ≤ (20 : Int) := c7
  have b8 : (0 : Int) ≤ (v 8).toInt := b8
  have c8 : (v 8).toInt ≤ (1 : Int) := c8
  have b9 : (-2147483648 : Int) ≤ (v 9).toInt := b9
  have c9 : (v 9).toInt ≤ (2147483647 : Int) := c9
  have b10 : (-2147483648 : Int) ≤ (v 10).toInt := b10
  have c10 : (v 10).toInt ≤ (2147483647 : Int) := c10
  by_cases h2 : (v 8).toInt ≤ 0
  · skip
    exact ⟨_, List.mem_of_getElem? (i := 0) rfl, ⟨⟨rfl, b0, c0⟩, ⟨rfl, b1, c1⟩, ⟨rfl, b2, c2⟩, ⟨rfl, b3, c3⟩, ⟨rfl, b4, c4⟩, ⟨rfl, b5, c5⟩, ⟨rfl, b6, c6⟩, ⟨rfl, b7, c7⟩, ⟨rfl, b8, by show (v 8).toInt ≤ (0 : Int); omega⟩, ⟨rfl, b9, c9⟩, ⟨rfl, b10, c10⟩, trivial⟩, ⟨⟨rfl, a0.1, a0.2⟩, ⟨rfl, a1.1, a1.2⟩, ⟨rfl, a2.1, a2.2⟩, ⟨rfl, a3.1, a3.2⟩, ⟨rfl, a4.1, a4.2⟩, trivial⟩, trivial⟩
  · skip
    exact ⟨_, List.mem_of_getElem? (i := 1) rfl, ⟨⟨rfl, b0, c0⟩, ⟨rfl, b1, c1⟩, ⟨rfl, b2, c2⟩, ⟨rfl, b3, c3⟩, ⟨rfl, b4, c4⟩, ⟨rfl, b5, c5⟩, ⟨rfl, b6, c6⟩, ⟨rfl, b7, c7⟩, ⟨rfl, by show (1 : Int) ≤ (v 8).toInt; omega, c8⟩, ⟨rfl, b9, c9⟩, ⟨rfl, b10, c10⟩, trivial⟩, ⟨⟨rfl, a0.1, a0.2⟩, ⟨rfl, a1.1, a1.2⟩, ⟨rfl, a2.1, a2.2⟩, ⟨rfl, a3.1, a3.2⟩, ⟨rfl, a4.1, a4.2⟩, trivial⟩, trivial⟩
set_option maxRecDepth 100000 in
set_option maxHeartbeats 4000000 in
theorem la_cov_day (x v : Nat → Int32) (hv : la_al la_vk v) : ∃ c ∈ la_cxs_day, la_al c.1 v ∧ la_al c.2.1 x ∧ la_pfx c x v := by
  have a0 := se_i32 (x 0)
  have a1 := se_i32 (x 1)
  have a2 := se_i32 (x 2)
  have a3 := se_i32 (x 3)
  have a4 := se_i32 (x 4)
  unfold se_lo se_hi at a0 a1 a2 a3 a4
  obtain ⟨⟨-, b0, c0⟩, ⟨-, b1, c1⟩, ⟨-, b2, c2⟩, ⟨-, b3, c3⟩, ⟨-, b4, c4⟩, ⟨-, b5, c5⟩, ⟨-, b6, c6⟩, ⟨-, b7, c7⟩, ⟨-, b8, c8⟩, ⟨-, b9, c9⟩, ⟨-, b10, c10⟩, -⟩ := hv
  have b0 : (0 : Int) ≤ (v 0).toInt := b0
  have c0 : (v 0).toInt ≤ (32 : Int) := c0
  have b1 : (0 : Int) ≤ (v 1).toInt := b1
  have c1 : (v 1).toInt ≤ (20 : Int) := c1
  have b2 : (0 : Int) ≤ (v 2).toInt := b2
  have c2 : (v 2).toInt ≤ (32 : Int) := c2
  have b3 : (0 : Int) ≤ (v 3).toInt := b3
  have c3 : (v 3).toInt ≤ (20 : Int) := c3
  have b4 : (0 : Int) ≤ (v 4).toInt := b4
  have c4 : (v 4).toInt ≤ (32 : Int) := c4
  have b5 : (0 : Int) ≤ (v 5).toInt := b5
  have c5 : (v 5).toInt ≤ (20 : Int) := c5
  have b6 : (0 : Int) ≤ (v 6).toInt := b6
  have c6 : (v 6).toInt ≤ (32 : Int) := c6
  have b7 : (0 : Int) ≤ (v 7).toInt := b7
  have c7 : (v 7).toInt ≤ (20 : Int) := c7
  have b8 : (0 : Int) ≤ (v 8).toInt := b8
  have c8 : (v 8).toInt ≤ (1 : Int) := c8
  have b9 : (-2147483648 : Int) ≤ (v 9).toInt := b9
  have c9 : (v 9).toInt ≤ (2147483647 : Int) := c9
  have b10 : (-2147483648 : Int) ≤ (v 10).toInt := b10
  have c10 : (v 10).toInt ≤ (2147483647 : Int) := c10
  by_cases h2 : (x 0).toInt ≤ 20
  · skip
    by_cases h4 : (x 0).toInt ≤ -1
    · skip
      exact ⟨_, List.mem_of_getElem? (i := 0) rfl, ⟨⟨rfl, b0, c0⟩, ⟨rfl, b1, c1⟩, ⟨rfl, b2, c2⟩, ⟨rfl, b3, c3⟩, ⟨rfl, b4, c4⟩, ⟨rfl, b5, c5⟩, ⟨rfl, b6, c6⟩, ⟨rfl, b7, c7⟩, ⟨rfl, b8, c8⟩, ⟨rfl, b9, c9⟩, ⟨rfl, b10, c10⟩, trivial⟩, ⟨⟨rfl, a0.1, by show (x 0).toInt ≤ (-1 : Int); omega⟩, ⟨rfl, a1.1, a1.2⟩, ⟨rfl, a2.1, a2.2⟩, ⟨rfl, a3.1, a3.2⟩, ⟨rfl, a4.1, a4.2⟩, trivial⟩, trivial⟩
    · skip
      by_cases h6 : (x 1).toInt ≤ 9
      · skip
        by_cases h8 : (x 1).toInt ≤ -1
        · skip
          exact ⟨_, List.mem_of_getElem? (i := 1) rfl, ⟨⟨rfl, b0, c0⟩, ⟨rfl, b1, c1⟩, ⟨rfl, b2, c2⟩, ⟨rfl, b3, c3⟩, ⟨rfl, b4, c4⟩, ⟨rfl, b5, c5⟩, ⟨rfl, b6, c6⟩, ⟨rfl, b7, c7⟩, ⟨rfl, b8, c8⟩, ⟨rfl, b9, c9⟩, ⟨rfl, b10, c10⟩, trivial⟩, ⟨⟨rfl, by show (0 : Int) ≤ (x 0).toInt; omega, by show (x 0).toInt ≤ (20 : Int); omega⟩, ⟨rfl, a1.1, by show (x 1).toInt ≤ (-1 : Int); omega⟩, ⟨rfl, a2.1, a2.2⟩, ⟨rfl, a3.1, a3.2⟩, ⟨rfl, a4.1, a4.2⟩, trivial⟩, trivial⟩
        · skip
          exact ⟨_, List.mem_of_getElem? (i := 2) rfl, ⟨⟨rfl, b0, c0⟩, ⟨rfl, b1, c1⟩, ⟨rfl, b2, c2⟩, ⟨rfl, b3, c3⟩, ⟨rfl, b4, c4⟩, ⟨rfl, b5, c5⟩, ⟨rfl, b6, c6⟩, ⟨rfl, b7, c7⟩, ⟨rfl, b8, c8⟩, ⟨rfl, b9, c9⟩, ⟨rfl, b10, c10⟩, trivial⟩, ⟨⟨rfl, by show (0 : Int) ≤ (x 0).toInt; omega, by show (x 0).toInt ≤ (20 : Int); omega⟩, ⟨rfl, by show (0 : Int) ≤ (x 1).toInt; omega, by show (x 1).toInt ≤ (9 : Int); omega⟩, ⟨rfl, a2.1, a2.2⟩, ⟨rfl, a3.1, a3.2⟩, ⟨rfl, a4.1, a4.2⟩, trivial⟩, trivial⟩
      · skip
        exact ⟨_, List.mem_of_getElem? (i := 3) rfl, ⟨⟨rfl, b0, c0⟩, ⟨rfl, b1, c1⟩, ⟨rfl, b2, c2⟩, ⟨rfl, b3, c3⟩, ⟨rfl, b4, c4⟩, ⟨rfl, b5, c5⟩, ⟨rfl, b6, c6⟩, ⟨rfl, b7, c7⟩, ⟨rfl, b8, c8⟩, ⟨rfl, b9, c9⟩, ⟨rfl, b10, c10⟩, trivial⟩, ⟨⟨rfl, by show (0 : Int) ≤ (x 0).toInt; omega, by show (x 0).toInt ≤ (20 : Int); omega⟩, ⟨rfl, by show (10 : Int) ≤ (x 1).toInt; omega, a1.2⟩, ⟨rfl, a2.1, a2.2⟩, ⟨rfl, a3.1, a3.2⟩, ⟨rfl, a4.1, a4.2⟩, trivial⟩, trivial⟩
  · skip
    exact ⟨_, List.mem_of_getElem? (i := 4) rfl, ⟨⟨rfl, b0, c0⟩, ⟨rfl, b1, c1⟩, ⟨rfl, b2, c2⟩, ⟨rfl, b3, c3⟩, ⟨rfl, b4, c4⟩, ⟨rfl, b5, c5⟩, ⟨rfl, b6, c6⟩, ⟨rfl, b7, c7⟩, ⟨rfl, b8, c8⟩, ⟨rfl, b9, c9⟩, ⟨rfl, b10, c10⟩, trivial⟩, ⟨⟨rfl, by show (21 : Int) ≤ (x 0).toInt; omega, a0.2⟩, ⟨rfl, a1.1, a1.2⟩, ⟨rfl, a2.1, a2.2⟩, ⟨rfl, a3.1, a3.2⟩, ⟨rfl, a4.1, a4.2⟩, trivial⟩, trivial⟩
set_option maxRecDepth 100000 in
set_option maxHeartbeats 4000000 in
theorem la_cov_days (x v : Nat → Int32) (hv : la_al la_vk v) : ∃ c ∈ la_cxs_days, la_al c.1 v ∧ la_al c.2.1 x ∧ la_pfx c x v := by
  have a0 := se_i32 (x 0)
  have a1 := se_i32 (x 1)
  have a2 := se_i32 (x 2)
  have a3 := se_i32 (x 3)
  have a4 := se_i32 (x 4)
  unfold se_lo se_hi at a0 a1 a2 a3 a4
  obtain ⟨⟨-, b0, c0⟩, ⟨-, b1, c1⟩, ⟨-, b2, c2⟩, ⟨-, b3, c3⟩, ⟨-, b4, c4⟩, ⟨-, b5, c5⟩, ⟨-, b6, c6⟩, ⟨-, b7, c7⟩, ⟨-, b8, c8⟩, ⟨-, b9, c9⟩, ⟨-, b10, c10⟩, -⟩ := hv
  have b0 : (0 : Int) ≤ (v 0).toInt := b0
  have c0 : (v 0).toInt ≤ (32 : Int) := c0
  have b1 : (0 : Int) ≤ (v 1).toInt := b1
  have c1 : (v 1).toInt ≤ (20 : Int) := c1
  have b2 : (0 : Int) ≤ (v 2).toInt := b2
  have c2 : (v 2).toInt ≤ (32 : Int) := c2
  have b3 : (0 : Int) ≤ (v 3).toInt := b3
  have c3 : (v 3).toInt ≤ (20 : Int) := c3
  have b4 : (0 : Int) ≤ (v 4).toInt := b4
  have c4 : (v 4).toInt ≤ (32 : Int) := c4
  have b5 : (0 : Int) ≤ (v 5).toInt := b5
  have c5 : (v 5).toInt ≤ (20 : Int) := c5
  have b6 : (0 : Int) ≤ (v 6).toInt := b6
  have c6 : (v 6).toInt ≤ (32 : Int) := c6
  have b7 : (0 : Int) ≤ (v 7).toInt := b7
  have c7 : (v 7).toInt ≤ (20 : Int) := c7
  have b8 : (0 : Int) ≤ (v 8).toInt := b8
  have c8 : (v 8).toInt ≤ (1 : Int) := c8
  have b9 : (-2147483648 : Int) ≤ (v 9).toInt := b9
  have c9 : (v 9).toInt ≤ (2147483647 : Int) := c9
  have b10 : (-2147483648 : Int) ≤ (v 10).toInt := b10
  have c10 : (v 10).toInt ≤ (2147483647 : Int) := c10
  by_cases h2 : (x 0).toInt ≤ 30
  · skip
    by_cases h4 : (x 0).toInt ≤ 0
    · skip
      exact ⟨_, List.mem_of_getElem? (i := 0) rfl, ⟨⟨rfl, b0, c0⟩, ⟨rfl, b1, c1⟩, ⟨rfl, b2, c2⟩, ⟨rfl, b3, c3⟩, ⟨rfl, b4, c4⟩, ⟨rfl, b5, c5⟩, ⟨rfl, b6, c6⟩, ⟨rfl, b7, c7⟩, ⟨rfl, b8, c8⟩, ⟨rfl, b9, c9⟩, ⟨rfl, b10, c10⟩, trivial⟩, ⟨⟨rfl, a0.1, by show (x 0).toInt ≤ (0 : Int); omega⟩, ⟨rfl, a1.1, a1.2⟩, ⟨rfl, a2.1, a2.2⟩, ⟨rfl, a3.1, a3.2⟩, ⟨rfl, a4.1, a4.2⟩, trivial⟩, trivial⟩
    · skip
      by_cases h6 : (x 1).toInt ≤ 1
      · skip
        by_cases h8 : (x 1).toInt ≤ 0
        · skip
          by_cases h10 : (x 1).toInt ≤ -1
          · skip
            exact ⟨_, List.mem_of_getElem? (i := 1) rfl, ⟨⟨rfl, b0, c0⟩, ⟨rfl, b1, c1⟩, ⟨rfl, b2, c2⟩, ⟨rfl, b3, c3⟩, ⟨rfl, b4, c4⟩, ⟨rfl, b5, c5⟩, ⟨rfl, b6, c6⟩, ⟨rfl, b7, c7⟩, ⟨rfl, b8, c8⟩, ⟨rfl, b9, c9⟩, ⟨rfl, b10, c10⟩, trivial⟩, ⟨⟨rfl, by show (1 : Int) ≤ (x 0).toInt; omega, by show (x 0).toInt ≤ (30 : Int); omega⟩, ⟨rfl, a1.1, by show (x 1).toInt ≤ (-1 : Int); omega⟩, ⟨rfl, a2.1, a2.2⟩, ⟨rfl, a3.1, a3.2⟩, ⟨rfl, a4.1, a4.2⟩, trivial⟩, trivial⟩
          · skip
            by_cases h12 : (v 0).toInt ≤ 0
            · skip
              exact ⟨_, List.mem_of_getElem? (i := 2) rfl, ⟨⟨rfl, b0, by show (v 0).toInt ≤ (0 : Int); omega⟩, ⟨rfl, b1, c1⟩, ⟨rfl, b2, c2⟩, ⟨rfl, b3, c3⟩, ⟨rfl, b4, c4⟩, ⟨rfl, b5, c5⟩, ⟨rfl, b6, c6⟩, ⟨rfl, b7, c7⟩, ⟨rfl, b8, c8⟩, ⟨rfl, b9, c9⟩, ⟨rfl, b10, c10⟩, trivial⟩, ⟨⟨rfl, by show (1 : Int) ≤ (x 0).toInt; omega, by show (x 0).toInt ≤ (30 : Int); omega⟩, ⟨rfl, by show (0 : Int) ≤ (x 1).toInt; omega, by show (x 1).toInt ≤ (0 : Int); omega⟩, ⟨rfl, a2.1, a2.2⟩, ⟨rfl, a3.1, a3.2⟩, ⟨rfl, a4.1, a4.2⟩, trivial⟩, trivial⟩
            · skip
              exact ⟨_, List.mem_of_getElem? (i := 3) rfl, ⟨⟨rfl, by show (1 : Int) ≤ (v 0).toInt; omega, c0⟩, ⟨rfl, b1, c1⟩, ⟨rfl, b2, c2⟩, ⟨rfl, b3, c3⟩, ⟨rfl, b4, c4⟩, ⟨rfl, b5, c5⟩, ⟨rfl, b6, c6⟩, ⟨rfl, b7, c7⟩, ⟨rfl, b8, c8⟩, ⟨rfl, b9, c9⟩, ⟨rfl, b10, c10⟩, trivial⟩, ⟨⟨rfl, by show (1 : Int) ≤ (x 0).toInt; omega, by show (x 0).toInt ≤ (30 : Int); omega⟩, ⟨rfl, by show (0 : Int) ≤ (x 1).toInt; omega, by show (x 1).toInt ≤ (0 : Int); omega⟩, ⟨rfl, a2.1, a2.2⟩, ⟨rfl, a3.1, a3.2⟩, ⟨rfl, a4.1, a4.2⟩, trivial⟩, trivial⟩
        · skip
          by_cases h10 : (v 2).toInt ≤ 0
          · skip
            exact ⟨_, List.mem_of_getElem? (i := 4) rfl, ⟨⟨rfl, b0, c0⟩, ⟨rfl, b1, c1⟩, ⟨rfl, b2, by show (v 2).toInt ≤ (0 : Int); omega⟩, ⟨rfl, b3, c3⟩, ⟨rfl, b4, c4⟩, ⟨rfl, b5, c5⟩, ⟨rfl, b6, c6⟩, ⟨rfl, b7, c7⟩, ⟨rfl, b8, c8⟩, ⟨rfl, b9, c9⟩, ⟨rfl, b10, c10⟩, trivial⟩, ⟨⟨rfl, by show (1 : Int) ≤ (x 0).toInt; omega, by show (x 0).toInt ≤ (30 : Int); omega⟩, ⟨rfl, by show (1 : Int) ≤ (x 1).toInt; omega, by show (x 1).toInt ≤ (1 : Int); omega⟩, ⟨rfl, a2.1, a2.2⟩, ⟨rfl, a3.1, a3.2⟩, ⟨rfl, a4.1, a4.2⟩, trivial⟩, trivial⟩
          · skip
            exact ⟨_, List.mem_of_getElem? (i := 5) rfl, ⟨⟨rfl, b0, c0⟩, ⟨rfl, b1, c1⟩, ⟨rfl, by show (1 : Int) ≤ (v 2).toInt; omega, c2⟩, ⟨rfl, b3, c3⟩, ⟨rfl, b4, c4⟩, ⟨rfl, b5, c5⟩, ⟨rfl, b6, c6⟩, ⟨rfl, b7, c7⟩, ⟨rfl, b8, c8⟩, ⟨rfl, b9, c9⟩, ⟨rfl, b10, c10⟩, trivial⟩, ⟨⟨rfl, by show (1 : Int) ≤ (x 0).toInt; omega, by show (x 0).toInt ≤ (30 : Int); omega⟩, ⟨rfl, by show (1 : Int) ≤ (x 1).toInt; omega, by show (x 1).toInt ≤ (1 : Int); omega⟩, ⟨rfl, a2.1, a2.2⟩, ⟨rfl, a3.1, a3.2⟩, ⟨rfl, a4.1, a4.2⟩, trivial⟩, trivial⟩
      · skip
        by_cases h8 : (x 1).toInt ≤ 3
        · skip
          by_cases h10 : (x 1).toInt ≤ 2
          · skip
            by_cases h12 : (v 4).toInt ≤ 0
            · skip
              exact ⟨_, List.mem_of_getElem? (i := 6) rfl, ⟨⟨rfl, b0, c0⟩, ⟨rfl, b1, c1⟩, ⟨rfl, b2, c2⟩, ⟨rfl, b3, c3⟩, ⟨rfl, b4, by show (v 4).toInt ≤ (0 : Int); omega⟩, ⟨rfl, b5, c5⟩, ⟨rfl, b6, c6⟩, ⟨rfl, b7, c7⟩, ⟨rfl, b8, c8⟩, ⟨rfl, b9, c9⟩, ⟨rfl, b10, c10⟩, trivial⟩, ⟨⟨rfl, by show (1 : Int) ≤ (x 0).toInt; omega, by show (x 0).toInt ≤ (30 : Int); omega⟩, ⟨rfl, by show (2 : Int) ≤ (x 1).toInt; omega, by show (x 1).toInt ≤ (2 : Int); omega⟩, ⟨rfl, a2.1, a2.2⟩, ⟨rfl, a3.1, a3.2⟩, ⟨rfl, a4.1, a4.2⟩, trivial⟩, trivial⟩
            · skip
              exact ⟨_, List.mem_of_getElem? (i := 7) rfl, ⟨⟨rfl, b0, c0⟩, ⟨rfl, b1, c1⟩, ⟨rfl, b2, c2⟩, ⟨rfl, b3, c3⟩, ⟨rfl, by show (1 : Int) ≤ (v 4).toInt; omega, c4⟩, ⟨rfl, b5, c5⟩, ⟨rfl, b6, c6⟩, ⟨rfl, b7, c7⟩, ⟨rfl, b8, c8⟩, ⟨rfl, b9, c9⟩, ⟨rfl, b10, c10⟩, trivial⟩, ⟨⟨rfl, by show (1 : Int) ≤ (x 0).toInt; omega, by show (x 0).toInt ≤ (30 : Int); omega⟩, ⟨rfl, by show (2 : Int) ≤ (x 1).toInt; omega, by show (x 1).toInt ≤ (2 : Int); omega⟩, ⟨rfl, a2.1, a2.2⟩, ⟨rfl, a3.1, a3.2⟩, ⟨rfl, a4.1, a4.2⟩, trivial⟩, trivial⟩
          · skip
            by_cases h12 : (v 6).toInt ≤ 0
            · skip
              exact ⟨_, List.mem_of_getElem? (i := 8) rfl, ⟨⟨rfl, b0, c0⟩, ⟨rfl, b1, c1⟩, ⟨rfl, b2, c2⟩, ⟨rfl, b3, c3⟩, ⟨rfl, b4, c4⟩, ⟨rfl, b5, c5⟩, ⟨rfl, b6, by show (v 6).toInt ≤ (0 : Int); omega⟩, ⟨rfl, b7, c7⟩, ⟨rfl, b8, c8⟩, ⟨rfl, b9, c9⟩, ⟨rfl, b10, c10⟩, trivial⟩, ⟨⟨rfl, by show (1 : Int) ≤ (x 0).toInt; omega, by show (x 0).toInt ≤ (30 : Int); omega⟩, ⟨rfl, by show (3 : Int) ≤ (x 1).toInt; omega, by show (x 1).toInt ≤ (3 : Int); omega⟩, ⟨rfl, a2.1, a2.2⟩, ⟨rfl, a3.1, a3.2⟩, ⟨rfl, a4.1, a4.2⟩, trivial⟩, trivial⟩
            · skip
              exact ⟨_, List.mem_of_getElem? (i := 9) rfl, ⟨⟨rfl, b0, c0⟩, ⟨rfl, b1, c1⟩, ⟨rfl, b2, c2⟩, ⟨rfl, b3, c3⟩, ⟨rfl, b4, c4⟩, ⟨rfl, b5, c5⟩, ⟨rfl, by show (1 : Int) ≤ (v 6).toInt; omega, c6⟩, ⟨rfl, b7, c7⟩, ⟨rfl, b8, c8⟩, ⟨rfl, b9, c9⟩, ⟨rfl, b10, c10⟩, trivial⟩, ⟨⟨rfl, by show (1 : Int) ≤ (x 0).toInt; omega, by show (x 0).toInt ≤ (30 : Int); omega⟩, ⟨rfl, by show (3 : Int) ≤ (x 1).toInt; omega, by show (x 1).toInt ≤ (3 : Int); omega⟩, ⟨rfl, a2.1, a2.2⟩, ⟨rfl, a3.1, a3.2⟩, ⟨rfl, a4.1, a4.2⟩, trivial⟩, trivial⟩
        · skip
          exact ⟨_, List.mem_of_getElem? (i := 10) rfl, ⟨⟨rfl, b0, c0⟩, ⟨rfl, b1, c1⟩, ⟨rfl, b2, c2⟩, ⟨rfl, b3, c3⟩, ⟨rfl, b4, c4⟩, ⟨rfl, b5, c5⟩, ⟨rfl, b6, c6⟩, ⟨rfl, b7, c7⟩, ⟨rfl, b8, c8⟩, ⟨rfl, b9, c9⟩, ⟨rfl, b10, c10⟩, trivial⟩, ⟨⟨rfl, by show (1 : Int) ≤ (x 0).toInt; omega, by show (x 0).toInt ≤ (30 : Int); omega⟩, ⟨rfl, by show (4 : Int) ≤ (x 1).toInt; omega, a1.2⟩, ⟨rfl, a2.1, a2.2⟩, ⟨rfl, a3.1, a3.2⟩, ⟨rfl, a4.1, a4.2⟩, trivial⟩, trivial⟩
  · skip
    exact ⟨_, List.mem_of_getElem? (i := 11) rfl, ⟨⟨rfl, b0, c0⟩, ⟨rfl, b1, c1⟩, ⟨rfl, b2, c2⟩, ⟨rfl, b3, c3⟩, ⟨rfl, b4, c4⟩, ⟨rfl, b5, c5⟩, ⟨rfl, b6, c6⟩, ⟨rfl, b7, c7⟩, ⟨rfl, b8, c8⟩, ⟨rfl, b9, c9⟩, ⟨rfl, b10, c10⟩, trivial⟩, ⟨⟨rfl, by show (31 : Int) ≤ (x 0).toInt; omega, a0.2⟩, ⟨rfl, a1.1, a1.2⟩, ⟨rfl, a2.1, a2.2⟩, ⟨rfl, a3.1, a3.2⟩, ⟨rfl, a4.1, a4.2⟩, trivial⟩, trivial⟩
set_option maxRecDepth 100000 in
set_option maxHeartbeats 4000000 in
theorem la_cov_any (x v : Nat → Int32) (hv : la_al la_vk v) : ∃ c ∈ la_cxs_any, la_al c.1 v ∧ la_al c.2.1 x ∧ la_pfx c x v := by
  have a0 := se_i32 (x 0)
  have a1 := se_i32 (x 1)
  have a2 := se_i32 (x 2)
  have a3 := se_i32 (x 3)
  have a4 := se_i32 (x 4)
  unfold se_lo se_hi at a0 a1 a2 a3 a4
  obtain ⟨⟨-, b0, c0⟩, ⟨-, b1, c1⟩, ⟨-, b2, c2⟩, ⟨-, b3, c3⟩, ⟨-, b4, c4⟩, ⟨-, b5, c5⟩, ⟨-, b6, c6⟩, ⟨-, b7, c7⟩, ⟨-, b8, c8⟩, ⟨-, b9, c9⟩, ⟨-, b10, c10⟩, -⟩ := hv
  have b0 : (0 : Int) ≤ (v 0).toInt := b0
  have c0 : (v 0).toInt ≤ (32 : Int) := c0
  have b1 : (0 : Int) ≤ (v 1).toInt := b1
  have c1 : (v 1).toInt ≤ (20 : Int) := c1
  have b2 : (0 : Int) ≤ (v 2).toInt := b2
  have c2 : (v 2).toInt ≤ (32 : Int) := c2
  have b3 : (0 : Int) ≤ (v 3).toInt := b3
  have c3 : (v 3).toInt ≤ (20 : Int) := c3
  have b4 : (0 : Int) ≤ (v 4).toInt := b4
  have c4 : (v 4).toInt ≤ (32 : Int) := c4
  have b5 : (0 : Int) ≤ (v 5).toInt := b5
  have c5 : (v 5).toInt ≤ (20 : Int) := c5
  have b6 : (0 : Int) ≤ (v 6).toInt := b6
  have c6 : (v 6).toInt ≤ (32 : Int) := c6
  have b7 : (0 : Int) ≤ (v 7).toInt := b7
  have c7 : (v 7).toInt ≤ (20 : Int) := c7
  have b8 : (0 : Int) ≤ (v 8).toInt := b8
  have c8 : (v 8).toInt ≤ (1 : Int) := c8
  have b9 : (-2147483648 : Int) ≤ (v 9).toInt := b9
  have c9 : (v 9).toInt ≤ (2147483647 : Int) := c9
  have b10 : (-2147483648 : Int) ≤ (v 10).toInt := b10
  have c10 : (v 10).toInt ≤ (2147483647 : Int) := c10
  exact ⟨_, List.mem_of_getElem? (i := 0) rfl, ⟨⟨rfl, b0, c0⟩, ⟨rfl, b1, c1⟩, ⟨rfl, b2, c2⟩, ⟨rfl, b3, c3⟩, ⟨rfl, b4, c4⟩, ⟨rfl, b5, c5⟩, ⟨rfl, b6, c6⟩, ⟨rfl, b7, c7⟩, ⟨rfl, b8, c8⟩, ⟨rfl, b9, c9⟩, ⟨rfl, b10, c10⟩, trivial⟩, ⟨⟨rfl, a0.1, a0.2⟩, ⟨rfl, a1.1, a1.2⟩, ⟨rfl, a2.1, a2.2⟩, ⟨rfl, a3.1, a3.2⟩, ⟨rfl, a4.1, a4.2⟩, trivial⟩, trivial⟩
theorem la_cov {p : Nat} {L : List la_cx} (h : (p, L) ∈ la_arms) (x v : Nat → Int32) (hv : la_al la_vk v) : ∃ c ∈ L, la_al c.1 v ∧ la_al c.2.1 x ∧ la_pfx c x v := by
  obtain ⟨a, ha, e⟩ := List.mem_map.mp h
  cases e
  have h2 := Nat.blt_eq.mp (List.all_eq_true.mp (show la_ar.all (fun a => Nat.blt a.2 6) = true by decide +kernel) _ ha)
  generalize a.2 = k at h2
  match k, h2 with
  | 0, _ => exact la_cov_any x v hv
  | 1, _ => exact la_cov_sheet x v hv
  | 2, _ => exact la_cov_image x v hv
  | 3, _ => exact la_cov_restore x v hv
  | 4, _ => exact la_cov_day x v hv
  | 5, _ => exact la_cov_days x v hv
  | k + 6, h2 => omega
def la_off : Array Int := #[175, 218, 271, 304, 337, 396, 465, 518, 551, 584, 617, 680, 703, 736, 769, 782, 805, 838, 871, 904, 927, 990, 1013, 1046, 1069, 1102, 1135, 1158, 1181, 1214, 1247, 1296, 1339, 1372, 1405, 1448, 1491, 1554, 1567, 1580]
def la_bad : Nat := 1611
set_option maxRecDepth 100000 in
theorem hd_330_0 : decode (sx_fi 330).2.1 0 = .ok (.new 7, 3) := (sx_dec (y := 330) (full := sx_c330) rfl (e := (0, .new 7, 3, 4, 11, 1023, 1001)) (List.mem_of_getElem? (i := 0) rfl)).1
set_option maxRecDepth 100000 in
theorem hd_330_3 : decode (sx_fi 330).2.1 3 = .ok (.dup, 1) := (sx_dec (y := 330) (full := sx_c330) rfl (e := (3, .dup, 1, 0, 0, 0, 0)) (List.mem_of_getElem? (i := 1) rfl)).1
set_option maxRecDepth 100000 in
theorem hd_330_4 : decode (sx_fi 330).2.1 4 = .ok (.invokespecial 9, 3) := (sx_dec (y := 330) (full := sx_c330) rfl (e := (4, .invokespecial 9, 3, 2, 0, 0, 0)) (List.mem_of_getElem? (i := 2) rfl)).1
set_option maxRecDepth 100000 in
theorem hd_330_7 : decode (sx_fi 330).2.1 7 = .ok (.astore_n 1, 1) := (sx_dec (y := 330) (full := sx_c330) rfl (e := (7, .astore_n 1, 1, 0, 0, 0, 0)) (List.mem_of_getElem? (i := 3) rfl)).1
set_option maxRecDepth 100000 in
theorem hd_330_8 : decode (sx_fi 330).2.1 8 = .ok (.new 10, 3) := (sx_dec (y := 330) (full := sx_c330) rfl (e := (8, .new 10, 3, 4, 12, 6138, 1013)) (List.mem_of_getElem? (i := 4) rfl)).1
set_option maxRecDepth 100000 in
theorem hd_330_11 : decode (sx_fi 330).2.1 11 = .ok (.dup, 1) := (sx_dec (y := 330) (full := sx_c330) rfl (e := (11, .dup, 1, 0, 0, 0, 0)) (List.mem_of_getElem? (i := 5) rfl)).1
set_option maxRecDepth 100000 in
theorem hd_330_12 : decode (sx_fi 330).2.1 12 = .ok (.invokespecial 12, 3) := (sx_dec (y := 330) (full := sx_c330) rfl (e := (12, .invokespecial 12, 3, 2, 218, 0, 0)) (List.mem_of_getElem? (i := 6) rfl)).1
set_option maxRecDepth 100000 in
theorem hd_330_15 : decode (sx_fi 330).2.1 15 = .ok (.astore_n 2, 1) := (sx_dec (y := 330) (full := sx_c330) rfl (e := (15, .astore_n 2, 1, 0, 0, 0, 0)) (List.mem_of_getElem? (i := 7) rfl)).1
set_option maxRecDepth 100000 in
theorem hd_330_16 : decode (sx_fi 330).2.1 16 = .ok (.iconst 0, 1) := (sx_dec (y := 330) (full := sx_c330) rfl (e := (16, .iconst 0, 1, 0, 0, 0, 0)) (List.mem_of_getElem? (i := 8) rfl)).1
set_option maxRecDepth 100000 in
theorem hd_330_17 : decode (sx_fi 330).2.1 17 = .ok (.istore_n 3, 1) := (sx_dec (y := 330) (full := sx_c330) rfl (e := (17, .istore_n 3, 1, 0, 0, 0, 0)) (List.mem_of_getElem? (i := 9) rfl)).1
set_option maxRecDepth 100000 in
theorem hd_330_18 : decode (sx_fi 330).2.1 18 = .ok (.iload_n 3, 1) := (sx_dec (y := 330) (full := sx_c330) rfl (e := (18, .iload_n 3, 1, 0, 0, 0, 0)) (List.mem_of_getElem? (i := 10) rfl)).1
set_option maxRecDepth 100000 in
theorem hd_330_19 : decode (sx_fi 330).2.1 19 = .ok (.aload_n 0, 1) := (sx_dec (y := 330) (full := sx_c330) rfl (e := (19, .aload_n 0, 1, 0, 0, 0, 0)) (List.mem_of_getElem? (i := 11) rfl)).1
set_option maxRecDepth 100000 in
theorem hd_330_20 : decode (sx_fi 330).2.1 20 = .ok (.arraylength, 1) := (sx_dec (y := 330) (full := sx_c330) rfl (e := (20, .arraylength, 1, 0, 0, 0, 0)) (List.mem_of_getElem? (i := 12) rfl)).1
set_option maxRecDepth 100000 in
theorem hd_330_21 : decode (sx_fi 330).2.1 21 = .ok (.bipush 6, 2) := (sx_dec (y := 330) (full := sx_c330) rfl (e := (21, .bipush 6, 2, 0, 0, 0, 0)) (List.mem_of_getElem? (i := 13) rfl)).1
set_option maxRecDepth 100000 in
theorem hd_330_23 : decode (sx_fi 330).2.1 23 = .ok (.isub, 1) := (sx_dec (y := 330) (full := sx_c330) rfl (e := (23, .isub, 1, 0, 0, 0, 0)) (List.mem_of_getElem? (i := 14) rfl)).1
set_option maxRecDepth 100000 in
theorem hd_330_24 : decode (sx_fi 330).2.1 24 = .ok (.if_icmp .gt 1618, 3) := (sx_dec (y := 330) (full := sx_c330) rfl (e := (24, .if_icmp .gt 1618, 3, 0, 0, 0, 0)) (List.mem_of_getElem? (i := 15) rfl)).1
set_option maxRecDepth 100000 in
theorem hd_330_27 : decode (sx_fi 330).2.1 27 = .ok (.aload_n 0, 1) := (sx_dec (y := 330) (full := sx_c330) rfl (e := (27, .aload_n 0, 1, 0, 0, 0, 0)) (List.mem_of_getElem? (i := 16) rfl)).1
set_option maxRecDepth 100000 in
theorem hd_330_28 : decode (sx_fi 330).2.1 28 = .ok (.iload_n 3, 1) := (sx_dec (y := 330) (full := sx_c330) rfl (e := (28, .iload_n 3, 1, 0, 0, 0, 0)) (List.mem_of_getElem? (i := 17) rfl)).1
set_option maxRecDepth 100000 in
theorem hd_330_29 : decode (sx_fi 330).2.1 29 = .ok (.iaload, 1) := (sx_dec (y := 330) (full := sx_c330) rfl (e := (29, .iaload, 1, 0, 0, 0, 0)) (List.mem_of_getElem? (i := 18) rfl)).1
set_option maxRecDepth 100000 in
theorem hd_330_30 : decode (sx_fi 330).2.1 30 = .ok (.bipush 63, 2) := (sx_dec (y := 330) (full := sx_c330) rfl (e := (30, .bipush 63, 2, 0, 0, 0, 0)) (List.mem_of_getElem? (i := 19) rfl)).1
set_option maxRecDepth 100000 in
theorem hd_330_32 : decode (sx_fi 330).2.1 32 = .ok (.iand, 1) := (sx_dec (y := 330) (full := sx_c330) rfl (e := (32, .iand, 1, 0, 0, 0, 0)) (List.mem_of_getElem? (i := 20) rfl)).1
set_option maxRecDepth 100000 in
theorem hd_330_33 : decode (sx_fi 330).2.1 33 = .ok (.tableswitch 1603 0 39 #[175, 218, 271, 304, 337, 396, 465, 518, 551, 584, 617, 680, 703, 736, 769, 782, 805, 838, 871, 904, 927, 990, 1013, 1046, 1069, 1102, 1135, 1158, 1181, 1214, 1247, 1296, 1339, 1372, 1405, 1448, 1491, 1554, 1567, 1580], 175) := (sx_dec (y := 330) (full := sx_c330) rfl (e := (33, .tableswitch 1603 0 39 #[175, 218, 271, 304, 337, 396, 465, 518, 551, 584, 617, 680, 703, 736, 769, 782, 805, 838, 871, 904, 927, 990, 1013, 1046, 1069, 1102, 1135, 1158, 1181, 1214, 1247, 1296, 1339, 1372, 1405, 1448, 1491, 1554, 1567, 1580], 175, 0, 0, 0, 0)) (List.mem_of_getElem? (i := 21) rfl)).1
set_option maxRecDepth 100000 in
theorem hd_330_1611 : decode (sx_fi 330).2.1 1611 = .ok (.iconst 0, 1) := (sx_dec (y := 330) (full := sx_c330) rfl (e := (1611, .iconst 0, 1, 0, 0, 0, 0)) (List.mem_of_getElem? (i := 1161) rfl)).1
set_option maxRecDepth 100000 in
theorem hd_330_1612 : decode (sx_fi 330).2.1 1612 = .ok (.ireturn, 1) := (sx_dec (y := 330) (full := sx_c330) rfl (e := (1612, .ireturn, 1, 0, 0, 0, 0)) (List.mem_of_getElem? (i := 1162) rfl)).1
set_option maxRecDepth 100000 in
theorem hd_330_1636 : decode (sx_fi 330).2.1 1636 = .ok (.iinc 3 6, 3) := (sx_dec (y := 330) (full := sx_c330) rfl (e := (1636, .iinc 3 6, 3, 0, 0, 0, 0)) (List.mem_of_getElem? (i := 1180) rfl)).1
set_option maxRecDepth 100000 in
theorem hd_330_1639 : decode (sx_fi 330).2.1 1639 = .ok (.goto (-1621), 3) := (sx_dec (y := 330) (full := sx_c330) rfl (e := (1639, .goto (-1621), 3, 0, 0, 0, 0)) (List.mem_of_getElem? (i := 1181) rfl)).1
set_option maxRecDepth 100000 in
theorem hd_330_1642 : decode (sx_fi 330).2.1 1642 = .ok (.iconst 1, 1) := (sx_dec (y := 330) (full := sx_c330) rfl (e := (1642, .iconst 1, 1, 0, 0, 0, 0)) (List.mem_of_getElem? (i := 1182) rfl)).1
set_option maxRecDepth 100000 in
theorem hd_330_1643 : decode (sx_fi 330).2.1 1643 = .ok (.ireturn, 1) := (sx_dec (y := 330) (full := sx_c330) rfl (e := (1643, .ireturn, 1, 0, 0, 0, 0)) (List.mem_of_getElem? (i := 1183) rfl)).1
def la_tau0 : List Value := [.ref 38, .ref 195, .ref 173, .ref 174, .ref 176, .ref 178, .ref 180, .ref 209, .ref 210, .ref 39, .ref 106, .ref 196, .ref 197, .int 0, .int 0, .int 0, .int 0, .int 0, .int 0, .int 0, .int 0, .int 0, .int 0, .int 0]
