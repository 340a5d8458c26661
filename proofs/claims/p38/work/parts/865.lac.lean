/-! ===== printed by wip/p37/gen_law4.py: contracts by region; all contracts; the law's arms ===== -/
def la_C : List se_C := [sc_q0, sc_w0, sc_q1, sc_w1, sc_q2, sc_w2, sc_q3, sc_w3, sc_q4, sc_w4, sc_q5, sc_w5, sc_q6, sc_w6, sc_q7, sc_w7, sc_q8, sc_w8, sc_q9, sc_w9, sc_q10, sc_w10, sc_q11, sc_w11, sc_q12, sc_w12, sc_q13, sc_w13, sc_q14, sc_w14, sc_q15, sc_w15, sc_q16, sc_w16, sc_q17, sc_w17, sc_q18, sc_w18, sc_q19, sc_w19, sc_q20, sc_w20, sc_q21, sc_w21, sc_q22, sc_w22, sc_q23, sc_w23, sc_q24, sc_w24, sc_q25, sc_w25, sc_q26, sc_w26, sc_q27, sc_w27, sc_q28, sc_w28, sc_q29, sc_w29, sc_q30, sc_w30, sc_q31, sc_w31, sc_q32, sc_w32, sc_q33, sc_w33, sc_q34, sc_w34, sc_q35, sc_w35, sc_q36, sc_w36, sc_q37, sc_w37, sc_q38, sc_w38, sc_q39, sc_w39, sc_q40, sc_w40, sc_q41, sc_w41, sc_q42, sc_w42, sc_q43, sc_w43, sc_q44, sc_w44, sc_q45, sc_w45, sc_q46, sc_w46, sc_q47, sc_w47, sc_q48, sc_w48, sc_q49, sc_w49, sc_q50, sc_w50, sc_q51, sc_w51, sc_q52, sc_w52, sc_q53, sc_w53, sc_q54, sc_w54, sc_q55, sc_w55, sc_q56, sc_w56, sc_q57, sc_w57, sc_q58, sc_w58, sc_q59, sc_w59, sc_q60, sc_w60, sc_q61, sc_w61, sc_q62, sc_w62, sc_q63, sc_w63, sc_q64, sc_w64, sc_q65, sc_w65, sc_q66, sc_w66, sc_q67, sc_w67, sc_q68, sc_w68, sc_q69, sc_w69, sc_q70, sc_w70, sc_q71, sc_w71, sc_q72, sc_w72, sc_q73, sc_w73, sc_q74, sc_w74, sc_q75, sc_w75, sc_q76, sc_w76, sc_q77, sc_w77, sc_q78, sc_w78, sc_q79, sc_w79, sc_q80, sc_w80, sc_q81, sc_w81, sc_q82, sc_w82, sc_q83, sc_w83, sc_q84, sc_w84, sc_q85, sc_w85, sc_q86, sc_w86, sc_q87, sc_w87, sc_q88, sc_w88, sc_q89, sc_w89, sc_q90, sc_w90, sc_q91, sc_w91, sc_q92, sc_w92, sc_q93, sc_w93, sc_q94, sc_w94, sc_q95, sc_w95, sc_q96, sc_w96, sc_q97, sc_w97, sc_q98, sc_w98, sc_q99, sc_w99, sc_q100, sc_w100, sc_q101, sc_w101, sc_q102, sc_w102, sc_q103, sc_w103, sc_q104, sc_w104, sc_q105, sc_w105, sc_q106, sc_w106, sc_q107, sc_w107, sc_q108, sc_w108, sc_q109, sc_w109, sc_q110, sc_w110, sc_q111, sc_w111, sc_q112, sc_w112, sc_q113, sc_w113, sc_q114, sc_w114, sc_q115, sc_w115, sc_q116, sc_w116, sc_q117, sc_w117, sc_q118, sc_w118, sc_q119, sc_w119, sc_q120, sc_w120, sc_q121, sc_w121, sc_q122, sc_w122, sc_q123, sc_w123, sc_q124, sc_w124, sc_q125, sc_w125, sc_q126, sc_w126, sc_q127, sc_w127, sc_q128, sc_w128, sc_q129, sc_w129, sc_q130, sc_w130, sc_q131, sc_w131, sc_q132, sc_w132, sc_q133, sc_w133, sc_q134, sc_w134, sc_q135, sc_w135, sc_q136, sc_w136, sc_q137, sc_w137, sc_q138, sc_w138, sc_q139, sc_w139, sc_q140, sc_w140, sc_q141, sc_w141, sc_q142, sc_w142, sc_q143, sc_w143, sc_q144, sc_w144, sc_q145, sc_w145, sc_q146, sc_w146, sc_q147, sc_w147, sc_q148, sc_w148, sc_q149, sc_w149, sc_q150, sc_w150, sc_q151, sc_w151, sc_q152, sc_w152, sc_q153, sc_w153, sc_q154, sc_w154, sc_q155, sc_w155, sc_q156, sc_w156, sc_q157, sc_w157, sc_q158, sc_w158, sc_q159, sc_w159, sc_q160, sc_w160, sc_q161, sc_w161, sc_q162, sc_w162, sc_q163, sc_w163, sc_q164, sc_w164, sc_q165, sc_w165, sc_q166, sc_w166, sc_q167, sc_w167, sc_q168, sc_w168, sc_q169, sc_w169, sc_q170, sc_w170, sc_q171, sc_w171, sc_q172, sc_w172, sc_q173, sc_w173, sc_q174, sc_w174, sc_q175, sc_w175, sc_q176, sc_w176, sc_q177, sc_w177, sc_q178, sc_w178, sc_q179, sc_w179, sc_q180, sc_w180, sc_q181, sc_w181, sc_q182, sc_w182, sc_q183, sc_w183, sc_q184, sc_w184, sc_q185, sc_w185, sc_q186, sc_w186, sc_q187, sc_w187, sc_q188, sc_w188, sc_q189, sc_w189, sc_q190, sc_w190, sc_q191, sc_w191, sc_q192, sc_w192, sc_q193, sc_w193, sc_q194, sc_w194, sc_q195, sc_w195, sc_q196, sc_w196, sc_q197, sc_w197, sc_q198, sc_w198, sc_0, sc_1, sc_3, sc_7, sc_8, sc_9, sc_10, sc_11, sc_12, sc_14, sc_19, sc_36, sc_37, sc_38, sc_39, sc_40, sc_44, sc_55, sc_56, sc_58, sc_60, sc_121, sc_122, sc_123, sc_124, sc_125, sc_126, sc_128, sc_129, sc_136, sc_139, sc_144, sc_148, sc_150, sc_156, sc_170, sc_171, sc_176, sc_177, sc_178, sc_179, sc_184, sc_185, sc_186, sc_187, sc_188, sc_189, sc_191, sc_193, sc_194, sc_198, sc_202, sc_204, sc_206, sc_207, sc_208, sc_219, sc_220, sc_223, sc_224, sc_h2, sc_229, sc_231, sc_235, sc_236, sc_237, sc_238, sc_240, sc_242, sc_243, sc_246, sc_247, sc_249, sc_h5, sc_h6, sc_251]
theorem la_all {ty : Nat → Option Nat} {kx : Nat} {zs : List mm_Zt} (hO : se_Ok ty (rw_J ty) kx zs) (hz : ∃ tz, zs.find? (fun t => decide (t.1 = "jdk/internal/util/Preconditions" ∧ t.2.1 = "SIOOBE_FORMATTER" ∧ t.2.2.1 = "Ljava/util/function/BiFunction;")) = some tz ∧ tz.2.2.2.category = 1) : ∀ c ∈ la_C, se_Met ty se_tt (rw_J ty) kx zs c ∧ c.1.2 ≤ 40 := by
  have h0h : se_Met ty se_tt (rw_J ty) kx zs sc_h0 := sm_h0 hz
  have h1h : se_Met ty se_tt (rw_J ty) kx zs sc_h1 := sm_h1
  have h2h : se_Met ty se_tt (rw_J ty) kx zs sc_h2 := sm_h2 hO
  have h4h : se_Met ty se_tt (rw_J ty) kx zs sc_h4 := sm_h4 hO
  have h5h : se_Met ty se_tt (rw_J ty) kx zs sc_h5 := sm_h5 hO
  have h6h : se_Met ty se_tt (rw_J ty) kx zs sc_h6 := sm_h6 hO
  have c0 : se_Met ty se_tt (rw_J ty) kx zs sc_0 := sm_0 hO
  have c1 : se_Met ty se_tt (rw_J ty) kx zs sc_1 := sm_1 hO
  have c2 : se_Met ty se_tt (rw_J ty) kx zs sc_2 := sm_2 hO
  have c3 : se_Met ty se_tt (rw_J ty) kx zs sc_3 := sm_3 hO c2
  have c4 : se_Met ty se_tt (rw_J ty) kx zs sc_4 := sm_4 hO
  have c5 : se_Met ty se_tt (rw_J ty) kx zs sc_5 := sm_5 hO
  have c6 : se_Met ty se_tt (rw_J ty) kx zs sc_6 := sm_6 hO
  have c7 : se_Met ty se_tt (rw_J ty) kx zs sc_7 := sm_7 hO c4 c5 c6
  have c8 : se_Met ty se_tt (rw_J ty) kx zs sc_8 := sm_8 hO
  have c9 : se_Met ty se_tt (rw_J ty) kx zs sc_9 := sm_9 hO c4 c5
  have c10 : se_Met ty se_tt (rw_J ty) kx zs sc_10 := sm_10 hO
  have c11 : se_Met ty se_tt (rw_J ty) kx zs sc_11 := sm_11 hO
  have c12 : se_Met ty se_tt (rw_J ty) kx zs sc_12 := sm_12 hO c4 c5
  have c13 : se_Met ty se_tt (rw_J ty) kx zs sc_13 := sm_13 hO
  have c14 : se_Met ty se_tt (rw_J ty) kx zs sc_14 := sm_14 hO c13
  have c15 : se_Met ty se_tt (rw_J ty) kx zs sc_15 := sm_15 hO
  have c16 : se_Met ty se_tt (rw_J ty) kx zs sc_16 := sm_16 hO
  have c17 : se_Met ty se_tt (rw_J ty) kx zs sc_17 := sm_17 hO
  have c18 : se_Met ty se_tt (rw_J ty) kx zs sc_18 := sm_18 hO
  have c19 : se_Met ty se_tt (rw_J ty) kx zs sc_19 := sm_19 hO c4 c5 c15 c16 c17 c18
  have c20 : se_Met ty se_tt (rw_J ty) kx zs sc_20 := sm_20 hO
  have c21 : se_Met ty se_tt (rw_J ty) kx zs sc_21 := sm_21 hO
  have c22 : se_Met ty se_tt (rw_J ty) kx zs sc_22 := sm_22 hO
  have c23 : se_Met ty se_tt (rw_J ty) kx zs sc_23 := sm_23 hO c5 c22
  have c24 : se_Met ty se_tt (rw_J ty) kx zs sc_24 := sm_24 hO
  have c25 : se_Met ty se_tt (rw_J ty) kx zs sc_25 := sm_25 hO
  have c26 : se_Met ty se_tt (rw_J ty) kx zs sc_26 := sm_26 hO c13 c24 c25
  have c27 : se_Met ty se_tt (rw_J ty) kx zs sc_27 := sm_27 hO
  have c28 : se_Met ty se_tt (rw_J ty) kx zs sc_28 := sm_28 hO c5 c21 c23 c24 c25 c26 c27
  have c29 : se_Met ty se_tt (rw_J ty) kx zs sc_29 := sm_29 hO
  have c31 : se_Met ty se_tt (rw_J ty) kx zs sc_31 := sm_31 hO
  have c33 : se_Met ty se_tt (rw_J ty) kx zs sc_33 := sm_33 hO
  have c34 : se_Met ty se_tt (rw_J ty) kx zs sc_34 := sm_34 hO c29 c31 c33
  have c35 : se_Met ty se_tt (rw_J ty) kx zs sc_35 := sm_35 hO c5
  have c36 : se_Met ty se_tt (rw_J ty) kx zs sc_36 := sm_36 hO c4 c5 c17 c20 c28 c34 c35
  have c37 : se_Met ty se_tt (rw_J ty) kx zs sc_37 := sm_37 hO c4 c23
  have c38 : se_Met ty se_tt (rw_J ty) kx zs sc_38 := sm_38 hO c4 c23
  have c39 : se_Met ty se_tt (rw_J ty) kx zs sc_39 := sm_39 hO c4 c35
  have c40 : se_Met ty se_tt (rw_J ty) kx zs sc_40 := sm_40 hO c4 c5
  have c41 : se_Met ty se_tt (rw_J ty) kx zs sc_41 := sm_41 hO c23
  have c42 : se_Met ty se_tt (rw_J ty) kx zs sc_42 := sm_42 hO c41
  have c43 : se_Met ty se_tt (rw_J ty) kx zs sc_43 := sm_43 hO c41
  have c44 : se_Met ty se_tt (rw_J ty) kx zs sc_44 := sm_44 hO c4 c42 c43
  have c45 : se_Met ty se_tt (rw_J ty) kx zs sc_45 := sm_45 hO c5 c17 c41
  have c46 : se_Met ty se_tt (rw_J ty) kx zs sc_46 := sm_46 hO
  have c47 : se_Met ty se_tt (rw_J ty) kx zs sc_47 := sm_47 hO
  have c48 : se_Met ty se_tt (rw_J ty) kx zs sc_48 := sm_48 hO c6
  have c49 : se_Met ty se_tt (rw_J ty) kx zs sc_49 := sm_49 hO c17 c48
  have c50 : se_Met ty se_tt (rw_J ty) kx zs sc_50 := sm_50 hO c5 c49
  have c51 : se_Met ty se_tt (rw_J ty) kx zs sc_51 := sm_51 hO
  have c52 : se_Met ty se_tt (rw_J ty) kx zs sc_52 := sm_52 hO c4 c5 c6 c17
  have c53 : se_Met ty se_tt (rw_J ty) kx zs sc_53 := sm_53 hO c52
  have c54 : se_Met ty se_tt (rw_J ty) kx zs sc_54 := sm_54 hO
  have c55 : se_Met ty se_tt (rw_J ty) kx zs sc_55 := sm_55 hO c4 c45 c46 c47 c50 c51 c53 c54
  have c56 : se_Met ty se_tt (rw_J ty) kx zs sc_56 := sm_56 hO c4 c45 c46 c47 c50 c51 c53 c54
  have c57 : se_Met ty se_tt (rw_J ty) kx zs sc_57 := sm_57 hO
  have c58 : se_Met ty se_tt (rw_J ty) kx zs sc_58 := sm_58 hO c4 c5 c24 c25 c27 c57
  have c59 : se_Met ty se_tt (rw_J ty) kx zs sc_59 := sm_59 hO
  have c60 : se_Met ty se_tt (rw_J ty) kx zs sc_60 := sm_60 hO c59
  have c62 : se_Met ty se_tt (rw_J ty) kx zs sc_62 := sm_62 hO
  have c63 : se_Met ty se_tt (rw_J ty) kx zs sc_63 := sm_63 hO h0h
  have c64 : se_Met ty se_tt (rw_J ty) kx zs sc_64 := sm_64 hO h0h
  have c65 : se_Met ty se_tt (rw_J ty) kx zs sc_65 := sm_65 hO h0h
  have c66 : se_Met ty se_tt (rw_J ty) kx zs sc_66 := sm_66 hO h0h
  have c67 : se_Met ty se_tt (rw_J ty) kx zs sc_67 := sm_67 hO h0h
  have c68 : se_Met ty se_tt (rw_J ty) kx zs sc_68 := sm_68 hO h0h
  have c69 : se_Met ty se_tt (rw_J ty) kx zs sc_69 := sm_69 hO h0h
  have c70 : se_Met ty se_tt (rw_J ty) kx zs sc_70 := sm_70 hO h0h
  have c71 : se_Met ty se_tt (rw_J ty) kx zs sc_71 := sm_71 hO h0h
  have c72 : se_Met ty se_tt (rw_J ty) kx zs sc_72 := sm_72 hO h0h
  have c73 : se_Met ty se_tt (rw_J ty) kx zs sc_73 := sm_73 hO h0h
  have c74 : se_Met ty se_tt (rw_J ty) kx zs sc_74 := sm_74 hO h0h
  have c75 : se_Met ty se_tt (rw_J ty) kx zs sc_75 := sm_75 hO h0h
  have c76 : se_Met ty se_tt (rw_J ty) kx zs sc_76 := sm_76 hO h0h
  have c77 : se_Met ty se_tt (rw_J ty) kx zs sc_77 := sm_77 hO h0h
  have c78 : se_Met ty se_tt (rw_J ty) kx zs sc_78 := sm_78 hO c63 c64 c65 c66 c67 c68 c69 c70 c71 c72 c73 c74 c75 c76 c77
  have c79 : se_Met ty se_tt (rw_J ty) kx zs sc_79 := sm_79 hO
  have c80 : se_Met ty se_tt (rw_J ty) kx zs sc_80 := sm_80 hO c78 c79
  have c82 : se_Met ty se_tt (rw_J ty) kx zs sc_82 := sm_82 hO
  have c84 : se_Met ty se_tt (rw_J ty) kx zs sc_84 := sm_84 hO c82
  have c85 : se_Met ty se_tt (rw_J ty) kx zs sc_85 := sm_85 hO c80 c82 c84
  have c86 : se_Met ty se_tt (rw_J ty) kx zs sc_86 := sm_86 hO c80 c84 c85
  have c87 : se_Met ty se_tt (rw_J ty) kx zs sc_87 := sm_87 hO c80 c84 c86
  have c88 : se_Met ty se_tt (rw_J ty) kx zs sc_88 := sm_88 hO c87
  have c89 : se_Met ty se_tt (rw_J ty) kx zs sc_89 := sm_89 hO c80 c84 c88
  have c90 : se_Met ty se_tt (rw_J ty) kx zs sc_90 := sm_90 hO c80 c84 c89
  have c91 : se_Met ty se_tt (rw_J ty) kx zs sc_91 := sm_91 hO c80 c82 c84 c90
  have c92 : se_Met ty se_tt (rw_J ty) kx zs sc_92 := sm_92 hO c80 c84 c91
  have c93 : se_Met ty se_tt (rw_J ty) kx zs sc_93 := sm_93 hO c80 c84 c92
  have c94 : se_Met ty se_tt (rw_J ty) kx zs sc_94 := sm_94 hO c80 c84 c88 c93
  have c95 : se_Met ty se_tt (rw_J ty) kx zs sc_95 := sm_95 hO c80 c84 c94
  have c96 : se_Met ty se_tt (rw_J ty) kx zs sc_96 := sm_96 hO c80 c84 c95
  have c97 : se_Met ty se_tt (rw_J ty) kx zs sc_97 := sm_97 hO c80 c82 c84 c96
  have c98 : se_Met ty se_tt (rw_J ty) kx zs sc_98 := sm_98 hO c80 c84 c97
  have c99 : se_Met ty se_tt (rw_J ty) kx zs sc_99 := sm_99 hO c80 c84 c98
  have c100 : se_Met ty se_tt (rw_J ty) kx zs sc_100 := sm_100 hO c80 c84 c94 c99
  have c101 : se_Met ty se_tt (rw_J ty) kx zs sc_101 := sm_101 hO c80 c84 c100
  have c102 : se_Met ty se_tt (rw_J ty) kx zs sc_102 := sm_102 hO c80 c84 c101
  have c103 : se_Met ty se_tt (rw_J ty) kx zs sc_103 := sm_103 hO c80 c82 c84 c102
  have c104 : se_Met ty se_tt (rw_J ty) kx zs sc_104 := sm_104 hO c80 c84 c103
  have c105 : se_Met ty se_tt (rw_J ty) kx zs sc_105 := sm_105 hO c80 c84 c104
  have c106 : se_Met ty se_tt (rw_J ty) kx zs sc_106 := sm_106 hO c80 c84 c100 c105
  have c107 : se_Met ty se_tt (rw_J ty) kx zs sc_107 := sm_107 hO c80 c84 c106
  have c108 : se_Met ty se_tt (rw_J ty) kx zs sc_108 := sm_108 hO c80 c84 c107
  have c109 : se_Met ty se_tt (rw_J ty) kx zs sc_109 := sm_109 hO c80 c82 c84 c108
  have c110 : se_Met ty se_tt (rw_J ty) kx zs sc_110 := sm_110 hO c80 c84 c109
  have c111 : se_Met ty se_tt (rw_J ty) kx zs sc_111 := sm_111 hO c80 c84 c110
  have c112 : se_Met ty se_tt (rw_J ty) kx zs sc_112 := sm_112 hO c80 c84 c106 c111
  have c113 : se_Met ty se_tt (rw_J ty) kx zs sc_113 := sm_113 hO c80 c84 c112
  have c114 : se_Met ty se_tt (rw_J ty) kx zs sc_114 := sm_114 hO c80 c84 c113
  have c116 : se_Met ty se_tt (rw_J ty) kx zs sc_116 := sm_116 hO
  have c117 : se_Met ty se_tt (rw_J ty) kx zs sc_117 := sm_117 hO c62 c80 c114 c116
  have c118 : se_Met ty se_tt (rw_J ty) kx zs sc_118 := sm_118 hO
  have c119 : se_Met ty se_tt (rw_J ty) kx zs sc_119 := sm_119 hO
  have c120 : se_Met ty se_tt (rw_J ty) kx zs sc_120 := sm_120 hO
  have c121 : se_Met ty se_tt (rw_J ty) kx zs sc_121 := sm_121 hO c117 c118
  have c122 : se_Met ty se_tt (rw_J ty) kx zs sc_122 := sm_122 hO c4 c5 c17
  have c123 : se_Met ty se_tt (rw_J ty) kx zs sc_123 := sm_123 hO c4 c5 c20
  have c124 : se_Met ty se_tt (rw_J ty) kx zs sc_124 := sm_124 hO c4 c5 c20 c28 c34
  have c125 : se_Met ty se_tt (rw_J ty) kx zs sc_125 := sm_125 hO c4 c5 c20 c21 c24 c25 c26 c27 c34
  have c126 : se_Met ty se_tt (rw_J ty) kx zs sc_126 := sm_126 hO c4 c5 c13 c20 c21 c24 c25 c27 c34
  have c127 : se_Met ty se_tt (rw_J ty) kx zs sc_127 := sm_127 hO
  have c128 : se_Met ty se_tt (rw_J ty) kx zs sc_128 := sm_128 hO c127
  have c129 : se_Met ty se_tt (rw_J ty) kx zs sc_129 := sm_129 hO
  have c130 : se_Met ty se_tt (rw_J ty) kx zs sc_130 := sm_130 hO
  have c131 : se_Met ty se_tt (rw_J ty) kx zs sc_131 := sm_131 hO c5
  have c132 : se_Met ty se_tt (rw_J ty) kx zs sc_132 := sm_132 hO c131
  have c133 : se_Met ty se_tt (rw_J ty) kx zs sc_133 := sm_133 hO c5
  have c134 : se_Met ty se_tt (rw_J ty) kx zs sc_134 := sm_134 hO c23
  have c135 : se_Met ty se_tt (rw_J ty) kx zs sc_135 := sm_135 hO c5 c25 c130 c132 c133 c134
  have c136 : se_Met ty se_tt (rw_J ty) kx zs sc_136 := sm_136 hO c4 c135
  have c137 : se_Met ty se_tt (rw_J ty) kx zs sc_137 := sm_137 hO c25 c134
  have c138 : se_Met ty se_tt (rw_J ty) kx zs sc_138 := sm_138 hO c25 c42 c132 c137
  have c139 : se_Met ty se_tt (rw_J ty) kx zs sc_139 := sm_139 hO c4 c25 c42 c138
  have c140 : se_Met ty se_tt (rw_J ty) kx zs sc_140 := sm_140 hO c23
  have c141 : se_Met ty se_tt (rw_J ty) kx zs sc_141 := sm_141 hO c23
  have c142 : se_Met ty se_tt (rw_J ty) kx zs sc_142 := sm_142 hO c23
  have c143 : se_Met ty se_tt (rw_J ty) kx zs sc_143 := sm_143 hO c23
  have c144 : se_Met ty se_tt (rw_J ty) kx zs sc_144 := sm_144 hO c4 c25 c140 c141 c142 c143
  have c145 : se_Met ty se_tt (rw_J ty) kx zs sc_145 := sm_145 hO
  have c146 : se_Met ty se_tt (rw_J ty) kx zs sc_146 := sm_146 hO
  have c147 : se_Met ty se_tt (rw_J ty) kx zs sc_147 := sm_147 hO c145 c146
  have c148 : se_Met ty se_tt (rw_J ty) kx zs sc_148 := sm_148 hO c4 c5 c57 c147
  have c149 : se_Met ty se_tt (rw_J ty) kx zs sc_149 := sm_149 hO c145
  have c150 : se_Met ty se_tt (rw_J ty) kx zs sc_150 := sm_150 hO c4 c5 c57 c149
  have c156 : se_Met ty se_tt (rw_J ty) kx zs sc_156 := sm_156 hO
  have c158 : se_Met ty se_tt (rw_J ty) kx zs sc_158 := sm_158 hO
  have c159 : se_Met ty se_tt (rw_J ty) kx zs sc_159 := sm_159 hO
  have c160 : se_Met ty se_tt (rw_J ty) kx zs sc_160 := sm_160 hO
  have c161 : se_Met ty se_tt (rw_J ty) kx zs sc_161 := sm_161 hO
  have c162 : se_Met ty se_tt (rw_J ty) kx zs sc_162 := sm_162 hO
  have c163 : se_Met ty se_tt (rw_J ty) kx zs sc_163 := sm_163 hO
  have c164 : se_Met ty se_tt (rw_J ty) kx zs sc_164 := sm_164 hO
  have c165 : se_Met ty se_tt (rw_J ty) kx zs sc_165 := sm_165 hO
  have c166 : se_Met ty se_tt (rw_J ty) kx zs sc_166 := sm_166 hO
  have c167 : se_Met ty se_tt (rw_J ty) kx zs sc_167 := sm_167 hO
  have c168 : se_Met ty se_tt (rw_J ty) kx zs sc_168 := sm_168 hO c119 c158 c160 c162 c164 c166
  have c169 : se_Met ty se_tt (rw_J ty) kx zs sc_169 := sm_169 hO c120 c159 c161 c163 c165 c167
  have c170 : se_Met ty se_tt (rw_J ty) kx zs sc_170 := sm_170 hO c168
  have c171 : se_Met ty se_tt (rw_J ty) kx zs sc_171 := sm_171 hO c169
  have c172 : se_Met ty se_tt (rw_J ty) kx zs sc_172 := sm_172 hO
  have c173 : se_Met ty se_tt (rw_J ty) kx zs sc_173 := sm_173 hO
  have c174 : se_Met ty se_tt (rw_J ty) kx zs sc_174 := sm_174 hO
  have c175 : se_Met ty se_tt (rw_J ty) kx zs sc_175 := sm_175 hO
  have c176 : se_Met ty se_tt (rw_J ty) kx zs sc_176 := sm_176 hO c172 c173 c174 c175
  have c177 : se_Met ty se_tt (rw_J ty) kx zs sc_177 := sm_177 hO
  have c178 : se_Met ty se_tt (rw_J ty) kx zs sc_178 := sm_178 hO
  have c179 : se_Met ty se_tt (rw_J ty) kx zs sc_179 := sm_179 hO
  have c180 : se_Met ty se_tt (rw_J ty) kx zs sc_180 := sm_180 hO
  have c181 : se_Met ty se_tt (rw_J ty) kx zs sc_181 := sm_181 hO c180
  have c182 : se_Met ty se_tt (rw_J ty) kx zs sc_182 := sm_182 hO
  have c183 : se_Met ty se_tt (rw_J ty) kx zs sc_183 := sm_183 hO
  have c184 : se_Met ty se_tt (rw_J ty) kx zs sc_184 := sm_184 hO h1h c180 c181 c182 c183
  have c185 : se_Met ty se_tt (rw_J ty) kx zs sc_185 := sm_185 hO
  have c186 : se_Met ty se_tt (rw_J ty) kx zs sc_186 := sm_186 hO c182 c183
  have c187 : se_Met ty se_tt (rw_J ty) kx zs sc_187 := sm_187 hO
  have c188 : se_Met ty se_tt (rw_J ty) kx zs sc_188 := sm_188 hO
  have c189 : se_Met ty se_tt (rw_J ty) kx zs sc_189 := sm_189 hO c182 c183
  have c190 : se_Met ty se_tt (rw_J ty) kx zs sc_190 := sm_190 hO
  have c191 : se_Met ty se_tt (rw_J ty) kx zs sc_191 := sm_191 hO c190
  have c192 : se_Met ty se_tt (rw_J ty) kx zs sc_192 := sm_192 hO h1h c182 c183
  have c193 : se_Met ty se_tt (rw_J ty) kx zs sc_193 := sm_193 hO c192
  have c194 : se_Met ty se_tt (rw_J ty) kx zs sc_194 := sm_194 hO c182 c183
  have c195 : se_Met ty se_tt (rw_J ty) kx zs sc_195 := sm_195 hO
  have c196 : se_Met ty se_tt (rw_J ty) kx zs sc_196 := sm_196 hO
  have c197 : se_Met ty se_tt (rw_J ty) kx zs sc_197 := sm_197 hO
  have c198 : se_Met ty se_tt (rw_J ty) kx zs sc_198 := sm_198 hO c182 c183 c195 c196 c197
  have c199 : se_Met ty se_tt (rw_J ty) kx zs sc_199 := sm_199 hO c181
  have c200 : se_Met ty se_tt (rw_J ty) kx zs sc_200 := sm_200 hO
  have c201 : se_Met ty se_tt (rw_J ty) kx zs sc_201 := sm_201 hO c183 c200
  have c202 : se_Met ty se_tt (rw_J ty) kx zs sc_202 := sm_202 hO c182 c199 c201
  have c203 : se_Met ty se_tt (rw_J ty) kx zs sc_203 := sm_203 hO c201
  have c204 : se_Met ty se_tt (rw_J ty) kx zs sc_204 := sm_204 hO c182 c199 c203
  have c205 : se_Met ty se_tt (rw_J ty) kx zs sc_205 := sm_205 hO c203
  have c206 : se_Met ty se_tt (rw_J ty) kx zs sc_206 := sm_206 hO c182 c199 c205
  have c207 : se_Met ty se_tt (rw_J ty) kx zs sc_207 := sm_207 hO
  have c208 : se_Met ty se_tt (rw_J ty) kx zs sc_208 := sm_208 hO
  have c209 : se_Met ty se_tt (rw_J ty) kx zs sc_209 := sm_209 hO c182 c183 c197 c199 c205
  have c210 : se_Met ty se_tt (rw_J ty) kx zs sc_210 := sm_210 hO
  have c211 : se_Met ty se_tt (rw_J ty) kx zs sc_211 := sm_211 hO c180 c210
  have c212 : se_Met ty se_tt (rw_J ty) kx zs sc_212 := sm_212 hO c197
  have c213 : se_Met ty se_tt (rw_J ty) kx zs sc_213 := sm_213 hO c182 c183 c210 c212
  have c214 : se_Met ty se_tt (rw_J ty) kx zs sc_214 := sm_214 hO
  have c215 : se_Met ty se_tt (rw_J ty) kx zs sc_215 := sm_215 hO h1h c182 c183 c197 c212
  have c216 : se_Met ty se_tt (rw_J ty) kx zs sc_216 := sm_216 hO c215
  have c217 : se_Met ty se_tt (rw_J ty) kx zs sc_217 := sm_217 hO
  have c218 : se_Met ty se_tt (rw_J ty) kx zs sc_218 := sm_218 hO c217
  have c219 : se_Met ty se_tt (rw_J ty) kx zs sc_219 := sm_219 hO c209 c211 c213 c214 c216 c218
  have c220 : se_Met ty se_tt (rw_J ty) kx zs sc_220 := sm_220 hO c209 c211 c213 c214 c216 c218
  have c221 : se_Met ty se_tt (rw_J ty) kx zs sc_221 := sm_221 hO
  have c222 : se_Met ty se_tt (rw_J ty) kx zs sc_222 := sm_222 hO
  have c223 : se_Met ty se_tt (rw_J ty) kx zs sc_223 := sm_223 hO c182 c183 c221 c222
  have c224 : se_Met ty se_tt (rw_J ty) kx zs sc_224 := sm_224 hO
  have c229 : se_Met ty se_tt (rw_J ty) kx zs sc_229 := sm_229 hO c182 c183 c197
  have c230 : se_Met ty se_tt (rw_J ty) kx zs sc_230 := sm_230 hO
  have c231 : se_Met ty se_tt (rw_J ty) kx zs sc_231 := sm_231 hO c182 c183 c230
  have c232 : se_Met ty se_tt (rw_J ty) kx zs sc_232 := sm_232 hO c221 c222
  have c233 : se_Met ty se_tt (rw_J ty) kx zs sc_233 := sm_233 hO c190
  have c234 : se_Met ty se_tt (rw_J ty) kx zs sc_234 := sm_234 hO h4h c182 c199 c203 c232 c233
  have c235 : se_Met ty se_tt (rw_J ty) kx zs sc_235 := sm_235 hO c182 c183 c192 c197 c230 c234
  have c236 : se_Met ty se_tt (rw_J ty) kx zs sc_236 := sm_236 hO c182 c183 c230 c234
  have c237 : se_Met ty se_tt (rw_J ty) kx zs sc_237 := sm_237 hO h4h c182 c183 c230 c232 c233
  have c238 : se_Met ty se_tt (rw_J ty) kx zs sc_238 := sm_238 hO h4h c182 c183 c190 c230 c232
  have c239 : se_Met ty se_tt (rw_J ty) kx zs sc_239 := sm_239 hO
  have c240 : se_Met ty se_tt (rw_J ty) kx zs sc_240 := sm_240 hO c182 c183 c199 c205 c239
  have c241 : se_Met ty se_tt (rw_J ty) kx zs sc_241 := sm_241 hO c205
  have c242 : se_Met ty se_tt (rw_J ty) kx zs sc_242 := sm_242 hO c182 c199 c239 c241
  have c243 : se_Met ty se_tt (rw_J ty) kx zs sc_243 := sm_243 hO c182 c199 c203 c239
  have c244 : se_Met ty se_tt (rw_J ty) kx zs sc_244 := sm_244 hO
  have c245 : se_Met ty se_tt (rw_J ty) kx zs sc_245 := sm_245 hO
  have c246 : se_Met ty se_tt (rw_J ty) kx zs sc_246 := sm_246 hO c182 c183 c217 c244 c245
  have c247 : se_Met ty se_tt (rw_J ty) kx zs sc_247 := sm_247 hO c182 c183 c217 c244 c245
  have c249 : se_Met ty se_tt (rw_J ty) kx zs sc_249 := sm_249 hO
  have c251 : se_Met ty se_tt (rw_J ty) kx zs sc_251 := sm_251 hO c182 c239
  have r0_0 : se_Met ty se_tt (rw_J ty) kx zs sc_r0_0 := sm_r0_0 hO
  have r0_8 : se_Met ty se_tt (rw_J ty) kx zs sc_r0_8 := sm_r0_8 hO
  have r0_16 : se_Met ty se_tt (rw_J ty) kx zs sc_r0_16 := sm_r0_16 hO
  have r0_32 : se_Met ty se_tt (rw_J ty) kx zs sc_r0_32 := sm_r0_32 hO
  have r1_0 : se_Met ty se_tt (rw_J ty) kx zs sc_r1_0 := sm_r1_0 hO
  have r1_8 : se_Met ty se_tt (rw_J ty) kx zs sc_r1_8 := sm_r1_8 hO
  have r1_16 : se_Met ty se_tt (rw_J ty) kx zs sc_r1_16 := sm_r1_16 hO
  have r1_32 : se_Met ty se_tt (rw_J ty) kx zs sc_r1_32 := sm_r1_32 hO
  have r2_0 : se_Met ty se_tt (rw_J ty) kx zs sc_r2_0 := sm_r2_0 hO
  have r2_8 : se_Met ty se_tt (rw_J ty) kx zs sc_r2_8 := sm_r2_8 hO
  have r2_16 : se_Met ty se_tt (rw_J ty) kx zs sc_r2_16 := sm_r2_16 hO
  have r2_32 : se_Met ty se_tt (rw_J ty) kx zs sc_r2_32 := sm_r2_32 hO
  have r3_0 : se_Met ty se_tt (rw_J ty) kx zs sc_r3_0 := sm_r3_0 hO
  have r3_8 : se_Met ty se_tt (rw_J ty) kx zs sc_r3_8 := sm_r3_8 hO
  have r3_16 : se_Met ty se_tt (rw_J ty) kx zs sc_r3_16 := sm_r3_16 hO
  have r3_32 : se_Met ty se_tt (rw_J ty) kx zs sc_r3_32 := sm_r3_32 hO
  have q0 : se_Met ty se_tt (rw_J ty) kx zs sc_q0 := sm_q0 hO
  have w0 : se_Met ty se_tt (rw_J ty) kx zs sc_w0 := sm_w0 hO
  have q1 : se_Met ty se_tt (rw_J ty) kx zs sc_q1 := sm_q1 hO
  have w1 : se_Met ty se_tt (rw_J ty) kx zs sc_w1 := sm_w1 hO
  have q2 : se_Met ty se_tt (rw_J ty) kx zs sc_q2 := sm_q2 hO
  have w2 : se_Met ty se_tt (rw_J ty) kx zs sc_w2 := sm_w2 hO
  have q3 : se_Met ty se_tt (rw_J ty) kx zs sc_q3 := sm_q3 hO r0_0
  have w3 : se_Met ty se_tt (rw_J ty) kx zs sc_w3 := sm_w3 hO
  have q4 : se_Met ty se_tt (rw_J ty) kx zs sc_q4 := sm_q4 hO r1_0
  have w4 : se_Met ty se_tt (rw_J ty) kx zs sc_w4 := sm_w4 hO
  have q5 : se_Met ty se_tt (rw_J ty) kx zs sc_q5 := sm_q5 hO r2_0
  have w5 : se_Met ty se_tt (rw_J ty) kx zs sc_w5 := sm_w5 hO
  have q6 : se_Met ty se_tt (rw_J ty) kx zs sc_q6 := sm_q6 hO r3_0
  have w6 : se_Met ty se_tt (rw_J ty) kx zs sc_w6 := sm_w6 hO
  have q7 : se_Met ty se_tt (rw_J ty) kx zs sc_q7 := sm_q7 hO
  have w7 : se_Met ty se_tt (rw_J ty) kx zs sc_w7 := sm_w7 hO
  have q8 : se_Met ty se_tt (rw_J ty) kx zs sc_q8 := sm_q8 hO
  have w8 : se_Met ty se_tt (rw_J ty) kx zs sc_w8 := sm_w8 hO
  have q9 : se_Met ty se_tt (rw_J ty) kx zs sc_q9 := sm_q9 hO
  have w9 : se_Met ty se_tt (rw_J ty) kx zs sc_w9 := sm_w9 hO
  have q10 : se_Met ty se_tt (rw_J ty) kx zs sc_q10 := sm_q10 hO r0_8
  have w10 : se_Met ty se_tt (rw_J ty) kx zs sc_w10 := sm_w10 hO
  have q11 : se_Met ty se_tt (rw_J ty) kx zs sc_q11 := sm_q11 hO r1_8
  have w11 : se_Met ty se_tt (rw_J ty) kx zs sc_w11 := sm_w11 hO
  have q12 : se_Met ty se_tt (rw_J ty) kx zs sc_q12 := sm_q12 hO r2_8
  have w12 : se_Met ty se_tt (rw_J ty) kx zs sc_w12 := sm_w12 hO
  have q13 : se_Met ty se_tt (rw_J ty) kx zs sc_q13 := sm_q13 hO r3_8
  have w13 : se_Met ty se_tt (rw_J ty) kx zs sc_w13 := sm_w13 hO
  have q14 : se_Met ty se_tt (rw_J ty) kx zs sc_q14 := sm_q14 hO
  have w14 : se_Met ty se_tt (rw_J ty) kx zs sc_w14 := sm_w14 hO
  have q15 : se_Met ty se_tt (rw_J ty) kx zs sc_q15 := sm_q15 hO
  have w15 : se_Met ty se_tt (rw_J ty) kx zs sc_w15 := sm_w15 hO
  have q16 : se_Met ty se_tt (rw_J ty) kx zs sc_q16 := sm_q16 hO
  have w16 : se_Met ty se_tt (rw_J ty) kx zs sc_w16 := sm_w16 hO
  have q17 : se_Met ty se_tt (rw_J ty) kx zs sc_q17 := sm_q17 hO r0_16
  have w17 : se_Met ty se_tt (rw_J ty) kx zs sc_w17 := sm_w17 hO
  have q18 : se_Met ty se_tt (rw_J ty) kx zs sc_q18 := sm_q18 hO r1_16
  have w18 : se_Met ty se_tt (rw_J ty) kx zs sc_w18 := sm_w18 hO
  have q19 : se_Met ty se_tt (rw_J ty) kx zs sc_q19 := sm_q19 hO r2_16
  have w19 : se_Met ty se_tt (rw_J ty) kx zs sc_w19 := sm_w19 hO
  have q20 : se_Met ty se_tt (rw_J ty) kx zs sc_q20 := sm_q20 hO r3_16
  have w20 : se_Met ty se_tt (rw_J ty) kx zs sc_w20 := sm_w20 hO
  have q21 : se_Met ty se_tt (rw_J ty) kx zs sc_q21 := sm_q21 hO
  have w21 : se_Met ty se_tt (rw_J ty) kx zs sc_w21 := sm_w21 hO
  have q22 : se_Met ty se_tt (rw_J ty) kx zs sc_q22 := sm_q22 hO
  have w22 : se_Met ty se_tt (rw_J ty) kx zs sc_w22 := sm_w22 hO
  have q23 : se_Met ty se_tt (rw_J ty) kx zs sc_q23 := sm_q23 hO
  have w23 : se_Met ty se_tt (rw_J ty) kx zs sc_w23 := sm_w23 hO
  have q24 : se_Met ty se_tt (rw_J ty) kx zs sc_q24 := sm_q24 hO r0_32
  have w24 : se_Met ty se_tt (rw_J ty) kx zs sc_w24 := sm_w24 hO
  have q25 : se_Met ty se_tt (rw_J ty) kx zs sc_q25 := sm_q25 hO r1_32
  have w25 : se_Met ty se_tt (rw_J ty) kx zs sc_w25 := sm_w25 hO
  have q26 : se_Met ty se_tt (rw_J ty) kx zs sc_q26 := sm_q26 hO r2_32
  have w26 : se_Met ty se_tt (rw_J ty) kx zs sc_w26 := sm_w26 hO
  have q27 : se_Met ty se_tt (rw_J ty) kx zs sc_q27 := sm_q27 hO r3_32
  have w27 : se_Met ty se_tt (rw_J ty) kx zs sc_w27 := sm_w27 hO
  have q28 : se_Met ty se_tt (rw_J ty) kx zs sc_q28 := sm_q28 hO
  have w28 : se_Met ty se_tt (rw_J ty) kx zs sc_w28 := sm_w28 hO
  have q29 : se_Met ty se_tt (rw_J ty) kx zs sc_q29 := sm_q29 hO
  have w29 : se_Met ty se_tt (rw_J ty) kx zs sc_w29 := sm_w29 hO
  have q30 : se_Met ty se_tt (rw_J ty) kx zs sc_q30 := sm_q30 hO
  have w30 : se_Met ty se_tt (rw_J ty) kx zs sc_w30 := sm_w30 hO
  have q31 : se_Met ty se_tt (rw_J ty) kx zs sc_q31 := sm_q31 hO
  have w31 : se_Met ty se_tt (rw_J ty) kx zs sc_w31 := sm_w31 hO
  have q32 : se_Met ty se_tt (rw_J ty) kx zs sc_q32 := sm_q32 hO
  have w32 : se_Met ty se_tt (rw_J ty) kx zs sc_w32 := sm_w32 hO
  have q33 : se_Met ty se_tt (rw_J ty) kx zs sc_q33 := sm_q33 hO
  have w33 : se_Met ty se_tt (rw_J ty) kx zs sc_w33 := sm_w33 hO
  have q34 : se_Met ty se_tt (rw_J ty) kx zs sc_q34 := sm_q34 hO
  have w34 : se_Met ty se_tt (rw_J ty) kx zs sc_w34 := sm_w34 hO
  have q35 : se_Met ty se_tt (rw_J ty) kx zs sc_q35 := sm_q35 hO
  have w35 : se_Met ty se_tt (rw_J ty) kx zs sc_w35 := sm_w35 hO
  have q36 : se_Met ty se_tt (rw_J ty) kx zs sc_q36 := sm_q36 hO
  have w36 : se_Met ty se_tt (rw_J ty) kx zs sc_w36 := sm_w36 hO
  have q37 : se_Met ty se_tt (rw_J ty) kx zs sc_q37 := sm_q37 hO
  have w37 : se_Met ty se_tt (rw_J ty) kx zs sc_w37 := sm_w37 hO
  have q38 : se_Met ty se_tt (rw_J ty) kx zs sc_q38 := sm_q38 hO
  have w38 : se_Met ty se_tt (rw_J ty) kx zs sc_w38 := sm_w38 hO
  have q39 : se_Met ty se_tt (rw_J ty) kx zs sc_q39 := sm_q39 hO
  have w39 : se_Met ty se_tt (rw_J ty) kx zs sc_w39 := sm_w39 hO
  have q40 : se_Met ty se_tt (rw_J ty) kx zs sc_q40 := sm_q40 hO
  have w40 : se_Met ty se_tt (rw_J ty) kx zs sc_w40 := sm_w40 hO
  have q41 : se_Met ty se_tt (rw_J ty) kx zs sc_q41 := sm_q41 hO
  have w41 : se_Met ty se_tt (rw_J ty) kx zs sc_w41 := sm_w41 hO
  have q42 : se_Met ty se_tt (rw_J ty) kx zs sc_q42 := sm_q42 hO
  have w42 : se_Met ty se_tt (rw_J ty) kx zs sc_w42 := sm_w42 hO
  have q43 : se_Met ty se_tt (rw_J ty) kx zs sc_q43 := sm_q43 hO
  have w43 : se_Met ty se_tt (rw_J ty) kx zs sc_w43 := sm_w43 hO
  have q44 : se_Met ty se_tt (rw_J ty) kx zs sc_q44 := sm_q44 hO
  have w44 : se_Met ty se_tt (rw_J ty) kx zs sc_w44 := sm_w44 hO
  have q45 : se_Met ty se_tt (rw_J ty) kx zs sc_q45 := sm_q45 hO
  have w45 : se_Met ty se_tt (rw_J ty) kx zs sc_w45 := sm_w45 hO
  have q46 : se_Met ty se_tt (rw_J ty) kx zs sc_q46 := sm_q46 hO
  have w46 : se_Met ty se_tt (rw_J ty) kx zs sc_w46 := sm_w46 hO
  have q47 : se_Met ty se_tt (rw_J ty) kx zs sc_q47 := sm_q47 hO
  have w47 : se_Met ty se_tt (rw_J ty) kx zs sc_w47 := sm_w47 hO
  have q48 : se_Met ty se_tt (rw_J ty) kx zs sc_q48 := sm_q48 hO
  have w48 : se_Met ty se_tt (rw_J ty) kx zs sc_w48 := sm_w48 hO
  have q49 : se_Met ty se_tt (rw_J ty) kx zs sc_q49 := sm_q49 hO
  have w49 : se_Met ty se_tt (rw_J ty) kx zs sc_w49 := sm_w49 hO
  have q50 : se_Met ty se_tt (rw_J ty) kx zs sc_q50 := sm_q50 hO
  have w50 : se_Met ty se_tt (rw_J ty) kx zs sc_w50 := sm_w50 hO
  have q51 : se_Met ty se_tt (rw_J ty) kx zs sc_q51 := sm_q51 hO
  have w51 : se_Met ty se_tt (rw_J ty) kx zs sc_w51 := sm_w51 hO
  have q52 : se_Met ty se_tt (rw_J ty) kx zs sc_q52 := sm_q52 hO
  have w52 : se_Met ty se_tt (rw_J ty) kx zs sc_w52 := sm_w52 hO
  have q53 : se_Met ty se_tt (rw_J ty) kx zs sc_q53 := sm_q53 hO
  have w53 : se_Met ty se_tt (rw_J ty) kx zs sc_w53 := sm_w53 hO
  have q54 : se_Met ty se_tt (rw_J ty) kx zs sc_q54 := sm_q54 hO
  have w54 : se_Met ty se_tt (rw_J ty) kx zs sc_w54 := sm_w54 hO
  have q55 : se_Met ty se_tt (rw_J ty) kx zs sc_q55 := sm_q55 hO
  have w55 : se_Met ty se_tt (rw_J ty) kx zs sc_w55 := sm_w55 hO
  have q56 : se_Met ty se_tt (rw_J ty) kx zs sc_q56 := sm_q56 hO
  have w56 : se_Met ty se_tt (rw_J ty) kx zs sc_w56 := sm_w56 hO
  have q57 : se_Met ty se_tt (rw_J ty) kx zs sc_q57 := sm_q57 hO
  have w57 : se_Met ty se_tt (rw_J ty) kx zs sc_w57 := sm_w57 hO
  have q58 : se_Met ty se_tt (rw_J ty) kx zs sc_q58 := sm_q58 hO
  have w58 : se_Met ty se_tt (rw_J ty) kx zs sc_w58 := sm_w58 hO
  have q59 : se_Met ty se_tt (rw_J ty) kx zs sc_q59 := sm_q59 hO
  have w59 : se_Met ty se_tt (rw_J ty) kx zs sc_w59 := sm_w59 hO
  have q60 : se_Met ty se_tt (rw_J ty) kx zs sc_q60 := sm_q60 hO
  have w60 : se_Met ty se_tt (rw_J ty) kx zs sc_w60 := sm_w60 hO
  have q61 : se_Met ty se_tt (rw_J ty) kx zs sc_q61 := sm_q61 hO
  have w61 : se_Met ty se_tt (rw_J ty) kx zs sc_w61 := sm_w61 hO
  have q62 : se_Met ty se_tt (rw_J ty) kx zs sc_q62 := sm_q62 hO
  have w62 : se_Met ty se_tt (rw_J ty) kx zs sc_w62 := sm_w62 hO
  have q63 : se_Met ty se_tt (rw_J ty) kx zs sc_q63 := sm_q63 hO
  have w63 : se_Met ty se_tt (rw_J ty) kx zs sc_w63 := sm_w63 hO
  have q64 : se_Met ty se_tt (rw_J ty) kx zs sc_q64 := sm_q64 hO
  have w64 : se_Met ty se_tt (rw_J ty) kx zs sc_w64 := sm_w64 hO
  have q65 : se_Met ty se_tt (rw_J ty) kx zs sc_q65 := sm_q65 hO
  have w65 : se_Met ty se_tt (rw_J ty) kx zs sc_w65 := sm_w65 hO
  have q66 : se_Met ty se_tt (rw_J ty) kx zs sc_q66 := sm_q66 hO
  have w66 : se_Met ty se_tt (rw_J ty) kx zs sc_w66 := sm_w66 hO
  have q67 : se_Met ty se_tt (rw_J ty) kx zs sc_q67 := sm_q67 hO
  have w67 : se_Met ty se_tt (rw_J ty) kx zs sc_w67 := sm_w67 hO
  have q68 : se_Met ty se_tt (rw_J ty) kx zs sc_q68 := sm_q68 hO
  have w68 : se_Met ty se_tt (rw_J ty) kx zs sc_w68 := sm_w68 hO
  have q69 : se_Met ty se_tt (rw_J ty) kx zs sc_q69 := sm_q69 hO
  have w69 : se_Met ty se_tt (rw_J ty) kx zs sc_w69 := sm_w69 hO
  have q70 : se_Met ty se_tt (rw_J ty) kx zs sc_q70 := sm_q70 hO
  have w70 : se_Met ty se_tt (rw_J ty) kx zs sc_w70 := sm_w70 hO
  have q71 : se_Met ty se_tt (rw_J ty) kx zs sc_q71 := sm_q71 hO
  have w71 : se_Met ty se_tt (rw_J ty) kx zs sc_w71 := sm_w71 hO
  have q72 : se_Met ty se_tt (rw_J ty) kx zs sc_q72 := sm_q72 hO
  have w72 : se_Met ty se_tt (rw_J ty) kx zs sc_w72 := sm_w72 hO
  have q73 : se_Met ty se_tt (rw_J ty) kx zs sc_q73 := sm_q73 hO
  have w73 : se_Met ty se_tt (rw_J ty) kx zs sc_w73 := sm_w73 hO
  have q74 : se_Met ty se_tt (rw_J ty) kx zs sc_q74 := sm_q74 hO
  have w74 : se_Met ty se_tt (rw_J ty) kx zs sc_w74 := sm_w74 hO
  have q75 : se_Met ty se_tt (rw_J ty) kx zs sc_q75 := sm_q75 hO
  have w75 : se_Met ty se_tt (rw_J ty) kx zs sc_w75 := sm_w75 hO
  have q76 : se_Met ty se_tt (rw_J ty) kx zs sc_q76 := sm_q76 hO
  have w76 : se_Met ty se_tt (rw_J ty) kx zs sc_w76 := sm_w76 hO
  have q77 : se_Met ty se_tt (rw_J ty) kx zs sc_q77 := sm_q77 hO
  have w77 : se_Met ty se_tt (rw_J ty) kx zs sc_w77 := sm_w77 hO
  have q78 : se_Met ty se_tt (rw_J ty) kx zs sc_q78 := sm_q78 hO
  have w78 : se_Met ty se_tt (rw_J ty) kx zs sc_w78 := sm_w78 hO
  have q79 : se_Met ty se_tt (rw_J ty) kx zs sc_q79 := sm_q79 hO
  have w79 : se_Met ty se_tt (rw_J ty) kx zs sc_w79 := sm_w79 hO
  have q80 : se_Met ty se_tt (rw_J ty) kx zs sc_q80 := sm_q80 hO
  have w80 : se_Met ty se_tt (rw_J ty) kx zs sc_w80 := sm_w80 hO
  have q81 : se_Met ty se_tt (rw_J ty) kx zs sc_q81 := sm_q81 hO
  have w81 : se_Met ty se_tt (rw_J ty) kx zs sc_w81 := sm_w81 hO
  have q82 : se_Met ty se_tt (rw_J ty) kx zs sc_q82 := sm_q82 hO
  have w82 : se_Met ty se_tt (rw_J ty) kx zs sc_w82 := sm_w82 hO
  have q83 : se_Met ty se_tt (rw_J ty) kx zs sc_q83 := sm_q83 hO
  have w83 : se_Met ty se_tt (rw_J ty) kx zs sc_w83 := sm_w83 hO
  have q84 : se_Met ty se_tt (rw_J ty) kx zs sc_q84 := sm_q84 hO
  have w84 : se_Met ty se_tt (rw_J ty) kx zs sc_w84 := sm_w84 hO
  have q85 : se_Met ty se_tt (rw_J ty) kx zs sc_q85 := sm_q85 hO
  have w85 : se_Met ty se_tt (rw_J ty) kx zs sc_w85 := sm_w85 hO
  have q86 : se_Met ty se_tt (rw_J ty) kx zs sc_q86 := sm_q86 hO
  have w86 : se_Met ty se_tt (rw_J ty) kx zs sc_w86 := sm_w86 hO
  have q87 : se_Met ty se_tt (rw_J ty) kx zs sc_q87 := sm_q87 hO
  have w87 : se_Met ty se_tt (rw_J ty) kx zs sc_w87 := sm_w87 hO
  have q88 : se_Met ty se_tt (rw_J ty) kx zs sc_q88 := sm_q88 hO
  have w88 : se_Met ty se_tt (rw_J ty) kx zs sc_w88 := sm_w88 hO
  have q89 : se_Met ty se_tt (rw_J ty) kx zs sc_q89 := sm_q89 hO
  have w89 : se_Met ty se_tt (rw_J ty) kx zs sc_w89 := sm_w89 hO
  have q90 : se_Met ty se_tt (rw_J ty) kx zs sc_q90 := sm_q90 hO
  have w90 : se_Met ty se_tt (rw_J ty) kx zs sc_w90 := sm_w90 hO
  have q91 : se_Met ty se_tt (rw_J ty) kx zs sc_q91 := sm_q91 hO
  have w91 : se_Met ty se_tt (rw_J ty) kx zs sc_w91 := sm_w91 hO
  have q92 : se_Met ty se_tt (rw_J ty) kx zs sc_q92 := sm_q92 hO
  have w92 : se_Met ty se_tt (rw_J ty) kx zs sc_w92 := sm_w92 hO
  have q93 : se_Met ty se_tt (rw_J ty) kx zs sc_q93 := sm_q93 hO
  have w93 : se_Met ty se_tt (rw_J ty) kx zs sc_w93 := sm_w93 hO
  have q94 : se_Met ty se_tt (rw_J ty) kx zs sc_q94 := sm_q94 hO
  have w94 : se_Met ty se_tt (rw_J ty) kx zs sc_w94 := sm_w94 hO
  have q95 : se_Met ty se_tt (rw_J ty) kx zs sc_q95 := sm_q95 hO
  have w95 : se_Met ty se_tt (rw_J ty) kx zs sc_w95 := sm_w95 hO
  have q96 : se_Met ty se_tt (rw_J ty) kx zs sc_q96 := sm_q96 hO
  have w96 : se_Met ty se_tt (rw_J ty) kx zs sc_w96 := sm_w96 hO
  have q97 : se_Met ty se_tt (rw_J ty) kx zs sc_q97 := sm_q97 hO
  have w97 : se_Met ty se_tt (rw_J ty) kx zs sc_w97 := sm_w97 hO
  have q98 : se_Met ty se_tt (rw_J ty) kx zs sc_q98 := sm_q98 hO
  have w98 : se_Met ty se_tt (rw_J ty) kx zs sc_w98 := sm_w98 hO
  have q99 : se_Met ty se_tt (rw_J ty) kx zs sc_q99 := sm_q99 hO
  have w99 : se_Met ty se_tt (rw_J ty) kx zs sc_w99 := sm_w99 hO
  have q100 : se_Met ty se_tt (rw_J ty) kx zs sc_q100 := sm_q100 hO
  have w100 : se_Met ty se_tt (rw_J ty) kx zs sc_w100 := sm_w100 hO
  have q101 : se_Met ty se_tt (rw_J ty) kx zs sc_q101 := sm_q101 hO
  have w101 : se_Met ty se_tt (rw_J ty) kx zs sc_w101 := sm_w101 hO
  have q102 : se_Met ty se_tt (rw_J ty) kx zs sc_q102 := sm_q102 hO
  have w102 : se_Met ty se_tt (rw_J ty) kx zs sc_w102 := sm_w102 hO
  have q103 : se_Met ty se_tt (rw_J ty) kx zs sc_q103 := sm_q103 hO
  have w103 : se_Met ty se_tt (rw_J ty) kx zs sc_w103 := sm_w103 hO
  have q104 : se_Met ty se_tt (rw_J ty) kx zs sc_q104 := sm_q104 hO
  have w104 : se_Met ty se_tt (rw_J ty) kx zs sc_w104 := sm_w104 hO
  have q105 : se_Met ty se_tt (rw_J ty) kx zs sc_q105 := sm_q105 hO
  have w105 : se_Met ty se_tt (rw_J ty) kx zs sc_w105 := sm_w105 hO
  have q106 : se_Met ty se_tt (rw_J ty) kx zs sc_q106 := sm_q106 hO
  have w106 : se_Met ty se_tt (rw_J ty) kx zs sc_w106 := sm_w106 hO
  have q107 : se_Met ty se_tt (rw_J ty) kx zs sc_q107 := sm_q107 hO
  have w107 : se_Met ty se_tt (rw_J ty) kx zs sc_w107 := sm_w107 hO
  have q108 : se_Met ty se_tt (rw_J ty) kx zs sc_q108 := sm_q108 hO
  have w108 : se_Met ty se_tt (rw_J ty) kx zs sc_w108 := sm_w108 hO
  have q109 : se_Met ty se_tt (rw_J ty) kx zs sc_q109 := sm_q109 hO
  have w109 : se_Met ty se_tt (rw_J ty) kx zs sc_w109 := sm_w109 hO
  have q110 : se_Met ty se_tt (rw_J ty) kx zs sc_q110 := sm_q110 hO
  have w110 : se_Met ty se_tt (rw_J ty) kx zs sc_w110 := sm_w110 hO
  have q111 : se_Met ty se_tt (rw_J ty) kx zs sc_q111 := sm_q111 hO
  have w111 : se_Met ty se_tt (rw_J ty) kx zs sc_w111 := sm_w111 hO
  have q112 : se_Met ty se_tt (rw_J ty) kx zs sc_q112 := sm_q112 hO
  have w112 : se_Met ty se_tt (rw_J ty) kx zs sc_w112 := sm_w112 hO
  have q113 : se_Met ty se_tt (rw_J ty) kx zs sc_q113 := sm_q113 hO
  have w113 : se_Met ty se_tt (rw_J ty) kx zs sc_w113 := sm_w113 hO
  have q114 : se_Met ty se_tt (rw_J ty) kx zs sc_q114 := sm_q114 hO
  have w114 : se_Met ty se_tt (rw_J ty) kx zs sc_w114 := sm_w114 hO
  have q115 : se_Met ty se_tt (rw_J ty) kx zs sc_q115 := sm_q115 hO
  have w115 : se_Met ty se_tt (rw_J ty) kx zs sc_w115 := sm_w115 hO
  have q116 : se_Met ty se_tt (rw_J ty) kx zs sc_q116 := sm_q116 hO
  have w116 : se_Met ty se_tt (rw_J ty) kx zs sc_w116 := sm_w116 hO
  have q117 : se_Met ty se_tt (rw_J ty) kx zs sc_q117 := sm_q117 hO
  have w117 : se_Met ty se_tt (rw_J ty) kx zs sc_w117 := sm_w117 hO
  have q118 : se_Met ty se_tt (rw_J ty) kx zs sc_q118 := sm_q118 hO
  have w118 : se_Met ty se_tt (rw_J ty) kx zs sc_w118 := sm_w118 hO
  have q119 : se_Met ty se_tt (rw_J ty) kx zs sc_q119 := sm_q119 hO
  have w119 : se_Met ty se_tt (rw_J ty) kx zs sc_w119 := sm_w119 hO
  have q120 : se_Met ty se_tt (rw_J ty) kx zs sc_q120 := sm_q120 hO
  have w120 : se_Met ty se_tt (rw_J ty) kx zs sc_w120 := sm_w120 hO
  have q121 : se_Met ty se_tt (rw_J ty) kx zs sc_q121 := sm_q121 hO
  have w121 : se_Met ty se_tt (rw_J ty) kx zs sc_w121 := sm_w121 hO
  have q122 : se_Met ty se_tt (rw_J ty) kx zs sc_q122 := sm_q122 hO
  have w122 : se_Met ty se_tt (rw_J ty) kx zs sc_w122 := sm_w122 hO
  have q123 : se_Met ty se_tt (rw_J ty) kx zs sc_q123 := sm_q123 hO
  have w123 : se_Met ty se_tt (rw_J ty) kx zs sc_w123 := sm_w123 hO
  have q124 : se_Met ty se_tt (rw_J ty) kx zs sc_q124 := sm_q124 hO
  have w124 : se_Met ty se_tt (rw_J ty) kx zs sc_w124 := sm_w124 hO
  have q125 : se_Met ty se_tt (rw_J ty) kx zs sc_q125 := sm_q125 hO
  have w125 : se_Met ty se_tt (rw_J ty) kx zs sc_w125 := sm_w125 hO
  have q126 : se_Met ty se_tt (rw_J ty) kx zs sc_q126 := sm_q126 hO
  have w126 : se_Met ty se_tt (rw_J ty) kx zs sc_w126 := sm_w126 hO
  have q127 : se_Met ty se_tt (rw_J ty) kx zs sc_q127 := sm_q127 hO
  have w127 : se_Met ty se_tt (rw_J ty) kx zs sc_w127 := sm_w127 hO
  have q128 : se_Met ty se_tt (rw_J ty) kx zs sc_q128 := sm_q128 hO
  have w128 : se_Met ty se_tt (rw_J ty) kx zs sc_w128 := sm_w128 hO
  have q129 : se_Met ty se_tt (rw_J ty) kx zs sc_q129 := sm_q129 hO
  have w129 : se_Met ty se_tt (rw_J ty) kx zs sc_w129 := sm_w129 hO
  have q130 : se_Met ty se_tt (rw_J ty) kx zs sc_q130 := sm_q130 hO
  have w130 : se_Met ty se_tt (rw_J ty) kx zs sc_w130 := sm_w130 hO
  have q131 : se_Met ty se_tt (rw_J ty) kx zs sc_q131 := sm_q131 hO
  have w131 : se_Met ty se_tt (rw_J ty) kx zs sc_w131 := sm_w131 hO
  have q132 : se_Met ty se_tt (rw_J ty) kx zs sc_q132 := sm_q132 hO
  have w132 : se_Met ty se_tt (rw_J ty) kx zs sc_w132 := sm_w132 hO
  have q133 : se_Met ty se_tt (rw_J ty) kx zs sc_q133 := sm_q133 hO
  have w133 : se_Met ty se_tt (rw_J ty) kx zs sc_w133 := sm_w133 hO
  have q134 : se_Met ty se_tt (rw_J ty) kx zs sc_q134 := sm_q134 hO
  have w134 : se_Met ty se_tt (rw_J ty) kx zs sc_w134 := sm_w134 hO
  have q135 : se_Met ty se_tt (rw_J ty) kx zs sc_q135 := sm_q135 hO
  have w135 : se_Met ty se_tt (rw_J ty) kx zs sc_w135 := sm_w135 hO
  have q136 : se_Met ty se_tt (rw_J ty) kx zs sc_q136 := sm_q136 hO
  have w136 : se_Met ty se_tt (rw_J ty) kx zs sc_w136 := sm_w136 hO
  have q137 : se_Met ty se_tt (rw_J ty) kx zs sc_q137 := sm_q137 hO
  have w137 : se_Met ty se_tt (rw_J ty) kx zs sc_w137 := sm_w137 hO
  have q138 : se_Met ty se_tt (rw_J ty) kx zs sc_q138 := sm_q138 hO
  have w138 : se_Met ty se_tt (rw_J ty) kx zs sc_w138 := sm_w138 hO
  have q139 : se_Met ty se_tt (rw_J ty) kx zs sc_q139 := sm_q139 hO
  have w139 : se_Met ty se_tt (rw_J ty) kx zs sc_w139 := sm_w139 hO
  have q140 : se_Met ty se_tt (rw_J ty) kx zs sc_q140 := sm_q140 hO
  have w140 : se_Met ty se_tt (rw_J ty) kx zs sc_w140 := sm_w140 hO
  have q141 : se_Met ty se_tt (rw_J ty) kx zs sc_q141 := sm_q141 hO
  have w141 : se_Met ty se_tt (rw_J ty) kx zs sc_w141 := sm_w141 hO
  have q142 : se_Met ty se_tt (rw_J ty) kx zs sc_q142 := sm_q142 hO
  have w142 : se_Met ty se_tt (rw_J ty) kx zs sc_w142 := sm_w142 hO
  have q143 : se_Met ty se_tt (rw_J ty) kx zs sc_q143 := sm_q143 hO
  have w143 : se_Met ty se_tt (rw_J ty) kx zs sc_w143 := sm_w143 hO
  have q144 : se_Met ty se_tt (rw_J ty) kx zs sc_q144 := sm_q144 hO
  have w144 : se_Met ty se_tt (rw_J ty) kx zs sc_w144 := sm_w144 hO
  have q145 : se_Met ty se_tt (rw_J ty) kx zs sc_q145 := sm_q145 hO
  have w145 : se_Met ty se_tt (rw_J ty) kx zs sc_w145 := sm_w145 hO
  have q146 : se_Met ty se_tt (rw_J ty) kx zs sc_q146 := sm_q146 hO
  have w146 : se_Met ty se_tt (rw_J ty) kx zs sc_w146 := sm_w146 hO
  have q147 : se_Met ty se_tt (rw_J ty) kx zs sc_q147 := sm_q147 hO
  have w147 : se_Met ty se_tt (rw_J ty) kx zs sc_w147 := sm_w147 hO
  have q148 : se_Met ty se_tt (rw_J ty) kx zs sc_q148 := sm_q148 hO
  have w148 : se_Met ty se_tt (rw_J ty) kx zs sc_w148 := sm_w148 hO
  have q149 : se_Met ty se_tt (rw_J ty) kx zs sc_q149 := sm_q149 hO
  have w149 : se_Met ty se_tt (rw_J ty) kx zs sc_w149 := sm_w149 hO
  have q150 : se_Met ty se_tt (rw_J ty) kx zs sc_q150 := sm_q150 hO
  have w150 : se_Met ty se_tt (rw_J ty) kx zs sc_w150 := sm_w150 hO
  have q151 : se_Met ty se_tt (rw_J ty) kx zs sc_q151 := sm_q151 hO
  have w151 : se_Met ty se_tt (rw_J ty) kx zs sc_w151 := sm_w151 hO
  have q152 : se_Met ty se_tt (rw_J ty) kx zs sc_q152 := sm_q152 hO
  have w152 : se_Met ty se_tt (rw_J ty) kx zs sc_w152 := sm_w152 hO
  have q153 : se_Met ty se_tt (rw_J ty) kx zs sc_q153 := sm_q153 hO
  have w153 : se_Met ty se_tt (rw_J ty) kx zs sc_w153 := sm_w153 hO
  have q154 : se_Met ty se_tt (rw_J ty) kx zs sc_q154 := sm_q154 hO
  have w154 : se_Met ty se_tt (rw_J ty) kx zs sc_w154 := sm_w154 hO
  have q155 : se_Met ty se_tt (rw_J ty) kx zs sc_q155 := sm_q155 hO
  have w155 : se_Met ty se_tt (rw_J ty) kx zs sc_w155 := sm_w155 hO
  have q156 : se_Met ty se_tt (rw_J ty) kx zs sc_q156 := sm_q156 hO
  have w156 : se_Met ty se_tt (rw_J ty) kx zs sc_w156 := sm_w156 hO
  have q157 : se_Met ty se_tt (rw_J ty) kx zs sc_q157 := sm_q157 hO
  have w157 : se_Met ty se_tt (rw_J ty) kx zs sc_w157 := sm_w157 hO
  have q158 : se_Met ty se_tt (rw_J ty) kx zs sc_q158 := sm_q158 hO
  have w158 : se_Met ty se_tt (rw_J ty) kx zs sc_w158 := sm_w158 hO
  have q159 : se_Met ty se_tt (rw_J ty) kx zs sc_q159 := sm_q159 hO
  have w159 : se_Met ty se_tt (rw_J ty) kx zs sc_w159 := sm_w159 hO
  have q160 : se_Met ty se_tt (rw_J ty) kx zs sc_q160 := sm_q160 hO
  have w160 : se_Met ty se_tt (rw_J ty) kx zs sc_w160 := sm_w160 hO
  have q161 : se_Met ty se_tt (rw_J ty) kx zs sc_q161 := sm_q161 hO
  have w161 : se_Met ty se_tt (rw_J ty) kx zs sc_w161 := sm_w161 hO
  have q162 : se_Met ty se_tt (rw_J ty) kx zs sc_q162 := sm_q162 hO
  have w162 : se_Met ty se_tt (rw_J ty) kx zs sc_w162 := sm_w162 hO
  have q163 : se_Met ty se_tt (rw_J ty) kx zs sc_q163 := sm_q163 hO
  have w163 : se_Met ty se_tt (rw_J ty) kx zs sc_w163 := sm_w163 hO
  have q164 : se_Met ty se_tt (rw_J ty) kx zs sc_q164 := sm_q164 hO
  have w164 : se_Met ty se_tt (rw_J ty) kx zs sc_w164 := sm_w164 hO
  have q165 : se_Met ty se_tt (rw_J ty) kx zs sc_q165 := sm_q165 hO
  have w165 : se_Met ty se_tt (rw_J ty) kx zs sc_w165 := sm_w165 hO
  have q166 : se_Met ty se_tt (rw_J ty) kx zs sc_q166 := sm_q166 hO
  have w166 : se_Met ty se_tt (rw_J ty) kx zs sc_w166 := sm_w166 hO
  have q167 : se_Met ty se_tt (rw_J ty) kx zs sc_q167 := sm_q167 hO
  have w167 : se_Met ty se_tt (rw_J ty) kx zs sc_w167 := sm_w167 hO
  have q168 : se_Met ty se_tt (rw_J ty) kx zs sc_q168 := sm_q168 hO
  have w168 : se_Met ty se_tt (rw_J ty) kx zs sc_w168 := sm_w168 hO
  have q169 : se_Met ty se_tt (rw_J ty) kx zs sc_q169 := sm_q169 hO
  have w169 : se_Met ty se_tt (rw_J ty) kx zs sc_w169 := sm_w169 hO
  have q170 : se_Met ty se_tt (rw_J ty) kx zs sc_q170 := sm_q170 hO
  have w170 : se_Met ty se_tt (rw_J ty) kx zs sc_w170 := sm_w170 hO
  have q171 : se_Met ty se_tt (rw_J ty) kx zs sc_q171 := sm_q171 hO
  have w171 : se_Met ty se_tt (rw_J ty) kx zs sc_w171 := sm_w171 hO
  have q172 : se_Met ty se_tt (rw_J ty) kx zs sc_q172 := sm_q172 hO
  have w172 : se_Met ty se_tt (rw_J ty) kx zs sc_w172 := sm_w172 hO
  have q173 : se_Met ty se_tt (rw_J ty) kx zs sc_q173 := sm_q173 hO
  have w173 : se_Met ty se_tt (rw_J ty) kx zs sc_w173 := sm_w173 hO
  have q174 : se_Met ty se_tt (rw_J ty) kx zs sc_q174 := sm_q174 hO
  have w174 : se_Met ty se_tt (rw_J ty) kx zs sc_w174 := sm_w174 hO
  have q175 : se_Met ty se_tt (rw_J ty) kx zs sc_q175 := sm_q175 hO
  have w175 : se_Met ty se_tt (rw_J ty) kx zs sc_w175 := sm_w175 hO
  have q176 : se_Met ty se_tt (rw_J ty) kx zs sc_q176 := sm_q176 hO
  have w176 : se_Met ty se_tt (rw_J ty) kx zs sc_w176 := sm_w176 hO
  have q177 : se_Met ty se_tt (rw_J ty) kx zs sc_q177 := sm_q177 hO
  have w177 : se_Met ty se_tt (rw_J ty) kx zs sc_w177 := sm_w177 hO
  have q178 : se_Met ty se_tt (rw_J ty) kx zs sc_q178 := sm_q178 hO
  have w178 : se_Met ty se_tt (rw_J ty) kx zs sc_w178 := sm_w178 hO
  have q179 : se_Met ty se_tt (rw_J ty) kx zs sc_q179 := sm_q179 hO
  have w179 : se_Met ty se_tt (rw_J ty) kx zs sc_w179 := sm_w179 hO
  have q180 : se_Met ty se_tt (rw_J ty) kx zs sc_q180 := sm_q180 hO
  have w180 : se_Met ty se_tt (rw_J ty) kx zs sc_w180 := sm_w180 hO
  have q181 : se_Met ty se_tt (rw_J ty) kx zs sc_q181 := sm_q181 hO
  have w181 : se_Met ty se_tt (rw_J ty) kx zs sc_w181 := sm_w181 hO
  have q182 : se_Met ty se_tt (rw_J ty) kx zs sc_q182 := sm_q182 hO
  have w182 : se_Met ty se_tt (rw_J ty) kx zs sc_w182 := sm_w182 hO
  have q183 : se_Met ty se_tt (rw_J ty) kx zs sc_q183 := sm_q183 hO
  have w183 : se_Met ty se_tt (rw_J ty) kx zs sc_w183 := sm_w183 hO
  have q184 : se_Met ty se_tt (rw_J ty) kx zs sc_q184 := sm_q184 hO
  have w184 : se_Met ty se_tt (rw_J ty) kx zs sc_w184 := sm_w184 hO
  have q185 : se_Met ty se_tt (rw_J ty) kx zs sc_q185 := sm_q185 hO
  have w185 : se_Met ty se_tt (rw_J ty) kx zs sc_w185 := sm_w185 hO
  have q186 : se_Met ty se_tt (rw_J ty) kx zs sc_q186 := sm_q186 hO
  have w186 : se_Met ty se_tt (rw_J ty) kx zs sc_w186 := sm_w186 hO
  have q187 : se_Met ty se_tt (rw_J ty) kx zs sc_q187 := sm_q187 hO
  have w187 : se_Met ty se_tt (rw_J ty) kx zs sc_w187 := sm_w187 hO
  have q188 : se_Met ty se_tt (rw_J ty) kx zs sc_q188 := sm_q188 hO
  have w188 : se_Met ty se_tt (rw_J ty) kx zs sc_w188 := sm_w188 hO
  have q189 : se_Met ty se_tt (rw_J ty) kx zs sc_q189 := sm_q189 hO
  have w189 : se_Met ty se_tt (rw_J ty) kx zs sc_w189 := sm_w189 hO
  have q190 : se_Met ty se_tt (rw_J ty) kx zs sc_q190 := sm_q190 hO
  have w190 : se_Met ty se_tt (rw_J ty) kx zs sc_w190 := sm_w190 hO
  have q191 : se_Met ty se_tt (rw_J ty) kx zs sc_q191 := sm_q191 hO
  have w191 : se_Met ty se_tt (rw_J ty) kx zs sc_w191 := sm_w191 hO
  have q192 : se_Met ty se_tt (rw_J ty) kx zs sc_q192 := sm_q192 hO
  have w192 : se_Met ty se_tt (rw_J ty) kx zs sc_w192 := sm_w192 hO
  have q193 : se_Met ty se_tt (rw_J ty) kx zs sc_q193 := sm_q193 hO
  have w193 : se_Met ty se_tt (rw_J ty) kx zs sc_w193 := sm_w193 hO
  have q194 : se_Met ty se_tt (rw_J ty) kx zs sc_q194 := sm_q194 hO
  have w194 : se_Met ty se_tt (rw_J ty) kx zs sc_w194 := sm_w194 hO
  have q195 : se_Met ty se_tt (rw_J ty) kx zs sc_q195 := sm_q195 hO
  have w195 : se_Met ty se_tt (rw_J ty) kx zs sc_w195 := sm_w195 hO
  have q196 : se_Met ty se_tt (rw_J ty) kx zs sc_q196 := sm_q196 hO
  have w196 : se_Met ty se_tt (rw_J ty) kx zs sc_w196 := sm_w196 hO
  have q197 : se_Met ty se_tt (rw_J ty) kx zs sc_q197 := sm_q197 hO
  have w197 : se_Met ty se_tt (rw_J ty) kx zs sc_w197 := sm_w197 hO
  have q198 : se_Met ty se_tt (rw_J ty) kx zs sc_q198 := sm_q198 hO
  have w198 : se_Met ty se_tt (rw_J ty) kx zs sc_w198 := sm_w198 hO
  intro c hc
  unfold la_C at hc
  rcases List.mem_cons.mp hc with rfl | hc
  · exact ⟨q0, by decide⟩
  rcases List.mem_cons.mp hc with rfl | hc
  · exact ⟨w0, by decide⟩
  rcases List.mem_cons.mp hc with rfl | hc
  · exact ⟨q1, by decide⟩
  rcases List.mem_cons.mp hc with rfl | hc
  · exact ⟨w1, by decide⟩
  rcases List.mem_cons.mp hc with rfl | hc
  · exact ⟨q2, by decide⟩
  rcases List.mem_cons.mp hc with rfl | hc
  · exact ⟨w2, by decide⟩
  rcases List.mem_cons.mp hc with rfl | hc
  · exact ⟨q3, by decide⟩
  rcases List.mem_cons.mp hc with rfl | hc
  · exact ⟨w3, by decide⟩
  rcases List.mem_cons.mp hc with rfl | hc
  · exact ⟨q4, by decide⟩
  rcases List.mem_cons.mp hc with rfl | hc
  · exact ⟨w4, by decide⟩
  rcases List.mem_cons.mp hc with rfl | hc
  · exact ⟨q5, by decide⟩
  rcases List.mem_cons.mp hc with rfl | hc
  · exact ⟨w5, by decide⟩
  rcases List.mem_cons.mp hc with rfl | hc
  · exact ⟨q6, by decide⟩
  rcases List.mem_cons.mp hc with rfl | hc
  · exact ⟨w6, by decide⟩
  rcases List.mem_cons.mp hc with rfl | hc
  · exact ⟨q7, by decide⟩
  rcases List.mem_cons.mp hc with rfl | hc
  · exact ⟨w7, by decide⟩
  rcases List.mem_cons.mp hc with rfl | hc
  · exact ⟨q8, by decide⟩
  rcases List.mem_cons.mp hc with rfl | hc
  · exact ⟨w8, by decide⟩
  rcases List.mem_cons.mp hc with rfl | hc
  · exact ⟨q9, by decide⟩
  rcases List.mem_cons.mp hc with rfl | hc
  · exact ⟨w9, by decide⟩
  rcases List.mem_cons.mp hc with rfl | hc
  · exact ⟨q10, by decide⟩
  rcases List.mem_cons.mp hc with rfl | hc
  · exact ⟨w10, by decide⟩
  rcases List.mem_cons.mp hc with rfl | hc
  · exact ⟨q11, by decide⟩
  rcases List.mem_cons.mp hc with rfl | hc
  · exact ⟨w11, by decide⟩
  rcases List.mem_cons.mp hc with rfl | hc
  · exact ⟨q12, by decide⟩
  rcases List.mem_cons.mp hc with rfl | hc
  · exact ⟨w12, by decide⟩
  rcases List.mem_cons.mp hc with rfl | hc
  · exact ⟨q13, by decide⟩
  rcases List.mem_cons.mp hc with rfl | hc
  · exact ⟨w13, by decide⟩
  rcases List.mem_cons.mp hc with rfl | hc
  · exact ⟨q14, by decide⟩
  rcases List.mem_cons.mp hc with rfl | hc
  · exact ⟨w14, by decide⟩
  rcases List.mem_cons.mp hc with rfl | hc
  · exact ⟨q15, by decide⟩
  rcases List.mem_cons.mp hc with rfl | hc
  · exact ⟨w15, by decide⟩
  rcases List.mem_cons.mp hc with rfl | hc
  · exact ⟨q16, by decide⟩
  rcases List.mem_cons.mp hc with rfl | hc
  · exact ⟨w16, by decide⟩
  rcases List.mem_cons.mp hc with rfl | hc
  · exact ⟨q17, by decide⟩
  rcases List.mem_cons.mp hc with rfl | hc
  · exact ⟨w17, by decide⟩
  rcases List.mem_cons.mp hc with rfl | hc
  · exact ⟨q18, by decide⟩
  rcases List.mem_cons.mp hc with rfl | hc
  · exact ⟨w18, by decide⟩
  rcases List.mem_cons.mp hc with rfl | hc
  · exact ⟨q19, by decide⟩
  rcases List.mem_cons.mp hc with rfl | hc
  · exact ⟨w19, by decide⟩
  rcases List.mem_cons.mp hc with rfl | hc
  · exact ⟨q20, by decide⟩
  rcases List.mem_cons.mp hc with rfl | hc
  · exact ⟨w20, by decide⟩
  rcases List.mem_cons.mp hc with rfl | hc
  · exact ⟨q21, by decide⟩
  rcases List.mem_cons.mp hc with rfl | hc
  · exact ⟨w21, by decide⟩
  rcases List.mem_cons.mp hc with rfl | hc
  · exact ⟨q22, by decide⟩
  rcases List.mem_cons.mp hc with rfl | hc
  · exact ⟨w22, by decide⟩
  rcases List.mem_cons.mp hc with rfl | hc
  · exact ⟨q23, by decide⟩
  rcases List.mem_cons.mp hc with rfl | hc
  · exact ⟨w23, by decide⟩
  rcases List.mem_cons.mp hc with rfl | hc
  · exact ⟨q24, by decide⟩
  rcases List.mem_cons.mp hc with rfl | hc
  · exact ⟨w24, by decide⟩
  rcases List.mem_cons.mp hc with rfl | hc
  · exact ⟨q25, by decide⟩
  rcases List.mem_cons.mp hc with rfl | hc
  · exact ⟨w25, by decide⟩
  rcases List.mem_cons.mp hc with rfl | hc
  · exact ⟨q26, by decide⟩
  rcases List.mem_cons.mp hc with rfl | hc
  · exact ⟨w26, by decide⟩
  rcases List.mem_cons.mp hc with rfl | hc
  · exact ⟨q27, by decide⟩
  rcases List.mem_cons.mp hc with rfl | hc
  · exact ⟨w27, by decide⟩
  rcases List.mem_cons.mp hc with rfl | hc
  · exact ⟨q28, by decide⟩
  rcases List.mem_cons.mp hc with rfl | hc
  · exact ⟨w28, by decide⟩
  rcases List.mem_cons.mp hc with rfl | hc
  · exact ⟨q29, by decide⟩
  rcases List.mem_cons.mp hc with rfl | hc
  · exact ⟨w29, by decide⟩
  rcases List.mem_cons.mp hc with rfl | hc
  · exact ⟨q30, by decide⟩
  rcases List.mem_cons.mp hc with rfl | hc
  · exact ⟨w30, by decide⟩
  rcases List.mem_cons.mp hc with rfl | hc
  · exact ⟨q31, by decide⟩
  rcases List.mem_cons.mp hc with rfl | hc
  · exact ⟨w31, by decide⟩
  rcases List.mem_cons.mp hc with rfl | hc
  · exact ⟨q32, by decide⟩
  rcases List.mem_cons.mp hc with rfl | hc
  · exact ⟨w32, by decide⟩
  rcases List.mem_cons.mp hc with rfl | hc
  · exact ⟨q33, by decide⟩
  rcases List.mem_cons.mp hc with rfl | hc
  · exact ⟨w33, by decide⟩
  rcases List.mem_cons.mp hc with rfl | hc
  · exact ⟨q34, by decide⟩
  rcases List.mem_cons.mp hc with rfl | hc
  · exact ⟨w34, by decide⟩
  rcases List.mem_cons.mp hc with rfl | hc
  · exact ⟨q35, by decide⟩
  rcases List.mem_cons.mp hc with rfl | hc
  · exact ⟨w35, by decide⟩
  rcases List.mem_cons.mp hc with rfl | hc
  · exact ⟨q36, by decide⟩
  rcases List.mem_cons.mp hc with rfl | hc
  · exact ⟨w36, by decide⟩
  rcases List.mem_cons.mp hc with rfl | hc
  · exact ⟨q37, by decide⟩
  rcases List.mem_cons.mp hc with rfl | hc
  · exact ⟨w37, by decide⟩
  rcases List.mem_cons.mp hc with rfl | hc
  · exact ⟨q38, by decide⟩
  rcases List.mem_cons.mp hc with rfl | hc
  · exact ⟨w38, by decide⟩
  rcases List.mem_cons.mp hc with rfl | hc
  · exact ⟨q39, by decide⟩
  rcases List.mem_cons.mp hc with rfl | hc
  · exact ⟨w39, by decide⟩
  rcases List.mem_cons.mp hc with rfl | hc
  · exact ⟨q40, by decide⟩
  rcases List.mem_cons.mp hc with rfl | hc
  · exact ⟨w40, by decide⟩
  rcases List.mem_cons.mp hc with rfl | hc
  · exact ⟨q41, by decide⟩
  rcases List.mem_cons.mp hc with rfl | hc
  · exact ⟨w41, by decide⟩
  rcases List.mem_cons.mp hc with rfl | hc
  · exact ⟨q42, by decide⟩
  rcases List.mem_cons.mp hc with rfl | hc
  · exact ⟨w42, by decide⟩
  rcases List.mem_cons.mp hc with rfl | hc
  · exact ⟨q43, by decide⟩
  rcases List.mem_cons.mp hc with rfl | hc
  · exact ⟨w43, by decide⟩
  rcases List.mem_cons.mp hc with rfl | hc
  · exact ⟨q44, by decide⟩
  rcases List.mem_cons.mp hc with rfl | hc
  · exact ⟨w44, by decide⟩
  rcases List.mem_cons.mp hc with rfl | hc
  · exact ⟨q45, by decide⟩
  rcases List.mem_cons.mp hc with rfl | hc
  · exact ⟨w45, by decide⟩
  rcases List.mem_cons.mp hc with rfl | hc
  · exact ⟨q46, by decide⟩
  rcases List.mem_cons.mp hc with rfl | hc
  · exact ⟨w46, by decide⟩
  rcases List.mem_cons.mp hc with rfl | hc
  · exact ⟨q47, by decide⟩
  rcases List.mem_cons.mp hc with rfl | hc
  · exact ⟨w47, by decide⟩
  rcases List.mem_cons.mp hc with rfl | hc
  · exact ⟨q48, by decide⟩
  rcases List.mem_cons.mp hc with rfl | hc
  · exact ⟨w48, by decide⟩
  rcases List.mem_cons.mp hc with rfl | hc
  · exact ⟨q49, by decide⟩
  rcases List.mem_cons.mp hc with rfl | hc
  · exact ⟨w49, by decide⟩
  rcases List.mem_cons.mp hc with rfl | hc
  · exact ⟨q50, by decide⟩
  rcases List.mem_cons.mp hc with rfl | hc
  · exact ⟨w50, by decide⟩
  rcases List.mem_cons.mp hc with rfl | hc
  · exact ⟨q51, by decide⟩
  rcases List.mem_cons.mp hc with rfl | hc
  · exact ⟨w51, by decide⟩
  rcases List.mem_cons.mp hc with rfl | hc
  · exact ⟨q52, by decide⟩
  rcases List.mem_cons.mp hc with rfl | hc
  · exact ⟨w52, by decide⟩
  rcases List.mem_cons.mp hc with rfl | hc
  · exact ⟨q53, by decide⟩
  rcases List.mem_cons.mp hc with rfl | hc
  · exact ⟨w53, by decide⟩
  rcases List.mem_cons.mp hc with rfl | hc
  · exact ⟨q54, by decide⟩
  rcases List.mem_cons.mp hc with rfl | hc
  · exact ⟨w54, by decide⟩
  rcases List.mem_cons.mp hc with rfl | hc
  · exact ⟨q55, by decide⟩
  rcases List.mem_cons.mp hc with rfl | hc
  · exact ⟨w55, by decide⟩
  rcases List.mem_cons.mp hc with rfl | hc
  · exact ⟨q56, by decide⟩
  rcases List.mem_cons.mp hc with rfl | hc
  · exact ⟨w56, by decide⟩
  rcases List.mem_cons.mp hc with rfl | hc
  · exact ⟨q57, by decide⟩
  rcases List.mem_cons.mp hc with rfl | hc
  · exact ⟨w57, by decide⟩
  rcases List.mem_cons.mp hc with rfl | hc
  · exact ⟨q58, by decide⟩
  rcases List.mem_cons.mp hc with rfl | hc
  · exact ⟨w58, by decide⟩
  rcases List.mem_cons.mp hc with rfl | hc
  · exact ⟨q59, by decide⟩
  rcases List.mem_cons.mp hc with rfl | hc
  · exact ⟨w59, by decide⟩
  rcases List.mem_cons.mp hc with rfl | hc
  · exact ⟨q60, by decide⟩
  rcases List.mem_cons.mp hc with rfl | hc
  · exact ⟨w60, by decide⟩
  rcases List.mem_cons.mp hc with rfl | hc
  · exact ⟨q61, by decide⟩
  rcases List.mem_cons.mp hc with rfl | hc
  · exact ⟨w61, by decide⟩
  rcases List.mem_cons.mp hc with rfl | hc
  · exact ⟨q62, by decide⟩
  rcases List.mem_cons.mp hc with rfl | hc
  · exact ⟨w62, by decide⟩
  rcases List.mem_cons.mp hc with rfl | hc
  · exact ⟨q63, by decide⟩
  rcases List.mem_cons.mp hc with rfl | hc
  · exact ⟨w63, by decide⟩
  rcases List.mem_cons.mp hc with rfl | hc
  · exact ⟨q64, by decide⟩
  rcases List.mem_cons.mp hc with rfl | hc
  · exact ⟨w64, by decide⟩
  rcases List.mem_cons.mp hc with rfl | hc
  · exact ⟨q65, by decide⟩
  rcases List.mem_cons.mp hc with rfl | hc
  · exact ⟨w65, by decide⟩
  rcases List.mem_cons.mp hc with rfl | hc
  · exact ⟨q66, by decide⟩
  rcases List.mem_cons.mp hc with rfl | hc
  · exact ⟨w66, by decide⟩
  rcases List.mem_cons.mp hc with rfl | hc
  · exact ⟨q67, by decide⟩
  rcases List.mem_cons.mp hc with rfl | hc
  · exact ⟨w67, by decide⟩
  rcases List.mem_cons.mp hc with rfl | hc
  · exact ⟨q68, by decide⟩
  rcases List.mem_cons.mp hc with rfl | hc
  · exact ⟨w68, by decide⟩
  rcases List.mem_cons.mp hc with rfl | hc
  · exact ⟨q69, by decide⟩
  rcases List.mem_cons.mp hc with rfl | hc
  · exact ⟨w69, by decide⟩
  rcases List.mem_cons.mp hc with rfl | hc
  · exact ⟨q70, by decide⟩
  rcases List.mem_cons.mp hc with rfl | hc
  · exact ⟨w70, by decide⟩
  rcases List.mem_cons.mp hc with rfl | hc
  · exact ⟨q71, by decide⟩
  rcases List.mem_cons.mp hc with rfl | hc
  · exact ⟨w71, by decide⟩
  rcases List.mem_cons.mp hc with rfl | hc
  · exact ⟨q72, by decide⟩
  rcases List.mem_cons.mp hc with rfl | hc
  · exact ⟨w72, by decide⟩
  rcases List.mem_cons.mp hc with rfl | hc
  · exact ⟨q73, by decide⟩
  rcases List.mem_cons.mp hc with rfl | hc
  · exact ⟨w73, by decide⟩
  rcases List.mem_cons.mp hc with rfl | hc
  · exact ⟨q74, by decide⟩
  rcases List.mem_cons.mp hc with rfl | hc
  · exact ⟨w74, by decide⟩
  rcases List.mem_cons.mp hc with rfl | hc
  · exact ⟨q75, by decide⟩
  rcases List.mem_cons.mp hc with rfl | hc
  · exact ⟨w75, by decide⟩
  rcases List.mem_cons.mp hc with rfl | hc
  · exact ⟨q76, by decide⟩
  rcases List.mem_cons.mp hc with rfl | hc
  · exact ⟨w76, by decide⟩
  rcases List.mem_cons.mp hc with rfl | hc
  · exact ⟨q77, by decide⟩
  rcases List.mem_cons.mp hc with rfl | hc
  · exact ⟨w77, by decide⟩
  rcases List.mem_cons.mp hc with rfl | hc
  · exact ⟨q78, by decide⟩
  rcases List.mem_cons.mp hc with rfl | hc
  · exact ⟨w78, by decide⟩
  rcases List.mem_cons.mp hc with rfl | hc
  · exact ⟨q79, by decide⟩
  rcases List.mem_cons.mp hc with rfl | hc
  · exact ⟨w79, by decide⟩
  rcases List.mem_cons.mp hc with rfl | hc
  · exact ⟨q80, by decide⟩
  rcases List.mem_cons.mp hc with rfl | hc
  · exact ⟨w80, by decide⟩
  rcases List.mem_cons.mp hc with rfl | hc
  · exact ⟨q81, by decide⟩
  rcases List.mem_cons.mp hc with rfl | hc
  · exact ⟨w81, by decide⟩
  rcases List.mem_cons.mp hc with rfl | hc
  · exact ⟨q82, by decide⟩
  rcases List.mem_cons.mp hc with rfl | hc
  · exact ⟨w82, by decide⟩
  rcases List.mem_cons.mp hc with rfl | hc
  · exact ⟨q83, by decide⟩
  rcases List.mem_cons.mp hc with rfl | hc
  · exact ⟨w83, by decide⟩
  rcases List.mem_cons.mp hc with rfl | hc
  · exact ⟨q84, by decide⟩
  rcases List.mem_cons.mp hc with rfl | hc
  · exact ⟨w84, by decide⟩
  rcases List.mem_cons.mp hc with rfl | hc
  · exact ⟨q85, by decide⟩
  rcases List.mem_cons.mp hc with rfl | hc
  · exact ⟨w85, by decide⟩
  rcases List.mem_cons.mp hc with rfl | hc
  · exact ⟨q86, by decide⟩
  rcases List.mem_cons.mp hc with rfl | hc
  · exact ⟨w86, by decide⟩
  rcases List.mem_cons.mp hc with rfl | hc
  · exact ⟨q87, by decide⟩
  rcases List.mem_cons.mp hc with rfl | hc
  · exact ⟨w87, by decide⟩
  rcases List.mem_cons.mp hc with rfl | hc
  · exact ⟨q88, by decide⟩
  rcases List.mem_cons.mp hc with rfl | hc
  · exact ⟨w88, by decide⟩
  rcases List.mem_cons.mp hc with rfl | hc
  · exact ⟨q89, by decide⟩
  rcases List.mem_cons.mp hc with rfl | hc
  · exact ⟨w89, by decide⟩
  rcases List.mem_cons.mp hc with rfl | hc
  · exact ⟨q90, by decide⟩
  rcases List.mem_cons.mp hc with rfl | hc
  · exact ⟨w90, by decide⟩
  rcases List.mem_cons.mp hc with rfl | hc
  · exact ⟨q91, by decide⟩
  rcases List.mem_cons.mp hc with rfl | hc
  · exact ⟨w91, by decide⟩
  rcases List.mem_cons.mp hc with rfl | hc
  · exact ⟨q92, by decide⟩
  rcases List.mem_cons.mp hc with rfl | hc
  · exact ⟨w92, by decide⟩
  rcases List.mem_cons.mp hc with rfl | hc
  · exact ⟨q93, by decide⟩
  rcases List.mem_cons.mp hc with rfl | hc
  · exact ⟨w93, by decide⟩
  rcases List.mem_cons.mp hc with rfl | hc
  · exact ⟨q94, by decide⟩
  rcases List.mem_cons.mp hc with rfl | hc
  · exact ⟨w94, by decide⟩
  rcases List.mem_cons.mp hc with rfl | hc
  · exact ⟨q95, by decide⟩
  rcases List.mem_cons.mp hc with rfl | hc
  · exact ⟨w95, by decide⟩
  rcases List.mem_cons.mp hc with rfl | hc
  · exact ⟨q96, by decide⟩
  rcases List.mem_cons.mp hc with rfl | hc
  · exact ⟨w96, by decide⟩
  rcases List.mem_cons.mp hc with rfl | hc
  · exact ⟨q97, by decide⟩
  rcases List.mem_cons.mp hc with rfl | hc
  · exact ⟨w97, by decide⟩
  rcases List.mem_cons.mp hc with rfl | hc
  · exact ⟨q98, by decide⟩
  rcases List.mem_cons.mp hc with rfl | hc
  · exact ⟨w98, by decide⟩
  rcases List.mem_cons.mp hc with rfl | hc
  · exact ⟨q99, by decide⟩
  rcases List.mem_cons.mp hc with rfl | hc
  · exact ⟨w99, by decide⟩
  rcases List.mem_cons.mp hc with rfl | hc
  · exact ⟨q100, by decide⟩
  rcases List.mem_cons.mp hc with rfl | hc
  · exact ⟨w100, by decide⟩
  rcases List.mem_cons.mp hc with rfl | hc
  · exact ⟨q101, by decide⟩
  rcases List.mem_cons.mp hc with rfl | hc
  · exact ⟨w101, by decide⟩
  rcases List.mem_cons.mp hc with rfl | hc
  · exact ⟨q102, by decide⟩
  rcases List.mem_cons.mp hc with rfl | hc
  · exact ⟨w102, by decide⟩
  rcases List.mem_cons.mp hc with rfl | hc
  · exact ⟨q103, by decide⟩
  rcases List.mem_cons.mp hc with rfl | hc
  · exact ⟨w103, by decide⟩
  rcases List.mem_cons.mp hc with rfl | hc
  · exact ⟨q104, by decide⟩
  rcases List.mem_cons.mp hc with rfl | hc
  · exact ⟨w104, by decide⟩
  rcases List.mem_cons.mp hc with rfl | hc
  · exact ⟨q105, by decide⟩
  rcases List.mem_cons.mp hc with rfl | hc
  · exact ⟨w105, by decide⟩
  rcases List.mem_cons.mp hc with rfl | hc
  · exact ⟨q106, by decide⟩
  rcases List.mem_cons.mp hc with rfl | hc
  · exact ⟨w106, by decide⟩
  rcases List.mem_cons.mp hc with rfl | hc
  · exact ⟨q107, by decide⟩
  rcases List.mem_cons.mp hc with rfl | hc
  · exact ⟨w107, by decide⟩
  rcases List.mem_cons.mp hc with rfl | hc
  · exact ⟨q108, by decide⟩
  rcases List.mem_cons.mp hc with rfl | hc
  · exact ⟨w108, by decide⟩
  rcases List.mem_cons.mp hc with rfl | hc
  · exact ⟨q109, by decide⟩
  rcases List.mem_cons.mp hc with rfl | hc
  · exact ⟨w109, by decide⟩
  rcases List.mem_cons.mp hc with rfl | hc
  · exact ⟨q110, by decide⟩
  rcases List.mem_cons.mp hc with rfl | hc
  · exact ⟨w110, by decide⟩
  rcases List.mem_cons.mp hc with rfl | hc
  · exact ⟨q111, by decide⟩
  rcases List.mem_cons.mp hc with rfl | hc
  · exact ⟨w111, by decide⟩
  rcases List.mem_cons.mp hc with rfl | hc
  · exact ⟨q112, by decide⟩
  rcases List.mem_cons.mp hc with rfl | hc
  · exact ⟨w112, by decide⟩
  rcases List.mem_cons.mp hc with rfl | hc
  · exact ⟨q113, by decide⟩
  rcases List.mem_cons.mp hc with rfl | hc
  · exact ⟨w113, by decide⟩
  rcases List.mem_cons.mp hc with rfl | hc
  · exact ⟨q114, by decide⟩
  rcases List.mem_cons.mp hc with rfl | hc
  · exact ⟨w114, by decide⟩
  rcases List.mem_cons.mp hc with rfl | hc
  · exact ⟨q115, by decide⟩
  rcases List.mem_cons.mp hc with rfl | hc
  · exact ⟨w115, by decide⟩
  rcases List.mem_cons.mp hc with rfl | hc
  · exact ⟨q116, by decide⟩
  rcases List.mem_cons.mp hc with rfl | hc
  · exact ⟨w116, by decide⟩
  rcases List.mem_cons.mp hc with rfl | hc
  · exact ⟨q117, by decide⟩
  rcases List.mem_cons.mp hc with rfl | hc
  · exact ⟨w117, by decide⟩
  rcases List.mem_cons.mp hc with rfl | hc
  · exact ⟨q118, by decide⟩
  rcases List.mem_cons.mp hc with rfl | hc
  · exact ⟨w118, by decide⟩
  rcases List.mem_cons.mp hc with rfl | hc
  · exact ⟨q119, by decide⟩
  rcases List.mem_cons.mp hc with rfl | hc
  · exact ⟨w119, by decide⟩
  rcases List.mem_cons.mp hc with rfl | hc
  · exact ⟨q120, by decide⟩
  rcases List.mem_cons.mp hc with rfl | hc
  · exact ⟨w120, by decide⟩
  rcases List.mem_cons.mp hc with rfl | hc
  · exact ⟨q121, by decide⟩
  rcases List.mem_cons.mp hc with rfl | hc
  · exact ⟨w121, by decide⟩
  rcases List.mem_cons.mp hc with rfl | hc
  · exact ⟨q122, by decide⟩
  rcases List.mem_cons.mp hc with rfl | hc
  · exact ⟨w122, by decide⟩
  rcases List.mem_cons.mp hc with rfl | hc
  · exact ⟨q123, by decide⟩
  rcases List.mem_cons.mp hc with rfl | hc
  · exact ⟨w123, by decide⟩
  rcases List.mem_cons.mp hc with rfl | hc
  · exact ⟨q124, by decide⟩
  rcases List.mem_cons.mp hc with rfl | hc
  · exact ⟨w124, by decide⟩
  rcases List.mem_cons.mp hc with rfl | hc
  · exact ⟨q125, by decide⟩
  rcases List.mem_cons.mp hc with rfl | hc
  · exact ⟨w125, by decide⟩
  rcases List.mem_cons.mp hc with rfl | hc
  · exact ⟨q126, by decide⟩
  rcases List.mem_cons.mp hc with rfl | hc
  · exact ⟨w126, by decide⟩
  rcases List.mem_cons.mp hc with rfl | hc
  · exact ⟨q127, by decide⟩
  rcases List.mem_cons.mp hc with rfl | hc
  · exact ⟨w127, by decide⟩
  rcases List.mem_cons.mp hc with rfl | hc
  · exact ⟨q128, by decide⟩
  rcases List.mem_cons.mp hc with rfl | hc
  · exact ⟨w128, by decide⟩
  rcases List.mem_cons.mp hc with rfl | hc
  · exact ⟨q129, by decide⟩
  rcases List.mem_cons.mp hc with rfl | hc
  · exact ⟨w129, by decide⟩
  rcases List.mem_cons.mp hc with rfl | hc
  · exact ⟨q130, by decide⟩
  rcases List.mem_cons.mp hc with rfl | hc
  · exact ⟨w130, by decide⟩
  rcases List.mem_cons.mp hc with rfl | hc
  · exact ⟨q131, by decide⟩
  rcases List.mem_cons.mp hc with rfl | hc
  · exact ⟨w131, by decide⟩
  rcases List.mem_cons.mp hc with rfl | hc
  · exact ⟨q132, by decide⟩
  rcases List.mem_cons.mp hc with rfl | hc
  · exact ⟨w132, by decide⟩
  rcases List.mem_cons.mp hc with rfl | hc
  · exact ⟨q133, by decide⟩
  rcases List.mem_cons.mp hc with rfl | hc
  · exact ⟨w133, by decide⟩
  rcases List.mem_cons.mp hc with rfl | hc
  · exact ⟨q134, by decide⟩
  rcases List.mem_cons.mp hc with rfl | hc
  · exact ⟨w134, by decide⟩
  rcases List.mem_cons.mp hc with rfl | hc
  · exact ⟨q135, by decide⟩
  rcases List.mem_cons.mp hc with rfl | hc
  · exact ⟨w135, by decide⟩
  rcases List.mem_cons.mp hc with rfl | hc
  · exact ⟨q136, by decide⟩
  rcases List.mem_cons.mp hc with rfl | hc
  · exact ⟨w136, by decide⟩
  rcases List.mem_cons.mp hc with rfl | hc
  · exact ⟨q137, by decide⟩
  rcases List.mem_cons.mp hc with rfl | hc
  · exact ⟨w137, by decide⟩
  rcases List.mem_cons.mp hc with rfl | hc
  · exact ⟨q138, by decide⟩
  rcases List.mem_cons.mp hc with rfl | hc
  · exact ⟨w138, by decide⟩
  rcases List.mem_cons.mp hc with rfl | hc
  · exact ⟨q139, by decide⟩
  rcases List.mem_cons.mp hc with rfl | hc
  · exact ⟨w139, by decide⟩
  rcases List.mem_cons.mp hc with rfl | hc
  · exact ⟨q140, by decide⟩
  rcases List.mem_cons.mp hc with rfl | hc
  · exact ⟨w140, by decide⟩
  rcases List.mem_cons.mp hc with rfl | hc
  · exact ⟨q141, by decide⟩
  rcases List.mem_cons.mp hc with rfl | hc
  · exact ⟨w141, by decide⟩
  rcases List.mem_cons.mp hc with rfl | hc
  · exact ⟨q142, by decide⟩
  rcases List.mem_cons.mp hc with rfl | hc
  · exact ⟨w142, by decide⟩
  rcases List.mem_cons.mp hc with rfl | hc
  · exact ⟨q143, by decide⟩
  rcases List.mem_cons.mp hc with rfl | hc
  · exact ⟨w143, by decide⟩
  rcases List.mem_cons.mp hc with rfl | hc
  · exact ⟨q144, by decide⟩
  rcases List.mem_cons.mp hc with rfl | hc
  · exact ⟨w144, by decide⟩
  rcases List.mem_cons.mp hc with rfl | hc
  · exact ⟨q145, by decide⟩
  rcases List.mem_cons.mp hc with rfl | hc
  · exact ⟨w145, by decide⟩
  rcases List.mem_cons.mp hc with rfl | hc
  · exact ⟨q146, by decide⟩
  rcases List.mem_cons.mp hc with rfl | hc
  · exact ⟨w146, by decide⟩
  rcases List.mem_cons.mp hc with rfl | hc
  · exact ⟨q147, by decide⟩
  rcases List.mem_cons.mp hc with rfl | hc
  · exact ⟨w147, by decide⟩
  rcases List.mem_cons.mp hc with rfl | hc
  · exact ⟨q148, by decide⟩
  rcases List.mem_cons.mp hc with rfl | hc
  · exact ⟨w148, by decide⟩
  rcases List.mem_cons.mp hc with rfl | hc
  · exact ⟨q149, by decide⟩
  rcases List.mem_cons.mp hc with rfl | hc
  · exact ⟨w149, by decide⟩
  rcases List.mem_cons.mp hc with rfl | hc
  · exact ⟨q150, by decide⟩
  rcases List.mem_cons.mp hc with rfl | hc
  · exact ⟨w150, by decide⟩
  rcases List.mem_cons.mp hc with rfl | hc
  · exact ⟨q151, by decide⟩
  rcases List.mem_cons.mp hc with rfl | hc
  · exact ⟨w151, by decide⟩
  rcases List.mem_cons.mp hc with rfl | hc
  · exact ⟨q152, by decide⟩
  rcases List.mem_cons.mp hc with rfl | hc
  · exact ⟨w152, by decide⟩
  rcases List.mem_cons.mp hc with rfl | hc
  · exact ⟨q153, by decide⟩
  rcases List.mem_cons.mp hc with rfl | hc
  · exact ⟨w153, by decide⟩
  rcases List.mem_cons.mp hc with rfl | hc
  · exact ⟨q154, by decide⟩
  rcases List.mem_cons.mp hc with rfl | hc
  · exact ⟨w154, by decide⟩
  rcases List.mem_cons.mp hc with rfl | hc
  · exact ⟨q155, by decide⟩
  rcases List.mem_cons.mp hc with rfl | hc
  · exact ⟨w155, by decide⟩
  rcases List.mem_cons.mp hc with rfl | hc
  · exact ⟨q156, by decide⟩
  rcases List.mem_cons.mp hc with rfl | hc
  · exact ⟨w156, by decide⟩
  rcases List.mem_cons.mp hc with rfl | hc
  · exact ⟨q157, by decide⟩
  rcases List.mem_cons.mp hc with rfl | hc
  · exact ⟨w157, by decide⟩
  rcases List.mem_cons.mp hc with rfl | hc
  · exact ⟨q158, by decide⟩
  rcases List.mem_cons.mp hc with rfl | hc
  · exact ⟨w158, by decide⟩
  rcases List.mem_cons.mp hc with rfl | hc
  · exact ⟨q159, by decide⟩
  rcases List.mem_cons.mp hc with rfl | hc
  · exact ⟨w159, by decide⟩
  rcases List.mem_cons.mp hc with rfl | hc
  · exact ⟨q160, by decide⟩
  rcases List.mem_cons.mp hc with rfl | hc
  · exact ⟨w160, by decide⟩
  rcases List.mem_cons.mp hc with rfl | hc
  · exact ⟨q161, by decide⟩
  rcases List.mem_cons.mp hc with rfl | hc
  · exact ⟨w161, by decide⟩
  rcases List.mem_cons.mp hc with rfl | hc
  · exact ⟨q162, by decide⟩
  rcases List.mem_cons.mp hc with rfl | hc
  · exact ⟨w162, by decide⟩
  rcases List.mem_cons.mp hc with rfl | hc
  · exact ⟨q163, by decide⟩
  rcases List.mem_cons.mp hc with rfl | hc
  · exact ⟨w163, by decide⟩
  rcases List.mem_cons.mp hc with rfl | hc
  · exact ⟨q164, by decide⟩
  rcases List.mem_cons.mp hc with rfl | hc
  · exact ⟨w164, by decide⟩
  rcases List.mem_cons.mp hc with rfl | hc
  · exact ⟨q165, by decide⟩
  rcases List.mem_cons.mp hc with rfl | hc
  · exact ⟨w165, by decide⟩
  rcases List.mem_cons.mp hc with rfl | hc
  · exact ⟨q166, by decide⟩
  rcases List.mem_cons.mp hc with rfl | hc
  · exact ⟨w166, by decide⟩
  rcases List.mem_cons.mp hc with rfl | hc
  · exact ⟨q167, by decide⟩
  rcases List.mem_cons.mp hc with rfl | hc
  · exact ⟨w167, by decide⟩
  rcases List.mem_cons.mp hc with rfl | hc
  · exact ⟨q168, by decide⟩
  rcases List.mem_cons.mp hc with rfl | hc
  · exact ⟨w168, by decide⟩
  rcases List.mem_cons.mp hc with rfl | hc
  · exact ⟨q169, by decide⟩
  rcases List.mem_cons.mp hc with rfl | hc
  · exact ⟨w169, by decide⟩
  rcases List.mem_cons.mp hc with rfl | hc
  · exact ⟨q170, by decide⟩
  rcases List.mem_cons.mp hc with rfl | hc
  · exact ⟨w170, by decide⟩
  rcases List.mem_cons.mp hc with rfl | hc
  · exact ⟨q171, by decide⟩
  rcases List.mem_cons.mp hc with rfl | hc
  · exact ⟨w171, by decide⟩
  rcases List.mem_cons.mp hc with rfl | hc
  · exact ⟨q172, by decide⟩
  rcases List.mem_cons.mp hc with rfl | hc
  · exact ⟨w172, by decide⟩
  rcases List.mem_cons.mp hc with rfl | hc
  · exact ⟨q173, by decide⟩
  rcases List.mem_cons.mp hc with rfl | hc
  · exact ⟨w173, by decide⟩
  rcases List.mem_cons.mp hc with rfl | hc
  · exact ⟨q174, by decide⟩
  rcases List.mem_cons.mp hc with rfl | hc
  · exact ⟨w174, by decide⟩
  rcases List.mem_cons.mp hc with rfl | hc
  · exact ⟨q175, by decide⟩
  rcases List.mem_cons.mp hc with rfl | hc
  · exact ⟨w175, by decide⟩
  rcases List.mem_cons.mp hc with rfl | hc
  · exact ⟨q176, by decide⟩
  rcases List.mem_cons.mp hc with rfl | hc
  · exact ⟨w176, by decide⟩
  rcases List.mem_cons.mp hc with rfl | hc
  · exact ⟨q177, by decide⟩
  rcases List.mem_cons.mp hc with rfl | hc
  · exact ⟨w177, by decide⟩
  rcases List.mem_cons.mp hc with rfl | hc
  · exact ⟨q178, by decide⟩
  rcases List.mem_cons.mp hc with rfl | hc
  · exact ⟨w178, by decide⟩
  rcases List.mem_cons.mp hc with rfl | hc
  · exact ⟨q179, by decide⟩
  rcases List.mem_cons.mp hc with rfl | hc
  · exact ⟨w179, by decide⟩
  rcases List.mem_cons.mp hc with rfl | hc
  · exact ⟨q180, by decide⟩
  rcases List.mem_cons.mp hc with rfl | hc
  · exact ⟨w180, by decide⟩
  rcases List.mem_cons.mp hc with rfl | hc
  · exact ⟨q181, by decide⟩
  rcases List.mem_cons.mp hc with rfl | hc
  · exact ⟨w181, by decide⟩
  rcases List.mem_cons.mp hc with rfl | hc
  · exact ⟨q182, by decide⟩
  rcases List.mem_cons.mp hc with rfl | hc
  · exact ⟨w182, by decide⟩
  rcases List.mem_cons.mp hc with rfl | hc
  · exact ⟨q183, by decide⟩
  rcases List.mem_cons.mp hc with rfl | hc
  · exact ⟨w183, by decide⟩
  rcases List.mem_cons.mp hc with rfl | hc
  · exact ⟨q184, by decide⟩
  rcases List.mem_cons.mp hc with rfl | hc
  · exact ⟨w184, by decide⟩
  rcases List.mem_cons.mp hc with rfl | hc
  · exact ⟨q185, by decide⟩
  rcases List.mem_cons.mp hc with rfl | hc
  · exact ⟨w185, by decide⟩
  rcases List.mem_cons.mp hc with rfl | hc
  · exact ⟨q186, by decide⟩
  rcases List.mem_cons.mp hc with rfl | hc
  · exact ⟨w186, by decide⟩
  rcases List.mem_cons.mp hc with rfl | hc
  · exact ⟨q187, by decide⟩
  rcases List.mem_cons.mp hc with rfl | hc
  · exact ⟨w187, by decide⟩
  rcases List.mem_cons.mp hc with rfl | hc
  · exact ⟨q188, by decide⟩
  rcases List.mem_cons.mp hc with rfl | hc
  · exact ⟨w188, by decide⟩
  rcases List.mem_cons.mp hc with rfl | hc
  · exact ⟨q189, by decide⟩
  rcases List.mem_cons.mp hc with rfl | hc
  · exact ⟨w189, by decide⟩
  rcases List.mem_cons.mp hc with rfl | hc
  · exact ⟨q190, by decide⟩
  rcases List.mem_cons.mp hc with rfl | hc
  · exact ⟨w190, by decide⟩
  rcases List.mem_cons.mp hc with rfl | hc
  · exact ⟨q191, by decide⟩
  rcases List.mem_cons.mp hc with rfl | hc
  · exact ⟨w191, by decide⟩
  rcases List.mem_cons.mp hc with rfl | hc
  · exact ⟨q192, by decide⟩
  rcases List.mem_cons.mp hc with rfl | hc
  · exact ⟨w192, by decide⟩
  rcases List.mem_cons.mp hc with rfl | hc
  · exact ⟨q193, by decide⟩
  rcases List.mem_cons.mp hc with rfl | hc
  · exact ⟨w193, by decide⟩
  rcases List.mem_cons.mp hc with rfl | hc
  · exact ⟨q194, by decide⟩
  rcases List.mem_cons.mp hc with rfl | hc
  · exact ⟨w194, by decide⟩
  rcases List.mem_cons.mp hc with rfl | hc
  · exact ⟨q195, by decide⟩
  rcases List.mem_cons.mp hc with rfl | hc
  · exact ⟨w195, by decide⟩
  rcases List.mem_cons.mp hc with rfl | hc
  · exact ⟨q196, by decide⟩
  rcases List.mem_cons.mp hc with rfl | hc
  · exact ⟨w196, by decide⟩
  rcases List.mem_cons.mp hc with rfl | hc
  · exact ⟨q197, by decide⟩
  rcases List.mem_cons.mp hc with rfl | hc
  · exact ⟨w197, by decide⟩
  rcases List.mem_cons.mp hc with rfl | hc
  · exact ⟨q198, by decide⟩
  rcases List.mem_cons.mp hc with rfl | hc
  · exact ⟨w198, by decide⟩
  rcases List.mem_cons.mp hc with rfl | hc
  · exact ⟨c0, by decide⟩
  rcases List.mem_cons.mp hc with rfl | hc
  · exact ⟨c1, by decide⟩
  rcases List.mem_cons.mp hc with rfl | hc
  · exact ⟨c3, by decide⟩
  rcases List.mem_cons.mp hc with rfl | hc
  · exact ⟨c7, by decide⟩
  rcases List.mem_cons.mp hc with rfl | hc
  · exact ⟨c8, by decide⟩
  rcases List.mem_cons.mp hc with rfl | hc
  · exact ⟨c9, by decide⟩
  rcases List.mem_cons.mp hc with rfl | hc
  · exact ⟨c10, by decide⟩
  rcases List.mem_cons.mp hc with rfl | hc
  · exact ⟨c11, by decide⟩
  rcases List.mem_cons.mp hc with rfl | hc
  · exact ⟨c12, by decide⟩
  rcases List.mem_cons.mp hc with rfl | hc
  · exact ⟨c14, by decide⟩
  rcases List.mem_cons.mp hc with rfl | hc
  · exact ⟨c19, by decide⟩
  rcases List.mem_cons.mp hc with rfl | hc
  · exact ⟨c36, by decide⟩
  rcases List.mem_cons.mp hc with rfl | hc
  · exact ⟨c37, by decide⟩
  rcases List.mem_cons.mp hc with rfl | hc
  · exact ⟨c38, by decide⟩
  rcases List.mem_cons.mp hc with rfl | hc
  · exact ⟨c39, by decide⟩
  rcases List.mem_cons.mp hc with rfl | hc
  · exact ⟨c40, by decide⟩
  rcases List.mem_cons.mp hc with rfl | hc
  · exact ⟨c44, by decide⟩
  rcases List.mem_cons.mp hc with rfl | hc
  · exact ⟨c55, by decide⟩
  rcases List.mem_cons.mp hc with rfl | hc
  · exact ⟨c56, by decide⟩
  rcases List.mem_cons.mp hc with rfl | hc
  · exact ⟨c58, by decide⟩
  rcases List.mem_cons.mp hc with rfl | hc
  · exact ⟨c60, by decide⟩
  rcases List.mem_cons.mp hc with rfl | hc
  · exact ⟨c121, by decide⟩
  rcases List.mem_cons.mp hc with rfl | hc
  · exact ⟨c122, by decide⟩
  rcases List.mem_cons.mp hc with rfl | hc
  · exact ⟨c123, by decide⟩
  rcases List.mem_cons.mp hc with rfl | hc
  · exact ⟨c124, by decide⟩
  rcases List.mem_cons.mp hc with rfl | hc
  · exact ⟨c125, by decide⟩
  rcases List.mem_cons.mp hc with rfl | hc
  · exact ⟨c126, by decide⟩
  rcases List.mem_cons.mp hc with rfl | hc
  · exact ⟨c128, by decide⟩
  rcases List.mem_cons.mp hc with rfl | hc
  · exact ⟨c129, by decide⟩
  rcases List.mem_cons.mp hc with rfl | hc
  · exact ⟨c136, by decide⟩
  rcases List.mem_cons.mp hc with rfl | hc
  · exact ⟨c139, by decide⟩
  rcases List.mem_cons.mp hc with rfl | hc
  · exact ⟨c144, by decide⟩
  rcases List.mem_cons.mp hc with rfl | hc
  · exact ⟨c148, by decide⟩
  rcases List.mem_cons.mp hc with rfl | hc
  · exact ⟨c150, by decide⟩
  rcases List.mem_cons.mp hc with rfl | hc
  · exact ⟨c156, by decide⟩
  rcases List.mem_cons.mp hc with rfl | hc
  · exact ⟨c170, by decide⟩
  rcases List.mem_cons.mp hc with rfl | hc
  · exact ⟨c171, by decide⟩
  rcases List.mem_cons.mp hc with rfl | hc
  · exact ⟨c176, by decide⟩
  rcases List.mem_cons.mp hc with rfl | hc
  · exact ⟨c177, by decide⟩
  rcases List.mem_cons.mp hc with rfl | hc
  · exact ⟨c178, by decide⟩
  rcases List.mem_cons.mp hc with rfl | hc
  · exact ⟨c179, by decide⟩
  rcases List.mem_cons.mp hc with rfl | hc
  · exact ⟨c184, by decide⟩
  rcases List.mem_cons.mp hc with rfl | hc
  · exact ⟨c185, by decide⟩
  rcases List.mem_cons.mp hc with rfl | hc
  · exact ⟨c186, by decide⟩
  rcases List.mem_cons.mp hc with rfl | hc
  · exact ⟨c187, by decide⟩
  rcases List.mem_cons.mp hc with rfl | hc
  · exact ⟨c188, by decide⟩
  rcases List.mem_cons.mp hc with rfl | hc
  · exact ⟨c189, by decide⟩
  rcases List.mem_cons.mp hc with rfl | hc
  · exact ⟨c191, by decide⟩
  rcases List.mem_cons.mp hc with rfl | hc
  · exact ⟨c193, by decide⟩
  rcases List.mem_cons.mp hc with rfl | hc
  · exact ⟨c194, by decide⟩
  rcases List.mem_cons.mp hc with rfl | hc
  · exact ⟨c198, by decide⟩
  rcases List.mem_cons.mp hc with rfl | hc
  · exact ⟨c202, by decide⟩
  rcases List.mem_cons.mp hc with rfl | hc
  · exact ⟨c204, by decide⟩
  rcases List.mem_cons.mp hc with rfl | hc
  · exact ⟨c206, by decide⟩
  rcases List.mem_cons.mp hc with rfl | hc
  · exact ⟨c207, by decide⟩
  rcases List.mem_cons.mp hc with rfl | hc
  · exact ⟨c208, by decide⟩
  rcases List.mem_cons.mp hc with rfl | hc
  · exact ⟨c219, by decide⟩
  rcases List.mem_cons.mp hc with rfl | hc
  · exact ⟨c220, by decide⟩
  rcases List.mem_cons.mp hc with rfl | hc
  · exact ⟨c223, by decide⟩
  rcases List.mem_cons.mp hc with rfl | hc
  · exact ⟨c224, by decide⟩
  rcases List.mem_cons.mp hc with rfl | hc
  · exact ⟨h2h, by decide⟩
  rcases List.mem_cons.mp hc with rfl | hc
  · exact ⟨c229, by decide⟩
  rcases List.mem_cons.mp hc with rfl | hc
  · exact ⟨c231, by decide⟩
  rcases List.mem_cons.mp hc with rfl | hc
  · exact ⟨c235, by decide⟩
  rcases List.mem_cons.mp hc with rfl | hc
  · exact ⟨c236, by decide⟩
  rcases List.mem_cons.mp hc with rfl | hc
  · exact ⟨c237, by decide⟩
  rcases List.mem_cons.mp hc with rfl | hc
  · exact ⟨c238, by decide⟩
  rcases List.mem_cons.mp hc with rfl | hc
  · exact ⟨c240, by decide⟩
  rcases List.mem_cons.mp hc with rfl | hc
  · exact ⟨c242, by decide⟩
  rcases List.mem_cons.mp hc with rfl | hc
  · exact ⟨c243, by decide⟩
  rcases List.mem_cons.mp hc with rfl | hc
  · exact ⟨c246, by decide⟩
  rcases List.mem_cons.mp hc with rfl | hc
  · exact ⟨c247, by decide⟩
  rcases List.mem_cons.mp hc with rfl | hc
  · exact ⟨c249, by decide⟩
  rcases List.mem_cons.mp hc with rfl | hc
  · exact ⟨h5h, by decide⟩
  rcases List.mem_cons.mp hc with rfl | hc
  · exact ⟨h6h, by decide⟩
  rcases List.mem_cons.mp hc with rfl | hc
  · exact ⟨c251, by decide⟩
  exact absurd hc List.not_mem_nil
def la_pk : List se_K := [(90, 0, 0), (91, 0, 0), (88, 0, 0), (81, 0, 0), (121, 0, 0), (122, 0, 0), (123, 0, 0), (70, 0, 0), (71, 0, 0)]
def la_R0 : la_R := ([((1, 0, 0), (0, 0, 3), (1, 2, 0)), ((1, 2, 0), (0, 0, 0), (1, 3, 0)), ((1, 2, 0), (0, 0, 1), (1, 4, 0)), ((1, 2, 0), (0, 0, 2), (1, 5, 0)), ((1, 2, 0), (0, 0, 3), (1, 6, 0)), ((1, 1, 0), (0, 0, 22), (1, 7, 0)), ((1, 1, 0), (0, 0, 23), (1, 8, 0))], [((0, 0, 32), ((1, 3, 0), (0, 0, 0)), ((1, 7, 0), (0, 0, 0))), ((0, 0, 20), ((1, 3, 0), (0, 0, 1)), ((1, 8, 0), (0, 0, 0))), ((0, 0, 32), ((1, 4, 0), (0, 0, 0)), ((1, 7, 0), (0, 0, 1))), ((0, 0, 20), ((1, 4, 0), (0, 0, 1)), ((1, 8, 0), (0, 0, 1))), ((0, 0, 32), ((1, 5, 0), (0, 0, 0)), ((1, 7, 0), (0, 0, 2))), ((0, 0, 20), ((1, 5, 0), (0, 0, 1)), ((1, 8, 0), (0, 0, 2))), ((0, 0, 32), ((1, 6, 0), (0, 0, 0)), ((1, 7, 0), (0, 0, 3))), ((0, 0, 20), ((1, 6, 0), (0, 0, 1)), ((1, 8, 0), (0, 0, 3)))])
/-- a context: kinds of the relation's values, of the script's ints; differences (a value less an int); facts between these (0 ints, 1 values, 2 differences) -/
abbrev la_cx : Type := List se_K × List se_K × List (Nat × Nat) × List (Jvm.ClassFile.Cond × (Nat × Nat) × (Nat × Nat))
def la_cxs_any : List la_cx := [([(0, 0, 32), (0, 0, 20), (0, 0, 32), (0, 0, 20), (0, 0, 32), (0, 0, 20), (0, 0, 32), (0, 0, 20)], [(0, (-2147483648), 2147483647), (0, (-2147483648), 2147483647), (0, (-2147483648), 2147483647), (0, (-2147483648), 2147483647), (0, (-2147483648), 2147483647)], [], [])]
def la_cxc_sheet_0 : la_cx := ([(0, 0, 32), (0, 0, 20), (0, 0, 32), (0, 0, 20), (0, 0, 32), (0, 0, 20), (0, 0, 32), (0, 0, 20)], [(0, (-2147483648), (-1)), (0, (-2147483648), 2147483647), (0, (-2147483648), 2147483647), (0, (-2147483648), 2147483647), (0, (-2147483648), 2147483647)], [], [])
def la_cxc_sheet_1 : la_cx := ([(0, 0, 32), (0, 0, 20), (0, 0, 32), (0, 0, 20), (0, 0, 32), (0, 0, 20), (0, 0, 32), (0, 0, 20)], [(0, 0, 3), (0, (-2147483648), (-1)), (0, (-2147483648), 2147483647), (0, (-2147483648), 2147483647), (0, (-2147483648), 2147483647)], [], [])
def la_cxc_sheet_2 : la_cx := ([(0, 0, 32), (0, 0, 20), (0, 0, 32), (0, 0, 20), (0, 0, 32), (0, 0, 20), (0, 0, 32), (0, 0, 20)], [(0, 0, 3), (0, 0, 0), (0, (-2147483648), (-1)), (0, (-2147483648), 2147483647), (0, (-2147483648), 2147483647)], [], [])
def la_cxc_sheet_3 : la_cx := ([(0, 0, 32), (0, 0, 20), (0, 0, 32), (0, 0, 20), (0, 0, 32), (0, 0, 20), (0, 0, 32), (0, 0, 20)], [(0, 0, 0), (0, 0, 0), (0, 0, 20), (0, (-2147483648), 2147483647), (0, (-2147483648), 2147483647)], [], [])
def la_cxc_sheet_4 : la_cx := ([(0, 0, 32), (0, 0, 20), (0, 0, 32), (0, 0, 20), (0, 0, 32), (0, 0, 20), (0, 0, 32), (0, 0, 20)], [(0, 1, 1), (0, 0, 0), (0, 0, 20), (0, (-2147483648), 2147483647), (0, (-2147483648), 2147483647)], [], [])
def la_cxc_sheet_5 : la_cx := ([(0, 0, 32), (0, 0, 20), (0, 0, 32), (0, 0, 20), (0, 0, 32), (0, 0, 20), (0, 0, 32), (0, 0, 20)], [(0, 2, 2), (0, 0, 0), (0, 0, 20), (0, (-2147483648), 2147483647), (0, (-2147483648), 2147483647)], [], [])
def la_cxc_sheet_6 : la_cx := ([(0, 0, 32), (0, 0, 20), (0, 0, 32), (0, 0, 20), (0, 0, 32), (0, 0, 20), (0, 0, 32), (0, 0, 20)], [(0, 3, 3), (0, 0, 0), (0, 0, 20), (0, (-2147483648), 2147483647), (0, (-2147483648), 2147483647)], [], [])
def la_cxc_sheet_7 : la_cx := ([(0, 0, 32), (0, 0, 20), (0, 0, 32), (0, 0, 20), (0, 0, 32), (0, 0, 20), (0, 0, 32), (0, 0, 20)], [(0, 0, 3), (0, 0, 0), (0, 21, 2147483647), (0, (-2147483648), 2147483647), (0, (-2147483648), 2147483647)], [], [])
def la_cxc_sheet_8 : la_cx := ([(0, 0, 32), (0, 0, 20), (0, 0, 32), (0, 0, 20), (0, 0, 32), (0, 0, 20), (0, 0, 32), (0, 0, 20)], [(0, 0, 3), (0, 1, 7), (0, (-2147483648), 2147483647), (0, (-2147483648), 2147483647), (0, (-2147483648), 2147483647)], [], [])
def la_cxc_sheet_9 : la_cx := ([(0, 0, 32), (0, 0, 20), (0, 0, 32), (0, 0, 20), (0, 0, 32), (0, 0, 20), (0, 0, 32), (0, 0, 20)], [(0, 0, 3), (0, 8, 8), (0, (-2147483648), (-1)), (0, (-2147483648), 2147483647), (0, (-2147483648), 2147483647)], [], [])
def la_cxc_sheet_10 : la_cx := ([(0, 0, 32), (0, 0, 20), (0, 0, 32), (0, 0, 20), (0, 0, 32), (0, 0, 20), (0, 0, 32), (0, 0, 20)], [(0, 0, 0), (0, 8, 8), (0, 0, 20), (0, (-2147483648), 2147483647), (0, (-2147483648), 2147483647)], [], [])
def la_cxc_sheet_11 : la_cx := ([(0, 0, 32), (0, 0, 20), (0, 0, 32), (0, 0, 20), (0, 0, 32), (0, 0, 20), (0, 0, 32), (0, 0, 20)], [(0, 1, 1), (0, 8, 8), (0, 0, 20), (0, (-2147483648), 2147483647), (0, (-2147483648), 2147483647)], [], [])
def la_cxc_sheet_12 : la_cx := ([(0, 0, 32), (0, 0, 20), (0, 0, 32), (0, 0, 20), (0, 0, 32), (0, 0, 20), (0, 0, 32), (0, 0, 20)], [(0, 2, 2), (0, 8, 8), (0, 0, 20), (0, (-2147483648), 2147483647), (0, (-2147483648), 2147483647)], [], [])
def la_cxc_sheet_13 : la_cx := ([(0, 0, 32), (0, 0, 20), (0, 0, 32), (0, 0, 20), (0, 0, 32), (0, 0, 20), (0, 0, 32), (0, 0, 20)], [(0, 3, 3), (0, 8, 8), (0, 0, 20), (0, (-2147483648), 2147483647), (0, (-2147483648), 2147483647)], [], [])
def la_cxc_sheet_14 : la_cx := ([(0, 0, 32), (0, 0, 20), (0, 0, 32), (0, 0, 20), (0, 0, 32), (0, 0, 20), (0, 0, 32), (0, 0, 20)], [(0, 0, 3), (0, 8, 8), (0, 21, 2147483647), (0, (-2147483648), 2147483647), (0, (-2147483648), 2147483647)], [], [])
def la_cxc_sheet_15 : la_cx := ([(0, 0, 32), (0, 0, 20), (0, 0, 32), (0, 0, 20), (0, 0, 32), (0, 0, 20), (0, 0, 32), (0, 0, 20)], [(0, 0, 3), (0, 9, 15), (0, (-2147483648), 2147483647), (0, (-2147483648), 2147483647), (0, (-2147483648), 2147483647)], [], [])
def la_cxc_sheet_16 : la_cx := ([(0, 0, 32), (0, 0, 20), (0, 0, 32), (0, 0, 20), (0, 0, 32), (0, 0, 20), (0, 0, 32), (0, 0, 20)], [(0, 0, 3), (0, 16, 16), (0, (-2147483648), (-1)), (0, (-2147483648), 2147483647), (0, (-2147483648), 2147483647)], [], [])
def la_cxc_sheet_17 : la_cx := ([(0, 0, 32), (0, 0, 20), (0, 0, 32), (0, 0, 20), (0, 0, 32), (0, 0, 20), (0, 0, 32), (0, 0, 20)], [(0, 0, 0), (0, 16, 16), (0, 0, 20), (0, (-2147483648), 2147483647), (0, (-2147483648), 2147483647)], [], [])
def la_cxc_sheet_18 : la_cx := ([(0, 0, 32), (0, 0, 20), (0, 0, 32), (0, 0, 20), (0, 0, 32), (0, 0, 20), (0, 0, 32), (0, 0, 20)], [(0, 1, 1), (0, 16, 16), (0, 0, 20), (0, (-2147483648), 2147483647), (0, (-2147483648), 2147483647)], [], [])
def la_cxc_sheet_19 : la_cx := ([(0, 0, 32), (0, 0, 20), (0, 0, 32), (0, 0, 20), (0, 0, 32), (0, 0, 20), (0, 0, 32), (0, 0, 20)], [(0, 2, 2), (0, 16, 16), (0, 0, 20), (0, (-2147483648), 2147483647), (0, (-2147483648), 2147483647)], [], [])
def la_cxc_sheet_20 : la_cx := ([(0, 0, 32), (0, 0, 20), (0, 0, 32), (0, 0, 20), (0, 0, 32), (0, 0, 20), (0, 0, 32), (0, 0, 20)], [(0, 3, 3), (0, 16, 16), (0, 0, 20), (0, (-2147483648), 2147483647), (0, (-2147483648), 2147483647)], [], [])
def la_cxc_sheet_21 : la_cx := ([(0, 0, 32), (0, 0, 20), (0, 0, 32), (0, 0, 20), (0, 0, 32), (0, 0, 20), (0, 0, 32), (0, 0, 20)], [(0, 0, 3), (0, 16, 16), (0, 21, 2147483647), (0, (-2147483648), 2147483647), (0, (-2147483648), 2147483647)], [], [])
def la_cxc_sheet_22 : la_cx := ([(0, 0, 32), (0, 0, 20), (0, 0, 32), (0, 0, 20), (0, 0, 32), (0, 0, 20), (0, 0, 32), (0, 0, 20)], [(0, 0, 3), (0, 17, 31), (0, (-2147483648), 2147483647), (0, (-2147483648), 2147483647), (0, (-2147483648), 2147483647)], [], [])
def la_cxc_sheet_23 : la_cx := ([(0, 0, 32), (0, 0, 20), (0, 0, 32), (0, 0, 20), (0, 0, 32), (0, 0, 20), (0, 0, 32), (0, 0, 20)], [(0, 0, 3), (0, 32, 32), (0, (-2147483648), (-1)), (0, (-2147483648), 2147483647), (0, (-2147483648), 2147483647)], [], [])
def la_cxc_sheet_24 : la_cx := ([(0, 0, 32), (0, 0, 20), (0, 0, 32), (0, 0, 20), (0, 0, 32), (0, 0, 20), (0, 0, 32), (0, 0, 20)], [(0, 0, 0), (0, 32, 32), (0, 0, 20), (0, (-2147483648), 2147483647), (0, (-2147483648), 2147483647)], [], [])
def la_cxc_sheet_25 : la_cx := ([(0, 0, 32), (0, 0, 20), (0, 0, 32), (0, 0, 20), (0, 0, 32), (0, 0, 20), (0, 0, 32), (0, 0, 20)], [(0, 1, 1), (0, 32, 32), (0, 0, 20), (0, (-2147483648), 2147483647), (0, (-2147483648), 2147483647)], [], [])
def la_cxc_sheet_26 : la_cx := ([(0, 0, 32), (0, 0, 20), (0, 0, 32), (0, 0, 20), (0, 0, 32), (0, 0, 20), (0, 0, 32), (0, 0, 20)], [(0, 2, 2), (0, 32, 32), (0, 0, 20), (0, (-2147483648), 2147483647), (0, (-2147483648), 2147483647)], [], [])
def la_cxc_sheet_27 : la_cx := ([(0, 0, 32), (0, 0, 20), (0, 0, 32), (0, 0, 20), (0, 0, 32), (0, 0, 20), (0, 0, 32), (0, 0, 20)], [(0, 3, 3), (0, 32, 32), (0, 0, 20), (0, (-2147483648), 2147483647), (0, (-2147483648), 2147483647)], [], [])
def la_cxc_sheet_28 : la_cx := ([(0, 0, 32), (0, 0, 20), (0, 0, 32), (0, 0, 20), (0, 0, 32), (0, 0, 20), (0, 0, 32), (0, 0, 20)], [(0, 0, 3), (0, 32, 32), (0, 21, 2147483647), (0, (-2147483648), 2147483647), (0, (-2147483648), 2147483647)], [], [])
def la_cxc_sheet_29 : la_cx := ([(0, 0, 32), (0, 0, 20), (0, 0, 32), (0, 0, 20), (0, 0, 32), (0, 0, 20), (0, 0, 32), (0, 0, 20)], [(0, 0, 3), (0, 33, 2147483647), (0, (-2147483648), 2147483647), (0, (-2147483648), 2147483647), (0, (-2147483648), 2147483647)], [], [])
def la_cxc_sheet_30 : la_cx := ([(0, 0, 32), (0, 0, 20), (0, 0, 32), (0, 0, 20), (0, 0, 32), (0, 0, 20), (0, 0, 32), (0, 0, 20)], [(0, 4, 2147483647), (0, (-2147483648), 2147483647), (0, (-2147483648), 2147483647), (0, (-2147483648), 2147483647), (0, (-2147483648), 2147483647)], [], [])
def la_cxs_sheet : List la_cx := [la_cxc_sheet_0, la_cxc_sheet_1, la_cxc_sheet_2, la_cxc_sheet_3, la_cxc_sheet_4, la_cxc_sheet_5, la_cxc_sheet_6, la_cxc_sheet_7, la_cxc_sheet_8, la_cxc_sheet_9, la_cxc_sheet_10, la_cxc_sheet_11, la_cxc_sheet_12, la_cxc_sheet_13, la_cxc_sheet_14, la_cxc_sheet_15, la_cxc_sheet_16, la_cxc_sheet_17, la_cxc_sheet_18, la_cxc_sheet_19, la_cxc_sheet_20, la_cxc_sheet_21, la_cxc_sheet_22, la_cxc_sheet_23, la_cxc_sheet_24, la_cxc_sheet_25, la_cxc_sheet_26, la_cxc_sheet_27, la_cxc_sheet_28, la_cxc_sheet_29, la_cxc_sheet_30]
def la_cxc_copy_0 : la_cx := ([(0, 0, 32), (0, 0, 20), (0, 0, 32), (0, 0, 20), (0, 0, 32), (0, 0, 20), (0, 0, 32), (0, 0, 20)], [(0, (-2147483648), (-1)), (0, (-2147483648), 2147483647), (0, (-2147483648), 2147483647), (0, (-2147483648), 2147483647), (0, (-2147483648), 2147483647)], [], [])
def la_cxc_copy_1 : la_cx := ([(0, 0, 32), (0, 0, 20), (0, 0, 32), (0, 0, 20), (0, 0, 32), (0, 0, 20), (0, 0, 32), (0, 0, 20)], [(0, 0, 3), (0, (-2147483648), 2147483647), (0, (-2147483648), (-1)), (0, (-2147483648), 2147483647), (0, (-2147483648), 2147483647)], [], [])
def la_cxc_copy_2 : la_cx := ([(0, 0, 0), (0, 0, 20), (0, 0, 32), (0, 0, 20), (0, 0, 32), (0, 0, 20), (0, 0, 32), (0, 0, 20)], [(0, 0, 0), (0, (-2147483648), 2147483647), (0, 0, 0), (0, (-2147483648), 2147483647), (0, (-2147483648), 2147483647)], [], [])
def la_cxc_copy_3 : la_cx := ([(0, 1, 32), (0, 0, 20), (0, 0, 32), (0, 0, 20), (0, 0, 32), (0, 0, 20), (0, 0, 32), (0, 0, 20)], [(0, 0, 0), (0, (-2147483648), 2147483647), (0, 0, 0), (0, (-2147483648), 2147483647), (0, (-2147483648), (-1))], [], [])
def la_cxc_copy_4 : la_cx := ([(0, 1, 32), (0, 0, 20), (0, 0, 32), (0, 0, 20), (0, 0, 32), (0, 0, 20), (0, 0, 32), (0, 0, 20)], [(0, 0, 0), (0, (-2147483648), 2147483647), (0, 0, 0), (0, (-2147483648), 2147483647), (0, 1, 2147483647)], [], [(.gt, (0, 4), (1, 1))])
def la_cxc_copy_5 : la_cx := ([(0, 1, 32), (0, 0, 20), (0, 0, 32), (0, 0, 20), (0, 0, 32), (0, 0, 20), (0, 0, 32), (0, 0, 20)], [(0, 0, 0), (0, (-2147483648), (-1)), (0, 0, 0), (0, (-2147483648), 2147483647), (0, 0, 20)], [], [(.le, (0, 4), (1, 1))])
def la_cxc_copy_6 : la_cx := ([(0, 1, 32), (0, 0, 20), (0, 0, 32), (0, 0, 20), (0, 0, 32), (0, 0, 20), (0, 0, 32), (0, 0, 20)], [(0, 0, 0), (0, 0, 2147483647), (0, 0, 0), (0, (-2147483648), 2147483647), (0, 0, 20)], [(1, 4)], [(.le, (0, 4), (1, 1)), (.gt, (0, 1), (2, 0))])
def la_cxc_copy_7 : la_cx := ([(0, 1, 32), (0, 0, 20), (0, 0, 32), (0, 0, 20), (0, 0, 32), (0, 0, 20), (0, 0, 32), (0, 0, 20)], [(0, 0, 0), (0, 0, 2147483647), (0, 0, 0), (0, (-2147483648), (-1)), (0, 0, 20)], [(1, 4)], [(.le, (0, 4), (1, 1)), (.le, (0, 1), (2, 0))])
def la_cxc_copy_8 : la_cx := ([(0, 1, 32), (0, 0, 20), (0, 0, 32), (0, 0, 20), (0, 0, 32), (0, 0, 20), (0, 0, 32), (0, 0, 20)], [(0, 0, 0), (0, 0, 2147483647), (0, 0, 0), (0, 0, 2147483647), (0, 0, 20)], [(1, 4)], [(.le, (0, 4), (1, 1)), (.le, (0, 1), (2, 0)), (.gt, (0, 3), (2, 0))])
def la_cxc_copy_9 : la_cx := ([(0, 1, 32), (0, 0, 20), (0, 0, 32), (0, 0, 20), (0, 0, 32), (0, 0, 20), (0, 0, 32), (0, 0, 20)], [(0, 0, 0), (0, 0, 2147483647), (0, 0, 0), (0, 0, 2147483647), (0, 0, 20)], [(1, 4)], [(.le, (0, 4), (1, 1)), (.le, (0, 1), (2, 0)), (.le, (0, 3), (2, 0))])
def la_cxc_copy_10 : la_cx := ([(0, 0, 0), (0, 0, 20), (0, 0, 32), (0, 0, 20), (0, 0, 32), (0, 0, 20), (0, 0, 32), (0, 0, 20)], [(0, 0, 0), (0, (-2147483648), 2147483647), (0, 1, 1), (0, (-2147483648), 2147483647), (0, (-2147483648), 2147483647)], [], [])
def la_cxc_copy_11 : la_cx := ([(0, 1, 32), (0, 0, 20), (0, 0, 0), (0, 0, 20), (0, 0, 32), (0, 0, 20), (0, 0, 32), (0, 0, 20)], [(0, 0, 0), (0, (-2147483648), 2147483647), (0, 1, 1), (0, (-2147483648), 2147483647), (0, (-2147483648), 2147483647)], [], [])
def la_cxc_copy_12 : la_cx := ([(0, 1, 32), (0, 0, 20), (0, 1, 32), (0, 0, 20), (0, 0, 32), (0, 0, 20), (0, 0, 32), (0, 0, 20)], [(0, 0, 0), (0, (-2147483648), 2147483647), (0, 1, 1), (0, (-2147483648), 2147483647), (0, (-2147483648), 2147483647)], [], [(.lt, (1, 0), (1, 2))])
def la_cxc_copy_13 : la_cx := ([(0, 1, 32), (0, 0, 20), (0, 1, 32), (0, 0, 20), (0, 0, 32), (0, 0, 20), (0, 0, 32), (0, 0, 20)], [(0, 0, 0), (0, (-2147483648), 2147483647), (0, 1, 1), (0, (-2147483648), 2147483647), (0, (-2147483648), 2147483647)], [], [(.gt, (1, 0), (1, 2))])
def la_cxc_copy_14 : la_cx := ([(0, 1, 32), (0, 0, 20), (0, 1, 32), (0, 0, 20), (0, 0, 32), (0, 0, 20), (0, 0, 32), (0, 0, 20)], [(0, 0, 0), (0, (-2147483648), 2147483647), (0, 1, 1), (0, (-2147483648), 2147483647), (0, (-2147483648), (-1))], [], [(.eq, (1, 0), (1, 2))])
def la_cxc_copy_15 : la_cx := ([(0, 1, 32), (0, 0, 20), (0, 1, 32), (0, 0, 20), (0, 0, 32), (0, 0, 20), (0, 0, 32), (0, 0, 20)], [(0, 0, 0), (0, (-2147483648), 2147483647), (0, 1, 1), (0, (-2147483648), 2147483647), (0, 1, 2147483647)], [], [(.eq, (1, 0), (1, 2)), (.gt, (0, 4), (1, 1))])
def la_cxc_copy_16 : la_cx := ([(0, 1, 32), (0, 0, 20), (0, 1, 32), (0, 0, 20), (0, 0, 32), (0, 0, 20), (0, 0, 32), (0, 0, 20)], [(0, 0, 0), (0, (-2147483648), 2147483647), (0, 1, 1), (0, (-2147483648), 2147483647), (0, 1, 20)], [], [(.eq, (1, 0), (1, 2)), (.le, (0, 4), (1, 1)), (.gt, (0, 4), (1, 3))])
def la_cxc_copy_17 : la_cx := ([(0, 1, 32), (0, 0, 20), (0, 1, 32), (0, 0, 20), (0, 0, 32), (0, 0, 20), (0, 0, 32), (0, 0, 20)], [(0, 0, 0), (0, (-2147483648), (-1)), (0, 1, 1), (0, (-2147483648), 2147483647), (0, 0, 20)], [], [(.eq, (1, 0), (1, 2)), (.le, (0, 4), (1, 1)), (.le, (0, 4), (1, 3))])
def la_cxc_copy_18 : la_cx := ([(0, 1, 32), (0, 0, 20), (0, 1, 32), (0, 0, 20), (0, 0, 32), (0, 0, 20), (0, 0, 32), (0, 0, 20)], [(0, 0, 0), (0, 0, 2147483647), (0, 1, 1), (0, (-2147483648), 2147483647), (0, 0, 20)], [(1, 4)], [(.eq, (1, 0), (1, 2)), (.le, (0, 4), (1, 1)), (.le, (0, 4), (1, 3)), (.gt, (0, 1), (2, 0))])
def la_cxc_copy_19 : la_cx := ([(0, 1, 32), (0, 0, 20), (0, 1, 32), (0, 0, 20), (0, 0, 32), (0, 0, 20), (0, 0, 32), (0, 0, 20)], [(0, 0, 0), (0, 0, 2147483647), (0, 1, 1), (0, (-2147483648), (-1)), (0, 0, 20)], [(1, 4)], [(.eq, (1, 0), (1, 2)), (.le, (0, 4), (1, 1)), (.le, (0, 4), (1, 3)), (.le, (0, 1), (2, 0))])
def la_cxc_copy_20 : la_cx := ([(0, 1, 32), (0, 0, 20), (0, 1, 32), (0, 0, 20), (0, 0, 32), (0, 0, 20), (0, 0, 32), (0, 0, 20)], [(0, 0, 0), (0, 0, 2147483647), (0, 1, 1), (0, 0, 2147483647), (0, 0, 20)], [(1, 4), (3, 4)], [(.eq, (1, 0), (1, 2)), (.le, (0, 4), (1, 1)), (.le, (0, 4), (1, 3)), (.le, (0, 1), (2, 0)), (.gt, (0, 3), (2, 1))])
def la_cxc_copy_21 : la_cx := ([(0, 1, 32), (0, 0, 20), (0, 1, 32), (0, 0, 20), (0, 0, 32), (0, 0, 20), (0, 0, 32), (0, 0, 20)], [(0, 0, 0), (0, 0, 2147483647), (0, 1, 1), (0, 0, 2147483647), (0, 0, 20)], [(1, 4), (3, 4)], [(.eq, (1, 0), (1, 2)), (.le, (0, 4), (1, 1)), (.le, (0, 4), (1, 3)), (.le, (0, 1), (2, 0)), (.le, (0, 3), (2, 1))])
def la_cxc_copy_22 : la_cx := ([(0, 0, 0), (0, 0, 20), (0, 0, 32), (0, 0, 20), (0, 0, 32), (0, 0, 20), (0, 0, 32), (0, 0, 20)], [(0, 0, 0), (0, (-2147483648), 2147483647), (0, 2, 2), (0, (-2147483648), 2147483647), (0, (-2147483648), 2147483647)], [], [])
def la_cxc_copy_23 : la_cx := ([(0, 1, 32), (0, 0, 20), (0, 0, 32), (0, 0, 20), (0, 0, 0), (0, 0, 20), (0, 0, 32), (0, 0, 20)], [(0, 0, 0), (0, (-2147483648), 2147483647), (0, 2, 2), (0, (-2147483648), 2147483647), (0, (-2147483648), 2147483647)], [], [])
def la_cxc_copy_24 : la_cx := ([(0, 1, 32), (0, 0, 20), (0, 0, 32), (0, 0, 20), (0, 1, 32), (0, 0, 20), (0, 0, 32), (0, 0, 20)], [(0, 0, 0), (0, (-2147483648), 2147483647), (0, 2, 2), (0, (-2147483648), 2147483647), (0, (-2147483648), 2147483647)], [], [(.lt, (1, 0), (1, 4))])
def la_cxc_copy_25 : la_cx := ([(0, 1, 32), (0, 0, 20), (0, 0, 32), (0, 0, 20), (0, 1, 32), (0, 0, 20), (0, 0, 32), (0, 0, 20)], [(0, 0, 0), (0, (-2147483648), 2147483647), (0, 2, 2), (0, (-2147483648), 2147483647), (0, (-2147483648), 2147483647)], [], [(.gt, (1, 0), (1, 4))])
def la_cxc_copy_26 : la_cx := ([(0, 1, 32), (0, 0, 20), (0, 0, 32), (0, 0, 20), (0, 1, 32), (0, 0, 20), (0, 0, 32), (0, 0, 20)], [(0, 0, 0), (0, (-2147483648), 2147483647), (0, 2, 2), (0, (-2147483648), 2147483647), (0, (-2147483648), (-1))], [], [(.eq, (1, 0), (1, 4))])
def la_cxc_copy_27 : la_cx := ([(0, 1, 32), (0, 0, 20), (0, 0, 32), (0, 0, 20), (0, 1, 32), (0, 0, 20), (0, 0, 32), (0, 0, 20)], [(0, 0, 0), (0, (-2147483648), 2147483647), (0, 2, 2), (0, (-2147483648), 2147483647), (0, 1, 2147483647)], [], [(.eq, (1, 0), (1, 4)), (.gt, (0, 4), (1, 1))])
def la_cxc_copy_28 : la_cx := ([(0, 1, 32), (0, 0, 20), (0, 0, 32), (0, 0, 20), (0, 1, 32), (0, 0, 20), (0, 0, 32), (0, 0, 20)], [(0, 0, 0), (0, (-2147483648), 2147483647), (0, 2, 2), (0, (-2147483648), 2147483647), (0, 1, 20)], [], [(.eq, (1, 0), (1, 4)), (.le, (0, 4), (1, 1)), (.gt, (0, 4), (1, 5))])
def la_cxc_copy_29 : la_cx := ([(0, 1, 32), (0, 0, 20), (0, 0, 32), (0, 0, 20), (0, 1, 32), (0, 0, 20), (0, 0, 32), (0, 0, 20)], [(0, 0, 0), (0, (-2147483648), (-1)), (0, 2, 2), (0, (-2147483648), 2147483647), (0, 0, 20)], [], [(.eq, (1, 0), (1, 4)), (.le, (0, 4), (1, 1)), (.le, (0, 4), (1, 5))])
def la_cxc_copy_30 : la_cx := ([(0, 1, 32), (0, 0, 20), (0, 0, 32), (0, 0, 20), (0, 1, 32), (0, 0, 20), (0, 0, 32), (0, 0, 20)], [(0, 0, 0), (0, 0, 2147483647), (0, 2, 2), (0, (-2147483648), 2147483647), (0, 0, 20)], [(1, 4)], [(.eq, (1, 0), (1, 4)), (.le, (0, 4), (1, 1)), (.le, (0, 4), (1, 5)), (.gt, (0, 1), (2, 0))])
def la_cxc_copy_31 : la_cx := ([(0, 1, 32), (0, 0, 20), (0, 0, 32), (0, 0, 20), (0, 1, 32), (0, 0, 20), (0, 0, 32), (0, 0, 20)], [(0, 0, 0), (0, 0, 2147483647), (0, 2, 2), (0, (-2147483648), (-1)), (0, 0, 20)], [(1, 4)], [(.eq, (1, 0), (1, 4)), (.le, (0, 4), (1, 1)), (.le, (0, 4), (1, 5)), (.le, (0, 1), (2, 0))])
def la_cxc_copy_32 : la_cx := ([(0, 1, 32), (0, 0, 20), (0, 0, 32), (0, 0, 20), (0, 1, 32), (0, 0, 20), (0, 0, 32), (0, 0, 20)], [(0, 0, 0), (0, 0, 2147483647), (0, 2, 2), (0, 0, 2147483647), (0, 0, 20)], [(1, 4), (5, 4)], [(.eq, (1, 0), (1, 4)), (.le, (0, 4), (1, 1)), (.le, (0, 4), (1, 5)), (.le, (0, 1), (2, 0)), (.gt, (0, 3), (2, 1))])
def la_cxc_copy_33 : la_cx := ([(0, 1, 32), (0, 0, 20), (0, 0, 32), (0, 0, 20), (0, 1, 32), (0, 0, 20), (0, 0, 32), (0, 0, 20)], [(0, 0, 0), (0, 0, 2147483647), (0, 2, 2), (0, 0, 2147483647), (0, 0, 20)], [(1, 4), (5, 4)], [(.eq, (1, 0), (1, 4)), (.le, (0, 4), (1, 1)), (.le, (0, 4), (1, 5)), (.le, (0, 1), (2, 0)), (.le, (0, 3), (2, 1))])
def la_cxc_copy_34 : la_cx := ([(0, 0, 0), (0, 0, 20), (0, 0, 32), (0, 0, 20), (0, 0, 32), (0, 0, 20), (0, 0, 32), (0, 0, 20)], [(0, 0, 0), (0, (-2147483648), 2147483647), (0, 3, 3), (0, (-2147483648), 2147483647), (0, (-2147483648), 2147483647)], [], [])
def la_cxc_copy_35 : la_cx := ([(0, 1, 32), (0, 0, 20), (0, 0, 32), (0, 0, 20), (0, 0, 32), (0, 0, 20), (0, 0, 0), (0, 0, 20)], [(0, 0, 0), (0, (-2147483648), 2147483647), (0, 3, 3), (0, (-2147483648), 2147483647), (0, (-2147483648), 2147483647)], [], [])
def la_cxc_copy_36 : la_cx := ([(0, 1, 32), (0, 0, 20), (0, 0, 32), (0, 0, 20), (0, 0, 32), (0, 0, 20), (0, 1, 32), (0, 0, 20)], [(0, 0, 0), (0, (-2147483648), 2147483647), (0, 3, 3), (0, (-2147483648), 2147483647), (0, (-2147483648), 2147483647)], [], [(.lt, (1, 0), (1, 6))])
def la_cxc_copy_37 : la_cx := ([(0, 1, 32), (0, 0, 20), (0, 0, 32), (0, 0, 20), (0, 0, 32), (0, 0, 20), (0, 1, 32), (0, 0, 20)], [(0, 0, 0), (0, (-2147483648), 2147483647), (0, 3, 3), (0, (-2147483648), 2147483647), (0, (-2147483648), 2147483647)], [], [(.gt, (1, 0), (1, 6))])
def la_cxc_copy_38 : la_cx := ([(0, 1, 32), (0, 0, 20), (0, 0, 32), (0, 0, 20), (0, 0, 32), (0, 0, 20), (0, 1, 32), (0, 0, 20)], [(0, 0, 0), (0, (-2147483648), 2147483647), (0, 3, 3), (0, (-2147483648), 2147483647), (0, (-2147483648), (-1))], [], [(.eq, (1, 0), (1, 6))])
def la_cxc_copy_39 : la_cx := ([(0, 1, 32), (0, 0, 20), (0, 0, 32), (0, 0, 20), (0, 0, 32), (0, 0, 20), (0, 1, 32), (0, 0, 20)], [(0, 0, 0), (0, (-2147483648), 2147483647), (0, 3, 3), (0, (-2147483648), 2147483647), (0, 1, 2147483647)], [], [(.eq, (1, 0), (1, 6)), (.gt, (0, 4), (1, 1))])
def la_cxc_copy_40 : la_cx := ([(0, 1, 32), (0, 0, 20), (0, 0, 32), (0, 0, 20), (0, 0, 32), (0, 0, 20), (0, 1, 32), (0, 0, 20)], [(0, 0, 0), (0, (-2147483648), 2147483647), (0, 3, 3), (0, (-2147483648), 2147483647), (0, 1, 20)], [], [(.eq, (1, 0), (1, 6)), (.le, (0, 4), (1, 1)), (.gt, (0, 4), (1, 7))])
def la_cxc_copy_41 : la_cx := ([(0, 1, 32), (0, 0, 20), (0, 0, 32), (0, 0, 20), (0, 0, 32), (0, 0, 20), (0, 1, 32), (0, 0, 20)], [(0, 0, 0), (0, (-2147483648), (-1)), (0, 3, 3), (0, (-2147483648), 2147483647), (0, 0, 20)], [], [(.eq, (1, 0), (1, 6)), (.le, (0, 4), (1, 1)), (.le, (0, 4), (1, 7))])
def la_cxc_copy_42 : la_cx := ([(0, 1, 32), (0, 0, 20), (0, 0, 32), (0, 0, 20), (0, 0, 32), (0, 0, 20), (0, 1, 32), (0, 0, 20)], [(0, 0, 0), (0, 0, 2147483647), (0, 3, 3), (0, (-2147483648), 2147483647), (0, 0, 20)], [(1, 4)], [(.eq, (1, 0), (1, 6)), (.le, (0, 4), (1, 1)), (.le, (0, 4), (1, 7)), (.gt, (0, 1), (2, 0))])
def la_cxc_copy_43 : la_cx := ([(0, 1, 32), (0, 0, 20), (0, 0, 32), (0, 0, 20), (0, 0, 32), (0, 0, 20), (0, 1, 32), (0, 0, 20)], [(0, 0, 0), (0, 0, 2147483647), (0, 3, 3), (0, (-2147483648), (-1)), (0, 0, 20)], [(1, 4)], [(.eq, (1, 0), (1, 6)), (.le, (0, 4), (1, 1)), (.le, (0, 4), (1, 7)), (.le, (0, 1), (2, 0))])
def la_cxc_copy_44 : la_cx := ([(0, 1, 32), (0, 0, 20), (0, 0, 32), (0, 0, 20), (0, 0, 32), (0, 0, 20), (0, 1, 32), (0, 0, 20)], [(0, 0, 0), (0, 0, 2147483647), (0, 3, 3), (0, 0, 2147483647), (0, 0, 20)], [(1, 4), (7, 4)], [(.eq, (1, 0), (1, 6)), (.le, (0, 4), (1, 1)), (.le, (0, 4), (1, 7)), (.le, (0, 1), (2, 0)), (.gt, (0, 3), (2, 1))])
def la_cxc_copy_45 : la_cx := ([(0, 1, 32), (0, 0, 20), (0, 0, 32), (0, 0, 20), (0, 0, 32), (0, 0, 20), (0, 1, 32), (0, 0, 20)], [(0, 0, 0), (0, 0, 2147483647), (0, 3, 3), (0, 0, 2147483647), (0, 0, 20)], [(1, 4), (7, 4)], [(.eq, (1, 0), (1, 6)), (.le, (0, 4), (1, 1)), (.le, (0, 4), (1, 7)), (.le, (0, 1), (2, 0)), (.le, (0, 3), (2, 1))])
def la_cxc_copy_46 : la_cx := ([(0, 0, 32), (0, 0, 20), (0, 0, 0), (0, 0, 20), (0, 0, 32), (0, 0, 20), (0, 0, 32), (0, 0, 20)], [(0, 1, 1), (0, (-2147483648), 2147483647), (0, 0, 0), (0, (-2147483648), 2147483647), (0, (-2147483648), 2147483647)], [], [])
def la_cxc_copy_47 : la_cx := ([(0, 0, 0), (0, 0, 20), (0, 1, 32), (0, 0, 20), (0, 0, 32), (0, 0, 20), (0, 0, 32), (0, 0, 20)], [(0, 1, 1), (0, (-2147483648), 2147483647), (0, 0, 0), (0, (-2147483648), 2147483647), (0, (-2147483648), 2147483647)], [], [])
def la_cxc_copy_48 : la_cx := ([(0, 1, 32), (0, 0, 20), (0, 1, 32), (0, 0, 20), (0, 0, 32), (0, 0, 20), (0, 0, 32), (0, 0, 20)], [(0, 1, 1), (0, (-2147483648), 2147483647), (0, 0, 0), (0, (-2147483648), 2147483647), (0, (-2147483648), 2147483647)], [], [(.lt, (1, 2), (1, 0))])
def la_cxc_copy_49 : la_cx := ([(0, 1, 32), (0, 0, 20), (0, 1, 32), (0, 0, 20), (0, 0, 32), (0, 0, 20), (0, 0, 32), (0, 0, 20)], [(0, 1, 1), (0, (-2147483648), 2147483647), (0, 0, 0), (0, (-2147483648), 2147483647), (0, (-2147483648), 2147483647)], [], [(.gt, (1, 2), (1, 0))])
def la_cxc_copy_50 : la_cx := ([(0, 1, 32), (0, 0, 20), (0, 1, 32), (0, 0, 20), (0, 0, 32), (0, 0, 20), (0, 0, 32), (0, 0, 20)], [(0, 1, 1), (0, (-2147483648), 2147483647), (0, 0, 0), (0, (-2147483648), 2147483647), (0, (-2147483648), (-1))], [], [(.eq, (1, 2), (1, 0))])
def la_cxc_copy_51 : la_cx := ([(0, 1, 32), (0, 0, 20), (0, 1, 32), (0, 0, 20), (0, 0, 32), (0, 0, 20), (0, 0, 32), (0, 0, 20)], [(0, 1, 1), (0, (-2147483648), 2147483647), (0, 0, 0), (0, (-2147483648), 2147483647), (0, 1, 2147483647)], [], [(.eq, (1, 2), (1, 0)), (.gt, (0, 4), (1, 3))])
def la_cxc_copy_52 : la_cx := ([(0, 1, 32), (0, 0, 20), (0, 1, 32), (0, 0, 20), (0, 0, 32), (0, 0, 20), (0, 0, 32), (0, 0, 20)], [(0, 1, 1), (0, (-2147483648), 2147483647), (0, 0, 0), (0, (-2147483648), 2147483647), (0, 1, 20)], [], [(.eq, (1, 2), (1, 0)), (.le, (0, 4), (1, 3)), (.gt, (0, 4), (1, 1))])
def la_cxc_copy_53 : la_cx := ([(0, 1, 32), (0, 0, 20), (0, 1, 32), (0, 0, 20), (0, 0, 32), (0, 0, 20), (0, 0, 32), (0, 0, 20)], [(0, 1, 1), (0, (-2147483648), (-1)), (0, 0, 0), (0, (-2147483648), 2147483647), (0, 0, 20)], [], [(.eq, (1, 2), (1, 0)), (.le, (0, 4), (1, 3)), (.le, (0, 4), (1, 1))])
def la_cxc_copy_54 : la_cx := ([(0, 1, 32), (0, 0, 20), (0, 1, 32), (0, 0, 20), (0, 0, 32), (0, 0, 20), (0, 0, 32), (0, 0, 20)], [(0, 1, 1), (0, 0, 2147483647), (0, 0, 0), (0, (-2147483648), 2147483647), (0, 0, 20)], [(3, 4)], [(.eq, (1, 2), (1, 0)), (.le, (0, 4), (1, 3)), (.le, (0, 4), (1, 1)), (.gt, (0, 1), (2, 0))])
def la_cxc_copy_55 : la_cx := ([(0, 1, 32), (0, 0, 20), (0, 1, 32), (0, 0, 20), (0, 0, 32), (0, 0, 20), (0, 0, 32), (0, 0, 20)], [(0, 1, 1), (0, 0, 2147483647), (0, 0, 0), (0, (-2147483648), (-1)), (0, 0, 20)], [(3, 4)], [(.eq, (1, 2), (1, 0)), (.le, (0, 4), (1, 3)), (.le, (0, 4), (1, 1)), (.le, (0, 1), (2, 0))])
def la_cxc_copy_56 : la_cx := ([(0, 1, 32), (0, 0, 20), (0, 1, 32), (0, 0, 20), (0, 0, 32), (0, 0, 20), (0, 0, 32), (0, 0, 20)], [(0, 1, 1), (0, 0, 2147483647), (0, 0, 0), (0, 0, 2147483647), (0, 0, 20)], [(3, 4), (1, 4)], [(.eq, (1, 2), (1, 0)), (.le, (0, 4), (1, 3)), (.le, (0, 4), (1, 1)), (.le, (0, 1), (2, 0)), (.gt, (0, 3), (2, 1))])
def la_cxc_copy_57 : la_cx := ([(0, 1, 32), (0, 0, 20), (0, 1, 32), (0, 0, 20), (0, 0, 32), (0, 0, 20), (0, 0, 32), (0, 0, 20)], [(0, 1, 1), (0, 0, 2147483647), (0, 0, 0), (0, 0, 2147483647), (0, 0, 20)], [(3, 4), (1, 4)], [(.eq, (1, 2), (1, 0)), (.le, (0, 4), (1, 3)), (.le, (0, 4), (1, 1)), (.le, (0, 1), (2, 0)), (.le, (0, 3), (2, 1))])
def la_cxc_copy_58 : la_cx := ([(0, 0, 32), (0, 0, 20), (0, 0, 0), (0, 0, 20), (0, 0, 32), (0, 0, 20), (0, 0, 32), (0, 0, 20)], [(0, 1, 1), (0, (-2147483648), 2147483647), (0, 1, 1), (0, (-2147483648), 2147483647), (0, (-2147483648), 2147483647)], [], [])
def la_cxc_copy_59 : la_cx := ([(0, 0, 32), (0, 0, 20), (0, 1, 32), (0, 0, 20), (0, 0, 32), (0, 0, 20), (0, 0, 32), (0, 0, 20)], [(0, 1, 1), (0, (-2147483648), 2147483647), (0, 1, 1), (0, (-2147483648), 2147483647), (0, (-2147483648), (-1))], [], [])
def la_cxc_copy_60 : la_cx := ([(0, 0, 32), (0, 0, 20), (0, 1, 32), (0, 0, 20), (0, 0, 32), (0, 0, 20), (0, 0, 32), (0, 0, 20)], [(0, 1, 1), (0, (-2147483648), 2147483647), (0, 1, 1), (0, (-2147483648), 2147483647), (0, 1, 2147483647)], [], [(.gt, (0, 4), (1, 3))])
def la_cxc_copy_61 : la_cx := ([(0, 0, 32), (0, 0, 20), (0, 1, 32), (0, 0, 20), (0, 0, 32), (0, 0, 20), (0, 0, 32), (0, 0, 20)], [(0, 1, 1), (0, (-2147483648), (-1)), (0, 1, 1), (0, (-2147483648), 2147483647), (0, 0, 20)], [], [(.le, (0, 4), (1, 3))])
def la_cxc_copy_62 : la_cx := ([(0, 0, 32), (0, 0, 20), (0, 1, 32), (0, 0, 20), (0, 0, 32), (0, 0, 20), (0, 0, 32), (0, 0, 20)], [(0, 1, 1), (0, 0, 2147483647), (0, 1, 1), (0, (-2147483648), 2147483647), (0, 0, 20)], [(3, 4)], [(.le, (0, 4), (1, 3)), (.gt, (0, 1), (2, 0))])
def la_cxc_copy_63 : la_cx := ([(0, 0, 32), (0, 0, 20), (0, 1, 32), (0, 0, 20), (0, 0, 32), (0, 0, 20), (0, 0, 32), (0, 0, 20)], [(0, 1, 1), (0, 0, 2147483647), (0, 1, 1), (0, (-2147483648), (-1)), (0, 0, 20)], [(3, 4)], [(.le, (0, 4), (1, 3)), (.le, (0, 1), (2, 0))])
def la_cxc_copy_64 : la_cx := ([(0, 0, 32), (0, 0, 20), (0, 1, 32), (0, 0, 20), (0, 0, 32), (0, 0, 20), (0, 0, 32), (0, 0, 20)], [(0, 1, 1), (0, 0, 2147483647), (0, 1, 1), (0, 0, 2147483647), (0, 0, 20)], [(3, 4)], [(.le, (0, 4), (1, 3)), (.le, (0, 1), (2, 0)), (.gt, (0, 3), (2, 0))])
def la_cxc_copy_65 : la_cx := ([(0, 0, 32), (0, 0, 20), (0, 1, 32), (0, 0, 20), (0, 0, 32), (0, 0, 20), (0, 0, 32), (0, 0, 20)], [(0, 1, 1), (0, 0, 2147483647), (0, 1, 1), (0, 0, 2147483647), (0, 0, 20)], [(3, 4)], [(.le, (0, 4), (1, 3)), (.le, (0, 1), (2, 0)), (.le, (0, 3), (2, 0))])
def la_cxc_copy_66 : la_cx := ([(0, 0, 32), (0, 0, 20), (0, 0, 0), (0, 0, 20), (0, 0, 32), (0, 0, 20), (0, 0, 32), (0, 0, 20)], [(0, 1, 1), (0, (-2147483648), 2147483647), (0, 2, 2), (0, (-2147483648), 2147483647), (0, (-2147483648), 2147483647)], [], [])
def la_cxc_copy_67 : la_cx := ([(0, 0, 32), (0, 0, 20), (0, 1, 32), (0, 0, 20), (0, 0, 0), (0, 0, 20), (0, 0, 32), (0, 0, 20)], [(0, 1, 1), (0, (-2147483648), 2147483647), (0, 2, 2), (0, (-2147483648), 2147483647), (0, (-2147483648), 2147483647)], [], [])
def la_cxc_copy_68 : la_cx := ([(0, 0, 32), (0, 0, 20), (0, 1, 32), (0, 0, 20), (0, 1, 32), (0, 0, 20), (0, 0, 32), (0, 0, 20)], [(0, 1, 1), (0, (-2147483648), 2147483647), (0, 2, 2), (0, (-2147483648), 2147483647), (0, (-2147483648), 2147483647)], [], [(.lt, (1, 2), (1, 4))])
def la_cxc_copy_69 : la_cx := ([(0, 0, 32), (0, 0, 20), (0, 1, 32), (0, 0, 20), (0, 1, 32), (0, 0, 20), (0, 0, 32), (0, 0, 20)], [(0, 1, 1), (0, (-2147483648), 2147483647), (0, 2, 2), (0, (-2147483648), 2147483647), (0, (-2147483648), 2147483647)], [], [(.gt, (1, 2), (1, 4))])
def la_cxc_copy_70 : la_cx := ([(0, 0, 32), (0, 0, 20), (0, 1, 32), (0, 0, 20), (0, 1, 32), (0, 0, 20), (0, 0, 32), (0, 0, 20)], [(0, 1, 1), (0, (-2147483648), 2147483647), (0, 2, 2), (0, (-2147483648), 2147483647), (0, (-2147483648), (-1))], [], [(.eq, (1, 2), (1, 4))])
def la_cxc_copy_71 : la_cx := ([(0, 0, 32), (0, 0, 20), (0, 1, 32), (0, 0, 20), (0, 1, 32), (0, 0, 20), (0, 0, 32), (0, 0, 20)], [(0, 1, 1), (0, (-2147483648), 2147483647), (0, 2, 2), (0, (-2147483648), 2147483647), (0, 1, 2147483647)], [], [(.eq, (1, 2), (1, 4)), (.gt, (0, 4), (1, 3))])
def la_cxc_copy_72 : la_cx := ([(0, 0, 32), (0, 0, 20), (0, 1, 32), (0, 0, 20), (0, 1, 32), (0, 0, 20), (0, 0, 32), (0, 0, 20)], [(0, 1, 1), (0, (-2147483648), 2147483647), (0, 2, 2), (0, (-2147483648), 2147483647), (0, 1, 20)], [], [(.eq, (1, 2), (1, 4)), (.le, (0, 4), (1, 3)), (.gt, (0, 4), (1, 5))])
def la_cxc_copy_73 : la_cx := ([(0, 0, 32), (0, 0, 20), (0, 1, 32), (0, 0, 20), (0, 1, 32), (0, 0, 20), (0, 0, 32), (0, 0, 20)], [(0, 1, 1), (0, (-2147483648), (-1)), (0, 2, 2), (0, (-2147483648), 2147483647), (0, 0, 20)], [], [(.eq, (1, 2), (1, 4)), (.le, (0, 4), (1, 3)), (.le, (0, 4), (1, 5))])
def la_cxc_copy_74 : la_cx := ([(0, 0, 32), (0, 0, 20), (0, 1, 32), (0, 0, 20), (0, 1, 32), (0, 0, 20), (0, 0, 32), (0, 0, 20)], [(0, 1, 1), (0, 0, 2147483647), (0, 2, 2), (0, (-2147483648), 2147483647), (0, 0, 20)], [(3, 4)], [(.eq, (1, 2), (1, 4)), (.le, (0, 4), (1, 3)), (.le, (0, 4), (1, 5)), (.gt, (0, 1), (2, 0))])
def la_cxc_copy_75 : la_cx := ([(0, 0, 32), (0, 0, 20), (0, 1, 32), (0, 0, 20), (0, 1, 32), (0, 0, 20), (0, 0, 32), (0, 0, 20)], [(0, 1, 1), (0, 0, 2147483647), (0, 2, 2), (0, (-2147483648), (-1)), (0, 0, 20)], [(3, 4)], [(.eq, (1, 2), (1, 4)), (.le, (0, 4), (1, 3)), (.le, (0, 4), (1, 5)), (.le, (0, 1), (2, 0))])
def la_cxc_copy_76 : la_cx := ([(0, 0, 32), (0, 0, 20), (0, 1, 32), (0, 0, 20), (0, 1, 32), (0, 0, 20), (0, 0, 32), (0, 0, 20)], [(0, 1, 1), (0, 0, 2147483647), (0, 2, 2), (0, 0, 2147483647), (0, 0, 20)], [(3, 4), (5, 4)], [(.eq, (1, 2), (1, 4)), (.le, (0, 4), (1, 3)), (.le, (0, 4), (1, 5)), (.le, (0, 1), (2, 0)), (.gt, (0, 3), (2, 1))])
def la_cxc_copy_77 : la_cx := ([(0, 0, 32), (0, 0, 20), (0, 1, 32), (0, 0, 20), (0, 1, 32), (0, 0, 20), (0, 0, 32), (0, 0, 20)], [(0, 1, 1), (0, 0, 2147483647), (0, 2, 2), (0, 0, 2147483647), (0, 0, 20)], [(3, 4), (5, 4)], [(.eq, (1, 2), (1, 4)), (.le, (0, 4), (1, 3)), (.le, (0, 4), (1, 5)), (.le, (0, 1), (2, 0)), (.le, (0, 3), (2, 1))])
def la_cxc_copy_78 : la_cx := ([(0, 0, 32), (0, 0, 20), (0, 0, 0), (0, 0, 20), (0, 0, 32), (0, 0, 20), (0, 0, 32), (0, 0, 20)], [(0, 1, 1), (0, (-2147483648), 2147483647), (0, 3, 3), (0, (-2147483648), 2147483647), (0, (-2147483648), 2147483647)], [], [])
def la_cxc_copy_79 : la_cx := ([(0, 0, 32), (0, 0, 20), (0, 1, 32), (0, 0, 20), (0, 0, 32), (0, 0, 20), (0, 0, 0), (0, 0, 20)], [(0, 1, 1), (0, (-2147483648), 2147483647), (0, 3, 3), (0, (-2147483648), 2147483647), (0, (-2147483648), 2147483647)], [], [])
def la_cxc_copy_80 : la_cx := ([(0, 0, 32), (0, 0, 20), (0, 1, 32), (0, 0, 20), (0, 0, 32), (0, 0, 20), (0, 1, 32), (0, 0, 20)], [(0, 1, 1), (0, (-2147483648), 2147483647), (0, 3, 3), (0, (-2147483648), 2147483647), (0, (-2147483648), 2147483647)], [], [(.lt, (1, 2), (1, 6))])
def la_cxc_copy_81 : la_cx := ([(0, 0, 32), (0, 0, 20), (0, 1, 32), (0, 0, 20), (0, 0, 32), (0, 0, 20), (0, 1, 32), (0, 0, 20)], [(0, 1, 1), (0, (-2147483648), 2147483647), (0, 3, 3), (0, (-2147483648), 2147483647), (0, (-2147483648), 2147483647)], [], [(.gt, (1, 2), (1, 6))])
def la_cxc_copy_82 : la_cx := ([(0, 0, 32), (0, 0, 20), (0, 1, 32), (0, 0, 20), (0, 0, 32), (0, 0, 20), (0, 1, 32), (0, 0, 20)], [(0, 1, 1), (0, (-2147483648), 2147483647), (0, 3, 3), (0, (-2147483648), 2147483647), (0, (-2147483648), (-1))], [], [(.eq, (1, 2), (1, 6))])
def la_cxc_copy_83 : la_cx := ([(0, 0, 32), (0, 0, 20), (0, 1, 32), (0, 0, 20), (0, 0, 32), (0, 0, 20), (0, 1, 32), (0, 0, 20)], [(0, 1, 1), (0, (-2147483648), 2147483647), (0, 3, 3), (0, (-2147483648), 2147483647), (0, 1, 2147483647)], [], [(.eq, (1, 2), (1, 6)), (.gt, (0, 4), (1, 3))])
def la_cxc_copy_84 : la_cx := ([(0, 0, 32), (0, 0, 20), (0, 1, 32), (0, 0, 20), (0, 0, 32), (0, 0, 20), (0, 1, 32), (0, 0, 20)], [(0, 1, 1), (0, (-2147483648), 2147483647), (0, 3, 3), (0, (-2147483648), 2147483647), (0, 1, 20)], [], [(.eq, (1, 2), (1, 6)), (.le, (0, 4), (1, 3)), (.gt, (0, 4), (1, 7))])
def la_cxc_copy_85 : la_cx := ([(0, 0, 32), (0, 0, 20), (0, 1, 32), (0, 0, 20), (0, 0, 32), (0, 0, 20), (0, 1, 32), (0, 0, 20)], [(0, 1, 1), (0, (-2147483648), (-1)), (0, 3, 3), (0, (-2147483648), 2147483647), (0, 0, 20)], [], [(.eq, (1, 2), (1, 6)), (.le, (0, 4), (1, 3)), (.le, (0, 4), (1, 7))])
def la_cxc_copy_86 : la_cx := ([(0, 0, 32), (0, 0, 20), (0, 1, 32), (0, 0, 20), (0, 0, 32), (0, 0, 20), (0, 1, 32), (0, 0, 20)], [(0, 1, 1), (0, 0, 2147483647), (0, 3, 3), (0, (-2147483648), 2147483647), (0, 0, 20)], [(3, 4)], [(.eq, (1, 2), (1, 6)), (.le, (0, 4), (1, 3)), (.le, (0, 4), (1, 7)), (.gt, (0, 1), (2, 0))])
def la_cxc_copy_87 : la_cx := ([(0, 0, 32), (0, 0, 20), (0, 1, 32), (0, 0, 20), (0, 0, 32), (0, 0, 20), (0, 1, 32), (0, 0, 20)], [(0, 1, 1), (0, 0, 2147483647), (0, 3, 3), (0, (-2147483648), (-1)), (0, 0, 20)], [(3, 4)], [(.eq, (1, 2), (1, 6)), (.le, (0, 4), (1, 3)), (.le, (0, 4), (1, 7)), (.le, (0, 1), (2, 0))])
def la_cxc_copy_88 : la_cx := ([(0, 0, 32), (0, 0, 20), (0, 1, 32), (0, 0, 20), (0, 0, 32), (0, 0, 20), (0, 1, 32), (0, 0, 20)], [(0, 1, 1), (0, 0, 2147483647), (0, 3, 3), (0, 0, 2147483647), (0, 0, 20)], [(3, 4), (7, 4)], [(.eq, (1, 2), (1, 6)), (.le, (0, 4), (1, 3)), (.le, (0, 4), (1, 7)), (.le, (0, 1), (2, 0)), (.gt, (0, 3), (2, 1))])
def la_cxc_copy_89 : la_cx := ([(0, 0, 32), (0, 0, 20), (0, 1, 32), (0, 0, 20), (0, 0, 32), (0, 0, 20), (0, 1, 32), (0, 0, 20)], [(0, 1, 1), (0, 0, 2147483647), (0, 3, 3), (0, 0, 2147483647), (0, 0, 20)], [(3, 4), (7, 4)], [(.eq, (1, 2), (1, 6)), (.le, (0, 4), (1, 3)), (.le, (0, 4), (1, 7)), (.le, (0, 1), (2, 0)), (.le, (0, 3), (2, 1))])
def la_cxc_copy_90 : la_cx := ([(0, 0, 32), (0, 0, 20), (0, 0, 32), (0, 0, 20), (0, 0, 0), (0, 0, 20), (0, 0, 32), (0, 0, 20)], [(0, 2, 2), (0, (-2147483648), 2147483647), (0, 0, 0), (0, (-2147483648), 2147483647), (0, (-2147483648), 2147483647)], [], [])
def la_cxc_copy_91 : la_cx := ([(0, 0, 0), (0, 0, 20), (0, 0, 32), (0, 0, 20), (0, 1, 32), (0, 0, 20), (0, 0, 32), (0, 0, 20)], [(0, 2, 2), (0, (-2147483648), 2147483647), (0, 0, 0), (0, (-2147483648), 2147483647), (0, (-2147483648), 2147483647)], [], [])
def la_cxc_copy_92 : la_cx := ([(0, 1, 32), (0, 0, 20), (0, 0, 32), (0, 0, 20), (0, 1, 32), (0, 0, 20), (0, 0, 32), (0, 0, 20)], [(0, 2, 2), (0, (-2147483648), 2147483647), (0, 0, 0), (0, (-2147483648), 2147483647), (0, (-2147483648), 2147483647)], [], [(.lt, (1, 4), (1, 0))])
def la_cxc_copy_93 : la_cx := ([(0, 1, 32), (0, 0, 20), (0, 0, 32), (0, 0, 20), (0, 1, 32), (0, 0, 20), (0, 0, 32), (0, 0, 20)], [(0, 2, 2), (0, (-2147483648), 2147483647), (0, 0, 0), (0, (-2147483648), 2147483647), (0, (-2147483648), 2147483647)], [], [(.gt, (1, 4), (1, 0))])
def la_cxc_copy_94 : la_cx := ([(0, 1, 32), (0, 0, 20), (0, 0, 32), (0, 0, 20), (0, 1, 32), (0, 0, 20), (0, 0, 32), (0, 0, 20)], [(0, 2, 2), (0, (-2147483648), 2147483647), (0, 0, 0), (0, (-2147483648), 2147483647), (0, (-2147483648), (-1))], [], [(.eq, (1, 4), (1, 0))])
def la_cxc_copy_95 : la_cx := ([(0, 1, 32), (0, 0, 20), (0, 0, 32), (0, 0, 20), (0, 1, 32), (0, 0, 20), (0, 0, 32), (0, 0, 20)], [(0, 2, 2), (0, (-2147483648), 2147483647), (0, 0, 0), (0, (-2147483648), 2147483647), (0, 1, 2147483647)], [], [(.eq, (1, 4), (1, 0)), (.gt, (0, 4), (1, 5))])
def la_cxc_copy_96 : la_cx := ([(0, 1, 32), (0, 0, 20), (0, 0, 32), (0, 0, 20), (0, 1, 32), (0, 0, 20), (0, 0, 32), (0, 0, 20)], [(0, 2, 2), (0, (-2147483648), 2147483647), (0, 0, 0), (0, (-2147483648), 2147483647), (0, 1, 20)], [], [(.eq, (1, 4), (1, 0)), (.le, (0, 4), (1, 5)), (.gt, (0, 4), (1, 1))])
def la_cxc_copy_97 : la_cx := ([(0, 1, 32), (0, 0, 20), (0, 0, 32), (0, 0, 20), (0, 1, 32), (0, 0, 20), (0, 0, 32), (0, 0, 20)], [(0, 2, 2), (0, (-2147483648), (-1)), (0, 0, 0), (0, (-2147483648), 2147483647), (0, 0, 20)], [], [(.eq, (1, 4), (1, 0)), (.le, (0, 4), (1, 5)), (.le, (0, 4), (1, 1))])
def la_cxc_copy_98 : la_cx := ([(0, 1, 32), (0, 0, 20), (0, 0, 32), (0, 0, 20), (0, 1, 32), (0, 0, 20), (0, 0, 32), (0, 0, 20)], [(0, 2, 2), (0, 0, 2147483647), (0, 0, 0), (0, (-2147483648), 2147483647), (0, 0, 20)], [(5, 4)], [(.eq, (1, 4), (1, 0)), (.le, (0, 4), (1, 5)), (.le, (0, 4), (1, 1)), (.gt, (0, 1), (2, 0))])
def la_cxc_copy_99 : la_cx := ([(0, 1, 32), (0, 0, 20), (0, 0, 32), (0, 0, 20), (0, 1, 32), (0, 0, 20), (0, 0, 32), (0, 0, 20)], [(0, 2, 2), (0, 0, 2147483647), (0, 0, 0), (0, (-2147483648), (-1)), (0, 0, 20)], [(5, 4)], [(.eq, (1, 4), (1, 0)), (.le, (0, 4), (1, 5)), (.le, (0, 4), (1, 1)), (.le, (0, 1), (2, 0))])
def la_cxc_copy_100 : la_cx := ([(0, 1, 32), (0, 0, 20), (0, 0, 32), (0, 0, 20), (0, 1, 32), (0, 0, 20), (0, 0, 32), (0, 0, 20)], [(0, 2, 2), (0, 0, 2147483647), (0, 0, 0), (0, 0, 2147483647), (0, 0, 20)], [(5, 4), (1, 4)], [(.eq, (1, 4), (1, 0)), (.le, (0, 4), (1, 5)), (.le, (0, 4), (1, 1)), (.le, (0, 1), (2, 0)), (.gt, (0, 3), (2, 1))])
def la_cxc_copy_101 : la_cx := ([(0, 1, 32), (0, 0, 20), (0, 0, 32), (0, 0, 20), (0, 1, 32), (0, 0, 20), (0, 0, 32), (0, 0, 20)], [(0, 2, 2), (0, 0, 2147483647), (0, 0, 0), (0, 0, 2147483647), (0, 0, 20)], [(5, 4), (1, 4)], [(.eq, (1, 4), (1, 0)), (.le, (0, 4), (1, 5)), (.le, (0, 4), (1, 1)), (.le, (0, 1), (2, 0)), (.le, (0, 3), (2, 1))])
def la_cxc_copy_102 : la_cx := ([(0, 0, 32), (0, 0, 20), (0, 0, 32), (0, 0, 20), (0, 0, 0), (0, 0, 20), (0, 0, 32), (0, 0, 20)], [(0, 2, 2), (0, (-2147483648), 2147483647), (0, 1, 1), (0, (-2147483648), 2147483647), (0, (-2147483648), 2147483647)], [], [])
def la_cxc_copy_103 : la_cx := ([(0, 0, 32), (0, 0, 20), (0, 0, 0), (0, 0, 20), (0, 1, 32), (0, 0, 20), (0, 0, 32), (0, 0, 20)], [(0, 2, 2), (0, (-2147483648), 2147483647), (0, 1, 1), (0, (-2147483648), 2147483647), (0, (-2147483648), 2147483647)], [], [])
def la_cxc_copy_104 : la_cx := ([(0, 0, 32), (0, 0, 20), (0, 1, 32), (0, 0, 20), (0, 1, 32), (0, 0, 20), (0, 0, 32), (0, 0, 20)], [(0, 2, 2), (0, (-2147483648), 2147483647), (0, 1, 1), (0, (-2147483648), 2147483647), (0, (-2147483648), 2147483647)], [], [(.lt, (1, 4), (1, 2))])
def la_cxc_copy_105 : la_cx := ([(0, 0, 32), (0, 0, 20), (0, 1, 32), (0, 0, 20), (0, 1, 32), (0, 0, 20), (0, 0, 32), (0, 0, 20)], [(0, 2, 2), (0, (-2147483648), 2147483647), (0, 1, 1), (0, (-2147483648), 2147483647), (0, (-2147483648), 2147483647)], [], [(.gt, (1, 4), (1, 2))])
def la_cxc_copy_106 : la_cx := ([(0, 0, 32), (0, 0, 20), (0, 1, 32), (0, 0, 20), (0, 1, 32), (0, 0, 20), (0, 0, 32), (0, 0, 20)], [(0, 2, 2), (0, (-2147483648), 2147483647), (0, 1, 1), (0, (-2147483648), 2147483647), (0, (-2147483648), (-1))], [], [(.eq, (1, 4), (1, 2))])
def la_cxc_copy_107 : la_cx := ([(0, 0, 32), (0, 0, 20), (0, 1, 32), (0, 0, 20), (0, 1, 32), (0, 0, 20), (0, 0, 32), (0, 0, 20)], [(0, 2, 2), (0, (-2147483648), 2147483647), (0, 1, 1), (0, (-2147483648), 2147483647), (0, 1, 2147483647)], [], [(.eq, (1, 4), (1, 2)), (.gt, (0, 4), (1, 5))])
def la_cxc_copy_108 : la_cx := ([(0, 0, 32), (0, 0, 20), (0, 1, 32), (0, 0, 20), (0, 1, 32), (0, 0, 20), (0, 0, 32), (0, 0, 20)], [(0, 2, 2), (0, (-2147483648), 2147483647), (0, 1, 1), (0, (-2147483648), 2147483647), (0, 1, 20)], [], [(.eq, (1, 4), (1, 2)), (.le, (0, 4), (1, 5)), (.gt, (0, 4), (1, 3))])
def la_cxc_copy_109 : la_cx := ([(0, 0, 32), (0, 0, 20), (0, 1, 32), (0, 0, 20), (0, 1, 32), (0, 0, 20), (0, 0, 32), (0, 0, 20)], [(0, 2, 2), (0, (-2147483648), (-1)), (0, 1, 1), (0, (-2147483648), 2147483647), (0, 0, 20)], [], [(.eq, (1, 4), (1, 2)), (.le, (0, 4), (1, 5)), (.le, (0, 4), (1, 3))])
def la_cxc_copy_110 : la_cx := ([(0, 0, 32), (0, 0, 20), (0, 1, 32), (0, 0, 20), (0, 1, 32), (0, 0, 20), (0, 0, 32), (0, 0, 20)], [(0, 2, 2), (0, 0, 2147483647), (0, 1, 1), (0, (-2147483648), 2147483647), (0, 0, 20)], [(5, 4)], [(.eq, (1, 4), (1, 2)), (.le, (0, 4), (1, 5)), (.le, (0, 4), (1, 3)), (.gt, (0, 1), (2, 0))])
def la_cxc_copy_111 : la_cx := ([(0, 0, 32), (0, 0, 20), (0, 1, 32), (0, 0, 20), (0, 1, 32), (0, 0, 20), (0, 0, 32), (0, 0, 20)], [(0, 2, 2), (0, 0, 2147483647), (0, 1, 1), (0, (-2147483648), (-1)), (0, 0, 20)], [(5, 4)], [(.eq, (1, 4), (1, 2)), (.le, (0, 4), (1, 5)), (.le, (0, 4), (1, 3)), (.le, (0, 1), (2, 0))])
def la_cxc_copy_112 : la_cx := ([(0, 0, 32), (0, 0, 20), (0, 1, 32), (0, 0, 20), (0, 1, 32), (0, 0, 20), (0, 0, 32), (0, 0, 20)], [(0, 2, 2), (0, 0, 2147483647), (0, 1, 1), (0, 0, 2147483647), (0, 0, 20)], [(5, 4), (3, 4)], [(.eq, (1, 4), (1, 2)), (.le, (0, 4), (1, 5)), (.le, (0, 4), (1, 3)), (.le, (0, 1), (2, 0)), (.gt, (0, 3), (2, 1))])
def la_cxc_copy_113 : la_cx := ([(0, 0, 32), (0, 0, 20), (0, 1, 32), (0, 0, 20), (0, 1, 32), (0, 0, 20), (0, 0, 32), (0, 0, 20)], [(0, 2, 2), (0, 0, 2147483647), (0, 1, 1), (0, 0, 2147483647), (0, 0, 20)], [(5, 4), (3, 4)], [(.eq, (1, 4), (1, 2)), (.le, (0, 4), (1, 5)), (.le, (0, 4), (1, 3)), (.le, (0, 1), (2, 0)), (.le, (0, 3), (2, 1))])
def la_cxc_copy_114 : la_cx := ([(0, 0, 32), (0, 0, 20), (0, 0, 32), (0, 0, 20), (0, 0, 0), (0, 0, 20), (0, 0, 32), (0, 0, 20)], [(0, 2, 2), (0, (-2147483648), 2147483647), (0, 2, 2), (0, (-2147483648), 2147483647), (0, (-2147483648), 2147483647)], [], [])
def la_cxc_copy_115 : la_cx := ([(0, 0, 32), (0, 0, 20), (0, 0, 32), (0, 0, 20), (0, 1, 32), (0, 0, 20), (0, 0, 32), (0, 0, 20)], [(0, 2, 2), (0, (-2147483648), 2147483647), (0, 2, 2), (0, (-2147483648), 2147483647), (0, (-2147483648), (-1))], [], [])
def la_cxc_copy_116 : la_cx := ([(0, 0, 32), (0, 0, 20), (0, 0, 32), (0, 0, 20), (0, 1, 32), (0, 0, 20), (0, 0, 32), (0, 0, 20)], [(0, 2, 2), (0, (-2147483648), 2147483647), (0, 2, 2), (0, (-2147483648), 2147483647), (0, 1, 2147483647)], [], [(.gt, (0, 4), (1, 5))])
def la_cxc_copy_117 : la_cx := ([(0, 0, 32), (0, 0, 20), (0, 0, 32), (0, 0, 20), (0, 1, 32), (0, 0, 20), (0, 0, 32), (0, 0, 20)], [(0, 2, 2), (0, (-2147483648), (-1)), (0, 2, 2), (0, (-2147483648), 2147483647), (0, 0, 20)], [], [(.le, (0, 4), (1, 5))])
def la_cxc_copy_118 : la_cx := ([(0, 0, 32), (0, 0, 20), (0, 0, 32), (0, 0, 20), (0, 1, 32), (0, 0, 20), (0, 0, 32), (0, 0, 20)], [(0, 2, 2), (0, 0, 2147483647), (0, 2, 2), (0, (-2147483648), 2147483647), (0, 0, 20)], [(5, 4)], [(.le, (0, 4), (1, 5)), (.gt, (0, 1), (2, 0))])
def la_cxc_copy_119 : la_cx := ([(0, 0, 32), (0, 0, 20), (0, 0, 32), (0, 0, 20), (0, 1, 32), (0, 0, 20), (0, 0, 32), (0, 0, 20)], [(0, 2, 2), (0, 0, 2147483647), (0, 2, 2), (0, (-2147483648), (-1)), (0, 0, 20)], [(5, 4)], [(.le, (0, 4), (1, 5)), (.le, (0, 1), (2, 0))])
def la_cxc_copy_120 : la_cx := ([(0, 0, 32), (0, 0, 20), (0, 0, 32), (0, 0, 20), (0, 1, 32), (0, 0, 20), (0, 0, 32), (0, 0, 20)], [(0, 2, 2), (0, 0, 2147483647), (0, 2, 2), (0, 0, 2147483647), (0, 0, 20)], [(5, 4)], [(.le, (0, 4), (1, 5)), (.le, (0, 1), (2, 0)), (.gt, (0, 3), (2, 0))])
def la_cxc_copy_121 : la_cx := ([(0, 0, 32), (0, 0, 20), (0, 0, 32), (0, 0, 20), (0, 1, 32), (0, 0, 20), (0, 0, 32), (0, 0, 20)], [(0, 2, 2), (0, 0, 2147483647), (0, 2, 2), (0, 0, 2147483647), (0, 0, 20)], [(5, 4)], [(.le, (0, 4), (1, 5)), (.le, (0, 1), (2, 0)), (.le, (0, 3), (2, 0))])
def la_cxc_copy_122 : la_cx := ([(0, 0, 32), (0, 0, 20), (0, 0, 32), (0, 0, 20), (0, 0, 0), (0, 0, 20), (0, 0, 32), (0, 0, 20)], [(0, 2, 2), (0, (-2147483648), 2147483647), (0, 3, 3), (0, (-2147483648), 2147483647), (0, (-2147483648), 2147483647)], [], [])
def la_cxc_copy_123 : la_cx := ([(0, 0, 32), (0, 0, 20), (0, 0, 32), (0, 0, 20), (0, 1, 32), (0, 0, 20), (0, 0, 0), (0, 0, 20)], [(0, 2, 2), (0, (-2147483648), 2147483647), (0, 3, 3), (0, (-2147483648), 2147483647), (0, (-2147483648), 2147483647)], [], [])
def la_cxc_copy_124 : la_cx := ([(0, 0, 32), (0, 0, 20), (0, 0, 32), (0, 0, 20), (0, 1, 32), (0, 0, 20), (0, 1, 32), (0, 0, 20)], [(0, 2, 2), (0, (-2147483648), 2147483647), (0, 3, 3), (0, (-2147483648), 2147483647), (0, (-2147483648), 2147483647)], [], [(.lt, (1, 4), (1, 6))])
def la_cxc_copy_125 : la_cx := ([(0, 0, 32), (0, 0, 20), (0, 0, 32), (0, 0, 20), (0, 1, 32), (0, 0, 20), (0, 1, 32), (0, 0, 20)], [(0, 2, 2), (0, (-2147483648), 2147483647), (0, 3, 3), (0, (-2147483648), 2147483647), (0, (-2147483648), 2147483647)], [], [(.gt, (1, 4), (1, 6))])
def la_cxc_copy_126 : la_cx := ([(0, 0, 32), (0, 0, 20), (0, 0, 32), (0, 0, 20), (0, 1, 32), (0, 0, 20), (0, 1, 32), (0, 0, 20)], [(0, 2, 2), (0, (-2147483648), 2147483647), (0, 3, 3), (0, (-2147483648), 2147483647), (0, (-2147483648), (-1))], [], [(.eq, (1, 4), (1, 6))])
def la_cxc_copy_127 : la_cx := ([(0, 0, 32), (0, 0, 20), (0, 0, 32), (0, 0, 20), (0, 1, 32), (0, 0, 20), (0, 1, 32), (0, 0, 20)], [(0, 2, 2), (0, (-2147483648), 2147483647), (0, 3, 3), (0, (-2147483648), 2147483647), (0, 1, 2147483647)], [], [(.eq, (1, 4), (1, 6)), (.gt, (0, 4), (1, 5))])
def la_cxc_copy_128 : la_cx := ([(0, 0, 32), (0, 0, 20), (0, 0, 32), (0, 0, 20), (0, 1, 32), (0, 0, 20), (0, 1, 32), (0, 0, 20)], [(0, 2, 2), (0, (-2147483648), 2147483647), (0, 3, 3), (0, (-2147483648), 2147483647), (0, 1, 20)], [], [(.eq, (1, 4), (1, 6)), (.le, (0, 4), (1, 5)), (.gt, (0, 4), (1, 7))])
def la_cxc_copy_129 : la_cx := ([(0, 0, 32), (0, 0, 20), (0, 0, 32), (0, 0, 20), (0, 1, 32), (0, 0, 20), (0, 1, 32), (0, 0, 20)], [(0, 2, 2), (0, (-2147483648), (-1)), (0, 3, 3), (0, (-2147483648), 2147483647), (0, 0, 20)], [], [(.eq, (1, 4), (1, 6)), (.le, (0, 4), (1, 5)), (.le, (0, 4), (1, 7))])
def la_cxc_copy_130 : la_cx := ([(0, 0, 32), (0, 0, 20), (0, 0, 32), (0, 0, 20), (0, 1, 32), (0, 0, 20), (0, 1, 32), (0, 0, 20)], [(0, 2, 2), (0, 0, 2147483647), (0, 3, 3), (0, (-2147483648), 2147483647), (0, 0, 20)], [(5, 4)], [(.eq, (1, 4), (1, 6)), (.le, (0, 4), (1, 5)), (.le, (0, 4), (1, 7)), (.gt, (0, 1), (2, 0))])
def la_cxc_copy_131 : la_cx := ([(0, 0, 32), (0, 0, 20), (0, 0, 32), (0, 0, 20), (0, 1, 32), (0, 0, 20), (0, 1, 32), (0, 0, 20)], [(0, 2, 2), (0, 0, 2147483647), (0, 3, 3), (0, (-2147483648), (-1)), (0, 0, 20)], [(5, 4)], [(.eq, (1, 4), (1, 6)), (.le, (0, 4), (1, 5)), (.le, (0, 4), (1, 7)), (.le, (0, 1), (2, 0))])
def la_cxc_copy_132 : la_cx := ([(0, 0, 32), (0, 0, 20), (0, 0, 32), (0, 0, 20), (0, 1, 32), (0, 0, 20), (0, 1, 32), (0, 0, 20)], [(0, 2, 2), (0, 0, 2147483647), (0, 3, 3), (0, 0, 2147483647), (0, 0, 20)], [(5, 4), (7, 4)], [(.eq, (1, 4), (1, 6)), (.le, (0, 4), (1, 5)), (.le, (0, 4), (1, 7)), (.le, (0, 1), (2, 0)), (.gt, (0, 3), (2, 1))])
def la_cxc_copy_133 : la_cx := ([(0, 0, 32), (0, 0, 20), (0, 0, 32), (0, 0, 20), (0, 1, 32), (0, 0, 20), (0, 1, 32), (0, 0, 20)], [(0, 2, 2), (0, 0, 2147483647), (0, 3, 3), (0, 0, 2147483647), (0, 0, 20)], [(5, 4), (7, 4)], [(.eq, (1, 4), (1, 6)), (.le, (0, 4), (1, 5)), (.le, (0, 4), (1, 7)), (.le, (0, 1), (2, 0)), (.le, (0, 3), (2, 1))])
def la_cxc_copy_134 : la_cx := ([(0, 0, 32), (0, 0, 20), (0, 0, 32), (0, 0, 20), (0, 0, 32), (0, 0, 20), (0, 0, 0), (0, 0, 20)], [(0, 3, 3), (0, (-2147483648), 2147483647), (0, 0, 0), (0, (-2147483648), 2147483647), (0, (-2147483648), 2147483647)], [], [])
def la_cxc_copy_135 : la_cx := ([(0, 0, 0), (0, 0, 20), (0, 0, 32), (0, 0, 20), (0, 0, 32), (0, 0, 20), (0, 1, 32), (0, 0, 20)], [(0, 3, 3), (0, (-2147483648), 2147483647), (0, 0, 0), (0, (-2147483648), 2147483647), (0, (-2147483648), 2147483647)], [], [])
def la_cxc_copy_136 : la_cx := ([(0, 1, 32), (0, 0, 20), (0, 0, 32), (0, 0, 20), (0, 0, 32), (0, 0, 20), (0, 1, 32), (0, 0, 20)], [(0, 3, 3), (0, (-2147483648), 2147483647), (0, 0, 0), (0, (-2147483648), 2147483647), (0, (-2147483648), 2147483647)], [], [(.lt, (1, 6), (1, 0))])
def la_cxc_copy_137 : la_cx := ([(0, 1, 32), (0, 0, 20), (0, 0, 32), (0, 0, 20), (0, 0, 32), (0, 0, 20), (0, 1, 32), (0, 0, 20)], [(0, 3, 3), (0, (-2147483648), 2147483647), (0, 0, 0), (0, (-2147483648), 2147483647), (0, (-2147483648), 2147483647)], [], [(.gt, (1, 6), (1, 0))])
def la_cxc_copy_138 : la_cx := ([(0, 1, 32), (0, 0, 20), (0, 0, 32), (0, 0, 20), (0, 0, 32), (0, 0, 20), (0, 1, 32), (0, 0, 20)], [(0, 3, 3), (0, (-2147483648), 2147483647), (0, 0, 0), (0, (-2147483648), 2147483647), (0, (-2147483648), (-1))], [], [(.eq, (1, 6), (1, 0))])
def la_cxc_copy_139 : la_cx := ([(0, 1, 32), (0, 0, 20), (0, 0, 32), (0, 0, 20), (0, 0, 32), (0, 0, 20), (0, 1, 32), (0, 0, 20)], [(0, 3, 3), (0, (-2147483648), 2147483647), (0, 0, 0), (0, (-2147483648), 2147483647), (0, 1, 2147483647)], [], [(.eq, (1, 6), (1, 0)), (.gt, (0, 4), (1, 7))])
def la_cxc_copy_140 : la_cx := ([(0, 1, 32), (0, 0, 20), (0, 0, 32), (0, 0, 20), (0, 0, 32), (0, 0, 20), (0, 1, 32), (0, 0, 20)], [(0, 3, 3), (0, (-2147483648), 2147483647), (0, 0, 0), (0, (-2147483648), 2147483647), (0, 1, 20)], [], [(.eq, (1, 6), (1, 0)), (.le, (0, 4), (1, 7)), (.gt, (0, 4), (1, 1))])
def la_cxc_copy_141 : la_cx := ([(0, 1, 32), (0, 0, 20), (0, 0, 32), (0, 0, 20), (0, 0, 32), (0, 0, 20), (0, 1, 32), (0, 0, 20)], [(0, 3, 3), (0, (-2147483648), (-1)), (0, 0, 0), (0, (-2147483648), 2147483647), (0, 0, 20)], [], [(.eq, (1, 6), (1, 0)), (.le, (0, 4), (1, 7)), (.le, (0, 4), (1, 1))])
def la_cxc_copy_142 : la_cx := ([(0, 1, 32), (0, 0, 20), (0, 0, 32), (0, 0, 20), (0, 0, 32), (0, 0, 20), (0, 1, 32), (0, 0, 20)], [(0, 3, 3), (0, 0, 2147483647), (0, 0, 0), (0, (-2147483648), 2147483647), (0, 0, 20)], [(7, 4)], [(.eq, (1, 6), (1, 0)), (.le, (0, 4), (1, 7)), (.le, (0, 4), (1, 1)), (.gt, (0, 1), (2, 0))])
def la_cxc_copy_143 : la_cx := ([(0, 1, 32), (0, 0, 20), (0, 0, 32), (0, 0, 20), (0, 0, 32), (0, 0, 20), (0, 1, 32), (0, 0, 20)], [(0, 3, 3), (0, 0, 2147483647), (0, 0, 0), (0, (-2147483648), (-1)), (0, 0, 20)], [(7, 4)], [(.eq, (1, 6), (1, 0)), (.le, (0, 4), (1, 7)), (.le, (0, 4), (1, 1)), (.le, (0, 1), (2, 0))])
def la_cxc_copy_144 : la_cx := ([(0, 1, 32), (0, 0, 20), (0, 0, 32), (0, 0, 20), (0, 0, 32), (0, 0, 20), (0, 1, 32), (0, 0, 20)], [(0, 3, 3), (0, 0, 2147483647), (0, 0, 0), (0, 0, 2147483647), (0, 0, 20)], [(7, 4), (1, 4)], [(.eq, (1, 6), (1, 0)), (.le, (0, 4), (1, 7)), (.le, (0, 4), (1, 1)), (.le, (0, 1), (2, 0)), (.gt, (0, 3), (2, 1))])
def la_cxc_copy_145 : la_cx := ([(0, 1, 32), (0, 0, 20), (0, 0, 32), (0, 0, 20), (0, 0, 32), (0, 0, 20), (0, 1, 32), (0, 0, 20)], [(0, 3, 3), (0, 0, 2147483647), (0, 0, 0), (0, 0, 2147483647), (0, 0, 20)], [(7, 4), (1, 4)], [(.eq, (1, 6), (1, 0)), (.le, (0, 4), (1, 7)), (.le, (0, 4), (1, 1)), (.le, (0, 1), (2, 0)), (.le, (0, 3), (2, 1))])
def la_cxc_copy_146 : la_cx := ([(0, 0, 32), (0, 0, 20), (0, 0, 32), (0, 0, 20), (0, 0, 32), (0, 0, 20), (0, 0, 0), (0, 0, 20)], [(0, 3, 3), (0, (-2147483648), 2147483647), (0, 1, 1), (0, (-2147483648), 2147483647), (0, (-2147483648), 2147483647)], [], [])
def la_cxc_copy_147 : la_cx := ([(0, 0, 32), (0, 0, 20), (0, 0, 0), (0, 0, 20), (0, 0, 32), (0, 0, 20), (0, 1, 32), (0, 0, 20)], [(0, 3, 3), (0, (-2147483648), 2147483647), (0, 1, 1), (0, (-2147483648), 2147483647), (0, (-2147483648), 2147483647)], [], [])
def la_cxc_copy_148 : la_cx := ([(0, 0, 32), (0, 0, 20), (0, 1, 32), (0, 0, 20), (0, 0, 32), (0, 0, 20), (0, 1, 32), (0, 0, 20)], [(0, 3, 3), (0, (-2147483648), 2147483647), (0, 1, 1), (0, (-2147483648), 2147483647), (0, (-2147483648), 2147483647)], [], [(.lt, (1, 6), (1, 2))])
def la_cxc_copy_149 : la_cx := ([(0, 0, 32), (0, 0, 20), (0, 1, 32), (0, 0, 20), (0, 0, 32), (0, 0, 20), (0, 1, 32), (0, 0, 20)], [(0, 3, 3), (0, (-2147483648), 2147483647), (0, 1, 1), (0, (-2147483648), 2147483647), (0, (-2147483648), 2147483647)], [], [(.gt, (1, 6), (1, 2))])
def la_cxc_copy_150 : la_cx := ([(0, 0, 32), (0, 0, 20), (0, 1, 32), (0, 0, 20), (0, 0, 32), (0, 0, 20), (0, 1, 32), (0, 0, 20)], [(0, 3, 3), (0, (-2147483648), 2147483647), (0, 1, 1), (0, (-2147483648), 2147483647), (0, (-2147483648), (-1))], [], [(.eq, (1, 6), (1, 2))])
def la_cxc_copy_151 : la_cx := ([(0, 0, 32), (0, 0, 20), (0, 1, 32), (0, 0, 20), (0, 0, 32), (0, 0, 20), (0, 1, 32), (0, 0, 20)], [(0, 3, 3), (0, (-2147483648), 2147483647), (0, 1, 1), (0, (-2147483648), 2147483647), (0, 1, 2147483647)], [], [(.eq, (1, 6), (1, 2)), (.gt, (0, 4), (1, 7))])
def la_cxc_copy_152 : la_cx := ([(0, 0, 32), (0, 0, 20), (0, 1, 32), (0, 0, 20), (0, 0, 32), (0, 0, 20), (0, 1, 32), (0, 0, 20)], [(0, 3, 3), (0, (-2147483648), 2147483647), (0, 1, 1), (0, (-2147483648), 2147483647), (0, 1, 20)], [], [(.eq, (1, 6), (1, 2)), (.le, (0, 4), (1, 7)), (.gt, (0, 4), (1, 3))])
def la_cxc_copy_153 : la_cx := ([(0, 0, 32), (0, 0, 20), (0, 1, 32), (0, 0, 20), (0, 0, 32), (0, 0, 20), (0, 1, 32), (0, 0, 20)], [(0, 3, 3), (0, (-2147483648), (-1)), (0, 1, 1), (0, (-2147483648), 2147483647), (0, 0, 20)], [], [(.eq, (1, 6), (1, 2)), (.le, (0, 4), (1, 7)), (.le, (0, 4), (1, 3))])
def la_cxc_copy_154 : la_cx := ([(0, 0, 32), (0, 0, 20), (0, 1, 32), (0, 0, 20), (0, 0, 32), (0, 0, 20), (0, 1, 32), (0, 0, 20)], [(0, 3, 3), (0, 0, 2147483647), (0, 1, 1), (0, (-2147483648), 2147483647), (0, 0, 20)], [(7, 4)], [(.eq, (1, 6), (1, 2)), (.le, (0, 4), (1, 7)), (.le, (0, 4), (1, 3)), (.gt, (0, 1), (2, 0))])
def la_cxc_copy_155 : la_cx := ([(0, 0, 32), (0, 0, 20), (0, 1, 32), (0, 0, 20), (0, 0, 32), (0, 0, 20), (0, 1, 32), (0, 0, 20)], [(0, 3, 3), (0, 0, 2147483647), (0, 1, 1), (0, (-2147483648), (-1)), (0, 0, 20)], [(7, 4)], [(.eq, (1, 6), (1, 2)), (.le, (0, 4), (1, 7)), (.le, (0, 4), (1, 3)), (.le, (0, 1), (2, 0))])
def la_cxc_copy_156 : la_cx := ([(0, 0, 32), (0, 0, 20), (0, 1, 32), (0, 0, 20), (0, 0, 32), (0, 0, 20), (0, 1, 32), (0, 0, 20)], [(0, 3, 3), (0, 0, 2147483647), (0, 1, 1), (0, 0, 2147483647), (0, 0, 20)], [(7, 4), (3, 4)], [(.eq, (1, 6), (1, 2)), (.le, (0, 4), (1, 7)), (.le, (0, 4), (1, 3)), (.le, (0, 1), (2, 0)), (.gt, (0, 3), (2, 1))])
def la_cxc_copy_157 : la_cx := ([(0, 0, 32), (0, 0, 20), (0, 1, 32), (0, 0, 20), (0, 0, 32), (0, 0, 20), (0, 1, 32), (0, 0, 20)], [(0, 3, 3), (0, 0, 2147483647), (0, 1, 1), (0, 0, 2147483647), (0, 0, 20)], [(7, 4), (3, 4)], [(.eq, (1, 6), (1, 2)), (.le, (0, 4), (1, 7)), (.le, (0, 4), (1, 3)), (.le, (0, 1), (2, 0)), (.le, (0, 3), (2, 1))])
def la_cxc_copy_158 : la_cx := ([(0, 0, 32), (0, 0, 20), (0, 0, 32), (0, 0, 20), (0, 0, 32), (0, 0, 20), (0, 0, 0), (0, 0, 20)], [(0, 3, 3), (0, (-2147483648), 2147483647), (0, 2, 2), (0, (-2147483648), 2147483647), (0, (-2147483648), 2147483647)], [], [])
def la_cxc_copy_159 : la_cx := ([(0, 0, 32), (0, 0, 20), (0, 0, 32), (0, 0, 20), (0, 0, 0), (0, 0, 20), (0, 1, 32), (0, 0, 20)], [(0, 3, 3), (0, (-2147483648), 2147483647), (0, 2, 2), (0, (-2147483648), 2147483647), (0, (-2147483648), 2147483647)], [], [])
def la_cxc_copy_160 : la_cx := ([(0, 0, 32), (0, 0, 20), (0, 0, 32), (0, 0, 20), (0, 1, 32), (0, 0, 20), (0, 1, 32), (0, 0, 20)], [(0, 3, 3), (0, (-2147483648), 2147483647), (0, 2, 2), (0, (-2147483648), 2147483647), (0, (-2147483648), 2147483647)], [], [(.lt, (1, 6), (1, 4))])
def la_cxc_copy_161 : la_cx := ([(0, 0, 32), (0, 0, 20), (0, 0, 32), (0, 0, 20), (0, 1, 32), (0, 0, 20), (0, 1, 32), (0, 0, 20)], [(0, 3, 3), (0, (-2147483648), 2147483647), (0, 2, 2), (0, (-2147483648), 2147483647), (0, (-2147483648), 2147483647)], [], [(.gt, (1, 6), (1, 4))])
def la_cxc_copy_162 : la_cx := ([(0, 0, 32), (0, 0, 20), (0, 0, 32), (0, 0, 20), (0, 1, 32), (0, 0, 20), (0, 1, 32), (0, 0, 20)], [(0, 3, 3), (0, (-2147483648), 2147483647), (0, 2, 2), (0, (-2147483648), 2147483647), (0, (-2147483648), (-1))], [], [(.eq, (1, 6), (1, 4))])
def la_cxc_copy_163 : la_cx := ([(0, 0, 32), (0, 0, 20), (0, 0, 32), (0, 0, 20), (0, 1, 32), (0, 0, 20), (0, 1, 32), (0, 0, 20)], [(0, 3, 3), (0, (-2147483648), 2147483647), (0, 2, 2), (0, (-2147483648), 2147483647), (0, 1, 2147483647)], [], [(.eq, (1, 6), (1, 4)), (.gt, (0, 4), (1, 7))])
def la_cxc_copy_164 : la_cx := ([(0, 0, 32), (0, 0, 20), (0, 0, 32), (0, 0, 20), (0, 1, 32), (0, 0, 20), (0, 1, 32), (0, 0, 20)], [(0, 3, 3), (0, (-2147483648), 2147483647), (0, 2, 2), (0, (-2147483648), 2147483647), (0, 1, 20)], [], [(.eq, (1, 6), (1, 4)), (.le, (0, 4), (1, 7)), (.gt, (0, 4), (1, 5))])
def la_cxc_copy_165 : la_cx := ([(0, 0, 32), (0, 0, 20), (0, 0, 32), (0, 0, 20), (0, 1, 32), (0, 0, 20), (0, 1, 32), (0, 0, 20)], [(0, 3, 3), (0, (-2147483648), (-1)), (0, 2, 2), (0, (-2147483648), 2147483647), (0, 0, 20)], [], [(.eq, (1, 6), (1, 4)), (.le, (0, 4), (1, 7)), (.le, (0, 4), (1, 5))])
def la_cxc_copy_166 : la_cx := ([(0, 0, 32), (0, 0, 20), (0, 0, 32), (0, 0, 20), (0, 1, 32), (0, 0, 20), (0, 1, 32), (0, 0, 20)], [(0, 3, 3), (0, 0, 2147483647), (0, 2, 2), (0, (-2147483648), 2147483647), (0, 0, 20)], [(7, 4)], [(.eq, (1, 6), (1, 4)), (.le, (0, 4), (1, 7)), (.le, (0, 4), (1, 5)), (.gt, (0, 1), (2, 0))])
def la_cxc_copy_167 : la_cx := ([(0, 0, 32), (0, 0, 20), (0, 0, 32), (0, 0, 20), (0, 1, 32), (0, 0, 20), (0, 1, 32), (0, 0, 20)], [(0, 3, 3), (0, 0, 2147483647), (0, 2, 2), (0, (-2147483648), (-1)), (0, 0, 20)], [(7, 4)], [(.eq, (1, 6), (1, 4)), (.le, (0, 4), (1, 7)), (.le, (0, 4), (1, 5)), (.le, (0, 1), (2, 0))])
def la_cxc_copy_168 : la_cx := ([(0, 0, 32), (0, 0, 20), (0, 0, 32), (0, 0, 20), (0, 1, 32), (0, 0, 20), (0, 1, 32), (0, 0, 20)], [(0, 3, 3), (0, 0, 2147483647), (0, 2, 2), (0, 0, 2147483647), (0, 0, 20)], [(7, 4), (5, 4)], [(.eq, (1, 6), (1, 4)), (.le, (0, 4), (1, 7)), (.le, (0, 4), (1, 5)), (.le, (0, 1), (2, 0)), (.gt, (0, 3), (2, 1))])
def la_cxc_copy_169 : la_cx := ([(0, 0, 32), (0, 0, 20), (0, 0, 32), (0, 0, 20), (0, 1, 32), (0, 0, 20), (0, 1, 32), (0, 0, 20)], [(0, 3, 3), (0, 0, 2147483647), (0, 2, 2), (0, 0, 2147483647), (0, 0, 20)], [(7, 4), (5, 4)], [(.eq, (1, 6), (1, 4)), (.le, (0, 4), (1, 7)), (.le, (0, 4), (1, 5)), (.le, (0, 1), (2, 0)), (.le, (0, 3), (2, 1))])
def la_cxc_copy_170 : la_cx := ([(0, 0, 32), (0, 0, 20), (0, 0, 32), (0, 0, 20), (0, 0, 32), (0, 0, 20), (0, 0, 0), (0, 0, 20)], [(0, 3, 3), (0, (-2147483648), 2147483647), (0, 3, 3), (0, (-2147483648), 2147483647), (0, (-2147483648), 2147483647)], [], [])
def la_cxc_copy_171 : la_cx := ([(0, 0, 32), (0, 0, 20), (0, 0, 32), (0, 0, 20), (0, 0, 32), (0, 0, 20), (0, 1, 32), (0, 0, 20)], [(0, 3, 3), (0, (-2147483648), 2147483647), (0, 3, 3), (0, (-2147483648), 2147483647), (0, (-2147483648), (-1))], [], [])
def la_cxc_copy_172 : la_cx := ([(0, 0, 32), (0, 0, 20), (0, 0, 32), (0, 0, 20), (0, 0, 32), (0, 0, 20), (0, 1, 32), (0, 0, 20)], [(0, 3, 3), (0, (-2147483648), 2147483647), (0, 3, 3), (0, (-2147483648), 2147483647), (0, 1, 2147483647)], [], [(.gt, (0, 4), (1, 7))])
def la_cxc_copy_173 : la_cx := ([(0, 0, 32), (0, 0, 20), (0, 0, 32), (0, 0, 20), (0, 0, 32), (0, 0, 20), (0, 1, 32), (0, 0, 20)], [(0, 3, 3), (0, (-2147483648), (-1)), (0, 3, 3), (0, (-2147483648), 2147483647), (0, 0, 20)], [], [(.le, (0, 4), (1, 7))])
def la_cxc_copy_174 : la_cx := ([(0, 0, 32), (0, 0, 20), (0, 0, 32), (0, 0, 20), (0, 0, 32), (0, 0, 20), (0, 1, 32), (0, 0, 20)], [(0, 3, 3), (0, 0, 2147483647), (0, 3, 3), (0, (-2147483648), 2147483647), (0, 0, 20)], [(7, 4)], [(.le, (0, 4), (1, 7)), (.gt, (0, 1), (2, 0))])
def la_cxc_copy_175 : la_cx := ([(0, 0, 32), (0, 0, 20), (0, 0, 32), (0, 0, 20), (0, 0, 32), (0, 0, 20), (0, 1, 32), (0, 0, 20)], [(0, 3, 3), (0, 0, 2147483647), (0, 3, 3), (0, (-2147483648), (-1)), (0, 0, 20)], [(7, 4)], [(.le, (0, 4), (1, 7)), (.le, (0, 1), (2, 0))])
def la_cxc_copy_176 : la_cx := ([(0, 0, 32), (0, 0, 20), (0, 0, 32), (0, 0, 20), (0, 0, 32), (0, 0, 20), (0, 1, 32), (0, 0, 20)], [(0, 3, 3), (0, 0, 2147483647), (0, 3, 3), (0, 0, 2147483647), (0, 0, 20)], [(7, 4)], [(.le, (0, 4), (1, 7)), (.le, (0, 1), (2, 0)), (.gt, (0, 3), (2, 0))])
def la_cxc_copy_177 : la_cx := ([(0, 0, 32), (0, 0, 20), (0, 0, 32), (0, 0, 20), (0, 0, 32), (0, 0, 20), (0, 1, 32), (0, 0, 20)], [(0, 3, 3), (0, 0, 2147483647), (0, 3, 3), (0, 0, 2147483647), (0, 0, 20)], [(7, 4)], [(.le, (0, 4), (1, 7)), (.le, (0, 1), (2, 0)), (.le, (0, 3), (2, 0))])
def la_cxc_copy_178 : la_cx := ([(0, 0, 32), (0, 0, 20), (0, 0, 32), (0, 0, 20), (0, 0, 32), (0, 0, 20), (0, 0, 32), (0, 0, 20)], [(0, 0, 3), (0, (-2147483648), 2147483647), (0, 4, 2147483647), (0, (-2147483648), 2147483647), (0, (-2147483648), 2147483647)], [], [])
def la_cxc_copy_179 : la_cx := ([(0, 0, 32), (0, 0, 20), (0, 0, 32), (0, 0, 20), (0, 0, 32), (0, 0, 20), (0, 0, 32), (0, 0, 20)], [(0, 4, 2147483647), (0, (-2147483648), 2147483647), (0, (-2147483648), 2147483647), (0, (-2147483648), 2147483647), (0, (-2147483648), 2147483647)], [], [])
def la_cxs_copy : List la_cx := [la_cxc_copy_0, la_cxc_copy_1, la_cxc_copy_2, la_cxc_copy_3, la_cxc_copy_4, la_cxc_copy_5, la_cxc_copy_6, la_cxc_copy_7, la_cxc_copy_8, la_cxc_copy_9, la_cxc_copy_10, la_cxc_copy_11, la_cxc_copy_12, la_cxc_copy_13, la_cxc_copy_14, la_cxc_copy_15, la_cxc_copy_16, la_cxc_copy_17, la_cxc_copy_18, la_cxc_copy_19, la_cxc_copy_20, la_cxc_copy_21, la_cxc_copy_22, la_cxc_copy_23, la_cxc_copy_24, la_cxc_copy_25, la_cxc_copy_26, la_cxc_copy_27, la_cxc_copy_28, la_cxc_copy_29, la_cxc_copy_30, la_cxc_copy_31, la_cxc_copy_32, la_cxc_copy_33, la_cxc_copy_34, la_cxc_copy_35, la_cxc_copy_36, la_cxc_copy_37, la_cxc_copy_38, la_cxc_copy_39, la_cxc_copy_40, la_cxc_copy_41, la_cxc_copy_42, la_cxc_copy_43, la_cxc_copy_44, la_cxc_copy_45, la_cxc_copy_46, la_cxc_copy_47, la_cxc_copy_48, la_cxc_copy_49, la_cxc_copy_50, la_cxc_copy_51, la_cxc_copy_52, la_cxc_copy_53, la_cxc_copy_54, la_cxc_copy_55, la_cxc_copy_56, la_cxc_copy_57, la_cxc_copy_58, la_cxc_copy_59, la_cxc_copy_60, la_cxc_copy_61, la_cxc_copy_62, la_cxc_copy_63, la_cxc_copy_64, la_cxc_copy_65, la_cxc_copy_66, la_cxc_copy_67, la_cxc_copy_68, la_cxc_copy_69, la_cxc_copy_70, la_cxc_copy_71, la_cxc_copy_72, la_cxc_copy_73, la_cxc_copy_74, la_cxc_copy_75, la_cxc_copy_76, la_cxc_copy_77, la_cxc_copy_78, la_cxc_copy_79, la_cxc_copy_80, la_cxc_copy_81, la_cxc_copy_82, la_cxc_copy_83, la_cxc_copy_84, la_cxc_copy_85, la_cxc_copy_86, la_cxc_copy_87, la_cxc_copy_88, la_cxc_copy_89, la_cxc_copy_90, la_cxc_copy_91, la_cxc_copy_92, la_cxc_copy_93, la_cxc_copy_94, la_cxc_copy_95, la_cxc_copy_96, la_cxc_copy_97, la_cxc_copy_98, la_cxc_copy_99, la_cxc_copy_100, la_cxc_copy_101, la_cxc_copy_102, la_cxc_copy_103, la_cxc_copy_104, la_cxc_copy_105, la_cxc_copy_106, la_cxc_copy_107, la_cxc_copy_108, la_cxc_copy_109, la_cxc_copy_110, la_cxc_copy_111, la_cxc_copy_112, la_cxc_copy_113, la_cxc_copy_114, la_cxc_copy_115, la_cxc_copy_116, la_cxc_copy_117, la_cxc_copy_118, la_cxc_copy_119, la_cxc_copy_120, la_cxc_copy_121, la_cxc_copy_122, la_cxc_copy_123, la_cxc_copy_124, la_cxc_copy_125, la_cxc_copy_126, la_cxc_copy_127, la_cxc_copy_128, la_cxc_copy_129, la_cxc_copy_130, la_cxc_copy_131, la_cxc_copy_132, la_cxc_copy_133, la_cxc_copy_134, la_cxc_copy_135, la_cxc_copy_136, la_cxc_copy_137, la_cxc_copy_138, la_cxc_copy_139, la_cxc_copy_140, la_cxc_copy_141, la_cxc_copy_142, la_cxc_copy_143, la_cxc_copy_144, la_cxc_copy_145, la_cxc_copy_146, la_cxc_copy_147, la_cxc_copy_148, la_cxc_copy_149, la_cxc_copy_150, la_cxc_copy_151, la_cxc_copy_152, la_cxc_copy_153, la_cxc_copy_154, la_cxc_copy_155, la_cxc_copy_156, la_cxc_copy_157, la_cxc_copy_158, la_cxc_copy_159, la_cxc_copy_160, la_cxc_copy_161, la_cxc_copy_162, la_cxc_copy_163, la_cxc_copy_164, la_cxc_copy_165, la_cxc_copy_166, la_cxc_copy_167, la_cxc_copy_168, la_cxc_copy_169, la_cxc_copy_170, la_cxc_copy_171, la_cxc_copy_172, la_cxc_copy_173, la_cxc_copy_174, la_cxc_copy_175, la_cxc_copy_176, la_cxc_copy_177, la_cxc_copy_178, la_cxc_copy_179]
def la_cxl (n : Nat) : List la_cx := match n with
  | 0 => la_cxs_any
  | 1 => la_cxs_sheet
  | 2 => la_cxs_copy
  | _ => []
def la_ar : List (Nat × Nat) := [(208, 0), (251, 0), (304, 0), (337, 0), (370, 0), (429, 0), (498, 0), (551, 0), (584, 0), (617, 0), (650, 0), (713, 0), (736, 0), (769, 0), (802, 0), (815, 0), (838, 0), (871, 0), (904, 0), (937, 0), (960, 0), (1023, 0), (1046, 0), (1079, 0), (1102, 0), (1135, 0), (1168, 0), (1191, 0), (1214, 0), (1247, 0), (1280, 0), (1329, 0), (1372, 0), (1405, 0), (1438, 1), (1481, 0), (1524, 2), (1587, 0), (1600, 0), (1613, 0)]
def la_arms : List (Nat × List la_cx) := la_ar.map (fun a => (a.1, la_cxl a.2))
def la_dd (e : Nat × Nat) : se_D := ((0, se_lo, se_hi), 2, (1, 9 + e.1, 0), (1, 17 + e.2, 0))
def la_cds (c : la_cx) : List se_D := (la_pk ++ (c.1 ++ c.2.1)).map la_dk ++ c.2.2.1.map la_dd
def la_ti (t : Nat × Nat) : se_V := match t.1 with
  | 0 => (1, 17 + t.2, 0)
  | 1 => (1, 9 + t.2, 0)
  | _ => (1, 17 + 5 + t.2, 0)
def la_cP (c : la_cx) : se_P := c.2.2.2.map (fun e => (e.1, la_ti e.2.1, la_ti e.2.2))
def la_tw (c : la_cx) (t : Nat × Nat) : Bool := match t.1 with
  | 0 => Nat.blt t.2 5
  | 1 => Nat.blt t.2 8
  | _ => Nat.blt t.2 c.2.2.1.length
def la_cxw (c : la_cx) : Bool := c.2.2.1.all (fun e => Nat.blt e.1 8 && Nat.blt e.2 5) && c.2.2.2.all (fun e => la_tw c e.2.1 && la_tw c e.2.2)
def la_np : Nat := 9
def la_nR : Nat := 8
def la_g : Nat := 17
def la_some (r : se_R) : Bool := match r with
  | some _ => true
  | none => false
theorem la_ac {α : Type} {f : α → Bool} {a : α} {l : List α} (h : f a = true) (k : l.all f = true) : (a :: l).all f = true := by rw [List.all_cons, h, k]; rfl
theorem la_an {a b : Bool} (h : a = true) (k : b = true) : (a && b) = true := by rw [h, k]; rfl
set_option maxRecDepth 100000 in
theorem la_ta_208 : la_cxs_any.all (fun c => (Nat.beq c.1.length 8 && Nat.beq c.2.1.length 5) && la_some (la_go la_C la_R0 17 200 (sx_c330.dropWhile (fun e => !(Nat.beq e.1 208))) (la_cds c) (la_M0 9 la_R0) (la_cP c) [])) = true := by decide +kernel
set_option maxRecDepth 100000 in
theorem la_ta_251 : la_cxs_any.all (fun c => (Nat.beq c.1.length 8 && Nat.beq c.2.1.length 5) && la_some (la_go la_C la_R0 17 200 (sx_c330.dropWhile (fun e => !(Nat.beq e.1 251))) (la_cds c) (la_M0 9 la_R0) (la_cP c) [])) = true := by decide +kernel
set_option maxRecDepth 100000 in
theorem la_ta_304 : la_cxs_any.all (fun c => (Nat.beq c.1.length 8 && Nat.beq c.2.1.length 5) && la_some (la_go la_C la_R0 17 200 (sx_c330.dropWhile (fun e => !(Nat.beq e.1 304))) (la_cds c) (la_M0 9 la_R0) (la_cP c) [])) = true := by decide +kernel
set_option maxRecDepth 100000 in
theorem la_ta_337 : la_cxs_any.all (fun c => (Nat.beq c.1.length 8 && Nat.beq c.2.1.length 5) && la_some (la_go la_C la_R0 17 200 (sx_c330.dropWhile (fun e => !(Nat.beq e.1 337))) (la_cds c) (la_M0 9 la_R0) (la_cP c) [])) = true := by decide +kernel
set_option maxRecDepth 100000 in
theorem la_ta_370 : la_cxs_any.all (fun c => (Nat.beq c.1.length 8 && Nat.beq c.2.1.length 5) && la_some (la_go la_C la_R0 17 200 (sx_c330.dropWhile (fun e => !(Nat.beq e.1 370))) (la_cds c) (la_M0 9 la_R0) (la_cP c) [])) = true := by decide +kernel
set_option maxRecDepth 100000 in
theorem la_ta_429 : la_cxs_any.all (fun c => (Nat.beq c.1.length 8 && Nat.beq c.2.1.length 5) && la_some (la_go la_C la_R0 17 200 (sx_c330.dropWhile (fun e => !(Nat.beq e.1 429))) (la_cds c) (la_M0 9 la_R0) (la_cP c) [])) = true := by decide +kernel
set_option maxRecDepth 100000 in
theorem la_ta_498 : la_cxs_any.all (fun c => (Nat.beq c.1.length 8 && Nat.beq c.2.1.length 5) && la_some (la_go la_C la_R0 17 200 (sx_c330.dropWhile (fun e => !(Nat.beq e.1 498))) (la_cds c) (la_M0 9 la_R0) (la_cP c) [])) = true := by decide +kernel
set_option maxRecDepth 100000 in
theorem la_ta_551 : la_cxs_any.all (fun c => (Nat.beq c.1.length 8 && Nat.beq c.2.1.length 5) && la_some (la_go la_C la_R0 17 200 (sx_c330.dropWhile (fun e => !(Nat.beq e.1 551))) (la_cds c) (la_M0 9 la_R0) (la_cP c) [])) = true := by decide +kernel
set_option maxRecDepth 100000 in
theorem la_ta_584 : la_cxs_any.all (fun c => (Nat.beq c.1.length 8 && Nat.beq c.2.1.length 5) && la_some (la_go la_C la_R0 17 200 (sx_c330.dropWhile (fun e => !(Nat.beq e.1 584))) (la_cds c) (la_M0 9 la_R0) (la_cP c) [])) = true := by decide +kernel
set_option maxRecDepth 100000 in
theorem la_ta_617 : la_cxs_any.all (fun c => (Nat.beq c.1.length 8 && Nat.beq c.2.1.length 5) && la_some (la_go la_C la_R0 17 200 (sx_c330.dropWhile (fun e => !(Nat.beq e.1 617))) (la_cds c) (la_M0 9 la_R0) (la_cP c) [])) = true := by decide +kernel
set_option maxRecDepth 100000 in
theorem la_ta_650 : la_cxs_any.all (fun c => (Nat.beq c.1.length 8 && Nat.beq c.2.1.length 5) && la_some (la_go la_C la_R0 17 200 (sx_c330.dropWhile (fun e => !(Nat.beq e.1 650))) (la_cds c) (la_M0 9 la_R0) (la_cP c) [])) = true := by decide +kernel
set_option maxRecDepth 100000 in
theorem la_ta_713 : la_cxs_any.all (fun c => (Nat.beq c.1.length 8 && Nat.beq c.2.1.length 5) && la_some (la_go la_C la_R0 17 200 (sx_c330.dropWhile (fun e => !(Nat.beq e.1 713))) (la_cds c) (la_M0 9 la_R0) (la_cP c) [])) = true := by decide +kernel
set_option maxRecDepth 100000 in
theorem la_ta_736 : la_cxs_any.all (fun c => (Nat.beq c.1.length 8 && Nat.beq c.2.1.length 5) && la_some (la_go la_C la_R0 17 200 (sx_c330.dropWhile (fun e => !(Nat.beq e.1 736))) (la_cds c) (la_M0 9 la_R0) (la_cP c) [])) = true := by decide +kernel
set_option maxRecDepth 100000 in
theorem la_ta_769 : la_cxs_any.all (fun c => (Nat.beq c.1.length 8 && Nat.beq c.2.1.length 5) && la_some (la_go la_C la_R0 17 200 (sx_c330.dropWhile (fun e => !(Nat.beq e.1 769))) (la_cds c) (la_M0 9 la_R0) (la_cP c) [])) = true := by decide +kernel
set_option maxRecDepth 100000 in
theorem la_ta_802 : la_cxs_any.all (fun c => (Nat.beq c.1.length 8 && Nat.beq c.2.1.length 5) && la_some (la_go la_C la_R0 17 200 (sx_c330.dropWhile (fun e => !(Nat.beq e.1 802))) (la_cds c) (la_M0 9 la_R0) (la_cP c) [])) = true := by decide +kernel
set_option maxRecDepth 100000 in
theorem la_ta_815 : la_cxs_any.all (fun c => (Nat.beq c.1.length 8 && Nat.beq c.2.1.length 5) && la_some (la_go la_C la_R0 17 200 (sx_c330.dropWhile (fun e => !(Nat.beq e.1 815))) (la_cds c) (la_M0 9 la_R0) (la_cP c) [])) = true := by decide +kernel
set_option maxRecDepth 100000 in
theorem la_ta_838 : la_cxs_any.all (fun c => (Nat.beq c.1.length 8 && Nat.beq c.2.1.length 5) && la_some (la_go la_C la_R0 17 200 (sx_c330.dropWhile (fun e => !(Nat.beq e.1 838))) (la_cds c) (la_M0 9 la_R0) (la_cP c) [])) = true := by decide +kernel
set_option maxRecDepth 100000 in
theorem la_ta_871 : la_cxs_any.all (fun c => (Nat.beq c.1.length 8 && Nat.beq c.2.1.length 5) && la_some (la_go la_C la_R0 17 200 (sx_c330.dropWhile (fun e => !(Nat.beq e.1 871))) (la_cds c) (la_M0 9 la_R0) (la_cP c) [])) = true := by decide +kernel
set_option maxRecDepth 100000 in
theorem la_ta_904 : la_cxs_any.all (fun c => (Nat.beq c.1.length 8 && Nat.beq c.2.1.length 5) && la_some (la_go la_C la_R0 17 200 (sx_c330.dropWhile (fun e => !(Nat.beq e.1 904))) (la_cds c) (la_M0 9 la_R0) (la_cP c) [])) = true := by decide +kernel
set_option maxRecDepth 100000 in
theorem la_ta_937 : la_cxs_any.all (fun c => (Nat.beq c.1.length 8 && Nat.beq c.2.1.length 5) && la_some (la_go la_C la_R0 17 200 (sx_c330.dropWhile (fun e => !(Nat.beq e.1 937))) (la_cds c) (la_M0 9 la_R0) (la_cP c) [])) = true := by decide +kernel
set_option maxRecDepth 100000 in
theorem la_ta_960 : la_cxs_any.all (fun c => (Nat.beq c.1.length 8 && Nat.beq c.2.1.length 5) && la_some (la_go la_C la_R0 17 200 (sx_c330.dropWhile (fun e => !(Nat.beq e.1 960))) (la_cds c) (la_M0 9 la_R0) (la_cP c) [])) = true := by decide +kernel
set_option maxRecDepth 100000 in
theorem la_ta_1023 : la_cxs_any.all (fun c => (Nat.beq c.1.length 8 && Nat.beq c.2.1.length 5) && la_some (la_go la_C la_R0 17 200 (sx_c330.dropWhile (fun e => !(Nat.beq e.1 1023))) (la_cds c) (la_M0 9 la_R0) (la_cP c) [])) = true := by decide +kernel
set_option maxRecDepth 100000 in
theorem la_ta_1046 : la_cxs_any.all (fun c => (Nat.beq c.1.length 8 && Nat.beq c.2.1.length 5) && la_some (la_go la_C la_R0 17 200 (sx_c330.dropWhile (fun e => !(Nat.beq e.1 1046))) (la_cds c) (la_M0 9 la_R0) (la_cP c) [])) = true := by decide +kernel
set_option maxRecDepth 100000 in
theorem la_ta_1079 : la_cxs_any.all (fun c => (Nat.beq c.1.length 8 && Nat.beq c.2.1.length 5) && la_some (la_go la_C la_R0 17 200 (sx_c330.dropWhile (fun e => !(Nat.beq e.1 1079))) (la_cds c) (la_M0 9 la_R0) (la_cP c) [])) = true := by decide +kernel
set_option maxRecDepth 100000 in
theorem la_ta_1102 : la_cxs_any.all (fun c => (Nat.beq c.1.length 8 && Nat.beq c.2.1.length 5) && la_some (la_go la_C la_R0 17 200 (sx_c330.dropWhile (fun e => !(Nat.beq e.1 1102))) (la_cds c) (la_M0 9 la_R0) (la_cP c) [])) = true := by decide +kernel
set_option maxRecDepth 100000 in
theorem la_ta_1135 : la_cxs_any.all (fun c => (Nat.beq c.1.length 8 && Nat.beq c.2.1.length 5) && la_some (la_go la_C la_R0 17 200 (sx_c330.dropWhile (fun e => !(Nat.beq e.1 1135))) (la_cds c) (la_M0 9 la_R0) (la_cP c) [])) = true := by decide +kernel
set_option maxRecDepth 100000 in
theorem la_ta_1168 : la_cxs_any.all (fun c => (Nat.beq c.1.length 8 && Nat.beq c.2.1.length 5) && la_some (la_go la_C la_R0 17 200 (sx_c330.dropWhile (fun e => !(Nat.beq e.1 1168))) (la_cds c) (la_M0 9 la_R0) (la_cP c) [])) = true := by decide +kernel
set_option maxRecDepth 100000 in
theorem la_ta_1191 : la_cxs_any.all (fun c => (Nat.beq c.1.length 8 && Nat.beq c.2.1.length 5) && la_some (la_go la_C la_R0 17 200 (sx_c330.dropWhile (fun e => !(Nat.beq e.1 1191))) (la_cds c) (la_M0 9 la_R0) (la_cP c) [])) = true := by decide +kernel
set_option maxRecDepth 100000 in
theorem la_ta_1214 : la_cxs_any.all (fun c => (Nat.beq c.1.length 8 && Nat.beq c.2.1.length 5) && la_some (la_go la_C la_R0 17 200 (sx_c330.dropWhile (fun e => !(Nat.beq e.1 1214))) (la_cds c) (la_M0 9 la_R0) (la_cP c) [])) = true := by decide +kernel
set_option maxRecDepth 100000 in
theorem la_ta_1247 : la_cxs_any.all (fun c => (Nat.beq c.1.length 8 && Nat.beq c.2.1.length 5) && la_some (la_go la_C la_R0 17 200 (sx_c330.dropWhile (fun e => !(Nat.beq e.1 1247))) (la_cds c) (la_M0 9 la_R0) (la_cP c) [])) = true := by decide +kernel
set_option maxRecDepth 100000 in
theorem la_ta_1280 : la_cxs_any.all (fun c => (Nat.beq c.1.length 8 && Nat.beq c.2.1.length 5) && la_some (la_go la_C la_R0 17 200 (sx_c330.dropWhile (fun e => !(Nat.beq e.1 1280))) (la_cds c) (la_M0 9 la_R0) (la_cP c) [])) = true := by decide +kernel
set_option maxRecDepth 100000 in
theorem la_ta_1329 : la_cxs_any.all (fun c => (Nat.beq c.1.length 8 && Nat.beq c.2.1.length 5) && la_some (la_go la_C la_R0 17 200 (sx_c330.dropWhile (fun e => !(Nat.beq e.1 1329))) (la_cds c) (la_M0 9 la_R0) (la_cP c) [])) = true := by decide +kernel
set_option maxRecDepth 100000 in
theorem la_ta_1372 : la_cxs_any.all (fun c => (Nat.beq c.1.length 8 && Nat.beq c.2.1.length 5) && la_some (la_go la_C la_R0 17 200 (sx_c330.dropWhile (fun e => !(Nat.beq e.1 1372))) (la_cds c) (la_M0 9 la_R0) (la_cP c) [])) = true := by decide +kernel
set_option maxRecDepth 100000 in
theorem la_ta_1405 : la_cxs_any.all (fun c => (Nat.beq c.1.length 8 && Nat.beq c.2.1.length 5) && la_some (la_go la_C la_R0 17 200 (sx_c330.dropWhile (fun e => !(Nat.beq e.1 1405))) (la_cds c) (la_M0 9 la_R0) (la_cP c) [])) = true := by decide +kernel
set_option maxRecDepth 100000 in
theorem la_ta_1438 : la_cxs_sheet.all (fun c => (Nat.beq c.1.length 8 && Nat.beq c.2.1.length 5) && la_some (la_go la_C la_R0 17 200 (sx_c330.dropWhile (fun e => !(Nat.beq e.1 1438))) (la_cds c) (la_M0 9 la_R0) (la_cP c) [])) = true := by decide +kernel
set_option maxRecDepth 100000 in
theorem la_ta_1481 : la_cxs_any.all (fun c => (Nat.beq c.1.length 8 && Nat.beq c.2.1.length 5) && la_some (la_go la_C la_R0 17 200 (sx_c330.dropWhile (fun e => !(Nat.beq e.1 1481))) (la_cds c) (la_M0 9 la_R0) (la_cP c) [])) = true := by decide +kernel
set_option maxRecDepth 100000 in
theorem la_tc_1524_0 : la_some (la_go la_C la_R0 17 200 (sx_c330.dropWhile (fun e => !(Nat.beq e.1 1524))) (la_cds la_cxc_copy_0) (la_M0 9 la_R0) (la_cP la_cxc_copy_0) []) = true := by decide +kernel
set_option maxRecDepth 100000 in
theorem la_tc_1524_1 : la_some (la_go la_C la_R0 17 200 (sx_c330.dropWhile (fun e => !(Nat.beq e.1 1524))) (la_cds la_cxc_copy_1) (la_M0 9 la_R0) (la_cP la_cxc_copy_1) []) = true := by decide +kernel
set_option maxRecDepth 100000 in
theorem la_tc_1524_2 : la_some (la_go la_C la_R0 17 200 (sx_c330.dropWhile (fun e => !(Nat.beq e.1 1524))) (la_cds la_cxc_copy_2) (la_M0 9 la_R0) (la_cP la_cxc_copy_2) []) = true := by decide +kernel
set_option maxRecDepth 100000 in
theorem la_tc_1524_3 : la_some (la_go la_C la_R0 17 200 (sx_c330.dropWhile (fun e => !(Nat.beq e.1 1524))) (la_cds la_cxc_copy_3) (la_M0 9 la_R0) (la_cP la_cxc_copy_3) []) = true := by decide +kernel
set_option maxRecDepth 100000 in
theorem la_tc_1524_4 : la_some (la_go la_C la_R0 17 200 (sx_c330.dropWhile (fun e => !(Nat.beq e.1 1524))) (la_cds la_cxc_copy_4) (la_M0 9 la_R0) (la_cP la_cxc_copy_4) []) = true := by decide +kernel
set_option maxRecDepth 100000 in
theorem la_tc_1524_5 : la_some (la_go la_C la_R0 17 200 (sx_c330.dropWhile (fun e => !(Nat.beq e.1 1524))) (la_cds la_cxc_copy_5) (la_M0 9 la_R0) (la_cP la_cxc_copy_5) []) = true := by decide +kernel
set_option maxRecDepth 100000 in
theorem la_tc_1524_6 : la_some (la_go la_C la_R0 17 200 (sx_c330.dropWhile (fun e => !(Nat.beq e.1 1524))) (la_cds la_cxc_copy_6) (la_M0 9 la_R0) (la_cP la_cxc_copy_6) []) = true := by decide +kernel
set_option maxRecDepth 100000 in
theorem la_tc_1524_7 : la_some (la_go la_C la_R0 17 200 (sx_c330.dropWhile (fun e => !(Nat.beq e.1 1524))) (la_cds la_cxc_copy_7) (la_M0 9 la_R0) (la_cP la_cxc_copy_7) []) = true := by decide +kernel
set_option maxRecDepth 100000 in
theorem la_tc_1524_8 : la_some (la_go la_C la_R0 17 200 (sx_c330.dropWhile (fun e => !(Nat.beq e.1 1524))) (la_cds la_cxc_copy_8) (la_M0 9 la_R0) (la_cP la_cxc_copy_8) []) = true := by decide +kernel
set_option maxRecDepth 100000 in
theorem la_tc_1524_9 : la_some (la_go la_C la_R0 17 200 (sx_c330.dropWhile (fun e => !(Nat.beq e.1 1524))) (la_cds la_cxc_copy_9) (la_M0 9 la_R0) (la_cP la_cxc_copy_9) []) = true := by decide +kernel
set_option maxRecDepth 100000 in
theorem la_tc_1524_10 : la_some (la_go la_C la_R0 17 200 (sx_c330.dropWhile (fun e => !(Nat.beq e.1 1524))) (la_cds la_cxc_copy_10) (la_M0 9 la_R0) (la_cP la_cxc_copy_10) []) = true := by decide +kernel
set_option maxRecDepth 100000 in
theorem la_tc_1524_11 : la_some (la_go la_C la_R0 17 200 (sx_c330.dropWhile (fun e => !(Nat.beq e.1 1524))) (la_cds la_cxc_copy_11) (la_M0 9 la_R0) (la_cP la_cxc_copy_11) []) = true := by decide +kernel
set_option maxRecDepth 100000 in
theorem la_tc_1524_12 : la_some (la_go la_C la_R0 17 200 (sx_c330.dropWhile (fun e => !(Nat.beq e.1 1524))) (la_cds la_cxc_copy_12) (la_M0 9 la_R0) (la_cP la_cxc_copy_12) []) = true := by decide +kernel
set_option maxRecDepth 100000 in
theorem la_tc_1524_13 : la_some (la_go la_C la_R0 17 200 (sx_c330.dropWhile (fun e => !(Nat.beq e.1 1524))) (la_cds la_cxc_copy_13) (la_M0 9 la_R0) (la_cP la_cxc_copy_13) []) = true := by decide +kernel
set_option maxRecDepth 100000 in
theorem la_tc_1524_14 : la_some (la_go la_C la_R0 17 200 (sx_c330.dropWhile (fun e => !(Nat.beq e.1 1524))) (la_cds la_cxc_copy_14) (la_M0 9 la_R0) (la_cP la_cxc_copy_14) []) = true := by decide +kernel
set_option maxRecDepth 100000 in
theorem la_tc_1524_15 : la_some (la_go la_C la_R0 17 200 (sx_c330.dropWhile (fun e => !(Nat.beq e.1 1524))) (la_cds la_cxc_copy_15) (la_M0 9 la_R0) (la_cP la_cxc_copy_15) []) = true := by decide +kernel
set_option maxRecDepth 100000 in
theorem la_tc_1524_16 : la_some (la_go la_C la_R0 17 200 (sx_c330.dropWhile (fun e => !(Nat.beq e.1 1524))) (la_cds la_cxc_copy_16) (la_M0 9 la_R0) (la_cP la_cxc_copy_16) []) = true := by decide +kernel
set_option maxRecDepth 100000 in
theorem la_tc_1524_17 : la_some (la_go la_C la_R0 17 200 (sx_c330.dropWhile (fun e => !(Nat.beq e.1 1524))) (la_cds la_cxc_copy_17) (la_M0 9 la_R0) (la_cP la_cxc_copy_17) []) = true := by decide +kernel
set_option maxRecDepth 100000 in
theorem la_tc_1524_18 : la_some (la_go la_C la_R0 17 200 (sx_c330.dropWhile (fun e => !(Nat.beq e.1 1524))) (la_cds la_cxc_copy_18) (la_M0 9 la_R0) (la_cP la_cxc_copy_18) []) = true := by decide +kernel
set_option maxRecDepth 100000 in
theorem la_tc_1524_19 : la_some (la_go la_C la_R0 17 200 (sx_c330.dropWhile (fun e => !(Nat.beq e.1 1524))) (la_cds la_cxc_copy_19) (la_M0 9 la_R0) (la_cP la_cxc_copy_19) []) = true := by decide +kernel
set_option maxRecDepth 100000 in
theorem la_tc_1524_20 : la_some (la_go la_C la_R0 17 200 (sx_c330.dropWhile (fun e => !(Nat.beq e.1 1524))) (la_cds la_cxc_copy_20) (la_M0 9 la_R0) (la_cP la_cxc_copy_20) []) = true := by decide +kernel
set_option maxRecDepth 100000 in
theorem la_tc_1524_21 : la_some (la_go la_C la_R0 17 200 (sx_c330.dropWhile (fun e => !(Nat.beq e.1 1524))) (la_cds la_cxc_copy_21) (la_M0 9 la_R0) (la_cP la_cxc_copy_21) []) = true := by decide +kernel
set_option maxRecDepth 100000 in
theorem la_tc_1524_22 : la_some (la_go la_C la_R0 17 200 (sx_c330.dropWhile (fun e => !(Nat.beq e.1 1524))) (la_cds la_cxc_copy_22) (la_M0 9 la_R0) (la_cP la_cxc_copy_22) []) = true := by decide +kernel
set_option maxRecDepth 100000 in
theorem la_tc_1524_23 : la_some (la_go la_C la_R0 17 200 (sx_c330.dropWhile (fun e => !(Nat.beq e.1 1524))) (la_cds la_cxc_copy_23) (la_M0 9 la_R0) (la_cP la_cxc_copy_23) []) = true := by decide +kernel
set_option maxRecDepth 100000 in
theorem la_tc_1524_24 : la_some (la_go la_C la_R0 17 200 (sx_c330.dropWhile (fun e => !(Nat.beq e.1 1524))) (la_cds la_cxc_copy_24) (la_M0 9 la_R0) (la_cP la_cxc_copy_24) []) = true := by decide +kernel
set_option maxRecDepth 100000 in
theorem la_tc_1524_25 : la_some (la_go la_C la_R0 17 200 (sx_c330.dropWhile (fun e => !(Nat.beq e.1 1524))) (la_cds la_cxc_copy_25) (la_M0 9 la_R0) (la_cP la_cxc_copy_25) []) = true := by decide +kernel
set_option maxRecDepth 100000 in
theorem la_tc_1524_26 : la_some (la_go la_C la_R0 17 200 (sx_c330.dropWhile (fun e => !(Nat.beq e.1 1524))) (la_cds la_cxc_copy_26) (la_M0 9 la_R0) (la_cP la_cxc_copy_26) []) = true := by decide +kernel
set_option maxRecDepth 100000 in
theorem la_tc_1524_27 : la_some (la_go la_C la_R0 17 200 (sx_c330.dropWhile (fun e => !(Nat.beq e.1 1524))) (la_cds la_cxc_copy_27) (la_M0 9 la_R0) (la_cP la_cxc_copy_27) []) = true := by decide +kernel
set_option maxRecDepth 100000 in
theorem la_tc_1524_28 : la_some (la_go la_C la_R0 17 200 (sx_c330.dropWhile (fun e => !(Nat.beq e.1 1524))) (la_cds la_cxc_copy_28) (la_M0 9 la_R0) (la_cP la_cxc_copy_28) []) = true := by decide +kernel
set_option maxRecDepth 100000 in
theorem la_tc_1524_29 : la_some (la_go la_C la_R0 17 200 (sx_c330.dropWhile (fun e => !(Nat.beq e.1 1524))) (la_cds la_cxc_copy_29) (la_M0 9 la_R0) (la_cP la_cxc_copy_29) []) = true := by decide +kernel
set_option maxRecDepth 100000 in
theorem la_tc_1524_30 : la_some (la_go la_C la_R0 17 200 (sx_c330.dropWhile (fun e => !(Nat.beq e.1 1524))) (la_cds la_cxc_copy_30) (la_M0 9 la_R0) (la_cP la_cxc_copy_30) []) = true := by decide +kernel
set_option maxRecDepth 100000 in
theorem la_tc_1524_31 : la_some (la_go la_C la_R0 17 200 (sx_c330.dropWhile (fun e => !(Nat.beq e.1 1524))) (la_cds la_cxc_copy_31) (la_M0 9 la_R0) (la_cP la_cxc_copy_31) []) = true := by decide +kernel
set_option maxRecDepth 100000 in
theorem la_tc_1524_32 : la_some (la_go la_C la_R0 17 200 (sx_c330.dropWhile (fun e => !(Nat.beq e.1 1524))) (la_cds la_cxc_copy_32) (la_M0 9 la_R0) (la_cP la_cxc_copy_32) []) = true := by decide +kernel
set_option maxRecDepth 100000 in
theorem la_tc_1524_33 : la_some (la_go la_C la_R0 17 200 (sx_c330.dropWhile (fun e => !(Nat.beq e.1 1524))) (la_cds la_cxc_copy_33) (la_M0 9 la_R0) (la_cP la_cxc_copy_33) []) = true := by decide +kernel
set_option maxRecDepth 100000 in
theorem la_tc_1524_34 : la_some (la_go la_C la_R0 17 200 (sx_c330.dropWhile (fun e => !(Nat.beq e.1 1524))) (la_cds la_cxc_copy_34) (la_M0 9 la_R0) (la_cP la_cxc_copy_34) []) = true := by decide +kernel
set_option maxRecDepth 100000 in
theorem la_tc_1524_35 : la_some (la_go la_C la_R0 17 200 (sx_c330.dropWhile (fun e => !(Nat.beq e.1 1524))) (la_cds la_cxc_copy_35) (la_M0 9 la_R0) (la_cP la_cxc_copy_35) []) = true := by decide +kernel
set_option maxRecDepth 100000 in
theorem la_tc_1524_36 : la_some (la_go la_C la_R0 17 200 (sx_c330.dropWhile (fun e => !(Nat.beq e.1 1524))) (la_cds la_cxc_copy_36) (la_M0 9 la_R0) (la_cP la_cxc_copy_36) []) = true := by decide +kernel
set_option maxRecDepth 100000 in
theorem la_tc_1524_37 : la_some (la_go la_C la_R0 17 200 (sx_c330.dropWhile (fun e => !(Nat.beq e.1 1524))) (la_cds la_cxc_copy_37) (la_M0 9 la_R0) (la_cP la_cxc_copy_37) []) = true := by decide +kernel
set_option maxRecDepth 100000 in
theorem la_tc_1524_38 : la_some (la_go la_C la_R0 17 200 (sx_c330.dropWhile (fun e => !(Nat.beq e.1 1524))) (la_cds la_cxc_copy_38) (la_M0 9 la_R0) (la_cP la_cxc_copy_38) []) = true := by decide +kernel
set_option maxRecDepth 100000 in
theorem la_tc_1524_39 : la_some (la_go la_C la_R0 17 200 (sx_c330.dropWhile (fun e => !(Nat.beq e.1 1524))) (la_cds la_cxc_copy_39) (la_M0 9 la_R0) (la_cP la_cxc_copy_39) []) = true := by decide +kernel
set_option maxRecDepth 100000 in
theorem la_tc_1524_40 : la_some (la_go la_C la_R0 17 200 (sx_c330.dropWhile (fun e => !(Nat.beq e.1 1524))) (la_cds la_cxc_copy_40) (la_M0 9 la_R0) (la_cP la_cxc_copy_40) []) = true := by decide +kernel
set_option maxRecDepth 100000 in
theorem la_tc_1524_41 : la_some (la_go la_C la_R0 17 200 (sx_c330.dropWhile (fun e => !(Nat.beq e.1 1524))) (la_cds la_cxc_copy_41) (la_M0 9 la_R0) (la_cP la_cxc_copy_41) []) = true := by decide +kernel
set_option maxRecDepth 100000 in
theorem la_tc_1524_42 : la_some (la_go la_C la_R0 17 200 (sx_c330.dropWhile (fun e => !(Nat.beq e.1 1524))) (la_cds la_cxc_copy_42) (la_M0 9 la_R0) (la_cP la_cxc_copy_42) []) = true := by decide +kernel
set_option maxRecDepth 100000 in
theorem la_tc_1524_43 : la_some (la_go la_C la_R0 17 200 (sx_c330.dropWhile (fun e => !(Nat.beq e.1 1524))) (la_cds la_cxc_copy_43) (la_M0 9 la_R0) (la_cP la_cxc_copy_43) []) = true := by decide +kernel
set_option maxRecDepth 100000 in
theorem la_tc_1524_44 : la_some (la_go la_C la_R0 17 200 (sx_c330.dropWhile (fun e => !(Nat.beq e.1 1524))) (la_cds la_cxc_copy_44) (la_M0 9 la_R0) (la_cP la_cxc_copy_44) []) = true := by decide +kernel
set_option maxRecDepth 100000 in
theorem la_tc_1524_45 : la_some (la_go la_C la_R0 17 200 (sx_c330.dropWhile (fun e => !(Nat.beq e.1 1524))) (la_cds la_cxc_copy_45) (la_M0 9 la_R0) (la_cP la_cxc_copy_45) []) = true := by decide +kernel
set_option maxRecDepth 100000 in
theorem la_tc_1524_46 : la_some (la_go la_C la_R0 17 200 (sx_c330.dropWhile (fun e => !(Nat.beq e.1 1524))) (la_cds la_cxc_copy_46) (la_M0 9 la_R0) (la_cP la_cxc_copy_46) []) = true := by decide +kernel
set_option maxRecDepth 100000 in
theorem la_tc_1524_47 : la_some (la_go la_C la_R0 17 200 (sx_c330.dropWhile (fun e => !(Nat.beq e.1 1524))) (la_cds la_cxc_copy_47) (la_M0 9 la_R0) (la_cP la_cxc_copy_47) []) = true := by decide +kernel
set_option maxRecDepth 100000 in
theorem la_tc_1524_48 : la_some (la_go la_C la_R0 17 200 (sx_c330.dropWhile (fun e => !(Nat.beq e.1 1524))) (la_cds la_cxc_copy_48) (la_M0 9 la_R0) (la_cP la_cxc_copy_48) []) = true := by decide +kernel
set_option maxRecDepth 100000 in
theorem la_tc_1524_49 : la_some (la_go la_C la_R0 17 200 (sx_c330.dropWhile (fun e => !(Nat.beq e.1 1524))) (la_cds la_cxc_copy_49) (la_M0 9 la_R0) (la_cP la_cxc_copy_49) []) = true := by decide +kernel
set_option maxRecDepth 100000 in
theorem la_tc_1524_50 : la_some (la_go la_C la_R0 17 200 (sx_c330.dropWhile (fun e => !(Nat.beq e.1 1524))) (la_cds la_cxc_copy_50) (la_M0 9 la_R0) (la_cP la_cxc_copy_50) []) = true := by decide +kernel
set_option maxRecDepth 100000 in
theorem la_tc_1524_51 : la_some (la_go la_C la_R0 17 200 (sx_c330.dropWhile (fun e => !(Nat.beq e.1 1524))) (la_cds la_cxc_copy_51) (la_M0 9 la_R0) (la_cP la_cxc_copy_51) []) = true := by decide +kernel
set_option maxRecDepth 100000 in
theorem la_tc_1524_52 : la_some (la_go la_C la_R0 17 200 (sx_c330.dropWhile (fun e => !(Nat.beq e.1 1524))) (la_cds la_cxc_copy_52) (la_M0 9 la_R0) (la_cP la_cxc_copy_52) []) = true := by decide +kernel
set_option maxRecDepth 100000 in
theorem la_tc_1524_53 : la_some (la_go la_C la_R0 17 200 (sx_c330.dropWhile (fun e => !(Nat.beq e.1 1524))) (la_cds la_cxc_copy_53) (la_M0 9 la_R0) (la_cP la_cxc_copy_53) []) = true := by decide +kernel
set_option maxRecDepth 100000 in
theorem la_tc_1524_54 : la_some (la_go la_C la_R0 17 200 (sx_c330.dropWhile (fun e => !(Nat.beq e.1 1524))) (la_cds la_cxc_copy_54) (la_M0 9 la_R0) (la_cP la_cxc_copy_54) []) = true := by decide +kernel
set_option maxRecDepth 100000 in
theorem la_tc_1524_55 : la_some (la_go la_C la_R0 17 200 (sx_c330.dropWhile (fun e => !(Nat.beq e.1 1524))) (la_cds la_cxc_copy_55) (la_M0 9 la_R0) (la_cP la_cxc_copy_55) []) = true := by decide +kernel
set_option maxRecDepth 100000 in
theorem la_tc_1524_56 : la_some (la_go la_C la_R0 17 200 (sx_c330.dropWhile (fun e => !(Nat.beq e.1 1524))) (la_cds la_cxc_copy_56) (la_M0 9 la_R0) (la_cP la_cxc_copy_56) []) = true := by decide +kernel
set_option maxRecDepth 100000 in
theorem la_tc_1524_57 : la_some (la_go la_C la_R0 17 200 (sx_c330.dropWhile (fun e => !(Nat.beq e.1 1524))) (la_cds la_cxc_copy_57) (la_M0 9 la_R0) (la_cP la_cxc_copy_57) []) = true := by decide +kernel
set_option maxRecDepth 100000 in
theorem la_tc_1524_58 : la_some (la_go la_C la_R0 17 200 (sx_c330.dropWhile (fun e => !(Nat.beq e.1 1524))) (la_cds la_cxc_copy_58) (la_M0 9 la_R0) (la_cP la_cxc_copy_58) []) = true := by decide +kernel
set_option maxRecDepth 100000 in
theorem la_tc_1524_59 : la_some (la_go la_C la_R0 17 200 (sx_c330.dropWhile (fun e => !(Nat.beq e.1 1524))) (la_cds la_cxc_copy_59) (la_M0 9 la_R0) (la_cP la_cxc_copy_59) []) = true := by decide +kernel
set_option maxRecDepth 100000 in
theorem la_tc_1524_60 : la_some (la_go la_C la_R0 17 200 (sx_c330.dropWhile (fun e => !(Nat.beq e.1 1524))) (la_cds la_cxc_copy_60) (la_M0 9 la_R0) (la_cP la_cxc_copy_60) []) = true := by decide +kernel
set_option maxRecDepth 100000 in
theorem la_tc_1524_61 : la_some (la_go la_C la_R0 17 200 (sx_c330.dropWhile (fun e => !(Nat.beq e.1 1524))) (la_cds la_cxc_copy_61) (la_M0 9 la_R0) (la_cP la_cxc_copy_61) []) = true := by decide +kernel
set_option maxRecDepth 100000 in
theorem la_tc_1524_62 : la_some (la_go la_C la_R0 17 200 (sx_c330.dropWhile (fun e => !(Nat.beq e.1 1524))) (la_cds la_cxc_copy_62) (la_M0 9 la_R0) (la_cP la_cxc_copy_62) []) = true := by decide +kernel
set_option maxRecDepth 100000 in
theorem la_tc_1524_63 : la_some (la_go la_C la_R0 17 200 (sx_c330.dropWhile (fun e => !(Nat.beq e.1 1524))) (la_cds la_cxc_copy_63) (la_M0 9 la_R0) (la_cP la_cxc_copy_63) []) = true := by decide +kernel
set_option maxRecDepth 100000 in
theorem la_tc_1524_64 : la_some (la_go la_C la_R0 17 200 (sx_c330.dropWhile (fun e => !(Nat.beq e.1 1524))) (la_cds la_cxc_copy_64) (la_M0 9 la_R0) (la_cP la_cxc_copy_64) []) = true := by decide +kernel
set_option maxRecDepth 100000 in
theorem la_tc_1524_65 : la_some (la_go la_C la_R0 17 200 (sx_c330.dropWhile (fun e => !(Nat.beq e.1 1524))) (la_cds la_cxc_copy_65) (la_M0 9 la_R0) (la_cP la_cxc_copy_65) []) = true := by decide +kernel
set_option maxRecDepth 100000 in
theorem la_tc_1524_66 : la_some (la_go la_C la_R0 17 200 (sx_c330.dropWhile (fun e => !(Nat.beq e.1 1524))) (la_cds la_cxc_copy_66) (la_M0 9 la_R0) (la_cP la_cxc_copy_66) []) = true := by decide +kernel
set_option maxRecDepth 100000 in
theorem la_tc_1524_67 : la_some (la_go la_C la_R0 17 200 (sx_c330.dropWhile (fun e => !(Nat.beq e.1 1524))) (la_cds la_cxc_copy_67) (la_M0 9 la_R0) (la_cP la_cxc_copy_67) []) = true := by decide +kernel
set_option maxRecDepth 100000 in
theorem la_tc_1524_68 : la_some (la_go la_C la_R0 17 200 (sx_c330.dropWhile (fun e => !(Nat.beq e.1 1524))) (la_cds la_cxc_copy_68) (la_M0 9 la_R0) (la_cP la_cxc_copy_68) []) = true := by decide +kernel
set_option maxRecDepth 100000 in
theorem la_tc_1524_69 : la_some (la_go la_C la_R0 17 200 (sx_c330.dropWhile (fun e => !(Nat.beq e.1 1524))) (la_cds la_cxc_copy_69) (la_M0 9 la_R0) (la_cP la_cxc_copy_69) []) = true := by decide +kernel
set_option maxRecDepth 100000 in
theorem la_tc_1524_70 : la_some (la_go la_C la_R0 17 200 (sx_c330.dropWhile (fun e => !(Nat.beq e.1 1524))) (la_cds la_cxc_copy_70) (la_M0 9 la_R0) (la_cP la_cxc_copy_70) []) = true := by decide +kernel
set_option maxRecDepth 100000 in
theorem la_tc_1524_71 : la_some (la_go la_C la_R0 17 200 (sx_c330.dropWhile (fun e => !(Nat.beq e.1 1524))) (la_cds la_cxc_copy_71) (la_M0 9 la_R0) (la_cP la_cxc_copy_71) []) = true := by decide +kernel
set_option maxRecDepth 100000 in
theorem la_tc_1524_72 : la_some (la_go la_C la_R0 17 200 (sx_c330.dropWhile (fun e => !(Nat.beq e.1 1524))) (la_cds la_cxc_copy_72) (la_M0 9 la_R0) (la_cP la_cxc_copy_72) []) = true := by decide +kernel
set_option maxRecDepth 100000 in
theorem la_tc_1524_73 : la_some (la_go la_C la_R0 17 200 (sx_c330.dropWhile (fun e => !(Nat.beq e.1 1524))) (la_cds la_cxc_copy_73) (la_M0 9 la_R0) (la_cP la_cxc_copy_73) []) = true := by decide +kernel
set_option maxRecDepth 100000 in
theorem la_tc_1524_74 : la_some (la_go la_C la_R0 17 200 (sx_c330.dropWhile (fun e => !(Nat.beq e.1 1524))) (la_cds la_cxc_copy_74) (la_M0 9 la_R0) (la_cP la_cxc_copy_74) []) = true := by decide +kernel
set_option maxRecDepth 100000 in
theorem la_tc_1524_75 : la_some (la_go la_C la_R0 17 200 (sx_c330.dropWhile (fun e => !(Nat.beq e.1 1524))) (la_cds la_cxc_copy_75) (la_M0 9 la_R0) (la_cP la_cxc_copy_75) []) = true := by decide +kernel
set_option maxRecDepth 100000 in
theorem la_tc_1524_76 : la_some (la_go la_C la_R0 17 200 (sx_c330.dropWhile (fun e => !(Nat.beq e.1 1524))) (la_cds la_cxc_copy_76) (la_M0 9 la_R0) (la_cP la_cxc_copy_76) []) = true := by decide +kernel
set_option maxRecDepth 100000 in
theorem la_tc_1524_77 : la_some (la_go la_C la_R0 17 200 (sx_c330.dropWhile (fun e => !(Nat.beq e.1 1524))) (la_cds la_cxc_copy_77) (la_M0 9 la_R0) (la_cP la_cxc_copy_77) []) = true := by decide +kernel
set_option maxRecDepth 100000 in
theorem la_tc_1524_78 : la_some (la_go la_C la_R0 17 200 (sx_c330.dropWhile (fun e => !(Nat.beq e.1 1524))) (la_cds la_cxc_copy_78) (la_M0 9 la_R0) (la_cP la_cxc_copy_78) []) = true := by decide +kernel
set_option maxRecDepth 100000 in
theorem la_tc_1524_79 : la_some (la_go la_C la_R0 17 200 (sx_c330.dropWhile (fun e => !(Nat.beq e.1 1524))) (la_cds la_cxc_copy_79) (la_M0 9 la_R0) (la_cP la_cxc_copy_79) []) = true := by decide +kernel
set_option maxRecDepth 100000 in
theorem la_tc_1524_80 : la_some (la_go la_C la_R0 17 200 (sx_c330.dropWhile (fun e => !(Nat.beq e.1 1524))) (la_cds la_cxc_copy_80) (la_M0 9 la_R0) (la_cP la_cxc_copy_80) []) = true := by decide +kernel
set_option maxRecDepth 100000 in
theorem la_tc_1524_81 : la_some (la_go la_C la_R0 17 200 (sx_c330.dropWhile (fun e => !(Nat.beq e.1 1524))) (la_cds la_cxc_copy_81) (la_M0 9 la_R0) (la_cP la_cxc_copy_81) []) = true := by decide +kernel
set_option maxRecDepth 100000 in
theorem la_tc_1524_82 : la_some (la_go la_C la_R0 17 200 (sx_c330.dropWhile (fun e => !(Nat.beq e.1 1524))) (la_cds la_cxc_copy_82) (la_M0 9 la_R0) (la_cP la_cxc_copy_82) []) = true := by decide +kernel
set_option maxRecDepth 100000 in
theorem la_tc_1524_83 : la_some (la_go la_C la_R0 17 200 (sx_c330.dropWhile (fun e => !(Nat.beq e.1 1524))) (la_cds la_cxc_copy_83) (la_M0 9 la_R0) (la_cP la_cxc_copy_83) []) = true := by decide +kernel
set_option maxRecDepth 100000 in
theorem la_tc_1524_84 : la_some (la_go la_C la_R0 17 200 (sx_c330.dropWhile (fun e => !(Nat.beq e.1 1524))) (la_cds la_cxc_copy_84) (la_M0 9 la_R0) (la_cP la_cxc_copy_84) []) = true := by decide +kernel
set_option maxRecDepth 100000 in
theorem la_tc_1524_85 : la_some (la_go la_C la_R0 17 200 (sx_c330.dropWhile (fun e => !(Nat.beq e.1 1524))) (la_cds la_cxc_copy_85) (la_M0 9 la_R0) (la_cP la_cxc_copy_85) []) = true := by decide +kernel
set_option maxRecDepth 100000 in
theorem la_tc_1524_86 : la_some (la_go la_C la_R0 17 200 (sx_c330.dropWhile (fun e => !(Nat.beq e.1 1524))) (la_cds la_cxc_copy_86) (la_M0 9 la_R0) (la_cP la_cxc_copy_86) []) = true := by decide +kernel
set_option maxRecDepth 100000 in
theorem la_tc_1524_87 : la_some (la_go la_C la_R0 17 200 (sx_c330.dropWhile (fun e => !(Nat.beq e.1 1524))) (la_cds la_cxc_copy_87) (la_M0 9 la_R0) (la_cP la_cxc_copy_87) []) = true := by decide +kernel
set_option maxRecDepth 100000 in
theorem la_tc_1524_88 : la_some (la_go la_C la_R0 17 200 (sx_c330.dropWhile (fun e => !(Nat.beq e.1 1524))) (la_cds la_cxc_copy_88) (la_M0 9 la_R0) (la_cP la_cxc_copy_88) []) = true := by decide +kernel
set_option maxRecDepth 100000 in
theorem la_tc_1524_89 : la_some (la_go la_C la_R0 17 200 (sx_c330.dropWhile (fun e => !(Nat.beq e.1 1524))) (la_cds la_cxc_copy_89) (la_M0 9 la_R0) (la_cP la_cxc_copy_89) []) = true := by decide +kernel
set_option maxRecDepth 100000 in
theorem la_tc_1524_90 : la_some (la_go la_C la_R0 17 200 (sx_c330.dropWhile (fun e => !(Nat.beq e.1 1524))) (la_cds la_cxc_copy_90) (la_M0 9 la_R0) (la_cP la_cxc_copy_90) []) = true := by decide +kernel
set_option maxRecDepth 100000 in
theorem la_tc_1524_91 : la_some (la_go la_C la_R0 17 200 (sx_c330.dropWhile (fun e => !(Nat.beq e.1 1524))) (la_cds la_cxc_copy_91) (la_M0 9 la_R0) (la_cP la_cxc_copy_91) []) = true := by decide +kernel
set_option maxRecDepth 100000 in
theorem la_tc_1524_92 : la_some (la_go la_C la_R0 17 200 (sx_c330.dropWhile (fun e => !(Nat.beq e.1 1524))) (la_cds la_cxc_copy_92) (la_M0 9 la_R0) (la_cP la_cxc_copy_92) []) = true := by decide +kernel
set_option maxRecDepth 100000 in
theorem la_tc_1524_93 : la_some (la_go la_C la_R0 17 200 (sx_c330.dropWhile (fun e => !(Nat.beq e.1 1524))) (la_cds la_cxc_copy_93) (la_M0 9 la_R0) (la_cP la_cxc_copy_93) []) = true := by decide +kernel
set_option maxRecDepth 100000 in
theorem la_tc_1524_94 : la_some (la_go la_C la_R0 17 200 (sx_c330.dropWhile (fun e => !(Nat.beq e.1 1524))) (la_cds la_cxc_copy_94) (la_M0 9 la_R0) (la_cP la_cxc_copy_94) []) = true := by decide +kernel
set_option maxRecDepth 100000 in
theorem la_tc_1524_95 : la_some (la_go la_C la_R0 17 200 (sx_c330.dropWhile (fun e => !(Nat.beq e.1 1524))) (la_cds la_cxc_copy_95) (la_M0 9 la_R0) (la_cP la_cxc_copy_95) []) = true := by decide +kernel
set_option maxRecDepth 100000 in
theorem la_tc_1524_96 : la_some (la_go la_C la_R0 17 200 (sx_c330.dropWhile (fun e => !(Nat.beq e.1 1524))) (la_cds la_cxc_copy_96) (la_M0 9 la_R0) (la_cP la_cxc_copy_96) []) = true := by decide +kernel
set_option maxRecDepth 100000 in
theorem la_tc_1524_97 : la_some (la_go la_C la_R0 17 200 (sx_c330.dropWhile (fun e => !(Nat.beq e.1 1524))) (la_cds la_cxc_copy_97) (la_M0 9 la_R0) (la_cP la_cxc_copy_97) []) = true := by decide +kernel
set_option maxRecDepth 100000 in
theorem la_tc_1524_98 : la_some (la_go la_C la_R0 17 200 (sx_c330.dropWhile (fun e => !(Nat.beq e.1 1524))) (la_cds la_cxc_copy_98) (la_M0 9 la_R0) (la_cP la_cxc_copy_98) []) = true := by decide +kernel
set_option maxRecDepth 100000 in
theorem la_tc_1524_99 : la_some (la_go la_C la_R0 17 200 (sx_c330.dropWhile (fun e => !(Nat.beq e.1 1524))) (la_cds la_cxc_copy_99) (la_M0 9 la_R0) (la_cP la_cxc_copy_99) []) = true := by decide +kernel
set_option maxRecDepth 100000 in
theorem la_tc_1524_100 : la_some (la_go la_C la_R0 17 200 (sx_c330.dropWhile (fun e => !(Nat.beq e.1 1524))) (la_cds la_cxc_copy_100) (la_M0 9 la_R0) (la_cP la_cxc_copy_100) []) = true := by decide +kernel
set_option maxRecDepth 100000 in
theorem la_tc_1524_101 : la_some (la_go la_C la_R0 17 200 (sx_c330.dropWhile (fun e => !(Nat.beq e.1 1524))) (la_cds la_cxc_copy_101) (la_M0 9 la_R0) (la_cP la_cxc_copy_101) []) = true := by decide +kernel
set_option maxRecDepth 100000 in
theorem la_tc_1524_102 : la_some (la_go la_C la_R0 17 200 (sx_c330.dropWhile (fun e => !(Nat.beq e.1 1524))) (la_cds la_cxc_copy_102) (la_M0 9 la_R0) (la_cP la_cxc_copy_102) []) = true := by decide +kernel
set_option maxRecDepth 100000 in
theorem la_tc_1524_103 : la_some (la_go la_C la_R0 17 200 (sx_c330.dropWhile (fun e => !(Nat.beq e.1 1524))) (la_cds la_cxc_copy_103) (la_M0 9 la_R0) (la_cP la_cxc_copy_103) []) = true := by decide +kernel
set_option maxRecDepth 100000 in
theorem la_tc_1524_104 : la_some (la_go la_C la_R0 17 200 (sx_c330.dropWhile (fun e => !(Nat.beq e.1 1524))) (la_cds la_cxc_copy_104) (la_M0 9 la_R0) (la_cP la_cxc_copy_104) []) = true := by decide +kernel
set_option maxRecDepth 100000 in
theorem la_tc_1524_105 : la_some (la_go la_C la_R0 17 200 (sx_c330.dropWhile (fun e => !(Nat.beq e.1 1524))) (la_cds la_cxc_copy_105) (la_M0 9 la_R0) (la_cP la_cxc_copy_105) []) = true := by decide +kernel
set_option maxRecDepth 100000 in
theorem la_tc_1524_106 : la_some (la_go la_C la_R0 17 200 (sx_c330.dropWhile (fun e => !(Nat.beq e.1 1524))) (la_cds la_cxc_copy_106) (la_M0 9 la_R0) (la_cP la_cxc_copy_106) []) = true := by decide +kernel
set_option maxRecDepth 100000 in
theorem la_tc_1524_107 : la_some (la_go la_C la_R0 17 200 (sx_c330.dropWhile (fun e => !(Nat.beq e.1 1524))) (la_cds la_cxc_copy_107) (la_M0 9 la_R0) (la_cP la_cxc_copy_107) []) = true := by decide +kernel
set_option maxRecDepth 100000 in
theorem la_tc_1524_108 : la_some (la_go la_C la_R0 17 200 (sx_c330.dropWhile (fun e => !(Nat.beq e.1 1524))) (la_cds la_cxc_copy_108) (la_M0 9 la_R0) (la_cP la_cxc_copy_108) []) = true := by decide +kernel
set_option maxRecDepth 100000 in
theorem la_tc_1524_109 : la_some (la_go la_C la_R0 17 200 (sx_c330.dropWhile (fun e => !(Nat.beq e.1 1524))) (la_cds la_cxc_copy_109) (la_M0 9 la_R0) (la_cP la_cxc_copy_109) []) = true := by decide +kernel
set_option maxRecDepth 100000 in
theorem la_tc_1524_110 : la_some (la_go la_C la_R0 17 200 (sx_c330.dropWhile (fun e => !(Nat.beq e.1 1524))) (la_cds la_cxc_copy_110) (la_M0 9 la_R0) (la_cP la_cxc_copy_110) []) = true := by decide +kernel
set_option maxRecDepth 100000 in
theorem la_tc_1524_111 : la_some (la_go la_C la_R0 17 200 (sx_c330.dropWhile (fun e => !(Nat.beq e.1 1524))) (la_cds la_cxc_copy_111) (la_M0 9 la_R0) (la_cP la_cxc_copy_111) []) = true := by decide +kernel
set_option maxRecDepth 100000 in
theorem la_tc_1524_112 : la_some (la_go la_C la_R0 17 200 (sx_c330.dropWhile (fun e => !(Nat.beq e.1 1524))) (la_cds la_cxc_copy_112) (la_M0 9 la_R0) (la_cP la_cxc_copy_112) []) = true := by decide +kernel
set_option maxRecDepth 100000 in
theorem la_tc_1524_113 : la_some (la_go la_C la_R0 17 200 (sx_c330.dropWhile (fun e => !(Nat.beq e.1 1524))) (la_cds la_cxc_copy_113) (la_M0 9 la_R0) (la_cP la_cxc_copy_113) []) = true := by decide +kernel
set_option maxRecDepth 100000 in
theorem la_tc_1524_114 : la_some (la_go la_C la_R0 17 200 (sx_c330.dropWhile (fun e => !(Nat.beq e.1 1524))) (la_cds la_cxc_copy_114) (la_M0 9 la_R0) (la_cP la_cxc_copy_114) []) = true := by decide +kernel
set_option maxRecDepth 100000 in
theorem la_tc_1524_115 : la_some (la_go la_C la_R0 17 200 (sx_c330.dropWhile (fun e => !(Nat.beq e.1 1524))) (la_cds la_cxc_copy_115) (la_M0 9 la_R0) (la_cP la_cxc_copy_115) []) = true := by decide +kernel
set_option maxRecDepth 100000 in
theorem la_tc_1524_116 : la_some (la_go la_C la_R0 17 200 (sx_c330.dropWhile (fun e => !(Nat.beq e.1 1524))) (la_cds la_cxc_copy_116) (la_M0 9 la_R0) (la_cP la_cxc_copy_116) []) = true := by decide +kernel
set_option maxRecDepth 100000 in
theorem la_tc_1524_117 : la_some (la_go la_C la_R0 17 200 (sx_c330.dropWhile (fun e => !(Nat.beq e.1 1524))) (la_cds la_cxc_copy_117) (la_M0 9 la_R0) (la_cP la_cxc_copy_117) []) = true := by decide +kernel
set_option maxRecDepth 100000 in
theorem la_tc_1524_118 : la_some (la_go la_C la_R0 17 200 (sx_c330.dropWhile (fun e => !(Nat.beq e.1 1524))) (la_cds la_cxc_copy_118) (la_M0 9 la_R0) (la_cP la_cxc_copy_118) []) = true := by decide +kernel
set_option maxRecDepth 100000 in
theorem la_tc_1524_119 : la_some (la_go la_C la_R0 17 200 (sx_c330.dropWhile (fun e => !(Nat.beq e.1 1524))) (la_cds la_cxc_copy_119) (la_M0 9 la_R0) (la_cP la_cxc_copy_119) []) = true := by decide +kernel
set_option maxRecDepth 100000 in
theorem la_tc_1524_120 : la_some (la_go la_C la_R0 17 200 (sx_c330.dropWhile (fun e => !(Nat.beq e.1 1524))) (la_cds la_cxc_copy_120) (la_M0 9 la_R0) (la_cP la_cxc_copy_120) []) = true := by decide +kernel
set_option maxRecDepth 100000 in
theorem la_tc_1524_121 : la_some (la_go la_C la_R0 17 200 (sx_c330.dropWhile (fun e => !(Nat.beq e.1 1524))) (la_cds la_cxc_copy_121) (la_M0 9 la_R0) (la_cP la_cxc_copy_121) []) = true := by decide +kernel
set_option maxRecDepth 100000 in
theorem la_tc_1524_122 : la_some (la_go la_C la_R0 17 200 (sx_c330.dropWhile (fun e => !(Nat.beq e.1 1524))) (la_cds la_cxc_copy_122) (la_M0 9 la_R0) (la_cP la_cxc_copy_122) []) = true := by decide +kernel
set_option maxRecDepth 100000 in
theorem la_tc_1524_123 : la_some (la_go la_C la_R0 17 200 (sx_c330.dropWhile (fun e => !(Nat.beq e.1 1524))) (la_cds la_cxc_copy_123) (la_M0 9 la_R0) (la_cP la_cxc_copy_123) []) = true := by decide +kernel
set_option maxRecDepth 100000 in
theorem la_tc_1524_124 : la_some (la_go la_C la_R0 17 200 (sx_c330.dropWhile (fun e => !(Nat.beq e.1 1524))) (la_cds la_cxc_copy_124) (la_M0 9 la_R0) (la_cP la_cxc_copy_124) []) = true := by decide +kernel
set_option maxRecDepth 100000 in
theorem la_tc_1524_125 : la_some (la_go la_C la_R0 17 200 (sx_c330.dropWhile (fun e => !(Nat.beq e.1 1524))) (la_cds la_cxc_copy_125) (la_M0 9 la_R0) (la_cP la_cxc_copy_125) []) = true := by decide +kernel
set_option maxRecDepth 100000 in
theorem la_tc_1524_126 : la_some (la_go la_C la_R0 17 200 (sx_c330.dropWhile (fun e => !(Nat.beq e.1 1524))) (la_cds la_cxc_copy_126) (la_M0 9 la_R0) (la_cP la_cxc_copy_126) []) = true := by decide +kernel
set_option maxRecDepth 100000 in
theorem la_tc_1524_127 : la_some (la_go la_C la_R0 17 200 (sx_c330.dropWhile (fun e => !(Nat.beq e.1 1524))) (la_cds la_cxc_copy_127) (la_M0 9 la_R0) (la_cP la_cxc_copy_127) []) = true := by decide +kernel
set_option maxRecDepth 100000 in
theorem la_tc_1524_128 : la_some (la_go la_C la_R0 17 200 (sx_c330.dropWhile (fun e => !(Nat.beq e.1 1524))) (la_cds la_cxc_copy_128) (la_M0 9 la_R0) (la_cP la_cxc_copy_128) []) = true := by decide +kernel
set_option maxRecDepth 100000 in
theorem la_tc_1524_129 : la_some (la_go la_C la_R0 17 200 (sx_c330.dropWhile (fun e => !(Nat.beq e.1 1524))) (la_cds la_cxc_copy_129) (la_M0 9 la_R0) (la_cP la_cxc_copy_129) []) = true := by decide +kernel
set_option maxRecDepth 100000 in
theorem la_tc_1524_130 : la_some (la_go la_C la_R0 17 200 (sx_c330.dropWhile (fun e => !(Nat.beq e.1 1524))) (la_cds la_cxc_copy_130) (la_M0 9 la_R0) (la_cP la_cxc_copy_130) []) = true := by decide +kernel
set_option maxRecDepth 100000 in
theorem la_tc_1524_131 : la_some (la_go la_C la_R0 17 200 (sx_c330.dropWhile (fun e => !(Nat.beq e.1 1524))) (la_cds la_cxc_copy_131) (la_M0 9 la_R0) (la_cP la_cxc_copy_131) []) = true := by decide +kernel
set_option maxRecDepth 100000 in
theorem la_tc_1524_132 : la_some (la_go la_C la_R0 17 200 (sx_c330.dropWhile (fun e => !(Nat.beq e.1 1524))) (la_cds la_cxc_copy_132) (la_M0 9 la_R0) (la_cP la_cxc_copy_132) []) = true := by decide +kernel
set_option maxRecDepth 100000 in
theorem la_tc_1524_133 : la_some (la_go la_C la_R0 17 200 (sx_c330.dropWhile (fun e => !(Nat.beq e.1 1524))) (la_cds la_cxc_copy_133) (la_M0 9 la_R0) (la_cP la_cxc_copy_133) []) = true := by decide +kernel
set_option maxRecDepth 100000 in
theorem la_tc_1524_134 : la_some (la_go la_C la_R0 17 200 (sx_c330.dropWhile (fun e => !(Nat.beq e.1 1524))) (la_cds la_cxc_copy_134) (la_M0 9 la_R0) (la_cP la_cxc_copy_134) []) = true := by decide +kernel
set_option maxRecDepth 100000 in
theorem la_tc_1524_135 : la_some (la_go la_C la_R0 17 200 (sx_c330.dropWhile (fun e => !(Nat.beq e.1 1524))) (la_cds la_cxc_copy_135) (la_M0 9 la_R0) (la_cP la_cxc_copy_135) []) = true := by decide +kernel
set_option maxRecDepth 100000 in
theorem la_tc_1524_136 : la_some (la_go la_C la_R0 17 200 (sx_c330.dropWhile (fun e => !(Nat.beq e.1 1524))) (la_cds la_cxc_copy_136) (la_M0 9 la_R0) (la_cP la_cxc_copy_136) []) = true := by decide +kernel
set_option maxRecDepth 100000 in
theorem la_tc_1524_137 : la_some (la_go la_C la_R0 17 200 (sx_c330.dropWhile (fun e => !(Nat.beq e.1 1524))) (la_cds la_cxc_copy_137) (la_M0 9 la_R0) (la_cP la_cxc_copy_137) []) = true := by decide +kernel
set_option maxRecDepth 100000 in
theorem la_tc_1524_138 : la_some (la_go la_C la_R0 17 200 (sx_c330.dropWhile (fun e => !(Nat.beq e.1 1524))) (la_cds la_cxc_copy_138) (la_M0 9 la_R0) (la_cP la_cxc_copy_138) []) = true := by decide +kernel
set_option maxRecDepth 100000 in
theorem la_tc_1524_139 : la_some (la_go la_C la_R0 17 200 (sx_c330.dropWhile (fun e => !(Nat.beq e.1 1524))) (la_cds la_cxc_copy_139) (la_M0 9 la_R0) (la_cP la_cxc_copy_139) []) = true := by decide +kernel
set_option maxRecDepth 100000 in
theorem la_tc_1524_140 : la_some (la_go la_C la_R0 17 200 (sx_c330.dropWhile (fun e => !(Nat.beq e.1 1524))) (la_cds la_cxc_copy_140) (la_M0 9 la_R0) (la_cP la_cxc_copy_140) []) = true := by decide +kernel
set_option maxRecDepth 100000 in
theorem la_tc_1524_141 : la_some (la_go la_C la_R0 17 200 (sx_c330.dropWhile (fun e => !(Nat.beq e.1 1524))) (la_cds la_cxc_copy_141) (la_M0 9 la_R0) (la_cP la_cxc_copy_141) []) = true := by decide +kernel
set_option maxRecDepth 100000 in
theorem la_tc_1524_142 : la_some (la_go la_C la_R0 17 200 (sx_c330.dropWhile (fun e => !(Nat.beq e.1 1524))) (la_cds la_cxc_copy_142) (la_M0 9 la_R0) (la_cP la_cxc_copy_142) []) = true := by decide +kernel
set_option maxRecDepth 100000 in
theorem la_tc_1524_143 : la_some (la_go la_C la_R0 17 200 (sx_c330.dropWhile (fun e => !(Nat.beq e.1 1524))) (la_cds la_cxc_copy_143) (la_M0 9 la_R0) (la_cP la_cxc_copy_143) []) = true := by decide +kernel
set_option maxRecDepth 100000 in
theorem la_tc_1524_144 : la_some (la_go la_C la_R0 17 200 (sx_c330.dropWhile (fun e => !(Nat.beq e.1 1524))) (la_cds la_cxc_copy_144) (la_M0 9 la_R0) (la_cP la_cxc_copy_144) []) = true := by decide +kernel
set_option maxRecDepth 100000 in
theorem la_tc_1524_145 : la_some (la_go la_C la_R0 17 200 (sx_c330.dropWhile (fun e => !(Nat.beq e.1 1524))) (la_cds la_cxc_copy_145) (la_M0 9 la_R0) (la_cP la_cxc_copy_145) []) = true := by decide +kernel
set_option maxRecDepth 100000 in
theorem la_tc_1524_146 : la_some (la_go la_C la_R0 17 200 (sx_c330.dropWhile (fun e => !(Nat.beq e.1 1524))) (la_cds la_cxc_copy_146) (la_M0 9 la_R0) (la_cP la_cxc_copy_146) []) = true := by decide +kernel
set_option maxRecDepth 100000 in
theorem la_tc_1524_147 : la_some (la_go la_C la_R0 17 200 (sx_c330.dropWhile (fun e => !(Nat.beq e.1 1524))) (la_cds la_cxc_copy_147) (la_M0 9 la_R0) (la_cP la_cxc_copy_147) []) = true := by decide +kernel
set_option maxRecDepth 100000 in
theorem la_tc_1524_148 : la_some (la_go la_C la_R0 17 200 (sx_c330.dropWhile (fun e => !(Nat.beq e.1 1524))) (la_cds la_cxc_copy_148) (la_M0 9 la_R0) (la_cP la_cxc_copy_148) []) = true := by decide +kernel
set_option maxRecDepth 100000 in
theorem la_tc_1524_149 : la_some (la_go la_C la_R0 17 200 (sx_c330.dropWhile (fun e => !(Nat.beq e.1 1524))) (la_cds la_cxc_copy_149) (la_M0 9 la_R0) (la_cP la_cxc_copy_149) []) = true := by decide +kernel
set_option maxRecDepth 100000 in
theorem la_tc_1524_150 : la_some (la_go la_C la_R0 17 200 (sx_c330.dropWhile (fun e => !(Nat.beq e.1 1524))) (la_cds la_cxc_copy_150) (la_M0 9 la_R0) (la_cP la_cxc_copy_150) []) = true := by decide +kernel
set_option maxRecDepth 100000 in
theorem la_tc_1524_151 : la_some (la_go la_C la_R0 17 200 (sx_c330.dropWhile (fun e => !(Nat.beq e.1 1524))) (la_cds la_cxc_copy_151) (la_M0 9 la_R0) (la_cP la_cxc_copy_151) []) = true := by decide +kernel
set_option maxRecDepth 100000 in
theorem la_tc_1524_152 : la_some (la_go la_C la_R0 17 200 (sx_c330.dropWhile (fun e => !(Nat.beq e.1 1524))) (la_cds la_cxc_copy_152) (la_M0 9 la_R0) (la_cP la_cxc_copy_152) []) = true := by decide +kernel
set_option maxRecDepth 100000 in
theorem la_tc_1524_153 : la_some (la_go la_C la_R0 17 200 (sx_c330.dropWhile (fun e => !(Nat.beq e.1 1524))) (la_cds la_cxc_copy_153) (la_M0 9 la_R0) (la_cP la_cxc_copy_153) []) = true := by decide +kernel
set_option maxRecDepth 100000 in
theorem la_tc_1524_154 : la_some (la_go la_C la_R0 17 200 (sx_c330.dropWhile (fun e => !(Nat.beq e.1 1524))) (la_cds la_cxc_copy_154) (la_M0 9 la_R0) (la_cP la_cxc_copy_154) []) = true := by decide +kernel
set_option maxRecDepth 100000 in
theorem la_tc_1524_155 : la_some (la_go la_C la_R0 17 200 (sx_c330.dropWhile (fun e => !(Nat.beq e.1 1524))) (la_cds la_cxc_copy_155) (la_M0 9 la_R0) (la_cP la_cxc_copy_155) []) = true := by decide +kernel
set_option maxRecDepth 100000 in
theorem la_tc_1524_156 : la_some (la_go la_C la_R0 17 200 (sx_c330.dropWhile (fun e => !(Nat.beq e.1 1524))) (la_cds la_cxc_copy_156) (la_M0 9 la_R0) (la_cP la_cxc_copy_156) []) = true := by decide +kernel
set_option maxRecDepth 100000 in
theorem la_tc_1524_157 : la_some (la_go la_C la_R0 17 200 (sx_c330.dropWhile (fun e => !(Nat.beq e.1 1524))) (la_cds la_cxc_copy_157) (la_M0 9 la_R0) (la_cP la_cxc_copy_157) []) = true := by decide +kernel
set_option maxRecDepth 100000 in
theorem la_tc_1524_158 : la_some (la_go la_C la_R0 17 200 (sx_c330.dropWhile (fun e => !(Nat.beq e.1 1524))) (la_cds la_cxc_copy_158) (la_M0 9 la_R0) (la_cP la_cxc_copy_158) []) = true := by decide +kernel
set_option maxRecDepth 100000 in
theorem la_tc_1524_159 : la_some (la_go la_C la_R0 17 200 (sx_c330.dropWhile (fun e => !(Nat.beq e.1 1524))) (la_cds la_cxc_copy_159) (la_M0 9 la_R0) (la_cP la_cxc_copy_159) []) = true := by decide +kernel
set_option maxRecDepth 100000 in
theorem la_tc_1524_160 : la_some (la_go la_C la_R0 17 200 (sx_c330.dropWhile (fun e => !(Nat.beq e.1 1524))) (la_cds la_cxc_copy_160) (la_M0 9 la_R0) (la_cP la_cxc_copy_160) []) = true := by decide +kernel
set_option maxRecDepth 100000 in
theorem la_tc_1524_161 : la_some (la_go la_C la_R0 17 200 (sx_c330.dropWhile (fun e => !(Nat.beq e.1 1524))) (la_cds la_cxc_copy_161) (la_M0 9 la_R0) (la_cP la_cxc_copy_161) []) = true := by decide +kernel
set_option maxRecDepth 100000 in
theorem la_tc_1524_162 : la_some (la_go la_C la_R0 17 200 (sx_c330.dropWhile (fun e => !(Nat.beq e.1 1524))) (la_cds la_cxc_copy_162) (la_M0 9 la_R0) (la_cP la_cxc_copy_162) []) = true := by decide +kernel
set_option maxRecDepth 100000 in
theorem la_tc_1524_163 : la_some (la_go la_C la_R0 17 200 (sx_c330.dropWhile (fun e => !(Nat.beq e.1 1524))) (la_cds la_cxc_copy_163) (la_M0 9 la_R0) (la_cP la_cxc_copy_163) []) = true := by decide +kernel
set_option maxRecDepth 100000 in
theorem la_tc_1524_164 : la_some (la_go la_C la_R0 17 200 (sx_c330.dropWhile (fun e => !(Nat.beq e.1 1524))) (la_cds la_cxc_copy_164) (la_M0 9 la_R0) (la_cP la_cxc_copy_164) []) = true := by decide +kernel
set_option maxRecDepth 100000 in
theorem la_tc_1524_165 : la_some (la_go la_C la_R0 17 200 (sx_c330.dropWhile (fun e => !(Nat.beq e.1 1524))) (la_cds la_cxc_copy_165) (la_M0 9 la_R0) (la_cP la_cxc_copy_165) []) = true := by decide +kernel
set_option maxRecDepth 100000 in
theorem la_tc_1524_166 : la_some (la_go la_C la_R0 17 200 (sx_c330.dropWhile (fun e => !(Nat.beq e.1 1524))) (la_cds la_cxc_copy_166) (la_M0 9 la_R0) (la_cP la_cxc_copy_166) []) = true := by decide +kernel
set_option maxRecDepth 100000 in
theorem la_tc_1524_167 : la_some (la_go la_C la_R0 17 200 (sx_c330.dropWhile (fun e => !(Nat.beq e.1 1524))) (la_cds la_cxc_copy_167) (la_M0 9 la_R0) (la_cP la_cxc_copy_167) []) = true := by decide +kernel
set_option maxRecDepth 100000 in
theorem la_tc_1524_168 : la_some (la_go la_C la_R0 17 200 (sx_c330.dropWhile (fun e => !(Nat.beq e.1 1524))) (la_cds la_cxc_copy_168) (la_M0 9 la_R0) (la_cP la_cxc_copy_168) []) = true := by decide +kernel
set_option maxRecDepth 100000 in
theorem la_tc_1524_169 : la_some (la_go la_C la_R0 17 200 (sx_c330.dropWhile (fun e => !(Nat.beq e.1 1524))) (la_cds la_cxc_copy_169) (la_M0 9 la_R0) (la_cP la_cxc_copy_169) []) = true := by decide +kernel
set_option maxRecDepth 100000 in
theorem la_tc_1524_170 : la_some (la_go la_C la_R0 17 200 (sx_c330.dropWhile (fun e => !(Nat.beq e.1 1524))) (la_cds la_cxc_copy_170) (la_M0 9 la_R0) (la_cP la_cxc_copy_170) []) = true := by decide +kernel
set_option maxRecDepth 100000 in
theorem la_tc_1524_171 : la_some (la_go la_C la_R0 17 200 (sx_c330.dropWhile (fun e => !(Nat.beq e.1 1524))) (la_cds la_cxc_copy_171) (la_M0 9 la_R0) (la_cP la_cxc_copy_171) []) = true := by decide +kernel
set_option maxRecDepth 100000 in
theorem la_tc_1524_172 : la_some (la_go la_C la_R0 17 200 (sx_c330.dropWhile (fun e => !(Nat.beq e.1 1524))) (la_cds la_cxc_copy_172) (la_M0 9 la_R0) (la_cP la_cxc_copy_172) []) = true := by decide +kernel
set_option maxRecDepth 100000 in
theorem la_tc_1524_173 : la_some (la_go la_C la_R0 17 200 (sx_c330.dropWhile (fun e => !(Nat.beq e.1 1524))) (la_cds la_cxc_copy_173) (la_M0 9 la_R0) (la_cP la_cxc_copy_173) []) = true := by decide +kernel
set_option maxRecDepth 100000 in
theorem la_tc_1524_174 : la_some (la_go la_C la_R0 17 200 (sx_c330.dropWhile (fun e => !(Nat.beq e.1 1524))) (la_cds la_cxc_copy_174) (la_M0 9 la_R0) (la_cP la_cxc_copy_174) []) = true := by decide +kernel
set_option maxRecDepth 100000 in
theorem la_tc_1524_175 : la_some (la_go la_C la_R0 17 200 (sx_c330.dropWhile (fun e => !(Nat.beq e.1 1524))) (la_cds la_cxc_copy_175) (la_M0 9 la_R0) (la_cP la_cxc_copy_175) []) = true := by decide +kernel
set_option maxRecDepth 100000 in
theorem la_tc_1524_176 : la_some (la_go la_C la_R0 17 200 (sx_c330.dropWhile (fun e => !(Nat.beq e.1 1524))) (la_cds la_cxc_copy_176) (la_M0 9 la_R0) (la_cP la_cxc_copy_176) []) = true := by decide +kernel
set_option maxRecDepth 100000 in
theorem la_tc_1524_177 : la_some (la_go la_C la_R0 17 200 (sx_c330.dropWhile (fun e => !(Nat.beq e.1 1524))) (la_cds la_cxc_copy_177) (la_M0 9 la_R0) (la_cP la_cxc_copy_177) []) = true := by decide +kernel
set_option maxRecDepth 100000 in
theorem la_tc_1524_178 : la_some (la_go la_C la_R0 17 200 (sx_c330.dropWhile (fun e => !(Nat.beq e.1 1524))) (la_cds la_cxc_copy_178) (la_M0 9 la_R0) (la_cP la_cxc_copy_178) []) = true := by decide +kernel
set_option maxRecDepth 100000 in
theorem la_tc_1524_179 : la_some (la_go la_C la_R0 17 200 (sx_c330.dropWhile (fun e => !(Nat.beq e.1 1524))) (la_cds la_cxc_copy_179) (la_M0 9 la_R0) (la_cP la_cxc_copy_179) []) = true := by decide +kernel
set_option maxRecDepth 100000 in
theorem la_ta_1524 : la_cxs_copy.all (fun c => (Nat.beq c.1.length 8 && Nat.beq c.2.1.length 5) && la_some (la_go la_C la_R0 17 200 (sx_c330.dropWhile (fun e => !(Nat.beq e.1 1524))) (la_cds c) (la_M0 9 la_R0) (la_cP c) [])) = true := la_ac (a := la_cxc_copy_0) (la_an rfl la_tc_1524_0) (la_ac (a := la_cxc_copy_1) (la_an rfl la_tc_1524_1) (la_ac (a := la_cxc_copy_2) (la_an rfl la_tc_1524_2) (la_ac (a := la_cxc_copy_3) (la_an rfl la_tc_1524_3) (la_ac (a := la_cxc_copy_4) (la_an rfl la_tc_1524_4) (la_ac (a := la_cxc_copy_5) (la_an rfl la_tc_1524_5) (la_ac (a := la_cxc_copy_6) (la_an rfl la_tc_1524_6) (la_ac (a := la_cxc_copy_7) (la_an rfl la_tc_1524_7) (la_ac (a := la_cxc_copy_8) (la_an rfl la_tc_1524_8) (la_ac (a := la_cxc_copy_9) (la_an rfl la_tc_1524_9) (la_ac (a := la_cxc_copy_10) (la_an rfl la_tc_1524_10) (la_ac (a := la_cxc_copy_11) (la_an rfl la_tc_1524_11) (la_ac (a := la_cxc_copy_12) (la_an rfl la_tc_1524_12) (la_ac (a := la_cxc_copy_13) (la_an rfl la_tc_1524_13) (la_ac (a := la_cxc_copy_14) (la_an rfl la_tc_1524_14) (la_ac (a := la_cxc_copy_15) (la_an rfl la_tc_1524_15) (la_ac (a := la_cxc_copy_16) (la_an rfl la_tc_1524_16) (la_ac (a := la_cxc_copy_17) (la_an rfl la_tc_1524_17) (la_ac (a := la_cxc_copy_18) (la_an rfl la_tc_1524_18) (la_ac (a := la_cxc_copy_19) (la_an rfl la_tc_1524_19) (la_ac (a := la_cxc_copy_20) (la_an rfl la_tc_1524_20) (la_ac (a := la_cxc_copy_21) (la_an rfl la_tc_1524_21) (la_ac (a := la_cxc_copy_22) (la_an rfl la_tc_1524_22) (la_ac (a := la_cxc_copy_23) (la_an rfl la_tc_1524_23) (la_ac (a := la_cxc_copy_24) (la_an rfl la_tc_1524_24) (la_ac (a := la_cxc_copy_25) (la_an rfl la_tc_1524_25) (la_ac (a := la_cxc_copy_26) (la_an rfl la_tc_1524_26) (la_ac (a := la_cxc_copy_27) (la_an rfl la_tc_1524_27) (la_ac (a := la_cxc_copy_28) (la_an rfl la_tc_1524_28) (la_ac (a := la_cxc_copy_29) (la_an rfl la_tc_1524_29) (la_ac (a := la_cxc_copy_30) (la_an rfl la_tc_1524_30) (la_ac (a := la_cxc_copy_31) (la_an rfl la_tc_1524_31) (la_ac (a := la_cxc_copy_32) (la_an rfl la_tc_1524_32) (la_ac (a := la_cxc_copy_33) (la_an rfl la_tc_1524_33) (la_ac (a := la_cxc_copy_34) (la_an rfl la_tc_1524_34) (la_ac (a := la_cxc_copy_35) (la_an rfl la_tc_1524_35) (la_ac (a := la_cxc_copy_36) (la_an rfl la_tc_1524_36) (la_ac (a := la_cxc_copy_37) (la_an rfl la_tc_1524_37) (la_ac (a := la_cxc_copy_38) (la_an rfl la_tc_1524_38) (la_ac (a := la_cxc_copy_39) (la_an rfl la_tc_1524_39) (la_ac (a := la_cxc_copy_40) (la_an rfl la_tc_1524_40) (la_ac (a := la_cxc_copy_41) (la_an rfl la_tc_1524_41) (la_ac (a := la_cxc_copy_42) (la_an rfl la_tc_1524_42) (la_ac (a := la_cxc_copy_43) (la_an rfl la_tc_1524_43) (la_ac (a := la_cxc_copy_44) (la_an rfl la_tc_1524_44) (la_ac (a := la_cxc_copy_45) (la_an rfl la_tc_1524_45) (la_ac (a := la_cxc_copy_46) (la_an rfl la_tc_1524_46) (la_ac (a := la_cxc_copy_47) (la_an rfl la_tc_1524_47) (la_ac (a := la_cxc_copy_48) (la_an rfl la_tc_1524_48) (la_ac (a := la_cxc_copy_49) (la_an rfl la_tc_1524_49) (la_ac (a := la_cxc_copy_50) (la_an rfl la_tc_1524_50) (la_ac (a := la_cxc_copy_51) (la_an rfl la_tc_1524_51) (la_ac (a := la_cxc_copy_52) (la_an rfl la_tc_1524_52) (la_ac (a := la_cxc_copy_53) (la_an rfl la_tc_1524_53) (la_ac (a := la_cxc_copy_54) (la_an rfl la_tc_1524_54) (la_ac (a := la_cxc_copy_55) (la_an rfl la_tc_1524_55) (la_ac (a := la_cxc_copy_56) (la_an rfl la_tc_1524_56) (la_ac (a := la_cxc_copy_57) (la_an rfl la_tc_1524_57) (la_ac (a := la_cxc_copy_58) (la_an rfl la_tc_1524_58) (la_ac (a := la_cxc_copy_59) (la_an rfl la_tc_1524_59) (la_ac (a := la_cxc_copy_60) (la_an rfl la_tc_1524_60) (la_ac (a := la_cxc_copy_61) (la_an rfl la_tc_1524_61) (la_ac (a := la_cxc_copy_62) (la_an rfl la_tc_1524_62) (la_ac (a := la_cxc_copy_63) (la_an rfl la_tc_1524_63) (la_ac (a := la_cxc_copy_64) (la_an rfl la_tc_1524_64) (la_ac (a := la_cxc_copy_65) (la_an rfl la_tc_1524_65) (la_ac (a := la_cxc_copy_66) (la_an rfl la_tc_1524_66) (la_ac (a := la_cxc_copy_67) (la_an rfl la_tc_1524_67) (la_ac (a := la_cxc_copy_68) (la_an rfl la_tc_1524_68) (la_ac (a := la_cxc_copy_69) (la_an rfl la_tc_1524_69) (la_ac (a := la_cxc_copy_70) (la_an rfl la_tc_1524_70) (la_ac (a := la_cxc_copy_71) (la_an rfl la_tc_1524_71) (la_ac (a := la_cxc_copy_72) (la_an rfl la_tc_1524_72) (la_ac (a := la_cxc_copy_73) (la_an rfl la_tc_1524_73) (la_ac (a := la_cxc_copy_74) (la_an rfl la_tc_1524_74) (la_ac (a := la_cxc_copy_75) (la_an rfl la_tc_1524_75) (la_ac (a := la_cxc_copy_76) (la_an rfl la_tc_1524_76) (la_ac (a := la_cxc_copy_77) (la_an rfl la_tc_1524_77) (la_ac (a := la_cxc_copy_78) (la_an rfl la_tc_1524_78) (la_ac (a := la_cxc_copy_79) (la_an rfl la_tc_1524_79) (la_ac (a := la_cxc_copy_80) (la_an rfl la_tc_1524_80) (la_ac (a := la_cxc_copy_81) (la_an rfl la_tc_1524_81) (la_ac (a := la_cxc_copy_82) (la_an rfl la_tc_1524_82) (la_ac (a := la_cxc_copy_83) (la_an rfl la_tc_1524_83) (la_ac (a := la_cxc_copy_84) (la_an rfl la_tc_1524_84) (la_ac (a := la_cxc_copy_85) (la_an rfl la_tc_1524_85) (la_ac (a := la_cxc_copy_86) (la_an rfl la_tc_1524_86) (la_ac (a := la_cxc_copy_87) (la_an rfl la_tc_1524_87) (la_ac (a := la_cxc_copy_88) (la_an rfl la_tc_1524_88) (la_ac (a := la_cxc_copy_89) (la_an rfl la_tc_1524_89) (la_ac (a := la_cxc_copy_90) (la_an rfl la_tc_1524_90) (la_ac (a := la_cxc_copy_91) (la_an rfl la_tc_1524_91) (la_ac (a := la_cxc_copy_92) (la_an rfl la_tc_1524_92) (la_ac (a := la_cxc_copy_93) (la_an rfl la_tc_1524_93) (la_ac (a := la_cxc_copy_94) (la_an rfl la_tc_1524_94) (la_ac (a := la_cxc_copy_95) (la_an rfl la_tc_1524_95) (la_ac (a := la_cxc_copy_96) (la_an rfl la_tc_1524_96) (la_ac (a := la_cxc_copy_97) (la_an rfl la_tc_1524_97) (la_ac (a := la_cxc_copy_98) (la_an rfl la_tc_1524_98) (la_ac (a := la_cxc_copy_99) (la_an rfl la_tc_1524_99) (la_ac (a := la_cxc_copy_100) (la_an rfl la_tc_1524_100) (la_ac (a := la_cxc_copy_101) (la_an rfl la_tc_1524_101) (la_ac (a := la_cxc_copy_102) (la_an rfl la_tc_1524_102) (la_ac (a := la_cxc_copy_103) (la_an rfl la_tc_1524_103) (la_ac (a := la_cxc_copy_104) (la_an rfl la_tc_1524_104) (la_ac (a := la_cxc_copy_105) (la_an rfl la_tc_1524_105) (la_ac (a := la_cxc_copy_106) (la_an rfl la_tc_1524_106) (la_ac (a := la_cxc_copy_107) (la_an rfl la_tc_1524_107) (la_ac (a := la_cxc_copy_108) (la_an rfl la_tc_1524_108) (la_ac (a := la_cxc_copy_109) (la_an rfl la_tc_1524_109) (la_ac (a := la_cxc_copy_110) (la_an rfl la_tc_1524_110) (la_ac (a := la_cxc_copy_111) (la_an rfl la_tc_1524_111) (la_ac (a := la_cxc_copy_112) (la_an rfl la_tc_1524_112) (la_ac (a := la_cxc_copy_113) (la_an rfl la_tc_1524_113) (la_ac (a := la_cxc_copy_114) (la_an rfl la_tc_1524_114) (la_ac (a := la_cxc_copy_115) (la_an rfl la_tc_1524_115) (la_ac (a := la_cxc_copy_116) (la_an rfl la_tc_1524_116) (la_ac (a := la_cxc_copy_117) (la_an rfl la_tc_1524_117) (la_ac (a := la_cxc_copy_118) (la_an rfl la_tc_1524_118) (la_ac (a := la_cxc_copy_119) (la_an rfl la_tc_1524_119) (la_ac (a := la_cxc_copy_120) (la_an rfl la_tc_1524_120) (la_ac (a := la_cxc_copy_121) (la_an rfl la_tc_1524_121) (la_ac (a := la_cxc_copy_122) (la_an rfl la_tc_1524_122) (la_ac (a := la_cxc_copy_123) (la_an rfl la_tc_1524_123) (la_ac (a := la_cxc_copy_124) (la_an rfl la_tc_1524_124) (la_ac (a := la_cxc_copy_125) (la_an rfl la_tc_1524_125) (la_ac (a := la_cxc_copy_126) (la_an rfl la_tc_1524_126) (la_ac (a := la_cxc_copy_127) (la_an rfl la_tc_1524_127) (la_ac (a := la_cxc_copy_128) (la_an rfl la_tc_1524_128) (la_ac (a := la_cxc_copy_129) (la_an rfl la_tc_1524_129) (la_ac (a := la_cxc_copy_130) (la_an rfl la_tc_1524_130) (la_ac (a := la_cxc_copy_131) (la_an rfl la_tc_1524_131) (la_ac (a := la_cxc_copy_132) (la_an rfl la_tc_1524_132) (la_ac (a := la_cxc_copy_133) (la_an rfl la_tc_1524_133) (la_ac (a := la_cxc_copy_134) (la_an rfl la_tc_1524_134) (la_ac (a := la_cxc_copy_135) (la_an rfl la_tc_1524_135) (la_ac (a := la_cxc_copy_136) (la_an rfl la_tc_1524_136) (la_ac (a := la_cxc_copy_137) (la_an rfl la_tc_1524_137) (la_ac (a := la_cxc_copy_138) (la_an rfl la_tc_1524_138) (la_ac (a := la_cxc_copy_139) (la_an rfl la_tc_1524_139) (la_ac (a := la_cxc_copy_140) (la_an rfl la_tc_1524_140) (la_ac (a := la_cxc_copy_141) (la_an rfl la_tc_1524_141) (la_ac (a := la_cxc_copy_142) (la_an rfl la_tc_1524_142) (la_ac (a := la_cxc_copy_143) (la_an rfl la_tc_1524_143) (la_ac (a := la_cxc_copy_144) (la_an rfl la_tc_1524_144) (la_ac (a := la_cxc_copy_145) (la_an rfl la_tc_1524_145) (la_ac (a := la_cxc_copy_146) (la_an rfl la_tc_1524_146) (la_ac (a := la_cxc_copy_147) (la_an rfl la_tc_1524_147) (la_ac (a := la_cxc_copy_148) (la_an rfl la_tc_1524_148) (la_ac (a := la_cxc_copy_149) (la_an rfl la_tc_1524_149) (la_ac (a := la_cxc_copy_150) (la_an rfl la_tc_1524_150) (la_ac (a := la_cxc_copy_151) (la_an rfl la_tc_1524_151) (la_ac (a := la_cxc_copy_152) (la_an rfl la_tc_1524_152) (la_ac (a := la_cxc_copy_153) (la_an rfl la_tc_1524_153) (la_ac (a := la_cxc_copy_154) (la_an rfl la_tc_1524_154) (la_ac (a := la_cxc_copy_155) (la_an rfl la_tc_1524_155) (la_ac (a := la_cxc_copy_156) (la_an rfl la_tc_1524_156) (la_ac (a := la_cxc_copy_157) (la_an rfl la_tc_1524_157) (la_ac (a := la_cxc_copy_158) (la_an rfl la_tc_1524_158) (la_ac (a := la_cxc_copy_159) (la_an rfl la_tc_1524_159) (la_ac (a := la_cxc_copy_160) (la_an rfl la_tc_1524_160) (la_ac (a := la_cxc_copy_161) (la_an rfl la_tc_1524_161) (la_ac (a := la_cxc_copy_162) (la_an rfl la_tc_1524_162) (la_ac (a := la_cxc_copy_163) (la_an rfl la_tc_1524_163) (la_ac (a := la_cxc_copy_164) (la_an rfl la_tc_1524_164) (la_ac (a := la_cxc_copy_165) (la_an rfl la_tc_1524_165) (la_ac (a := la_cxc_copy_166) (la_an rfl la_tc_1524_166) (la_ac (a := la_cxc_copy_167) (la_an rfl la_tc_1524_167) (la_ac (a := la_cxc_copy_168) (la_an rfl la_tc_1524_168) (la_ac (a := la_cxc_copy_169) (la_an rfl la_tc_1524_169) (la_ac (a := la_cxc_copy_170) (la_an rfl la_tc_1524_170) (la_ac (a := la_cxc_copy_171) (la_an rfl la_tc_1524_171) (la_ac (a := la_cxc_copy_172) (la_an rfl la_tc_1524_172) (la_ac (a := la_cxc_copy_173) (la_an rfl la_tc_1524_173) (la_ac (a := la_cxc_copy_174) (la_an rfl la_tc_1524_174) (la_ac (a := la_cxc_copy_175) (la_an rfl la_tc_1524_175) (la_ac (a := la_cxc_copy_176) (la_an rfl la_tc_1524_176) (la_ac (a := la_cxc_copy_177) (la_an rfl la_tc_1524_177) (la_ac (a := la_cxc_copy_178) (la_an rfl la_tc_1524_178) (la_ac (a := la_cxc_copy_179) (la_an rfl la_tc_1524_179) (rfl))))))))))))))))))))))))))))))))))))))))))))))))))))))))))))))))))))))))))))))))))))))))))))))))))))))))))))))))))))))))))))))))))))))))))))))))))))))))))))))))))))))))))))))))))))
set_option maxRecDepth 100000 in
theorem la_ta_1587 : la_cxs_any.all (fun c => (Nat.beq c.1.length 8 && Nat.beq c.2.1.length 5) && la_some (la_go la_C la_R0 17 200 (sx_c330.dropWhile (fun e => !(Nat.beq e.1 1587))) (la_cds c) (la_M0 9 la_R0) (la_cP c) [])) = true := by decide +kernel
set_option maxRecDepth 100000 in
theorem la_ta_1600 : la_cxs_any.all (fun c => (Nat.beq c.1.length 8 && Nat.beq c.2.1.length 5) && la_some (la_go la_C la_R0 17 200 (sx_c330.dropWhile (fun e => !(Nat.beq e.1 1600))) (la_cds c) (la_M0 9 la_R0) (la_cP c) [])) = true := by decide +kernel
set_option maxRecDepth 100000 in
theorem la_ta_1613 : la_cxs_any.all (fun c => (Nat.beq c.1.length 8 && Nat.beq c.2.1.length 5) && la_some (la_go la_C la_R0 17 200 (sx_c330.dropWhile (fun e => !(Nat.beq e.1 1613))) (la_cds c) (la_M0 9 la_R0) (la_cP c) [])) = true := by decide +kernel
set_option maxRecDepth 100000 in
theorem la_armc : la_arms.all (fun p => p.2.all (fun c => (Nat.beq c.1.length 8 && Nat.beq c.2.1.length 5) && la_some (la_go la_C la_R0 17 200 (sx_c330.dropWhile (fun e => !(Nat.beq e.1 p.1))) (la_cds c) (la_M0 9 la_R0) (la_cP c) []))) = true := la_ac (a := (208, la_cxs_any)) la_ta_208 (la_ac (a := (251, la_cxs_any)) la_ta_251 (la_ac (a := (304, la_cxs_any)) la_ta_304 (la_ac (a := (337, la_cxs_any)) la_ta_337 (la_ac (a := (370, la_cxs_any)) la_ta_370 (la_ac (a := (429, la_cxs_any)) la_ta_429 (la_ac (a := (498, la_cxs_any)) la_ta_498 (la_ac (a := (551, la_cxs_any)) la_ta_551 (la_ac (a := (584, la_cxs_any)) la_ta_584 (la_ac (a := (617, la_cxs_any)) la_ta_617 (la_ac (a := (650, la_cxs_any)) la_ta_650 (la_ac (a := (713, la_cxs_any)) la_ta_713 (la_ac (a := (736, la_cxs_any)) la_ta_736 (la_ac (a := (769, la_cxs_any)) la_ta_769 (la_ac (a := (802, la_cxs_any)) la_ta_802 (la_ac (a := (815, la_cxs_any)) la_ta_815 (la_ac (a := (838, la_cxs_any)) la_ta_838 (la_ac (a := (871, la_cxs_any)) la_ta_871 (la_ac (a := (904, la_cxs_any)) la_ta_904 (la_ac (a := (937, la_cxs_any)) la_ta_937 (la_ac (a := (960, la_cxs_any)) la_ta_960 (la_ac (a := (1023, la_cxs_any)) la_ta_1023 (la_ac (a := (1046, la_cxs_any)) la_ta_1046 (la_ac (a := (1079, la_cxs_any)) la_ta_1079 (la_ac (a := (1102, la_cxs_any)) la_ta_1102 (la_ac (a := (1135, la_cxs_any)) la_ta_1135 (la_ac (a := (1168, la_cxs_any)) la_ta_1168 (la_ac (a := (1191, la_cxs_any)) la_ta_1191 (la_ac (a := (1214, la_cxs_any)) la_ta_1214 (la_ac (a := (1247, la_cxs_any)) la_ta_1247 (la_ac (a := (1280, la_cxs_any)) la_ta_1280 (la_ac (a := (1329, la_cxs_any)) la_ta_1329 (la_ac (a := (1372, la_cxs_any)) la_ta_1372 (la_ac (a := (1405, la_cxs_any)) la_ta_1405 (la_ac (a := (1438, la_cxs_sheet)) la_ta_1438 (la_ac (a := (1481, la_cxs_any)) la_ta_1481 (la_ac (a := (1524, la_cxs_copy)) la_ta_1524 (la_ac (a := (1587, la_cxs_any)) la_ta_1587 (la_ac (a := (1600, la_cxs_any)) la_ta_1600 (la_ac (a := (1613, la_cxs_any)) la_ta_1613 (rfl))))))))))))))))))))))))))))))))))))))))
theorem la_wf0 : la_wf 9 la_R0 = true := by decide +kernel
def la_in (k : se_K) (x : Int32) : Prop := k.1 = 0 ∧ k.2.1 ≤ x.toInt ∧ x.toInt ≤ k.2.2
def la_al : List se_K → (Nat → Int32) → Prop
  | [], _ => True
  | k :: t, x => la_in k (x 0) ∧ la_al t (fun j => x (j + 1))
def la_tv (D : List (Nat × Nat)) (x v : Nat → Int32) (t : Nat × Nat) : Int32 := match t.1 with
  | 0 => x t.2
  | 1 => v t.2
  | _ => match D[t.2]? with
    | some e => v e.1 - x e.2
    | none => 0
def la_pfl (D : List (Nat × Nat)) : List (Jvm.ClassFile.Cond × (Nat × Nat) × (Nat × Nat)) → (Nat → Int32) → (Nat → Int32) → Prop
  | [], _, _ => True
  | e :: t, x, v => mm_P2 e.1 (la_tv D x v e.2.1) (la_tv D x v e.2.2) = true ∧ la_pfl D t x v
def la_pfx (c : la_cx) (x v : Nat → Int32) : Prop := la_pfl c.2.2.1 c.2.2.2 x v
theorem la_p_gt {a b : Int32} (h : b.toInt < a.toInt) : mm_P2 .gt a b = true := decide_eq_true (Int32.lt_iff_toInt_lt.mpr h)
theorem la_p_le {a b : Int32} (h : ¬ b.toInt < a.toInt) : mm_P2 .le a b = true := decide_eq_true (Int32.le_iff_toInt_le.mpr (by omega))
theorem la_n_gt {a b : Int32} (h : ¬ mm_P2 .gt a b = true) : mm_P2 .le a b = true := decide_eq_true (Int32.not_lt.mp (fun q => h (decide_eq_true q)))
theorem la_n_lt {a b : Int32} (h : ¬ mm_P2 .lt a b = true) : mm_P2 .ge a b = true := decide_eq_true (Int32.not_lt.mp (fun q => h (decide_eq_true q)))
theorem la_n_ne {a b : Int32} (h : ¬ mm_P2 .ne a b = true) : mm_P2 .eq a b = true := by
  show decide (a = b) = true
  cases hd : decide (a = b) with
  | true => rfl
  | false => exact absurd (show (!decide (a = b)) = true by rw [hd]; rfl) h
theorem la_p_lt {a b : Int32} (h : a.toInt < b.toInt) : mm_P2 .lt a b = true := decide_eq_true (Int32.lt_iff_toInt_lt.mpr h)
theorem la_p_ge {a b : Int32} (h : ¬ a.toInt < b.toInt) : mm_P2 .ge a b = true := decide_eq_true (Int32.le_iff_toInt_le.mpr (by omega))
theorem la_n_tri {a b : Int32} (h : ¬ mm_P2 .lt a b = true) (k : ¬ mm_P2 .gt a b = true) : mm_P2 .eq a b = true := decide_eq_true (Int32.toInt_inj.mp (Int.le_antisymm (Int32.le_iff_toInt_le.mp (of_decide_eq_true (la_n_gt k))) (Int32.le_iff_toInt_le.mp (of_decide_eq_true (la_n_lt h)))))
def la_vk : List se_K := [(0, 0, 32), (0, 0, 20), (0, 0, 32), (0, 0, 20), (0, 0, 32), (0, 0, 20), (0, 0, 32), (0, 0, 20)]
set_option maxRecDepth 100000 in
set_option maxHeartbeats 4000000 in
theorem la_cov_sheet (x v : Nat → Int32) (hv : la_al la_vk v) : ∃ c ∈ la_cxs_sheet, la_al c.1 v ∧ la_al c.2.1 x ∧ la_pfx c x v := by
  have a0 := se_i32 (x 0)
  have a1 := se_i32 (x 1)
  have a2 := se_i32 (x 2)
  have a3 := se_i32 (x 3)
  have a4 := se_i32 (x 4)
  unfold se_lo se_hi at a0 a1 a2 a3 a4
  obtain ⟨⟨-, b0, c0⟩, ⟨-, b1, c1⟩, ⟨-, b2, c2⟩, ⟨-, b3, c3⟩, ⟨-, b4, c4⟩, ⟨-, b5, c5⟩, ⟨-, b6, c6⟩, ⟨-, b7, c7⟩, -⟩ := hv
  have b0 : (0 : Int) ≤ (v 0).toInt := b0
  have c0 : (v 0).toInt ≤ (32 : Int) := c0
  have b1 : (0 : Int) ≤ (v 1).toInt := b1
  have c1 : (v 1).toInt ≤ (20 : Int) := c1
  have b2 : (0 : Int) ≤ (v 2).toInt := b2
  have c2 : (v 2).toInt ≤ (32 : Int) := c2
  have b3 : (0 : Int) ≤ (v 3).toInt := b3
  have c3 : (v 3).toInt ≤ (20 : Int) := c3
  have b4 : (0 : Int) ≤ (v 4).toInt := b4
  have c4 : (v 4).toInt ≤ (32 : Int) := c4
  have b5 : (0 : Int) ≤ (v 5).toInt := b5
  have c5 : (v 5).toInt ≤ (20 : Int) := c5
  have b6 : (0 : Int) ≤ (v 6).toInt := b6
  have c6 : (v 6).toInt ≤ (32 : Int) := c6
  have b7 : (0 : Int) ≤ (v 7).toInt := b7
  have c7 : (v 7).toInt ≤ (20 : Int) := c7
  by_cases h2 : (x 0).toInt ≤ 3
  · skip
    by_cases h4 : (x 0).toInt ≤ -1
    · skip
      exact ⟨_, List.mem_of_getElem? (i := 0) rfl, ⟨⟨rfl, b0, c0⟩, ⟨rfl, b1, c1⟩, ⟨rfl, b2, c2⟩, ⟨rfl, b3, c3⟩, ⟨rfl, b4, c4⟩, ⟨rfl, b5, c5⟩, ⟨rfl, b6, c6⟩, ⟨rfl, b7, c7⟩, trivial⟩, ⟨⟨rfl, a0.1, by show (x 0).toInt ≤ (-1 : Int); omega⟩, ⟨rfl, a1.1, a1.2⟩, ⟨rfl, a2.1, a2.2⟩, ⟨rfl, a3.1, a3.2⟩, ⟨rfl, a4.1, a4.2⟩, trivial⟩, trivial⟩
    · skip
      by_cases h6 : (x 1).toInt ≤ 15
      · skip
        by_cases h8 : (x 1).toInt ≤ 7
        · skip
          by_cases h10 : (x 1).toInt ≤ 0
          · skip
            by_cases h12 : (x 1).toInt ≤ -1
            · skip
              exact ⟨_, List.mem_of_getElem? (i := 1) rfl, ⟨⟨rfl, b0, c0⟩, ⟨rfl, b1, c1⟩, ⟨rfl, b2, c2⟩, ⟨rfl, b3, c3⟩, ⟨rfl, b4, c4⟩, ⟨rfl, b5, c5⟩, ⟨rfl, b6, c6⟩, ⟨rfl, b7, c7⟩, trivial⟩, ⟨⟨rfl, by show (0 : Int) ≤ (x 0).toInt; omega, by show (x 0).toInt ≤ (3 : Int); omega⟩, ⟨rfl, a1.1, by show (x 1).toInt ≤ (-1 : Int); omega⟩, ⟨rfl, a2.1, a2.2⟩, ⟨rfl, a3.1, a3.2⟩, ⟨rfl, a4.1, a4.2⟩, trivial⟩, trivial⟩
            · skip
              by_cases h14 : (x 2).toInt ≤ 20
              · skip
                by_cases h16 : (x 2).toInt ≤ -1
                · skip
                  exact ⟨_, List.mem_of_getElem? (i := 2) rfl, ⟨⟨rfl, b0, c0⟩, ⟨rfl, b1, c1⟩, ⟨rfl, b2, c2⟩, ⟨rfl, b3, c3⟩, ⟨rfl, b4, c4⟩, ⟨rfl, b5, c5⟩, ⟨rfl, b6, c6⟩, ⟨rfl, b7, c7⟩, trivial⟩, ⟨⟨rfl, by show (0 : Int) ≤ (x 0).toInt; omega, by show (x 0).toInt ≤ (3 : Int); omega⟩, ⟨rfl, by show (0 : Int) ≤ (x 1).toInt; omega, by show (x 1).toInt ≤ (0 : Int); omega⟩, ⟨rfl, a2.1, by show (x 2).toInt ≤ (-1 : Int); omega⟩, ⟨rfl, a3.1, a3.2⟩, ⟨rfl, a4.1, a4.2⟩, trivial⟩, trivial⟩
                · skip
                  by_cases h18 : (x 0).toInt ≤ 1
                  · skip
                    by_cases h20 : (x 0).toInt ≤ 0
                    · skip
                      exact ⟨_, List.mem_of_getElem? (i := 3) rfl, ⟨⟨rfl, b0, c0⟩, ⟨rfl, b1, c1⟩, ⟨rfl, b2, c2⟩, ⟨rfl, b3, c3⟩, ⟨rfl, b4, c4⟩, ⟨rfl, b5, c5⟩, ⟨rfl, b6, c6⟩, ⟨rfl, b7, c7⟩, trivial⟩, ⟨⟨rfl, by show (0 : Int) ≤ (x 0).toInt; omega, by show (x 0).toInt ≤ (0 : Int); omega⟩, ⟨rfl, by show (0 : Int) ≤ (x 1).toInt; omega, by show (x 1).toInt ≤ (0 : Int); omega⟩, ⟨rfl, by show (0 : Int) ≤ (x 2).toInt; omega, by show (x 2).toInt ≤ (20 : Int); omega⟩, ⟨rfl, a3.1, a3.2⟩, ⟨rfl, a4.1, a4.2⟩, trivial⟩, trivial⟩
                    · skip
                      exact ⟨_, List.mem_of_getElem? (i := 4) rfl, ⟨⟨rfl, b0, c0⟩, ⟨rfl, b1, c1⟩, ⟨rfl, b2, c2⟩, ⟨rfl, b3, c3⟩, ⟨rfl, b4, c4⟩, ⟨rfl, b5, c5⟩, ⟨rfl, b6, c6⟩, ⟨rfl, b7, c7⟩, trivial⟩, ⟨⟨rfl, by show (1 : Int) ≤ (x 0).toInt; omega, by show (x 0).toInt ≤ (1 : Int); omega⟩, ⟨rfl, by show (0 : Int) ≤ (x 1).toInt; omega, by show (x 1).toInt ≤ (0 : Int); omega⟩, ⟨rfl, by show (0 : Int) ≤ (x 2).toInt; omega, by show (x 2).toInt ≤ (20 : Int); omega⟩, ⟨rfl, a3.1, a3.2⟩, ⟨rfl, a4.1, a4.2⟩, trivial⟩, trivial⟩
                  · skip
                    by_cases h20 : (x 0).toInt ≤ 2
                    · skip
                      exact ⟨_, List.mem_of_getElem? (i := 5) rfl, ⟨⟨rfl, b0, c0⟩, ⟨rfl, b1, c1⟩, ⟨rfl, b2, c2⟩, ⟨rfl, b3, c3⟩, ⟨rfl, b4, c4⟩, ⟨rfl, b5, c5⟩, ⟨rfl, b6, c6⟩, ⟨rfl, b7, c7⟩, trivial⟩, ⟨⟨rfl, by show (2 : Int) ≤ (x 0).toInt; omega, by show (x 0).toInt ≤ (2 : Int); omega⟩, ⟨rfl, by show (0 : Int) ≤ (x 1).toInt; omega, by show (x 1).toInt ≤ (0 : Int); omega⟩, ⟨rfl, by show (0 : Int) ≤ (x 2).toInt; omega, by show (x 2).toInt ≤ (20 : Int); omega⟩, ⟨rfl, a3.1, a3.2⟩, ⟨rfl, a4.1, a4.2⟩, trivial⟩, trivial⟩
                    · skip
                      exact ⟨_, List.mem_of_getElem? (i := 6) rfl, ⟨⟨rfl, b0, c0⟩, ⟨rfl, b1, c1⟩, ⟨rfl, b2, c2⟩, ⟨rfl, b3, c3⟩, ⟨rfl, b4, c4⟩, ⟨rfl, b5, c5⟩, ⟨rfl, b6, c6⟩, ⟨rfl, b7, c7⟩, trivial⟩, ⟨⟨rfl, by show (3 : Int) ≤ (x 0).toInt; omega, by show (x 0).toInt ≤ (3 : Int); omega⟩, ⟨rfl, by show (0 : Int) ≤ (x 1).toInt; omega, by show (x 1).toInt ≤ (0 : Int); omega⟩, ⟨rfl, by show (0 : Int) ≤ (x 2).toInt; omega, by show (x 2).toInt ≤ (20 : Int); omega⟩, ⟨rfl, a3.1, a3.2⟩, ⟨rfl, a4.1, a4.2⟩, trivial⟩, trivial⟩
              · skip
                exact ⟨_, List.mem_of_getElem? (i := 7) rfl, ⟨⟨rfl, b0, c0⟩, ⟨rfl, b1, c1⟩, ⟨rfl, b2, c2⟩, ⟨rfl, b3, c3⟩, ⟨rfl, b4, c4⟩, ⟨rfl, b5, c5⟩, ⟨rfl, b6, c6⟩, ⟨rfl, b7, c7⟩, trivial⟩, ⟨⟨rfl, by show (0 : Int) ≤ (x 0).toInt; omega, by show (x 0).toInt ≤ (3 : Int); omega⟩, ⟨rfl, by show (0 : Int) ≤ (x 1).toInt; omega, by show (x 1).toInt ≤ (0 : Int); omega⟩, ⟨rfl, by show (21 : Int) ≤ (x 2).toInt; omega, a2.2⟩, ⟨rfl, a3.1, a3.2⟩, ⟨rfl, a4.1, a4.2⟩, trivial⟩, trivial⟩
          · skip
            exact ⟨_, List.mem_of_getElem? (i := 8) rfl, ⟨⟨rfl, b0, c0⟩, ⟨rfl, b1, c1⟩, ⟨rfl, b2, c2⟩, ⟨rfl, b3, c3⟩, ⟨rfl, b4, c4⟩, ⟨rfl, b5, c5⟩, ⟨rfl, b6, c6⟩, ⟨rfl, b7, c7⟩, trivial⟩, ⟨⟨rfl, by show (0 : Int) ≤ (x 0).toInt; omega, by show (x 0).toInt ≤ (3 : Int); omega⟩, ⟨rfl, by show (1 : Int) ≤ (x 1).toInt; omega, by show (x 1).toInt ≤ (7 : Int); omega⟩, ⟨rfl, a2.1, a2.2⟩, ⟨rfl, a3.1, a3.2⟩, ⟨rfl, a4.1, a4.2⟩, trivial⟩, trivial⟩
        · skip
          by_cases h10 : (x 1).toInt ≤ 8
          · skip
            by_cases h12 : (x 2).toInt ≤ 20
            · skip
              by_cases h14 : (x 2).toInt ≤ -1
              · skip
                exact ⟨_, List.mem_of_getElem? (i := 9) rfl, ⟨⟨rfl, b0, c0⟩, ⟨rfl, b1, c1⟩, ⟨rfl, b2, c2⟩, ⟨rfl, b3, c3⟩, ⟨rfl, b4, c4⟩, ⟨rfl, b5, c5⟩, ⟨rfl, b6, c6⟩, ⟨rfl, b7, c7⟩, trivial⟩, ⟨⟨rfl, by show (0 : Int) ≤ (x 0).toInt; omega, by show (x 0).toInt ≤ (3 : Int); omega⟩, ⟨rfl, by show (8 : Int) ≤ (x 1).toInt; omega, by show (x 1).toInt ≤ (8 : Int); omega⟩, ⟨rfl, a2.1, by show (x 2).toInt ≤ (-1 : Int); omega⟩, ⟨rfl, a3.1, a3.2⟩, ⟨rfl, a4.1, a4.2⟩, trivial⟩, trivial⟩
              · skip
                by_cases h16 : (x 0).toInt ≤ 1
                · skip
                  by_cases h18 : (x 0).toInt ≤ 0
                  · skip
                    exact ⟨_, List.mem_of_getElem? (i := 10) rfl, ⟨⟨rfl, b0, c0⟩, ⟨rfl, b1, c1⟩, ⟨rfl, b2, c2⟩, ⟨rfl, b3, c3⟩, ⟨rfl, b4, c4⟩, ⟨rfl, b5, c5⟩, ⟨rfl, b6, c6⟩, ⟨rfl, b7, c7⟩, trivial⟩, ⟨⟨rfl, by show (0 : Int) ≤ (x 0).toInt; omega, by show (x 0).toInt ≤ (0 : Int); omega⟩, ⟨rfl, by show (8 : Int) ≤ (x 1).toInt; omega, by show (x 1).toInt ≤ (8 : Int); omega⟩, ⟨rfl, by show (0 : Int) ≤ (x 2).toInt; omega, by show (x 2).toInt ≤ (20 : Int); omega⟩, ⟨rfl, a3.1, a3.2⟩, ⟨rfl, a4.1, a4.2⟩, trivial⟩, trivial⟩
                  · skip
                    exact ⟨_, List.mem_of_getElem? (i := 11) rfl, ⟨⟨rfl, b0, c0⟩, ⟨rfl, b1, c1⟩, ⟨rfl, b2, c2⟩, ⟨rfl, b3, c3⟩, ⟨rfl, b4, c4⟩, ⟨rfl, b5, c5⟩, ⟨rfl, b6, c6⟩, ⟨rfl, b7, c7⟩, trivial⟩, ⟨⟨rfl, by show (1 : Int) ≤ (x 0).toInt; omega, by show (x 0).toInt ≤ (1 : Int); omega⟩, ⟨rfl, by show (8 : Int) ≤ (x 1).toInt; omega, by show (x 1).toInt ≤ (8 : Int); omega⟩, ⟨rfl, by show (0 : Int) ≤ (x 2).toInt; omega, by show (x 2).toInt ≤ (20 : Int); omega⟩, ⟨rfl, a3.1, a3.2⟩, ⟨rfl, a4.1, a4.2⟩, trivial⟩, trivial⟩
                · skip
                  by_cases h18 : (x 0).toInt ≤ 2
                  · skip
                    exact ⟨_, List.mem_of_getElem? (i := 12) rfl, ⟨⟨rfl, b0, c0⟩, ⟨rfl, b1, c1⟩, ⟨rfl, b2, c2⟩, ⟨rfl, b3, c3⟩, ⟨rfl, b4, c4⟩, ⟨rfl, b5, c5⟩, ⟨rfl, b6, c6⟩, ⟨rfl, b7, c7⟩, trivial⟩, ⟨⟨rfl, by show (2 : Int) ≤ (x 0).toInt; omega, by show (x 0).toInt ≤ (2 : Int); omega⟩, ⟨rfl, by show (8 : Int) ≤ (x 1).toInt; omega, by show (x 1).toInt ≤ (8 : Int); omega⟩, ⟨rfl, by show (0 : Int) ≤ (x 2).toInt; omega, by show (x 2).toInt ≤ (20 : Int); omega⟩, ⟨rfl, a3.1, a3.2⟩, ⟨rfl, a4.1, a4.2⟩, trivial⟩, trivial⟩
                  · skip
                    exact ⟨_, List.mem_of_getElem? (i := 13) rfl, ⟨⟨rfl, b0, c0⟩, ⟨rfl, b1, c1⟩, ⟨rfl, b2, c2⟩, ⟨rfl, b3, c3⟩, ⟨rfl, b4, c4⟩, ⟨rfl, b5, c5⟩, ⟨rfl, b6, c6⟩, ⟨rfl, b7, c7⟩, trivial⟩, ⟨⟨rfl, by show (3 : Int) ≤ (x 0).toInt; omega, by show (x 0).toInt ≤ (3 : Int); omega⟩, ⟨rfl, by show (8 : Int) ≤ (x 1).toInt; omega, by show (x 1).toInt ≤ (8 : Int); omega⟩, ⟨rfl, by show (0 : Int) ≤ (x 2).toInt; omega, by show (x 2).toInt ≤ (20 : Int); omega⟩, ⟨rfl, a3.1, a3.2⟩, ⟨rfl, a4.1, a4.2⟩, trivial⟩, trivial⟩
            · skip
              exact ⟨_, List.mem_of_getElem? (i := 14) rfl, ⟨⟨rfl, b0, c0⟩, ⟨rfl, b1, c1⟩, ⟨rfl, b2, c2⟩, ⟨rfl, b3, c3⟩, ⟨rfl, b4, c4⟩, ⟨rfl, b5, c5⟩, ⟨rfl, b6, c6⟩, ⟨rfl, b7, c7⟩, trivial⟩, ⟨⟨rfl, by show (0 : Int) ≤ (x 0).toInt; omega, by show (x 0).toInt ≤ (3 : Int); omega⟩, ⟨rfl, by show (8 : Int) ≤ (x 1).toInt; omega, by show (x 1).toInt ≤ (8 : Int); omega⟩, ⟨rfl, by show (21 : Int) ≤ (x 2).toInt; omega, a2.2⟩, ⟨rfl, a3.1, a3.2⟩, ⟨rfl, a4.1, a4.2⟩, trivial⟩, trivial⟩
          · skip
            exact ⟨_, List.mem_of_getElem? (i := 15) rfl, ⟨⟨rfl, b0, c0⟩, ⟨rfl, b1, c1⟩, ⟨rfl, b2, c2⟩, ⟨rfl, b3, c3⟩, ⟨rfl, b4, c4⟩, ⟨rfl, b5, c5⟩, ⟨rfl, b6, c6⟩, ⟨rfl, b7, c7⟩, trivial⟩, ⟨⟨rfl, by show (0 : Int) ≤ (x 0).toInt; omega, by show (x 0).toInt ≤ (3 : Int); omega⟩, ⟨rfl, by show (9 : Int) ≤ (x 1).toInt; omega, by show (x 1).toInt ≤ (15 : Int); omega⟩, ⟨rfl, a2.1, a2.2⟩, ⟨rfl, a3.1, a3.2⟩, ⟨rfl, a4.1, a4.2⟩, trivial⟩, trivial⟩
      · skip
        by_cases h8 : (x 1).toInt ≤ 31
        · skip
          by_cases h10 : (x 1).toInt ≤ 16
          · skip
            by_cases h12 : (x 2).toInt ≤ 20
            · skip
              by_cases h14 : (x 2).toInt ≤ -1
              · skip
                exact ⟨_, List.mem_of_getElem? (i := 16) rfl, ⟨⟨rfl, b0, c0⟩, ⟨rfl, b1, c1⟩, ⟨rfl, b2, c2⟩, ⟨rfl, b3, c3⟩, ⟨rfl, b4, c4⟩, ⟨rfl, b5, c5⟩, ⟨rfl, b6, c6⟩, ⟨rfl, b7, c7⟩, trivial⟩, ⟨⟨rfl, by show (0 : Int) ≤ (x 0).toInt; omega, by show (x 0).toInt ≤ (3 : Int); omega⟩, ⟨rfl, by show (16 : Int) ≤ (x 1).toInt; omega, by show (x 1).toInt ≤ (16 : Int); omega⟩, ⟨rfl, a2.1, by show (x 2).toInt ≤ (-1 : Int); omega⟩, ⟨rfl, a3.1, a3.2⟩, ⟨rfl, a4.1, a4.2⟩, trivial⟩, trivial⟩
              · skip
                by_cases h16 : (x 0).toInt ≤ 1
                · skip
                  by_cases h18 : (x 0).toInt ≤ 0
                  · skip
                    exact ⟨_, List.mem_of_getElem? (i := 17) rfl, ⟨⟨rfl, b0, c0⟩, ⟨rfl, b1, c1⟩, ⟨rfl, b2, c2⟩, ⟨rfl, b3, c3⟩, ⟨rfl, b4, c4⟩, ⟨rfl, b5, c5⟩, ⟨rfl, b6, c6⟩, ⟨rfl, b7, c7⟩, trivial⟩, ⟨⟨rfl, by show (0 : Int) ≤ (x 0).toInt; omega, by show (x 0).toInt ≤ (0 : Int); omega⟩, ⟨rfl, by show (16 : Int) ≤ (x 1).toInt; omega, by show (x 1).toInt ≤ (16 : Int); omega⟩, ⟨rfl, by show (0 : Int) ≤ (x 2).toInt; omega, by show (x 2).toInt ≤ (20 : Int); omega⟩, ⟨rfl, a3.1, a3.2⟩, ⟨rfl, a4.1, a4.2⟩, trivial⟩, trivial⟩
                  · skip
                    exact ⟨_, List.mem_of_getElem? (i := 18) rfl, ⟨⟨rfl, b0, c0⟩, ⟨rfl, b1, c1⟩, ⟨rfl, b2, c2⟩, ⟨rfl, b3, c3⟩, ⟨rfl, b4, c4⟩, ⟨rfl, b5, c5⟩, ⟨rfl, b6, c6⟩, ⟨rfl, b7, c7⟩, trivial⟩, ⟨⟨rfl, by show (1 : Int) ≤ (x 0).toInt; omega, by show (x 0).toInt ≤ (1 : Int); omega⟩, ⟨rfl, by show (16 : Int) ≤ (x 1).toInt; omega, by show (x 1).toInt ≤ (16 : Int); omega⟩, ⟨rfl, by show (0 : Int) ≤ (x 2).toInt; omega, by show (x 2).toInt ≤ (20 : Int); omega⟩, ⟨rfl, a3.1, a3.2⟩, ⟨rfl, a4.1, a4.2⟩, trivial⟩, trivial⟩
                · skip
                  by_cases h18 : (x 0).toInt ≤ 2
                  · skip
                    exact ⟨_, List.mem_of_getElem? (i := 19) rfl, ⟨⟨rfl, b0, c0⟩, ⟨rfl, b1, c1⟩, ⟨rfl, b2, c2⟩, ⟨rfl, b3, c3⟩, ⟨rfl, b4, c4⟩, ⟨rfl, b5, c5⟩, ⟨rfl, b6, c6⟩, ⟨rfl, b7, c7⟩, trivial⟩, ⟨⟨rfl, by show (2 : Int) ≤ (x 0).toInt; omega, by show (x 0).toInt ≤ (2 : Int); omega⟩, ⟨rfl, by show (16 : Int) ≤ (x 1).toInt; omega, by show (x 1).toInt ≤ (16 : Int); omega⟩, ⟨rfl, by show (0 : Int) ≤ (x 2).toInt; omega, by show (x 2).toInt ≤ (20 : Int); omega⟩, ⟨rfl, a3.1, a3.2⟩, ⟨rfl, a4.1, a4.2⟩, trivial⟩, trivial⟩
                  · skip
                    exact ⟨_, List.mem_of_getElem? (i := 20) rfl, ⟨⟨rfl, b0, c0⟩, ⟨rfl, b1, c1⟩, ⟨rfl, b2, c2⟩, ⟨rfl, b3, c3⟩, ⟨rfl, b4, c4⟩, ⟨rfl, b5, c5⟩, ⟨rfl, b6, c6⟩, ⟨rfl, b7, c7⟩, trivial⟩, ⟨⟨rfl, by show (3 : Int) ≤ (x 0).toInt; omega, by show (x 0).toInt ≤ (3 : Int); omega⟩, ⟨rfl, by show (16 : Int) ≤ (x 1).toInt; omega, by show (x 1).toInt ≤ (16 : Int); omega⟩, ⟨rfl, by show (0 : Int) ≤ (x 2).toInt; omega, by show (x 2).toInt ≤ (20 : Int); omega⟩, ⟨rfl, a3.1, a3.2⟩, ⟨rfl, a4.1, a4.2⟩, trivial⟩, trivial⟩
            · skip
              exact ⟨_, List.mem_of_getElem? (i := 21) rfl, ⟨⟨rfl, b0, c0⟩, ⟨rfl, b1, c1⟩, ⟨rfl, b2, c2⟩, ⟨rfl, b3, c3⟩, ⟨rfl, b4, c4⟩, ⟨rfl, b5, c5⟩, ⟨rfl, b6, c6⟩, ⟨rfl, b7, c7⟩, trivial⟩, ⟨⟨rfl, by show (0 : Int) ≤ (x 0).toInt; omega, by show (x 0).toInt ≤ (3 : Int); omega⟩, ⟨rfl, by show (16 : Int) ≤ (x 1).toInt; omega, by show (x 1).toInt ≤ (16 : Int); omega⟩, ⟨rfl, by show (21 : Int) ≤ (x 2).toInt; omega, a2.2⟩, ⟨rfl, a3.1, a3.2⟩, ⟨rfl, a4.1, a4.2⟩, trivial⟩, trivial⟩
          · skip
            exact ⟨_, List.mem_of_getElem? (i := 22) rfl, ⟨⟨rfl, b0, c0⟩, ⟨rfl, b1, c1⟩, ⟨rfl, b2, c2⟩, ⟨rfl, b3, c3⟩, ⟨rfl, b4, c4⟩, ⟨rfl, b5, c5⟩, ⟨rfl, b6, c6⟩, ⟨rfl, b7, c7⟩, trivial⟩, ⟨⟨rfl, by show (0 : Int) ≤ (x 0).toInt; omega, by show (x 0).toInt ≤ (3 : Int); omega⟩, ⟨rfl, by show (17 : Int) ≤ (x 1).toInt; omega, by show (x 1).toInt ≤ (31 : Int); omega⟩, ⟨rfl, a2.1, a2.2⟩, ⟨rfl, a3.1, a3.2⟩, ⟨rfl, a4.1, a4.2⟩, trivial⟩, trivial⟩
        · skip
          by_cases h10 : (x 1).toInt ≤ 32
          · skip
            by_cases h12 : (x 2).toInt ≤ 20
            · skip
              by_cases h14 : (x 2).toInt ≤ -1
              · skip
                exact ⟨_, List.mem_of_getElem? (i := 23) rfl, ⟨⟨rfl, b0, c0⟩, ⟨rfl, b1, c1⟩, ⟨rfl, b2, c2⟩, ⟨rfl, b3, c3⟩, ⟨rfl, b4, c4⟩, ⟨rfl, b5, c5⟩, ⟨rfl, b6, c6⟩, ⟨rfl, b7, c7⟩, trivial⟩, ⟨⟨rfl, by show (0 : Int) ≤ (x 0).toInt; omega, by show (x 0).toInt ≤ (3 : Int); omega⟩, ⟨rfl, by show (32 : Int) ≤ (x 1).toInt; omega, by show (x 1).toInt ≤ (32 : Int); omega⟩, ⟨rfl, a2.1, by show (x 2).toInt ≤ (-1 : Int); omega⟩, ⟨rfl, a3.1, a3.2⟩, ⟨rfl, a4.1, a4.2⟩, trivial⟩, trivial⟩
              · skip
                by_cases h16 : (x 0).toInt ≤ 1
                · skip
                  by_cases h18 : (x 0).toInt ≤ 0
                  · skip
                    exact ⟨_, List.mem_of_getElem? (i := 24) rfl, ⟨⟨rfl, b0, c0⟩, ⟨rfl, b1, c1⟩, ⟨rfl, b2, c2⟩, ⟨rfl, b3, c3⟩, ⟨rfl, b4, c4⟩, ⟨rfl, b5, c5⟩, ⟨rfl, b6, c6⟩, ⟨rfl, b7, c7⟩, trivial⟩, ⟨⟨rfl, by show (0 : Int) ≤ (x 0).toInt; omega, by show (x 0).toInt ≤ (0 : Int); omega⟩, ⟨rfl, by show (32 : Int) ≤ (x 1).toInt; omega, by show (x 1).toInt ≤ (32 : Int); omega⟩, ⟨rfl, by show (0 : Int) ≤ (x 2).toInt; omega, by show (x 2).toInt ≤ (20 : Int); omega⟩, ⟨rfl, a3.1, a3.2⟩, ⟨rfl, a4.1, a4.2⟩, trivial⟩, trivial⟩
                  · skip
                    exact ⟨_, List.mem_of_getElem? (i := 25) rfl, ⟨⟨rfl, b0, c0⟩, ⟨rfl, b1, c1⟩, ⟨rfl, b2, c2⟩, ⟨rfl, b3, c3⟩, ⟨rfl, b4, c4⟩, ⟨rfl, b5, c5⟩, ⟨rfl, b6, c6⟩, ⟨rfl, b7, c7⟩, trivial⟩, ⟨⟨rfl, by show (1 : Int) ≤ (x 0).toInt; omega, by show (x 0).toInt ≤ (1 : Int); omega⟩, ⟨rfl, by show (32 : Int) ≤ (x 1).toInt; omega, by show (x 1).toInt ≤ (32 : Int); omega⟩, ⟨rfl, by show (0 : Int) ≤ (x 2).toInt; omega, by show (x 2).toInt ≤ (20 : Int); omega⟩, ⟨rfl, a3.1, a3.2⟩, ⟨rfl, a4.1, a4.2⟩, trivial⟩, trivial⟩
                · skip
                  by_cases h18 : (x 0).toInt ≤ 2
                  · skip
                    exact ⟨_, List.mem_of_getElem? (i := 26) rfl, ⟨⟨rfl, b0, c0⟩, ⟨rfl, b1, c1⟩, ⟨rfl, b2, c2⟩, ⟨rfl, b3, c3⟩, ⟨rfl, b4, c4⟩, ⟨rfl, b5, c5⟩, ⟨rfl, b6, c6⟩, ⟨rfl, b7, c7⟩, trivial⟩, ⟨⟨rfl, by show (2 : Int) ≤ (x 0).toInt; omega, by show (x 0).toInt ≤ (2 : Int); omega⟩, ⟨rfl, by show (32 : Int) ≤ (x 1).toInt; omega, by show (x 1).toInt ≤ (32 : Int); omega⟩, ⟨rfl, by show (0 : Int) ≤ (x 2).toInt; omega, by show (x 2).toInt ≤ (20 : Int); omega⟩, ⟨rfl, a3.1, a3.2⟩, ⟨rfl, a4.1, a4.2⟩, trivial⟩, trivial⟩
                  · skip
                    exact ⟨_, List.mem_of_getElem? (i := 27) rfl, ⟨⟨rfl, b0, c0⟩, ⟨rfl, b1, c1⟩, ⟨rfl, b2, c2⟩, ⟨rfl, b3, c3⟩, ⟨rfl, b4, c4⟩, ⟨rfl, b5, c5⟩, ⟨rfl, b6, c6⟩, ⟨rfl, b7, c7⟩, trivial⟩, ⟨⟨rfl, by show (3 : Int) ≤ (x 0).toInt; omega, by show (x 0).toInt ≤ (3 : Int); omega⟩, ⟨rfl, by show (32 : Int) ≤ (x 1).toInt; omega, by show (x 1).toInt ≤ (32 : Int); omega⟩, ⟨rfl, by show (0 : Int) ≤ (x 2).toInt; omega, by show (x 2).toInt ≤ (20 : Int); omega⟩, ⟨rfl, a3.1, a3.2⟩, ⟨rfl, a4.1, a4.2⟩, trivial⟩, trivial⟩
            · skip
              exact ⟨_, List.mem_of_getElem? (i := 28) rfl, ⟨⟨rfl, b0, c0⟩, ⟨rfl, b1, c1⟩, ⟨rfl, b2, c2⟩, ⟨rfl, b3, c3⟩, ⟨rfl, b4, c4⟩, ⟨rfl, b5, c5⟩, ⟨rfl, b6, c6⟩, ⟨rfl, b7, c7⟩, trivial⟩, ⟨⟨rfl, by show (0 : Int) ≤ (x 0).toInt; omega, by show (x 0).toInt ≤ (3 : Int); omega⟩, ⟨rfl, by show (32 : Int) ≤ (x 1).toInt; omega, by show (x 1).toInt ≤ (32 : Int); omega⟩, ⟨rfl, by show (21 : Int) ≤ (x 2).toInt; omega, a2.2⟩, ⟨rfl, a3.1, a3.2⟩, ⟨rfl, a4.1, a4.2⟩, trivial⟩, trivial⟩
          · skip
            exact ⟨_, List.mem_of_getElem? (i := 29) rfl, ⟨⟨rfl, b0, c0⟩, ⟨rfl, b1, c1⟩, ⟨rfl, b2, c2⟩, ⟨rfl, b3, c3⟩, ⟨rfl, b4, c4⟩, ⟨rfl, b5, c5⟩, ⟨rfl, b6, c6⟩, ⟨rfl, b7, c7⟩, trivial⟩, ⟨⟨rfl, by show (0 : Int) ≤ (x 0).toInt; omega, by show (x 0).toInt ≤ (3 : Int); omega⟩, ⟨rfl, by show (33 : Int) ≤ (x 1).toInt; omega, a1.2⟩, ⟨rfl, a2.1, a2.2⟩, ⟨rfl, a3.1, a3.2⟩, ⟨rfl, a4.1, a4.2⟩, trivial⟩, trivial⟩
  · skip
    exact ⟨_, List.mem_of_getElem? (i := 30) rfl, ⟨⟨rfl, b0, c0⟩, ⟨rfl, b1, c1⟩, ⟨rfl, b2, c2⟩, ⟨rfl, b3, c3⟩, ⟨rfl, b4, c4⟩, ⟨rfl, b5, c5⟩, ⟨rfl, b6, c6⟩, ⟨rfl, b7, c7⟩, trivial⟩, ⟨⟨rfl, by show (4 : Int) ≤ (x 0).toInt; omega, a0.2⟩, ⟨rfl, a1.1, a1.2⟩, ⟨rfl, a2.1, a2.2⟩, ⟨rfl, a3.1, a3.2⟩, ⟨rfl, a4.1, a4.2⟩, trivial⟩, trivial⟩
set_option maxRecDepth 100000 in
set_option maxHeartbeats 4000000 in
theorem la_cov_copy (x v : Nat → Int32) (hv : la_al la_vk v) : ∃ c ∈ la_cxs_copy, la_al c.1 v ∧ la_al c.2.1 x ∧ la_pfx c x v := by
  have a0 := se_i32 (x 0)
  have a1 := se_i32 (x 1)
  have a2 := se_i32 (x 2)
  have a3 := se_i32 (x 3)
  have a4 := se_i32 (x 4)
  unfold se_lo se_hi at a0 a1 a2 a3 a4
  obtain ⟨⟨-, b0, c0⟩, ⟨-, b1, c1⟩, ⟨-, b2, c2⟩, ⟨-, b3, c3⟩, ⟨-, b4, c4⟩, ⟨-, b5, c5⟩, ⟨-, b6, c6⟩, ⟨-, b7, c7⟩, -⟩ := hv
  have b0 : (0 : Int) ≤ (v 0).toInt := b0
  have c0 : (v 0).toInt ≤ (32 : Int) := c0
  have b1 : (0 : Int) ≤ (v 1).toInt := b1
  have c1 : (v 1).toInt ≤ (20 : Int) := c1
  have b2 : (0 : Int) ≤ (v 2).toInt := b2
  have c2 : (v 2).toInt ≤ (32 : Int) := c2
  have b3 : (0 : Int) ≤ (v 3).toInt := b3
  have c3 : (v 3).toInt ≤ (20 : Int) := c3
  have b4 : (0 : Int) ≤ (v 4).toInt := b4
  have c4 : (v 4).toInt ≤ (32 : Int) := c4
  have b5 : (0 : Int) ≤ (v 5).toInt := b5
  have c5 : (v 5).toInt ≤ (20 : Int) := c5
  have b6 : (0 : Int) ≤ (v 6).toInt := b6
  have c6 : (v 6).toInt ≤ (32 : Int) := c6
  have b7 : (0 : Int) ≤ (v 7).toInt := b7
  have c7 : (v 7).toInt ≤ (20 : Int) := c7
  by_cases h2 : (x 0).toInt ≤ 3
  · skip
    by_cases h4 : (x 0).toInt ≤ -1
    · skip
      exact ⟨_, List.mem_of_getElem? (i := 0) rfl, ⟨⟨rfl, b0, c0⟩, ⟨rfl, b1, c1⟩, ⟨rfl, b2, c2⟩, ⟨rfl, b3, c3⟩, ⟨rfl, b4, c4⟩, ⟨rfl, b5, c5⟩, ⟨rfl, b6, c6⟩, ⟨rfl, b7, c7⟩, trivial⟩, ⟨⟨rfl, a0.1, by show (x 0).toInt ≤ (-1 : Int); omega⟩, ⟨rfl, a1.1, a1.2⟩, ⟨rfl, a2.1, a2.2⟩, ⟨rfl, a3.1, a3.2⟩, ⟨rfl, a4.1, a4.2⟩, trivial⟩, trivial⟩
    · skip
      by_cases h6 : (x 2).toInt ≤ 3
      · skip
        by_cases h8 : (x 2).toInt ≤ -1
        · skip
          exact ⟨_, List.mem_of_getElem? (i := 1) rfl, ⟨⟨rfl, b0, c0⟩, ⟨rfl, b1, c1⟩, ⟨rfl, b2, c2⟩, ⟨rfl, b3, c3⟩, ⟨rfl, b4, c4⟩, ⟨rfl, b5, c5⟩, ⟨rfl, b6, c6⟩, ⟨rfl, b7, c7⟩, trivial⟩, ⟨⟨rfl, by show (0 : Int) ≤ (x 0).toInt; omega, by show (x 0).toInt ≤ (3 : Int); omega⟩, ⟨rfl, a1.1, a1.2⟩, ⟨rfl, a2.1, by show (x 2).toInt ≤ (-1 : Int); omega⟩, ⟨rfl, a3.1, a3.2⟩, ⟨rfl, a4.1, a4.2⟩, trivial⟩, trivial⟩
        · skip
          by_cases h10 : (x 0).toInt ≤ 1
          · skip
            by_cases h12 : (x 0).toInt ≤ 0
            · skip
              by_cases h14 : (x 2).toInt ≤ 1
              · skip
                by_cases h16 : (x 2).toInt ≤ 0
                · skip
                  by_cases h18 : (v 0).toInt ≤ 0
                  · skip
                    exact ⟨_, List.mem_of_getElem? (i := 2) rfl, ⟨⟨rfl, b0, by show (v 0).toInt ≤ (0 : Int); omega⟩, ⟨rfl, b1, c1⟩, ⟨rfl, b2, c2⟩, ⟨rfl, b3, c3⟩, ⟨rfl, b4, c4⟩, ⟨rfl, b5, c5⟩, ⟨rfl, b6, c6⟩, ⟨rfl, b7, c7⟩, trivial⟩, ⟨⟨rfl, by show (0 : Int) ≤ (x 0).toInt; omega, by show (x 0).toInt ≤ (0 : Int); omega⟩, ⟨rfl, a1.1, a1.2⟩, ⟨rfl, by show (0 : Int) ≤ (x 2).toInt; omega, by show (x 2).toInt ≤ (0 : Int); omega⟩, ⟨rfl, a3.1, a3.2⟩, ⟨rfl, a4.1, a4.2⟩, trivial⟩, trivial⟩
                  · skip
                    by_cases h20 : (x 4).toInt ≤ -1
                    · skip
                      exact ⟨_, List.mem_of_getElem? (i := 3) rfl, ⟨⟨rfl, by show (1 : Int) ≤ (v 0).toInt; omega, c0⟩, ⟨rfl, b1, c1⟩, ⟨rfl, b2, c2⟩, ⟨rfl, b3, c3⟩, ⟨rfl, b4, c4⟩, ⟨rfl, b5, c5⟩, ⟨rfl, b6, c6⟩, ⟨rfl, b7, c7⟩, trivial⟩, ⟨⟨rfl, by show (0 : Int) ≤ (x 0).toInt; omega, by show (x 0).toInt ≤ (0 : Int); omega⟩, ⟨rfl, a1.1, a1.2⟩, ⟨rfl, by show (0 : Int) ≤ (x 2).toInt; omega, by show (x 2).toInt ≤ (0 : Int); omega⟩, ⟨rfl, a3.1, a3.2⟩, ⟨rfl, a4.1, by show (x 4).toInt ≤ (-1 : Int); omega⟩, trivial⟩, trivial⟩
                    · skip
                      by_cases h22 : (v 1).toInt < (x 4).toInt
                      · skip
                        exact ⟨_, List.mem_of_getElem? (i := 4) rfl, ⟨⟨rfl, by show (1 : Int) ≤ (v 0).toInt; omega, c0⟩, ⟨rfl, b1, c1⟩, ⟨rfl, b2, c2⟩, ⟨rfl, b3, c3⟩, ⟨rfl, b4, c4⟩, ⟨rfl, b5, c5⟩, ⟨rfl, b6, c6⟩, ⟨rfl, b7, c7⟩, trivial⟩, ⟨⟨rfl, by show (0 : Int) ≤ (x 0).toInt; omega, by show (x 0).toInt ≤ (0 : Int); omega⟩, ⟨rfl, a1.1, a1.2⟩, ⟨rfl, by show (0 : Int) ≤ (x 2).toInt; omega, by show (x 2).toInt ≤ (0 : Int); omega⟩, ⟨rfl, a3.1, a3.2⟩, ⟨rfl, by show (1 : Int) ≤ (x 4).toInt; omega, a4.2⟩, trivial⟩, ⟨la_p_gt (a := x 4) (b := v 1) (by omega), trivial⟩⟩
                      · skip
                        by_cases h24 : (x 1).toInt ≤ -1
                        · skip
                          exact ⟨_, List.mem_of_getElem? (i := 5) rfl, ⟨⟨rfl, by show (1 : Int) ≤ (v 0).toInt; omega, c0⟩, ⟨rfl, b1, c1⟩, ⟨rfl, b2, c2⟩, ⟨rfl, b3, c3⟩, ⟨rfl, b4, c4⟩, ⟨rfl, b5, c5⟩, ⟨rfl, b6, c6⟩, ⟨rfl, b7, c7⟩, trivial⟩, ⟨⟨rfl, by show (0 : Int) ≤ (x 0).toInt; omega, by show (x 0).toInt ≤ (0 : Int); omega⟩, ⟨rfl, a1.1, by show (x 1).toInt ≤ (-1 : Int); omega⟩, ⟨rfl, by show (0 : Int) ≤ (x 2).toInt; omega, by show (x 2).toInt ≤ (0 : Int); omega⟩, ⟨rfl, a3.1, a3.2⟩, ⟨rfl, by show (0 : Int) ≤ (x 4).toInt; omega, by show (x 4).toInt ≤ (20 : Int); omega⟩, trivial⟩, ⟨la_p_le (a := x 4) (b := v 1) (by omega), trivial⟩⟩
                        · skip
                          by_cases h26 : mm_P2 .gt (x 1) (v 1 - x 4) = true
                          · skip
                            exact ⟨_, List.mem_of_getElem? (i := 6) rfl, ⟨⟨rfl, by show (1 : Int) ≤ (v 0).toInt; omega, c0⟩, ⟨rfl, b1, c1⟩, ⟨rfl, b2, c2⟩, ⟨rfl, b3, c3⟩, ⟨rfl, b4, c4⟩, ⟨rfl, b5, c5⟩, ⟨rfl, b6, c6⟩, ⟨rfl, b7, c7⟩, trivial⟩, ⟨⟨rfl, by show (0 : Int) ≤ (x 0).toInt; omega, by show (x 0).toInt ≤ (0 : Int); omega⟩, ⟨rfl, by show (0 : Int) ≤ (x 1).toInt; omega, a1.2⟩, ⟨rfl, by show (0 : Int) ≤ (x 2).toInt; omega, by show (x 2).toInt ≤ (0 : Int); omega⟩, ⟨rfl, a3.1, a3.2⟩, ⟨rfl, by show (0 : Int) ≤ (x 4).toInt; omega, by show (x 4).toInt ≤ (20 : Int); omega⟩, trivial⟩, ⟨la_p_le (a := x 4) (b := v 1) (by omega), ⟨h26, trivial⟩⟩⟩
                          · skip
                            by_cases h28 : (x 3).toInt ≤ -1
                            · skip
                              exact ⟨_, List.mem_of_getElem? (i := 7) rfl, ⟨⟨rfl, by show (1 : Int) ≤ (v 0).toInt; omega, c0⟩, ⟨rfl, b1, c1⟩, ⟨rfl, b2, c2⟩, ⟨rfl, b3, c3⟩, ⟨rfl, b4, c4⟩, ⟨rfl, b5, c5⟩, ⟨rfl, b6, c6⟩, ⟨rfl, b7, c7⟩, trivial⟩, ⟨⟨rfl, by show (0 : Int) ≤ (x 0).toInt; omega, by show (x 0).toInt ≤ (0 : Int); omega⟩, ⟨rfl, by show (0 : Int) ≤ (x 1).toInt; omega, a1.2⟩, ⟨rfl, by show (0 : Int) ≤ (x 2).toInt; omega, by show (x 2).toInt ≤ (0 : Int); omega⟩, ⟨rfl, a3.1, by show (x 3).toInt ≤ (-1 : Int); omega⟩, ⟨rfl, by show (0 : Int) ≤ (x 4).toInt; omega, by show (x 4).toInt ≤ (20 : Int); omega⟩, trivial⟩, ⟨la_p_le (a := x 4) (b := v 1) (by omega), ⟨la_n_gt h26, trivial⟩⟩⟩
                            · skip
                              by_cases h30 : mm_P2 .gt (x 3) (v 1 - x 4) = true
                              · skip
                                exact ⟨_, List.mem_of_getElem? (i := 8) rfl, ⟨⟨rfl, by show (1 : Int) ≤ (v 0).toInt; omega, c0⟩, ⟨rfl, b1, c1⟩, ⟨rfl, b2, c2⟩, ⟨rfl, b3, c3⟩, ⟨rfl, b4, c4⟩, ⟨rfl, b5, c5⟩, ⟨rfl, b6, c6⟩, ⟨rfl, b7, c7⟩, trivial⟩, ⟨⟨rfl, by show (0 : Int) ≤ (x 0).toInt; omega, by show (x 0).toInt ≤ (0 : Int); omega⟩, ⟨rfl, by show (0 : Int) ≤ (x 1).toInt; omega, a1.2⟩, ⟨rfl, by show (0 : Int) ≤ (x 2).toInt; omega, by show (x 2).toInt ≤ (0 : Int); omega⟩, ⟨rfl, by show (0 : Int) ≤ (x 3).toInt; omega, a3.2⟩, ⟨rfl, by show (0 : Int) ≤ (x 4).toInt; omega, by show (x 4).toInt ≤ (20 : Int); omega⟩, trivial⟩, ⟨la_p_le (a := x 4) (b := v 1) (by omega), ⟨la_n_gt h26, ⟨h30, trivial⟩⟩⟩⟩
                              · skip
                                exact ⟨_, List.mem_of_getElem? (i := 9) rfl, ⟨⟨rfl, by show (1 : Int) ≤ (v 0).toInt; omega, c0⟩, ⟨rfl, b1, c1⟩, ⟨rfl, b2, c2⟩, ⟨rfl, b3, c3⟩, ⟨rfl, b4, c4⟩, ⟨rfl, b5, c5⟩, ⟨rfl, b6, c6⟩, ⟨rfl, b7, c7⟩, trivial⟩, ⟨⟨rfl, by show (0 : Int) ≤ (x 0).toInt; omega, by show (x 0).toInt ≤ (0 : Int); omega⟩, ⟨rfl, by show (0 : Int) ≤ (x 1).toInt; omega, a1.2⟩, ⟨rfl, by show (0 : Int) ≤ (x 2).toInt; omega, by show (x 2).toInt ≤ (0 : Int); omega⟩, ⟨rfl, by show (0 : Int) ≤ (x 3).toInt; omega, a3.2⟩, ⟨rfl, by show (0 : Int) ≤ (x 4).toInt; omega, by show (x 4).toInt ≤ (20 : Int); omega⟩, trivial⟩, ⟨la_p_le (a := x 4) (b := v 1) (by omega), ⟨la_n_gt h26, ⟨la_n_gt h30, trivial⟩⟩⟩⟩
                · skip
                  by_cases h18 : (v 0).toInt ≤ 0
                  · skip
                    exact ⟨_, List.mem_of_getElem? (i := 10) rfl, ⟨⟨rfl, b0, by show (v 0).toInt ≤ (0 : Int); omega⟩, ⟨rfl, b1, c1⟩, ⟨rfl, b2, c2⟩, ⟨rfl, b3, c3⟩, ⟨rfl, b4, c4⟩, ⟨rfl, b5, c5⟩, ⟨rfl, b6, c6⟩, ⟨rfl, b7, c7⟩, trivial⟩, ⟨⟨rfl, by show (0 : Int) ≤ (x 0).toInt; omega, by show (x 0).toInt ≤ (0 : Int); omega⟩, ⟨rfl, a1.1, a1.2⟩, ⟨rfl, by show (1 : Int) ≤ (x 2).toInt; omega, by show (x 2).toInt ≤ (1 : Int); omega⟩, ⟨rfl, a3.1, a3.2⟩, ⟨rfl, a4.1, a4.2⟩, trivial⟩, trivial⟩
                  · skip
                    by_cases h20 : (v 2).toInt ≤ 0
                    · skip
                      exact ⟨_, List.mem_of_getElem? (i := 11) rfl, ⟨⟨rfl, by show (1 : Int) ≤ (v 0).toInt; omega, c0⟩, ⟨rfl, b1, c1⟩, ⟨rfl, b2, by show (v 2).toInt ≤ (0 : Int); omega⟩, ⟨rfl, b3, c3⟩, ⟨rfl, b4, c4⟩, ⟨rfl, b5, c5⟩, ⟨rfl, b6, c6⟩, ⟨rfl, b7, c7⟩, trivial⟩, ⟨⟨rfl, by show (0 : Int) ≤ (x 0).toInt; omega, by show (x 0).toInt ≤ (0 : Int); omega⟩, ⟨rfl, a1.1, a1.2⟩, ⟨rfl, by show (1 : Int) ≤ (x 2).toInt; omega, by show (x 2).toInt ≤ (1 : Int); omega⟩, ⟨rfl, a3.1, a3.2⟩, ⟨rfl, a4.1, a4.2⟩, trivial⟩, trivial⟩
                    · skip
                      by_cases h22 : mm_P2 .lt (v 0) (v 2) = true
                      · skip
                        exact ⟨_, List.mem_of_getElem? (i := 12) rfl, ⟨⟨rfl, by show (1 : Int) ≤ (v 0).toInt; omega, c0⟩, ⟨rfl, b1, c1⟩, ⟨rfl, by show (1 : Int) ≤ (v 2).toInt; omega, c2⟩, ⟨rfl, b3, c3⟩, ⟨rfl, b4, c4⟩, ⟨rfl, b5, c5⟩, ⟨rfl, b6, c6⟩, ⟨rfl, b7, c7⟩, trivial⟩, ⟨⟨rfl, by show (0 : Int) ≤ (x 0).toInt; omega, by show (x 0).toInt ≤ (0 : Int); omega⟩, ⟨rfl, a1.1, a1.2⟩, ⟨rfl, by show (1 : Int) ≤ (x 2).toInt; omega, by show (x 2).toInt ≤ (1 : Int); omega⟩, ⟨rfl, a3.1, a3.2⟩, ⟨rfl, a4.1, a4.2⟩, trivial⟩, ⟨h22, trivial⟩⟩
                      · skip
                        by_cases h22g : mm_P2 .gt (v 0) (v 2) = true
                        · skip
                          exact ⟨_, List.mem_of_getElem? (i := 13) rfl, ⟨⟨rfl, by show (1 : Int) ≤ (v 0).toInt; omega, c0⟩, ⟨rfl, b1, c1⟩, ⟨rfl, by show (1 : Int) ≤ (v 2).toInt; omega, c2⟩, ⟨rfl, b3, c3⟩, ⟨rfl, b4, c4⟩, ⟨rfl, b5, c5⟩, ⟨rfl, b6, c6⟩, ⟨rfl, b7, c7⟩, trivial⟩, ⟨⟨rfl, by show (0 : Int) ≤ (x 0).toInt; omega, by show (x 0).toInt ≤ (0 : Int); omega⟩, ⟨rfl, a1.1, a1.2⟩, ⟨rfl, by show (1 : Int) ≤ (x 2).toInt; omega, by show (x 2).toInt ≤ (1 : Int); omega⟩, ⟨rfl, a3.1, a3.2⟩, ⟨rfl, a4.1, a4.2⟩, trivial⟩, ⟨h22g, trivial⟩⟩
                        · skip
                          by_cases h26 : (x 4).toInt ≤ -1
                          · skip
                            exact ⟨_, List.mem_of_getElem? (i := 14) rfl, ⟨⟨rfl, by show (1 : Int) ≤ (v 0).toInt; omega, c0⟩, ⟨rfl, b1, c1⟩, ⟨rfl, by show (1 : Int) ≤ (v 2).toInt; omega, c2⟩, ⟨rfl, b3, c3⟩, ⟨rfl, b4, c4⟩, ⟨rfl, b5, c5⟩, ⟨rfl, b6, c6⟩, ⟨rfl, b7, c7⟩, trivial⟩, ⟨⟨rfl, by show (0 : Int) ≤ (x 0).toInt; omega, by show (x 0).toInt ≤ (0 : Int); omega⟩, ⟨rfl, a1.1, a1.2⟩, ⟨rfl, by show (1 : Int) ≤ (x 2).toInt; omega, by show (x 2).toInt ≤ (1 : Int); omega⟩, ⟨rfl, a3.1, a3.2⟩, ⟨rfl, a4.1, by show (x 4).toInt ≤ (-1 : Int); omega⟩, trivial⟩, ⟨la_n_tri h22 h22g, trivial⟩⟩
                          · skip
                            by_cases h28 : (v 1).toInt < (x 4).toInt
                            · skip
                              exact ⟨_, List.mem_of_getElem? (i := 15) rfl, ⟨⟨rfl, by show (1 : Int) ≤ (v 0).toInt; omega, c0⟩, ⟨rfl, b1, c1⟩, ⟨rfl, by show (1 : Int) ≤ (v 2).toInt; omega, c2⟩, ⟨rfl, b3, c3⟩, ⟨rfl, b4, c4⟩, ⟨rfl, b5, c5⟩, ⟨rfl, b6, c6⟩, ⟨rfl, b7, c7⟩, trivial⟩, ⟨⟨rfl, by show (0 : Int) ≤ (x 0).toInt; omega, by show (x 0).toInt ≤ (0 : Int); omega⟩, ⟨rfl, a1.1, a1.2⟩, ⟨rfl, by show (1 : Int) ≤ (x 2).toInt; omega, by show (x 2).toInt ≤ (1 : Int); omega⟩, ⟨rfl, a3.1, a3.2⟩, ⟨rfl, by show (1 : Int) ≤ (x 4).toInt; omega, a4.2⟩, trivial⟩, ⟨la_n_tri h22 h22g, ⟨la_p_gt (a := x 4) (b := v 1) (by omega), trivial⟩⟩⟩
                            · skip
                              by_cases h30 : (v 3).toInt < (x 4).toInt
                              · skip
                                exact ⟨_, List.mem_of_getElem? (i := 16) rfl, ⟨⟨rfl, by show (1 : Int) ≤ (v 0).toInt; omega, c0⟩, ⟨rfl, b1, c1⟩, ⟨rfl, by show (1 : Int) ≤ (v 2).toInt; omega, c2⟩, ⟨rfl, b3, c3⟩, ⟨rfl, b4, c4⟩, ⟨rfl, b5, c5⟩, ⟨rfl, b6, c6⟩, ⟨rfl, b7, c7⟩, trivial⟩, ⟨⟨rfl, by show (0 : Int) ≤ (x 0).toInt; omega, by show (x 0).toInt ≤ (0 : Int); omega⟩, ⟨rfl, a1.1, a1.2⟩, ⟨rfl, by show (1 : Int) ≤ (x 2).toInt; omega, by show (x 2).toInt ≤ (1 : Int); omega⟩, ⟨rfl, a3.1, a3.2⟩, ⟨rfl, by show (1 : Int) ≤ (x 4).toInt; omega, by show (x 4).toInt ≤ (20 : Int); omega⟩, trivial⟩, ⟨la_n_tri h22 h22g, ⟨la_p_le (a := x 4) (b := v 1) (by omega), ⟨la_p_gt (a := x 4) (b := v 3) (by omega), trivial⟩⟩⟩⟩
                              · skip
                                by_cases h32 : (x 1).toInt ≤ -1
                                · skip
                                  exact ⟨_, List.mem_of_getElem? (i := 17) rfl, ⟨⟨rfl, by show (1 : Int) ≤ (v 0).toInt; omega, c0⟩, ⟨rfl, b1, c1⟩, ⟨rfl, by show (1 : Int) ≤ (v 2).toInt; omega, c2⟩, ⟨rfl, b3, c3⟩, ⟨rfl, b4, c4⟩, ⟨rfl, b5, c5⟩, ⟨rfl, b6, c6⟩, ⟨rfl, b7, c7⟩, trivial⟩, ⟨⟨rfl, by show (0 : Int) ≤ (x 0).toInt; omega, by show (x 0).toInt ≤ (0 : Int); omega⟩, ⟨rfl, a1.1, by show (x 1).toInt ≤ (-1 : Int); omega⟩, ⟨rfl, by show (1 : Int) ≤ (x 2).toInt; omega, by show (x 2).toInt ≤ (1 : Int); omega⟩, ⟨rfl, a3.1, a3.2⟩, ⟨rfl, by show (0 : Int) ≤ (x 4).toInt; omega, by show (x 4).toInt ≤ (20 : Int); omega⟩, trivial⟩, ⟨la_n_tri h22 h22g, ⟨la_p_le (a := x 4) (b := v 1) (by omega), ⟨la_p_le (a := x 4) (b := v 3) (by omega), trivial⟩⟩⟩⟩
                                · skip
                                  by_cases h34 : mm_P2 .gt (x 1) (v 1 - x 4) = true
                                  · skip
                                    exact ⟨_, List.mem_of_getElem? (i := 18) rfl, ⟨⟨rfl, by show (1 : Int) ≤ (v 0).toInt; omega, c0⟩, ⟨rfl, b1, c1⟩, ⟨rfl, by show (1 : Int) ≤ (v 2).toInt; omega, c2⟩, ⟨rfl, b3, c3⟩, ⟨rfl, b4, c4⟩, ⟨rfl, b5, c5⟩, ⟨rfl, b6, c6⟩, ⟨rfl, b7, c7⟩, trivial⟩, ⟨⟨rfl, by show (0 : Int) ≤ (x 0).toInt; omega, by show (x 0).toInt ≤ (0 : Int); omega⟩, ⟨rfl, by show (0 : Int) ≤ (x 1).toInt; omega, a1.2⟩, ⟨rfl, by show (1 : Int) ≤ (x 2).toInt; omega, by show (x 2).toInt ≤ (1 : Int); omega⟩, ⟨rfl, a3.1, a3.2⟩, ⟨rfl, by show (0 : Int) ≤ (x 4).toInt; omega, by show (x 4).toInt ≤ (20 : Int); omega⟩, trivial⟩, ⟨la_n_tri h22 h22g, ⟨la_p_le (a := x 4) (b := v 1) (by omega), ⟨la_p_le (a := x 4) (b := v 3) (by omega), ⟨h34, trivial⟩⟩⟩⟩⟩
                                  · skip
                                    by_cases h36 : (x 3).toInt ≤ -1
                                    · skip
                                      exact ⟨_, List.mem_of_getElem? (i := 19) rfl, ⟨⟨rfl, by show (1 : Int) ≤ (v 0).toInt; omega, c0⟩, ⟨rfl, b1, c1⟩, ⟨rfl, by show (1 : Int) ≤ (v 2).toInt; omega, c2⟩, ⟨rfl, b3, c3⟩, ⟨rfl, b4, c4⟩, ⟨rfl, b5, c5⟩, ⟨rfl, b6, c6⟩, ⟨rfl, b7, c7⟩, trivial⟩, ⟨⟨rfl, by show (0 : Int) ≤ (x 0).toInt; omega, by show (x 0).toInt ≤ (0 : Int); omega⟩, ⟨rfl, by show (0 : Int) ≤ (x 1).toInt; omega, a1.2⟩, ⟨rfl, by show (1 : Int) ≤ (x 2).toInt; omega, by show (x 2).toInt ≤ (1 : Int); omega⟩, ⟨rfl, a3.1, by show (x 3).toInt ≤ (-1 : Int); omega⟩, ⟨rfl, by show (0 : Int) ≤ (x 4).toInt; omega, by show (x 4).toInt ≤ (20 : Int); omega⟩, trivial⟩, ⟨la_n_tri h22 h22g, ⟨la_p_le (a := x 4) (b := v 1) (by omega), ⟨la_p_le (a := x 4) (b := v 3) (by omega), ⟨la_n_gt h34, trivial⟩⟩⟩⟩⟩
                                    · skip
                                      by_cases h38 : mm_P2 .gt (x 3) (v 3 - x 4) = true
                                      · skip
                                        exact ⟨_, List.mem_of_getElem? (i := 20) rfl, ⟨⟨rfl, by show (1 : Int) ≤ (v 0).toInt; omega, c0⟩, ⟨rfl, b1, c1⟩, ⟨rfl, by show (1 : Int) ≤ (v 2).toInt; omega, c2⟩, ⟨rfl, b3, c3⟩, ⟨rfl, b4, c4⟩, ⟨rfl, b5, c5⟩, ⟨rfl, b6, c6⟩, ⟨rfl, b7, c7⟩, trivial⟩, ⟨⟨rfl, by show (0 : Int) ≤ (x 0).toInt; omega, by show (x 0).toInt ≤ (0 : Int); omega⟩, ⟨rfl, by show (0 : Int) ≤ (x 1).toInt; omega, a1.2⟩, ⟨rfl, by show (1 : Int) ≤ (x 2).toInt; omega, by show (x 2).toInt ≤ (1 : Int); omega⟩, ⟨rfl, by show (0 : Int) ≤ (x 3).toInt; omega, a3.2⟩, ⟨rfl, by show (0 : Int) ≤ (x 4).toInt; omega, by show (x 4).toInt ≤ (20 : Int); omega⟩, trivial⟩, ⟨la_n_tri h22 h22g, ⟨la_p_le (a := x 4) (b := v 1) (by omega), ⟨la_p_le (a := x 4) (b := v 3) (by omega), ⟨la_n_gt h34, ⟨h38, trivial⟩⟩⟩⟩⟩⟩
                                      · skip
                                        exact ⟨_, List.mem_of_getElem? (i := 21) rfl, ⟨⟨rfl, by show (1 : Int) ≤ (v 0).toInt; omega, c0⟩, ⟨rfl, b1, c1⟩, ⟨rfl, by show (1 : Int) ≤ (v 2).toInt; omega, c2⟩, ⟨rfl, b3, c3⟩, ⟨rfl, b4, c4⟩, ⟨rfl, b5, c5⟩, ⟨rfl, b6, c6⟩, ⟨rfl, b7, c7⟩, trivial⟩, ⟨⟨rfl, by show (0 : Int) ≤ (x 0).toInt; omega, by show (x 0).toInt ≤ (0 : Int); omega⟩, ⟨rfl, by show (0 : Int) ≤ (x 1).toInt; omega, a1.2⟩, ⟨rfl, by show (1 : Int) ≤ (x 2).toInt; omega, by show (x 2).toInt ≤ (1 : Int); omega⟩, ⟨rfl, by show (0 : Int) ≤ (x 3).toInt; omega, a3.2⟩, ⟨rfl, by show (0 : Int) ≤ (x 4).toInt; omega, by show (x 4).toInt ≤ (20 : Int); omega⟩, trivial⟩, ⟨la_n_tri h22 h22g, ⟨la_p_le (a := x 4) (b := v 1) (by omega), ⟨la_p_le (a := x 4) (b := v 3) (by omega), ⟨la_n_gt h34, ⟨la_n_gt h38, trivial⟩⟩⟩⟩⟩⟩
              · skip
                by_cases h16 : (x 2).toInt ≤ 2
                · skip
                  by_cases h18 : (v 0).toInt ≤ 0
                  · skip
                    exact ⟨_, List.mem_of_getElem? (i := 22) rfl, ⟨⟨rfl, b0, by show (v 0).toInt ≤ (0 : Int); omega⟩, ⟨rfl, b1, c1⟩, ⟨rfl, b2, c2⟩, ⟨rfl, b3, c3⟩, ⟨rfl, b4, c4⟩, ⟨rfl, b5, c5⟩, ⟨rfl, b6, c6⟩, ⟨rfl, b7, c7⟩, trivial⟩, ⟨⟨rfl, by show (0 : Int) ≤ (x 0).toInt; omega, by show (x 0).toInt ≤ (0 : Int); omega⟩, ⟨rfl, a1.1, a1.2⟩, ⟨rfl, by show (2 : Int) ≤ (x 2).toInt; omega, by show (x 2).toInt ≤ (2 : Int); omega⟩, ⟨rfl, a3.1, a3.2⟩, ⟨rfl, a4.1, a4.2⟩, trivial⟩, trivial⟩
                  · skip
                    by_cases h20 : (v 4).toInt ≤ 0
                    · skip
                      exact ⟨_, List.mem_of_getElem? (i := 23) rfl, ⟨⟨rfl, by show (1 : Int) ≤ (v 0).toInt; omega, c0⟩, ⟨rfl, b1, c1⟩, ⟨rfl, b2, c2⟩, ⟨rfl, b3, c3⟩, ⟨rfl, b4, by show (v 4).toInt ≤ (0 : Int); omega⟩, ⟨rfl, b5, c5⟩, ⟨rfl, b6, c6⟩, ⟨rfl, b7, c7⟩, trivial⟩, ⟨⟨rfl, by show (0 : Int) ≤ (x 0).toInt; omega, by show (x 0).toInt ≤ (0 : Int); omega⟩, ⟨rfl, a1.1, a1.2⟩, ⟨rfl, by show (2 : Int) ≤ (x 2).toInt; omega, by show (x 2).toInt ≤ (2 : Int); omega⟩, ⟨rfl, a3.1, a3.2⟩, ⟨rfl, a4.1, a4.2⟩, trivial⟩, trivial⟩
                    · skip
                      by_cases h22 : mm_P2 .lt (v 0) (v 4) = true
                      · skip
                        exact ⟨_, List.mem_of_getElem? (i := 24) rfl, ⟨⟨rfl, by show (1 : Int) ≤ (v 0).toInt; omega, c0⟩, ⟨rfl, b1, c1⟩, ⟨rfl, b2, c2⟩, ⟨rfl, b3, c3⟩, ⟨rfl, by show (1 : Int) ≤ (v 4).toInt; omega, c4⟩, ⟨rfl, b5, c5⟩, ⟨rfl, b6, c6⟩, ⟨rfl, b7, c7⟩, trivial⟩, ⟨⟨rfl, by show (0 : Int) ≤ (x 0).toInt; omega, by show (x 0).toInt ≤ (0 : Int); omega⟩, ⟨rfl, a1.1, a1.2⟩, ⟨rfl, by show (2 : Int) ≤ (x 2).toInt; omega, by show (x 2).toInt ≤ (2 : Int); omega⟩, ⟨rfl, a3.1, a3.2⟩, ⟨rfl, a4.1, a4.2⟩, trivial⟩, ⟨h22, trivial⟩⟩
                      · skip
                        by_cases h22g : mm_P2 .gt (v 0) (v 4) = true
                        · skip
                          exact ⟨_, List.mem_of_getElem? (i := 25) rfl, ⟨⟨rfl, by show (1 : Int) ≤ (v 0).toInt; omega, c0⟩, ⟨rfl, b1, c1⟩, ⟨rfl, b2, c2⟩, ⟨rfl, b3, c3⟩, ⟨rfl, by show (1 : Int) ≤ (v 4).toInt; omega, c4⟩, ⟨rfl, b5, c5⟩, ⟨rfl, b6, c6⟩, ⟨rfl, b7, c7⟩, trivial⟩, ⟨⟨rfl, by show (0 : Int) ≤ (x 0).toInt; omega, by show (x 0).toInt ≤ (0 : Int); omega⟩, ⟨rfl, a1.1, a1.2⟩, ⟨rfl, by show (2 : Int) ≤ (x 2).toInt; omega, by show (x 2).toInt ≤ (2 : Int); omega⟩, ⟨rfl, a3.1, a3.2⟩, ⟨rfl, a4.1, a4.2⟩, trivial⟩, ⟨h22g, trivial⟩⟩
                        · skip
                          by_cases h26 : (x 4).toInt ≤ -1
                          · skip
                            exact ⟨_, List.mem_of_getElem? (i := 26) rfl, ⟨⟨rfl, by show (1 : Int) ≤ (v 0).toInt; omega, c0⟩, ⟨rfl, b1, c1⟩, ⟨rfl, b2, c2⟩, ⟨rfl, b3, c3⟩, ⟨rfl, by show (1 : Int) ≤ (v 4).toInt; omega, c4⟩, ⟨rfl, b5, c5⟩, ⟨rfl, b6, c6⟩, ⟨rfl, b7, c7⟩, trivial⟩, ⟨⟨rfl, by show (0 : Int) ≤ (x 0).toInt; omega, by show (x 0).toInt ≤ (0 : Int); omega⟩, ⟨rfl, a1.1, a1.2⟩, ⟨rfl, by show (2 : Int) ≤ (x 2).toInt; omega, by show (x 2).toInt ≤ (2 : Int); omega⟩, ⟨rfl, a3.1, a3.2⟩, ⟨rfl, a4.1, by show (x 4).toInt ≤ (-1 : Int); omega⟩, trivial⟩, ⟨la_n_tri h22 h22g, trivial⟩⟩
                          · skip
                            by_cases h28 : (v 1).toInt < (x 4).toInt
                            · skip
                              exact ⟨_, List.mem_of_getElem? (i := 27) rfl, ⟨⟨rfl, by show (1 : Int) ≤ (v 0).toInt; omega, c0⟩, ⟨rfl, b1, c1⟩, ⟨rfl, b2, c2⟩, ⟨rfl, b3, c3⟩, ⟨rfl, by show (1 : Int) ≤ (v 4).toInt; omega, c4⟩, ⟨rfl, b5, c5⟩, ⟨rfl, b6, c6⟩, ⟨rfl, b7, c7⟩, trivial⟩, ⟨⟨rfl, by show (0 : Int) ≤ (x 0).toInt; omega, by show (x 0).toInt ≤ (0 : Int); omega⟩, ⟨rfl, a1.1, a1.2⟩, ⟨rfl, by show (2 : Int) ≤ (x 2).toInt; omega, by show (x 2).toInt ≤ (2 : Int); omega⟩, ⟨rfl, a3.1, a3.2⟩, ⟨rfl, by show (1 : Int) ≤ (x 4).toInt; omega, a4.2⟩, trivial⟩, ⟨la_n_tri h22 h22g, ⟨la_p_gt (a := x 4) (b := v 1) (by omega), trivial⟩⟩⟩
                            · skip
                              by_cases h30 : (v 5).toInt < (x 4).toInt
                              · skip
                                exact ⟨_, List.mem_of_getElem? (i := 28) rfl, ⟨⟨rfl, by show (1 : Int) ≤ (v 0).toInt; omega, c0⟩, ⟨rfl, b1, c1⟩, ⟨rfl, b2, c2⟩, ⟨rfl, b3, c3⟩, ⟨rfl, by show (1 : Int) ≤ (v 4).toInt; omega, c4⟩, ⟨rfl, b5, c5⟩, ⟨rfl, b6, c6⟩, ⟨rfl, b7, c7⟩, trivial⟩, ⟨⟨rfl, by show (0 : Int) ≤ (x 0).toInt; omega, by show (x 0).toInt ≤ (0 : Int); omega⟩, ⟨rfl, a1.1, a1.2⟩, ⟨rfl, by show (2 : Int) ≤ (x 2).toInt; omega, by show (x 2).toInt ≤ (2 : Int); omega⟩, ⟨rfl, a3.1, a3.2⟩, ⟨rfl, by show (1 : Int) ≤ (x 4).toInt; omega, by show (x 4).toInt ≤ (20 : Int); omega⟩, trivial⟩, ⟨la_n_tri h22 h22g, ⟨la_p_le (a := x 4) (b := v 1) (by omega), ⟨la_p_gt (a := x 4) (b := v 5) (by omega), trivial⟩⟩⟩⟩
                              · skip
                                by_cases h32 : (x 1).toInt ≤ -1
                                · skip
                                  exact ⟨_, List.mem_of_getElem? (i := 29) rfl, ⟨⟨rfl, by show (1 : Int) ≤ (v 0).toInt; omega, c0⟩, ⟨rfl, b1, c1⟩, ⟨rfl, b2, c2⟩, ⟨rfl, b3, c3⟩, ⟨rfl, by show (1 : Int) ≤ (v 4).toInt; omega, c4⟩, ⟨rfl, b5, c5⟩, ⟨rfl, b6, c6⟩, ⟨rfl, b7, c7⟩, trivial⟩, ⟨⟨rfl, by show (0 : Int) ≤ (x 0).toInt; omega, by show (x 0).toInt ≤ (0 : Int); omega⟩, ⟨rfl, a1.1, by show (x 1).toInt ≤ (-1 : Int); omega⟩, ⟨rfl, by show (2 : Int) ≤ (x 2).toInt; omega, by show (x 2).toInt ≤ (2 : Int); omega⟩, ⟨rfl, a3.1, a3.2⟩, ⟨rfl, by show (0 : Int) ≤ (x 4).toInt; omega, by show (x 4).toInt ≤ (20 : Int); omega⟩, trivial⟩, ⟨la_n_tri h22 h22g, ⟨la_p_le (a := x 4) (b := v 1) (by omega), ⟨la_p_le (a := x 4) (b := v 5) (by omega), trivial⟩⟩⟩⟩
                                · skip
                                  by_cases h34 : mm_P2 .gt (x 1) (v 1 - x 4) = true
                                  · skip
                                    exact ⟨_, List.mem_of_getElem? (i := 30) rfl, ⟨⟨rfl, by show (1 : Int) ≤ (v 0).toInt; omega, c0⟩, ⟨rfl, b1, c1⟩, ⟨rfl, b2, c2⟩, ⟨rfl, b3, c3⟩, ⟨rfl, by show (1 : Int) ≤ (v 4).toInt; omega, c4⟩, ⟨rfl, b5, c5⟩, ⟨rfl, b6, c6⟩, ⟨rfl, b7, c7⟩, trivial⟩, ⟨⟨rfl, by show (0 : Int) ≤ (x 0).toInt; omega, by show (x 0).toInt ≤ (0 : Int); omega⟩, ⟨rfl, by show (0 : Int) ≤ (x 1).toInt; omega, a1.2⟩, ⟨rfl, by show (2 : Int) ≤ (x 2).toInt; omega, by show (x 2).toInt ≤ (2 : Int); omega⟩, ⟨rfl, a3.1, a3.2⟩, ⟨rfl, by show (0 : Int) ≤ (x 4).toInt; omega, by show (x 4).toInt ≤ (20 : Int); omega⟩, trivial⟩, ⟨la_n_tri h22 h22g, ⟨la_p_le (a := x 4) (b := v 1) (by omega), ⟨la_p_le (a := x 4) (b := v 5) (by omega), ⟨h34, trivial⟩⟩⟩⟩⟩
                                  · skip
                                    by_cases h36 : (x 3).toInt ≤ -1
                                    · skip
                                      exact ⟨_, List.mem_of_getElem? (i := 31) rfl, ⟨⟨rfl, by show (1 : Int) ≤ (v 0).toInt; omega, c0⟩, ⟨rfl, b1, c1⟩, ⟨rfl, b2, c2⟩, ⟨rfl, b3, c3⟩, ⟨rfl, by show (1 : Int) ≤ (v 4).toInt; omega, c4⟩, ⟨rfl, b5, c5⟩, ⟨rfl, b6, c6⟩, ⟨rfl, b7, c7⟩, trivial⟩, ⟨⟨rfl, by show (0 : Int) ≤ (x 0).toInt; omega, by show (x 0).toInt ≤ (0 : Int); omega⟩, ⟨rfl, by show (0 : Int) ≤ (x 1).toInt; omega, a1.2⟩, ⟨rfl, by show (2 : Int) ≤ (x 2).toInt; omega, by show (x 2).toInt ≤ (2 : Int); omega⟩, ⟨rfl, a3.1, by show (x 3).toInt ≤ (-1 : Int); omega⟩, ⟨rfl, by show (0 : Int) ≤ (x 4).toInt; omega, by show (x 4).toInt ≤ (20 : Int); omega⟩, trivial⟩, ⟨la_n_tri h22 h22g, ⟨la_p_le (a := x 4) (b := v 1) (by omega), ⟨la_p_le (a := x 4) (b := v 5) (by omega), ⟨la_n_gt h34, trivial⟩⟩⟩⟩⟩
                                    · skip
                                      by_cases h38 : mm_P2 .gt (x 3) (v 5 - x 4) = true
                                      · skip
                                        exact ⟨_, List.mem_of_getElem? (i := 32) rfl, ⟨⟨rfl, by show (1 : Int) ≤ (v 0).toInt; omega, c0⟩, ⟨rfl, b1, c1⟩, ⟨rfl, b2, c2⟩, ⟨rfl, b3, c3⟩, ⟨rfl, by show (1 : Int) ≤ (v 4).toInt; omega, c4⟩, ⟨rfl, b5, c5⟩, ⟨rfl, b6, c6⟩, ⟨rfl, b7, c7⟩, trivial⟩, ⟨⟨rfl, by show (0 : Int) ≤ (x 0).toInt; omega, by show (x 0).toInt ≤ (0 : Int); omega⟩, ⟨rfl, by show (0 : Int) ≤ (x 1).toInt; omega, a1.2⟩, ⟨rfl, by show (2 : Int) ≤ (x 2).toInt; omega, by show (x 2).toInt ≤ (2 : Int); omega⟩, ⟨rfl, by show (0 : Int) ≤ (x 3).toInt; omega, a3.2⟩, ⟨rfl, by show (0 : Int) ≤ (x 4).toInt; omega, by show (x 4).toInt ≤ (20 : Int); omega⟩, trivial⟩, ⟨la_n_tri h22 h22g, ⟨la_p_le (a := x 4) (b := v 1) (by omega), ⟨la_p_le (a := x 4) (b := v 5) (by omega), ⟨la_n_gt h34, ⟨h38, trivial⟩⟩⟩⟩⟩⟩
                                      · skip
                                        exact ⟨_, List.mem_of_getElem? (i := 33) rfl, ⟨⟨rfl, by show (1 : Int) ≤ (v 0).toInt; omega, c0⟩, ⟨rfl, b1, c1⟩, ⟨rfl, b2, c2⟩, ⟨rfl, b3, c3⟩, ⟨rfl, by show (1 : Int) ≤ (v 4).toInt; omega, c4⟩, ⟨rfl, b5, c5⟩, ⟨rfl, b6, c6⟩, ⟨rfl, b7, c7⟩, trivial⟩, ⟨⟨rfl, by show (0 : Int) ≤ (x 0).toInt; omega, by show (x 0).toInt ≤ (0 : Int); omega⟩, ⟨rfl, by show (0 : Int) ≤ (x 1).toInt; omega, a1.2⟩, ⟨rfl, by show (2 : Int) ≤ (x 2).toInt; omega, by show (x 2).toInt ≤ (2 : Int); omega⟩, ⟨rfl, by show (0 : Int) ≤ (x 3).toInt; omega, a3.2⟩, ⟨rfl, by show (0 : Int) ≤ (x 4).toInt; omega, by show (x 4).toInt ≤ (20 : Int); omega⟩, trivial⟩, ⟨la_n_tri h22 h22g, ⟨la_p_le (a := x 4) (b := v 1) (by omega), ⟨la_p_le (a := x 4) (b := v 5) (by omega), ⟨la_n_gt h34, ⟨la_n_gt h38, trivial⟩⟩⟩⟩⟩⟩
                · skip
                  by_cases h18 : (v 0).toInt ≤ 0
                  · skip
                    exact ⟨_, List.mem_of_getElem? (i := 34) rfl, ⟨⟨rfl, b0, by show (v 0).toInt ≤ (0 : Int); omega⟩, ⟨rfl, b1, c1⟩, ⟨rfl, b2, c2⟩, ⟨rfl, b3, c3⟩, ⟨rfl, b4, c4⟩, ⟨rfl, b5, c5⟩, ⟨rfl, b6, c6⟩, ⟨rfl, b7, c7⟩, trivial⟩, ⟨⟨rfl, by show (0 : Int) ≤ (x 0).toInt; omega, by show (x 0).toInt ≤ (0 : Int); omega⟩, ⟨rfl, a1.1, a1.2⟩, ⟨rfl, by show (3 : Int) ≤ (x 2).toInt; omega, by show (x 2).toInt ≤ (3 : Int); omega⟩, ⟨rfl, a3.1, a3.2⟩, ⟨rfl, a4.1, a4.2⟩, trivial⟩, trivial⟩
                  · skip
                    by_cases h20 : (v 6).toInt ≤ 0
                    · skip
                      exact ⟨_, List.mem_of_getElem? (i := 35) rfl, ⟨⟨rfl, by show (1 : Int) ≤ (v 0).toInt; omega, c0⟩, ⟨rfl, b1, c1⟩, ⟨rfl, b2, c2⟩, ⟨rfl, b3, c3⟩, ⟨rfl, b4, c4⟩, ⟨rfl, b5, c5⟩, ⟨rfl, b6, by show (v 6).toInt ≤ (0 : Int); omega⟩, ⟨rfl, b7, c7⟩, trivial⟩, ⟨⟨rfl, by show (0 : Int) ≤ (x 0).toInt; omega, by show (x 0).toInt ≤ (0 : Int); omega⟩, ⟨rfl, a1.1, a1.2⟩, ⟨rfl, by show (3 : Int) ≤ (x 2).toInt; omega, by show (x 2).toInt ≤ (3 : Int); omega⟩, ⟨rfl, a3.1, a3.2⟩, ⟨rfl, a4.1, a4.2⟩, trivial⟩, trivial⟩
                    · skip
                      by_cases h22 : mm_P2 .lt (v 0) (v 6) = true
                      · skip
                        exact ⟨_, List.mem_of_getElem? (i := 36) rfl, ⟨⟨rfl, by show (1 : Int) ≤ (v 0).toInt; omega, c0⟩, ⟨rfl, b1, c1⟩, ⟨rfl, b2, c2⟩, ⟨rfl, b3, c3⟩, ⟨rfl, b4, c4⟩, ⟨rfl, b5, c5⟩, ⟨rfl, by show (1 : Int) ≤ (v 6).toInt; omega, c6⟩, ⟨rfl, b7, c7⟩, trivial⟩, ⟨⟨rfl, by show (0 : Int) ≤ (x 0).toInt; omega, by show (x 0).toInt ≤ (0 : Int); omega⟩, ⟨rfl, a1.1, a1.2⟩, ⟨rfl, by show (3 : Int) ≤ (x 2).toInt; omega, by show (x 2).toInt ≤ (3 : Int); omega⟩, ⟨rfl, a3.1, a3.2⟩, ⟨rfl, a4.1, a4.2⟩, trivial⟩, ⟨h22, trivial⟩⟩
                      · skip
                        by_cases h22g : mm_P2 .gt (v 0) (v 6) = true
                        · skip
                          exact ⟨_, List.mem_of_getElem? (i := 37) rfl, ⟨⟨rfl, by show (1 : Int) ≤ (v 0).toInt; omega, c0⟩, ⟨rfl, b1, c1⟩, ⟨rfl, b2, c2⟩, ⟨rfl, b3, c3⟩, ⟨rfl, b4, c4⟩, ⟨rfl, b5, c5⟩, ⟨rfl, by show (1 : Int) ≤ (v 6).toInt; omega, c6⟩, ⟨rfl, b7, c7⟩, trivial⟩, ⟨⟨rfl, by show (0 : Int) ≤ (x 0).toInt; omega, by show (x 0).toInt ≤ (0 : Int); omega⟩, ⟨rfl, a1.1, a1.2⟩, ⟨rfl, by show (3 : Int) ≤ (x 2).toInt; omega, by show (x 2).toInt ≤ (3 : Int); omega⟩, ⟨rfl, a3.1, a3.2⟩, ⟨rfl, a4.1, a4.2⟩, trivial⟩, ⟨h22g, trivial⟩⟩
                        · skip
                          by_cases h26 : (x 4).toInt ≤ -1
                          · skip
                            exact ⟨_, List.mem_of_getElem? (i := 38) rfl, ⟨⟨rfl, by show (1 : Int) ≤ (v 0).toInt; omega, c0⟩, ⟨rfl, b1, c1⟩, ⟨rfl, b2, c2⟩, ⟨rfl, b3, c3⟩, ⟨rfl, b4, c4⟩, ⟨rfl, b5, c5⟩, ⟨rfl, by show (1 : Int) ≤ (v 6).toInt; omega, c6⟩, ⟨rfl, b7, c7⟩, trivial⟩, ⟨⟨rfl, by show (0 : Int) ≤ (x 0).toInt; omega, by show (x 0).toInt ≤ (0 : Int); omega⟩, ⟨rfl, a1.1, a1.2⟩, ⟨rfl, by show (3 : Int) ≤ (x 2).toInt; omega, by show (x 2).toInt ≤ (3 : Int); omega⟩, ⟨rfl, a3.1, a3.2⟩, ⟨rfl, a4.1, by show (x 4).toInt ≤ (-1 : Int); omega⟩, trivial⟩, ⟨la_n_tri h22 h22g, trivial⟩⟩
                          · skip
                            by_cases h28 : (v 1).toInt < (x 4).toInt
                            · skip
                              exact ⟨_, List.mem_of_getElem? (i := 39) rfl, ⟨⟨rfl, by show (1 : Int) ≤ (v 0).toInt; omega, c0⟩, ⟨rfl, b1, c1⟩, ⟨rfl, b2, c2⟩, ⟨rfl, b3, c3⟩, ⟨rfl, b4, c4⟩, ⟨rfl, b5, c5⟩, ⟨rfl, by show (1 : Int) ≤ (v 6).toInt; omega, c6⟩, ⟨rfl, b7, c7⟩, trivial⟩, ⟨⟨rfl, by show (0 : Int) ≤ (x 0).toInt; omega, by show (x 0).toInt ≤ (0 : Int); omega⟩, ⟨rfl, a1.1, a1.2⟩, ⟨rfl, by show (3 : Int) ≤ (x 2).toInt; omega, by show (x 2).toInt ≤ (3 : Int); omega⟩, ⟨rfl, a3.1, a3.2⟩, ⟨rfl, by show (1 : Int) ≤ (x 4).toInt; omega, a4.2⟩, trivial⟩, ⟨la_n_tri h22 h22g, ⟨la_p_gt (a := x 4) (b := v 1) (by omega), trivial⟩⟩⟩
                            · skip
                              by_cases h30 : (v 7).toInt < (x 4).toInt
                              · skip
                                exact ⟨_, List.mem_of_getElem? (i := 40) rfl, ⟨⟨rfl, by show (1 : Int) ≤ (v 0).toInt; omega, c0⟩, ⟨rfl, b1, c1⟩, ⟨rfl, b2, c2⟩, ⟨rfl, b3, c3⟩, ⟨rfl, b4, c4⟩, ⟨rfl, b5, c5⟩, ⟨rfl, by show (1 : Int) ≤ (v 6).toInt; omega, c6⟩, ⟨rfl, b7, c7⟩, trivial⟩, ⟨⟨rfl, by show (0 : Int) ≤ (x 0).toInt; omega, by show (x 0).toInt ≤ (0 : Int); omega⟩, ⟨rfl, a1.1, a1.2⟩, ⟨rfl, by show (3 : Int) ≤ (x 2).toInt; omega, by show (x 2).toInt ≤ (3 : Int); omega⟩, ⟨rfl, a3.1, a3.2⟩, ⟨rfl, by show (1 : Int) ≤ (x 4).toInt; omega, by show (x 4).toInt ≤ (20 : Int); omega⟩, trivial⟩, ⟨la_n_tri h22 h22g, ⟨la_p_le (a := x 4) (b := v 1) (by omega), ⟨la_p_gt (a := x 4) (b := v 7) (by omega), trivial⟩⟩⟩⟩
                              · skip
                                by_cases h32 : (x 1).toInt ≤ -1
                                · skip
                                  exact ⟨_, List.mem_of_getElem? (i := 41) rfl, ⟨⟨rfl, by show (1 : Int) ≤ (v 0).toInt; omega, c0⟩, ⟨rfl, b1, c1⟩, ⟨rfl, b2, c2⟩, ⟨rfl, b3, c3⟩, ⟨rfl, b4, c4⟩, ⟨rfl, b5, c5⟩, ⟨rfl, by show (1 : Int) ≤ (v 6).toInt; omega, c6⟩, ⟨rfl, b7, c7⟩, trivial⟩, ⟨⟨rfl, by show (0 : Int) ≤ (x 0).toInt; omega, by show (x 0).toInt ≤ (0 : Int); omega⟩, ⟨rfl, a1.1, by show (x 1).toInt ≤ (-1 : Int); omega⟩, ⟨rfl, by show (3 : Int) ≤ (x 2).toInt; omega, by show (x 2).toInt ≤ (3 : Int); omega⟩, ⟨rfl, a3.1, a3.2⟩, ⟨rfl, by show (0 : Int) ≤ (x 4).toInt; omega, by show (x 4).toInt ≤ (20 : Int); omega⟩, trivial⟩, ⟨la_n_tri h22 h22g, ⟨la_p_le (a := x 4) (b := v 1) (by omega), ⟨la_p_le (a := x 4) (b := v 7) (by omega), trivial⟩⟩⟩⟩
                                · skip
                                  by_cases h34 : mm_P2 .gt (x 1) (v 1 - x 4) = true
                                  · skip
                                    exact ⟨_, List.mem_of_getElem? (i := 42) rfl, ⟨⟨rfl, by show (1 : Int) ≤ (v 0).toInt; omega, c0⟩, ⟨rfl, b1, c1⟩, ⟨rfl, b2, c2⟩, ⟨rfl, b3, c3⟩, ⟨rfl, b4, c4⟩, ⟨rfl, b5, c5⟩, ⟨rfl, by show (1 : Int) ≤ (v 6).toInt; omega, c6⟩, ⟨rfl, b7, c7⟩, trivial⟩, ⟨⟨rfl, by show (0 : Int) ≤ (x 0).toInt; omega, by show (x 0).toInt ≤ (0 : Int); omega⟩, ⟨rfl, by show (0 : Int) ≤ (x 1).toInt; omega, a1.2⟩, ⟨rfl, by show (3 : Int) ≤ (x 2).toInt; omega, by show (x 2).toInt ≤ (3 : Int); omega⟩, ⟨rfl, a3.1, a3.2⟩, ⟨rfl, by show (0 : Int) ≤ (x 4).toInt; omega, by show (x 4).toInt ≤ (20 : Int); omega⟩, trivial⟩, ⟨la_n_tri h22 h22g, ⟨la_p_le (a := x 4) (b := v 1) (by omega), ⟨la_p_le (a := x 4) (b := v 7) (by omega), ⟨h34, trivial⟩⟩⟩⟩⟩
                                  · skip
                                    by_cases h36 : (x 3).toInt ≤ -1
                                    · skip
                                      exact ⟨_, List.mem_of_getElem? (i := 43) rfl, ⟨⟨rfl, by show (1 : Int) ≤ (v 0).toInt; omega, c0⟩, ⟨rfl, b1, c1⟩, ⟨rfl, b2, c2⟩, ⟨rfl, b3, c3⟩, ⟨rfl, b4, c4⟩, ⟨rfl, b5, c5⟩, ⟨rfl, by show (1 : Int) ≤ (v 6).toInt; omega, c6⟩, ⟨rfl, b7, c7⟩, trivial⟩, ⟨⟨rfl, by show (0 : Int) ≤ (x 0).toInt; omega, by show (x 0).toInt ≤ (0 : Int); omega⟩, ⟨rfl, by show (0 : Int) ≤ (x 1).toInt; omega, a1.2⟩, ⟨rfl, by show (3 : Int) ≤ (x 2).toInt; omega, by show (x 2).toInt ≤ (3 : Int); omega⟩, ⟨rfl, a3.1, by show (x 3).toInt ≤ (-1 : Int); omega⟩, ⟨rfl, by show (0 : Int) ≤ (x 4).toInt; omega, by show (x 4).toInt ≤ (20 : Int); omega⟩, trivial⟩, ⟨la_n_tri h22 h22g, ⟨la_p_le (a := x 4) (b := v 1) (by omega), ⟨la_p_le (a := x 4) (b := v 7) (by omega), ⟨la_n_gt h34, trivial⟩⟩⟩⟩⟩
                                    · skip
                                      by_cases h38 : mm_P2 .gt (x 3) (v 7 - x 4) = true
                                      · skip
                                        exact ⟨_, List.mem_of_getElem? (i := 44) rfl, ⟨⟨rfl, by show (1 : Int) ≤ (v 0).toInt; omega, c0⟩, ⟨rfl, b1, c1⟩, ⟨rfl, b2, c2⟩, ⟨rfl, b3, c3⟩, ⟨rfl, b4, c4⟩, ⟨rfl, b5, c5⟩, ⟨rfl, by show (1 : Int) ≤ (v 6).toInt; omega, c6⟩, ⟨rfl, b7, c7⟩, trivial⟩, ⟨⟨rfl, by show (0 : Int) ≤ (x 0).toInt; omega, by show (x 0).toInt ≤ (0 : Int); omega⟩, ⟨rfl, by show (0 : Int) ≤ (x 1).toInt; omega, a1.2⟩, ⟨rfl, by show (3 : Int) ≤ (x 2).toInt; omega, by show (x 2).toInt ≤ (3 : Int); omega⟩, ⟨rfl, by show (0 : Int) ≤ (x 3).toInt; omega, a3.2⟩, ⟨rfl, by show (0 : Int) ≤ (x 4).toInt; omega, by show (x 4).toInt ≤ (20 : Int); omega⟩, trivial⟩, ⟨la_n_tri h22 h22g, ⟨la_p_le (a := x 4) (b := v 1) (by omega), ⟨la_p_le (a := x 4) (b := v 7) (by omega), ⟨la_n_gt h34, ⟨h38, trivial⟩⟩⟩⟩⟩⟩
                                      · skip
                                        exact ⟨_, List.mem_of_getElem? (i := 45) rfl, ⟨⟨rfl, by show (1 : Int) ≤ (v 0).toInt; omega, c0⟩, ⟨rfl, b1, c1⟩, ⟨rfl, b2, c2⟩, ⟨rfl, b3, c3⟩, ⟨rfl, b4, c4⟩, ⟨rfl, b5, c5⟩, ⟨rfl, by show (1 : Int) ≤ (v 6).toInt; omega, c6⟩, ⟨rfl, b7, c7⟩, trivial⟩, ⟨⟨rfl, by show (0 : Int) ≤ (x 0).toInt; omega, by show (x 0).toInt ≤ (0 : Int); omega⟩, ⟨rfl, by show (0 : Int) ≤ (x 1).toInt; omega, a1.2⟩, ⟨rfl, by show (3 : Int) ≤ (x 2).toInt; omega, by show (x 2).toInt ≤ (3 : Int); omega⟩, ⟨rfl, by show (0 : Int) ≤ (x 3).toInt; omega, a3.2⟩, ⟨rfl, by show (0 : Int) ≤ (x 4).toInt; omega, by show (x 4).toInt ≤ (20 : Int); omega⟩, trivial⟩, ⟨la_n_tri h22 h22g, ⟨la_p_le (a := x 4) (b := v 1) (by omega), ⟨la_p_le (a := x 4) (b := v 7) (by omega), ⟨la_n_gt h34, ⟨la_n_gt h38, trivial⟩⟩⟩⟩⟩⟩
            · skip
              by_cases h14 : (x 2).toInt ≤ 1
              · skip
                by_cases h16 : (x 2).toInt ≤ 0
                · skip
                  by_cases h18 : (v 2).toInt ≤ 0
                  · skip
                    exact ⟨_, List.mem_of_getElem? (i := 46) rfl, ⟨⟨rfl, b0, c0⟩, ⟨rfl, b1, c1⟩, ⟨rfl, b2, by show (v 2).toInt ≤ (0 : Int); omega⟩, ⟨rfl, b3, c3⟩, ⟨rfl, b4, c4⟩, ⟨rfl, b5, c5⟩, ⟨rfl, b6, c6⟩, ⟨rfl, b7, c7⟩, trivial⟩, ⟨⟨rfl, by show (1 : Int) ≤ (x 0).toInt; omega, by show (x 0).toInt ≤ (1 : Int); omega⟩, ⟨rfl, a1.1, a1.2⟩, ⟨rfl, by show (0 : Int) ≤ (x 2).toInt; omega, by show (x 2).toInt ≤ (0 : Int); omega⟩, ⟨rfl, a3.1, a3.2⟩, ⟨rfl, a4.1, a4.2⟩, trivial⟩, trivial⟩
                  · skip
                    by_cases h20 : (v 0).toInt ≤ 0
                    · skip
                      exact ⟨_, List.mem_of_getElem? (i := 47) rfl, ⟨⟨rfl, b0, by show (v 0).toInt ≤ (0 : Int); omega⟩, ⟨rfl, b1, c1⟩, ⟨rfl, by show (1 : Int) ≤ (v 2).toInt; omega, c2⟩, ⟨rfl, b3, c3⟩, ⟨rfl, b4, c4⟩, ⟨rfl, b5, c5⟩, ⟨rfl, b6, c6⟩, ⟨rfl, b7, c7⟩, trivial⟩, ⟨⟨rfl, by show (1 : Int) ≤ (x 0).toInt; omega, by show (x 0).toInt ≤ (1 : Int); omega⟩, ⟨rfl, a1.1, a1.2⟩, ⟨rfl, by show (0 : Int) ≤ (x 2).toInt; omega, by show (x 2).toInt ≤ (0 : Int); omega⟩, ⟨rfl, a3.1, a3.2⟩, ⟨rfl, a4.1, a4.2⟩, trivial⟩, trivial⟩
                    · skip
                      by_cases h22 : mm_P2 .lt (v 2) (v 0) = true
                      · skip
                        exact ⟨_, List.mem_of_getElem? (i := 48) rfl, ⟨⟨rfl, by show (1 : Int) ≤ (v 0).toInt; omega, c0⟩, ⟨rfl, b1, c1⟩, ⟨rfl, by show (1 : Int) ≤ (v 2).toInt; omega, c2⟩, ⟨rfl, b3, c3⟩, ⟨rfl, b4, c4⟩, ⟨rfl, b5, c5⟩, ⟨rfl, b6, c6⟩, ⟨rfl, b7, c7⟩, trivial⟩, ⟨⟨rfl, by show (1 : Int) ≤ (x 0).toInt; omega, by show (x 0).toInt ≤ (1 : Int); omega⟩, ⟨rfl, a1.1, a1.2⟩, ⟨rfl, by show (0 : Int) ≤ (x 2).toInt; omega, by show (x 2).toInt ≤ (0 : Int); omega⟩, ⟨rfl, a3.1, a3.2⟩, ⟨rfl, a4.1, a4.2⟩, trivial⟩, ⟨h22, trivial⟩⟩
                      · skip
                        by_cases h22g : mm_P2 .gt (v 2) (v 0) = true
                        · skip
                          exact ⟨_, List.mem_of_getElem? (i := 49) rfl, ⟨⟨rfl, by show (1 : Int) ≤ (v 0).toInt; omega, c0⟩, ⟨rfl, b1, c1⟩, ⟨rfl, by show (1 : Int) ≤ (v 2).toInt; omega, c2⟩, ⟨rfl, b3, c3⟩, ⟨rfl, b4, c4⟩, ⟨rfl, b5, c5⟩, ⟨rfl, b6, c6⟩, ⟨rfl, b7, c7⟩, trivial⟩, ⟨⟨rfl, by show (1 : Int) ≤ (x 0).toInt; omega, by show (x 0).toInt ≤ (1 : Int); omega⟩, ⟨rfl, a1.1, a1.2⟩, ⟨rfl, by show (0 : Int) ≤ (x 2).toInt; omega, by show (x 2).toInt ≤ (0 : Int); omega⟩, ⟨rfl, a3.1, a3.2⟩, ⟨rfl, a4.1, a4.2⟩, trivial⟩, ⟨h22g, trivial⟩⟩
                        · skip
                          by_cases h26 : (x 4).toInt ≤ -1
                          · skip
                            exact ⟨_, List.mem_of_getElem? (i := 50) rfl, ⟨⟨rfl, by show (1 : Int) ≤ (v 0).toInt; omega, c0⟩, ⟨rfl, b1, c1⟩, ⟨rfl, by show (1 : Int) ≤ (v 2).toInt; omega, c2⟩, ⟨rfl, b3, c3⟩, ⟨rfl, b4, c4⟩, ⟨rfl, b5, c5⟩, ⟨rfl, b6, c6⟩, ⟨rfl, b7, c7⟩, trivial⟩, ⟨⟨rfl, by show (1 : Int) ≤ (x 0).toInt; omega, by show (x 0).toInt ≤ (1 : Int); omega⟩, ⟨rfl, a1.1, a1.2⟩, ⟨rfl, by show (0 : Int) ≤ (x 2).toInt; omega, by show (x 2).toInt ≤ (0 : Int); omega⟩, ⟨rfl, a3.1, a3.2⟩, ⟨rfl, a4.1, by show (x 4).toInt ≤ (-1 : Int); omega⟩, trivial⟩, ⟨la_n_tri h22 h22g, trivial⟩⟩
                          · skip
                            by_cases h28 : (v 3).toInt < (x 4).toInt
                            · skip
                              exact ⟨_, List.mem_of_getElem? (i := 51) rfl, ⟨⟨rfl, by show (1 : Int) ≤ (v 0).toInt; omega, c0⟩, ⟨rfl, b1, c1⟩, ⟨rfl, by show (1 : Int) ≤ (v 2).toInt; omega, c2⟩, ⟨rfl, b3, c3⟩, ⟨rfl, b4, c4⟩, ⟨rfl, b5, c5⟩, ⟨rfl, b6, c6⟩, ⟨rfl, b7, c7⟩, trivial⟩, ⟨⟨rfl, by show (1 : Int) ≤ (x 0).toInt; omega, by show (x 0).toInt ≤ (1 : Int); omega⟩, ⟨rfl, a1.1, a1.2⟩, ⟨rfl, by show (0 : Int) ≤ (x 2).toInt; omega, by show (x 2).toInt ≤ (0 : Int); omega⟩, ⟨rfl, a3.1, a3.2⟩, ⟨rfl, by show (1 : Int) ≤ (x 4).toInt; omega, a4.2⟩, trivial⟩, ⟨la_n_tri h22 h22g, ⟨la_p_gt (a := x 4) (b := v 3) (by omega), trivial⟩⟩⟩
                            · skip
                              by_cases h30 : (v 1).toInt < (x 4).toInt
                              · skip
                                exact ⟨_, List.mem_of_getElem? (i := 52) rfl, ⟨⟨rfl, by show (1 : Int) ≤ (v 0).toInt; omega, c0⟩, ⟨rfl, b1, c1⟩, ⟨rfl, by show (1 : Int) ≤ (v 2).toInt; omega, c2⟩, ⟨rfl, b3, c3⟩, ⟨rfl, b4, c4⟩, ⟨rfl, b5, c5⟩, ⟨rfl, b6, c6⟩, ⟨rfl, b7, c7⟩, trivial⟩, ⟨⟨rfl, by show (1 : Int) ≤ (x 0).toInt; omega, by show (x 0).toInt ≤ (1 : Int); omega⟩, ⟨rfl, a1.1, a1.2⟩, ⟨rfl, by show (0 : Int) ≤ (x 2).toInt; omega, by show (x 2).toInt ≤ (0 : Int); omega⟩, ⟨rfl, a3.1, a3.2⟩, ⟨rfl, by show (1 : Int) ≤ (x 4).toInt; omega, by show (x 4).toInt ≤ (20 : Int); omega⟩, trivial⟩, ⟨la_n_tri h22 h22g, ⟨la_p_le (a := x 4) (b := v 3) (by omega), ⟨la_p_gt (a := x 4) (b := v 1) (by omega), trivial⟩⟩⟩⟩
                              · skip
                                by_cases h32 : (x 1).toInt ≤ -1
                                · skip
                                  exact ⟨_, List.mem_of_getElem? (i := 53) rfl, ⟨⟨rfl, by show (1 : Int) ≤ (v 0).toInt; omega, c0⟩, ⟨rfl, b1, c1⟩, ⟨rfl, by show (1 : Int) ≤ (v 2).toInt; omega, c2⟩, ⟨rfl, b3, c3⟩, ⟨rfl, b4, c4⟩, ⟨rfl, b5, c5⟩, ⟨rfl, b6, c6⟩, ⟨rfl, b7, c7⟩, trivial⟩, ⟨⟨rfl, by show (1 : Int) ≤ (x 0).toInt; omega, by show (x 0).toInt ≤ (1 : Int); omega⟩, ⟨rfl, a1.1, by show (x 1).toInt ≤ (-1 : Int); omega⟩, ⟨rfl, by show (0 : Int) ≤ (x 2).toInt; omega, by show (x 2).toInt ≤ (0 : Int); omega⟩, ⟨rfl, a3.1, a3.2⟩, ⟨rfl, by show (0 : Int) ≤ (x 4).toInt; omega, by show (x 4).toInt ≤ (20 : Int); omega⟩, trivial⟩, ⟨la_n_tri h22 h22g, ⟨la_p_le (a := x 4) (b := v 3) (by omega), ⟨la_p_le (a := x 4) (b := v 1) (by omega), trivial⟩⟩⟩⟩
                                · skip
                                  by_cases h34 : mm_P2 .gt (x 1) (v 3 - x 4) = true
                                  · skip
                                    exact ⟨_, List.mem_of_getElem? (i := 54) rfl, ⟨⟨rfl, by show (1 : Int) ≤ (v 0).toInt; omega, c0⟩, ⟨rfl, b1, c1⟩, ⟨rfl, by show (1 : Int) ≤ (v 2).toInt; omega, c2⟩, ⟨rfl, b3, c3⟩, ⟨rfl, b4, c4⟩, ⟨rfl, b5, c5⟩, ⟨rfl, b6, c6⟩, ⟨rfl, b7, c7⟩, trivial⟩, ⟨⟨rfl, by show (1 : Int) ≤ (x 0).toInt; omega, by show (x 0).toInt ≤ (1 : Int); omega⟩, ⟨rfl, by show (0 : Int) ≤ (x 1).toInt; omega, a1.2⟩, ⟨rfl, by show (0 : Int) ≤ (x 2).toInt; omega, by show (x 2).toInt ≤ (0 : Int); omega⟩, ⟨rfl, a3.1, a3.2⟩, ⟨rfl, by show (0 : Int) ≤ (x 4).toInt; omega, by show (x 4).toInt ≤ (20 : Int); omega⟩, trivial⟩, ⟨la_n_tri h22 h22g, ⟨la_p_le (a := x 4) (b := v 3) (by omega), ⟨la_p_le (a := x 4) (b := v 1) (by omega), ⟨h34, trivial⟩⟩⟩⟩⟩
                                  · skip
                                    by_cases h36 : (x 3).toInt ≤ -1
                                    · skip
                                      exact ⟨_, List.mem_of_getElem? (i := 55) rfl, ⟨⟨rfl, by show (1 : Int) ≤ (v 0).toInt; omega, c0⟩, ⟨rfl, b1, c1⟩, ⟨rfl, by show (1 : Int) ≤ (v 2).toInt; omega, c2⟩, ⟨rfl, b3, c3⟩, ⟨rfl, b4, c4⟩, ⟨rfl, b5, c5⟩, ⟨rfl, b6, c6⟩, ⟨rfl, b7, c7⟩, trivial⟩, ⟨⟨rfl, by show (1 : Int) ≤ (x 0).toInt; omega, by show (x 0).toInt ≤ (1 : Int); omega⟩, ⟨rfl, by show (0 : Int) ≤ (x 1).toInt; omega, a1.2⟩, ⟨rfl, by show (0 : Int) ≤ (x 2).toInt; omega, by show (x 2).toInt ≤ (0 : Int); omega⟩, ⟨rfl, a3.1, by show (x 3).toInt ≤ (-1 : Int); omega⟩, ⟨rfl, by show (0 : Int) ≤ (x 4).toInt; omega, by show (x 4).toInt ≤ (20 : Int); omega⟩, trivial⟩, ⟨la_n_tri h22 h22g, ⟨la_p_le (a := x 4) (b := v 3) (by omega), ⟨la_p_le (a := x 4) (b := v 1) (by omega), ⟨la_n_gt h34, trivial⟩⟩⟩⟩⟩
                                    · skip
                                      by_cases h38 : mm_P2 .gt (x 3) (v 1 - x 4) = true
                                      · skip
                                        exact ⟨_, List.mem_of_getElem? (i := 56) rfl, ⟨⟨rfl, by show (1 : Int) ≤ (v 0).toInt; omega, c0⟩, ⟨rfl, b1, c1⟩, ⟨rfl, by show (1 : Int) ≤ (v 2).toInt; omega, c2⟩, ⟨rfl, b3, c3⟩, ⟨rfl, b4, c4⟩, ⟨rfl, b5, c5⟩, ⟨rfl, b6, c6⟩, ⟨rfl, b7, c7⟩, trivial⟩, ⟨⟨rfl, by show (1 : Int) ≤ (x 0).toInt; omega, by show (x 0).toInt ≤ (1 : Int); omega⟩, ⟨rfl, by show (0 : Int) ≤ (x 1).toInt; omega, a1.2⟩, ⟨rfl, by show (0 : Int) ≤ (x 2).toInt; omega, by show (x 2).toInt ≤ (0 : Int); omega⟩, ⟨rfl, by show (0 : Int) ≤ (x 3).toInt; omega, a3.2⟩, ⟨rfl, by show (0 : Int) ≤ (x 4).toInt; omega, by show (x 4).toInt ≤ (20 : Int); omega⟩, trivial⟩, ⟨la_n_tri h22 h22g, ⟨la_p_le (a := x 4) (b := v 3) (by omega), ⟨la_p_le (a := x 4) (b := v 1) (by omega), ⟨la_n_gt h34, ⟨h38, trivial⟩⟩⟩⟩⟩⟩
                                      · skip
                                        exact ⟨_, List.mem_of_getElem? (i := 57) rfl, ⟨⟨rfl, by show (1 : Int) ≤ (v 0).toInt; omega, c0⟩, ⟨rfl, b1, c1⟩, ⟨rfl, by show (1 : Int) ≤ (v 2).toInt; omega, c2⟩, ⟨rfl, b3, c3⟩, ⟨rfl, b4, c4⟩, ⟨rfl, b5, c5⟩, ⟨rfl, b6, c6⟩, ⟨rfl, b7, c7⟩, trivial⟩, ⟨⟨rfl, by show (1 : Int) ≤ (x 0).toInt; omega, by show (x 0).toInt ≤ (1 : Int); omega⟩, ⟨rfl, by show (0 : Int) ≤ (x 1).toInt; omega, a1.2⟩, ⟨rfl, by show (0 : Int) ≤ (x 2).toInt; omega, by show (x 2).toInt ≤ (0 : Int); omega⟩, ⟨rfl, by show (0 : Int) ≤ (x 3).toInt; omega, a3.2⟩, ⟨rfl, by show (0 : Int) ≤ (x 4).toInt; omega, by show (x 4).toInt ≤ (20 : Int); omega⟩, trivial⟩, ⟨la_n_tri h22 h22g, ⟨la_p_le (a := x 4) (b := v 3) (by omega), ⟨la_p_le (a := x 4) (b := v 1) (by omega), ⟨la_n_gt h34, ⟨la_n_gt h38, trivial⟩⟩⟩⟩⟩⟩
                · skip
                  by_cases h18 : (v 2).toInt ≤ 0
                  · skip
                    exact ⟨_, List.mem_of_getElem? (i := 58) rfl, ⟨⟨rfl, b0, c0⟩, ⟨rfl, b1, c1⟩, ⟨rfl, b2, by show (v 2).toInt ≤ (0 : Int); omega⟩, ⟨rfl, b3, c3⟩, ⟨rfl, b4, c4⟩, ⟨rfl, b5, c5⟩, ⟨rfl, b6, c6⟩, ⟨rfl, b7, c7⟩, trivial⟩, ⟨⟨rfl, by show (1 : Int) ≤ (x 0).toInt; omega, by show (x 0).toInt ≤ (1 : Int); omega⟩, ⟨rfl, a1.1, a1.2⟩, ⟨rfl, by show (1 : Int) ≤ (x 2).toInt; omega, by show (x 2).toInt ≤ (1 : Int); omega⟩, ⟨rfl, a3.1, a3.2⟩, ⟨rfl, a4.1, a4.2⟩, trivial⟩, trivial⟩
                  · skip
                    by_cases h20 : (x 4).toInt ≤ -1
                    · skip
                      exact ⟨_, List.mem_of_getElem? (i := 59) rfl, ⟨⟨rfl, b0, c0⟩, ⟨rfl, b1, c1⟩, ⟨rfl, by show (1 : Int) ≤ (v 2).toInt; omega, c2⟩, ⟨rfl, b3, c3⟩, ⟨rfl, b4, c4⟩, ⟨rfl, b5, c5⟩, ⟨rfl, b6, c6⟩, ⟨rfl, b7, c7⟩, trivial⟩, ⟨⟨rfl, by show (1 : Int) ≤ (x 0).toInt; omega, by show (x 0).toInt ≤ (1 : Int); omega⟩, ⟨rfl, a1.1, a1.2⟩, ⟨rfl, by show (1 : Int) ≤ (x 2).toInt; omega, by show (x 2).toInt ≤ (1 : Int); omega⟩, ⟨rfl, a3.1, a3.2⟩, ⟨rfl, a4.1, by show (x 4).toInt ≤ (-1 : Int); omega⟩, trivial⟩, trivial⟩
                    · skip
                      by_cases h22 : (v 3).toInt < (x 4).toInt
                      · skip
                        exact ⟨_, List.mem_of_getElem? (i := 60) rfl, ⟨⟨rfl, b0, c0⟩, ⟨rfl, b1, c1⟩, ⟨rfl, by show (1 : Int) ≤ (v 2).toInt; omega, c2⟩, ⟨rfl, b3, c3⟩, ⟨rfl, b4, c4⟩, ⟨rfl, b5, c5⟩, ⟨rfl, b6, c6⟩, ⟨rfl, b7, c7⟩, trivial⟩, ⟨⟨rfl, by show (1 : Int) ≤ (x 0).toInt; omega, by show (x 0).toInt ≤ (1 : Int); omega⟩, ⟨rfl, a1.1, a1.2⟩, ⟨rfl, by show (1 : Int) ≤ (x 2).toInt; omega, by show (x 2).toInt ≤ (1 : Int); omega⟩, ⟨rfl, a3.1, a3.2⟩, ⟨rfl, by show (1 : Int) ≤ (x 4).toInt; omega, a4.2⟩, trivial⟩, ⟨la_p_gt (a := x 4) (b := v 3) (by omega), trivial⟩⟩
                      · skip
                        by_cases h24 : (x 1).toInt ≤ -1
                        · skip
                          exact ⟨_, List.mem_of_getElem? (i := 61) rfl, ⟨⟨rfl, b0, c0⟩, ⟨rfl, b1, c1⟩, ⟨rfl, by show (1 : Int) ≤ (v 2).toInt; omega, c2⟩, ⟨rfl, b3, c3⟩, ⟨rfl, b4, c4⟩, ⟨rfl, b5, c5⟩, ⟨rfl, b6, c6⟩, ⟨rfl, b7, c7⟩, trivial⟩, ⟨⟨rfl, by show (1 : Int) ≤ (x 0).toInt; omega, by show (x 0).toInt ≤ (1 : Int); omega⟩, ⟨rfl, a1.1, by show (x 1).toInt ≤ (-1 : Int); omega⟩, ⟨rfl, by show (1 : Int) ≤ (x 2).toInt; omega, by show (x 2).toInt ≤ (1 : Int); omega⟩, ⟨rfl, a3.1, a3.2⟩, ⟨rfl, by show (0 : Int) ≤ (x 4).toInt; omega, by show (x 4).toInt ≤ (20 : Int); omega⟩, trivial⟩, ⟨la_p_le (a := x 4) (b := v 3) (by omega), trivial⟩⟩
                        · skip
                          by_cases h26 : mm_P2 .gt (x 1) (v 3 - x 4) = true
                          · skip
                            exact ⟨_, List.mem_of_getElem? (i := 62) rfl, ⟨⟨rfl, b0, c0⟩, ⟨rfl, b1, c1⟩, ⟨rfl, by show (1 : Int) ≤ (v 2).toInt; omega, c2⟩, ⟨rfl, b3, c3⟩, ⟨rfl, b4, c4⟩, ⟨rfl, b5, c5⟩, ⟨rfl, b6, c6⟩, ⟨rfl, b7, c7⟩, trivial⟩, ⟨⟨rfl, by show (1 : Int) ≤ (x 0).toInt; omega, by show (x 0).toInt ≤ (1 : Int); omega⟩, ⟨rfl, by show (0 : Int) ≤ (x 1).toInt; omega, a1.2⟩, ⟨rfl, by show (1 : Int) ≤ (x 2).toInt; omega, by show (x 2).toInt ≤ (1 : Int); omega⟩, ⟨rfl, a3.1, a3.2⟩, ⟨rfl, by show (0 : Int) ≤ (x 4).toInt; omega, by show (x 4).toInt ≤ (20 : Int); omega⟩, trivial⟩, ⟨la_p_le (a := x 4) (b := v 3) (by omega), ⟨h26, trivial⟩⟩⟩
                          · skip
                            by_cases h28 : (x 3).toInt ≤ -1
                            · skip
                              exact ⟨_, List.mem_of_getElem? (i := 63) rfl, ⟨⟨rfl, b0, c0⟩, ⟨rfl, b1, c1⟩, ⟨rfl, by show (1 : Int) ≤ (v 2).toInt; omega, c2⟩, ⟨rfl, b3, c3⟩, ⟨rfl, b4, c4⟩, ⟨rfl, b5, c5⟩, ⟨rfl, b6, c6⟩, ⟨rfl, b7, c7⟩, trivial⟩, ⟨⟨rfl, by show (1 : Int) ≤ (x 0).toInt; omega, by show (x 0).toInt ≤ (1 : Int); omega⟩, ⟨rfl, by show (0 : Int) ≤ (x 1).toInt; omega, a1.2⟩, ⟨rfl, by show (1 : Int) ≤ (x 2).toInt; omega, by show (x 2).toInt ≤ (1 : Int); omega⟩, ⟨rfl, a3.1, by show (x 3).toInt ≤ (-1 : Int); omega⟩, ⟨rfl, by show (0 : Int) ≤ (x 4).toInt; omega, by show (x 4).toInt ≤ (20 : Int); omega⟩, trivial⟩, ⟨la_p_le (a := x 4) (b := v 3) (by omega), ⟨la_n_gt h26, trivial⟩⟩⟩
                            · skip
                              by_cases h30 : mm_P2 .gt (x 3) (v 3 - x 4) = true
                              · skip
                                exact ⟨_, List.mem_of_getElem? (i := 64) rfl, ⟨⟨rfl, b0, c0⟩, ⟨rfl, b1, c1⟩, ⟨rfl, by show (1 : Int) ≤ (v 2).toInt; omega, c2⟩, ⟨rfl, b3, c3⟩, ⟨rfl, b4, c4⟩, ⟨rfl, b5, c5⟩, ⟨rfl, b6, c6⟩, ⟨rfl, b7, c7⟩, trivial⟩, ⟨⟨rfl, by show (1 : Int) ≤ (x 0).toInt; omega, by show (x 0).toInt ≤ (1 : Int); omega⟩, ⟨rfl, by show (0 : Int) ≤ (x 1).toInt; omega, a1.2⟩, ⟨rfl, by show (1 : Int) ≤ (x 2).toInt; omega, by show (x 2).toInt ≤ (1 : Int); omega⟩, ⟨rfl, by show (0 : Int) ≤ (x 3).toInt; omega, a3.2⟩, ⟨rfl, by show (0 : Int) ≤ (x 4).toInt; omega, by show (x 4).toInt ≤ (20 : Int); omega⟩, trivial⟩, ⟨la_p_le (a := x 4) (b := v 3) (by omega), ⟨la_n_gt h26, ⟨h30, trivial⟩⟩⟩⟩
                              · skip
                                exact ⟨_, List.mem_of_getElem? (i := 65) rfl, ⟨⟨rfl, b0, c0⟩, ⟨rfl, b1, c1⟩, ⟨rfl, by show (1 : Int) ≤ (v 2).toInt; omega, c2⟩, ⟨rfl, b3, c3⟩, ⟨rfl, b4, c4⟩, ⟨rfl, b5, c5⟩, ⟨rfl, b6, c6⟩, ⟨rfl, b7, c7⟩, trivial⟩, ⟨⟨rfl, by show (1 : Int) ≤ (x 0).toInt; omega, by show (x 0).toInt ≤ (1 : Int); omega⟩, ⟨rfl, by show (0 : Int) ≤ (x 1).toInt; omega, a1.2⟩, ⟨rfl, by show (1 : Int) ≤ (x 2).toInt; omega, by show (x 2).toInt ≤ (1 : Int); omega⟩, ⟨rfl, by show (0 : Int) ≤ (x 3).toInt; omega, a3.2⟩, ⟨rfl, by show (0 : Int) ≤ (x 4).toInt; omega, by show (x 4).toInt ≤ (20 : Int); omega⟩, trivial⟩, ⟨la_p_le (a := x 4) (b := v 3) (by omega), ⟨la_n_gt h26, ⟨la_n_gt h30, trivial⟩⟩⟩⟩
              · skip
                by_cases h16 : (x 2).toInt ≤ 2
                · skip
                  by_cases h18 : (v 2).toInt ≤ 0
                  · skip
                    exact ⟨_, List.mem_of_getElem? (i := 66) rfl, ⟨⟨rfl, b0, c0⟩, ⟨rfl, b1, c1⟩, ⟨rfl, b2, by show (v 2).toInt ≤ (0 : Int); omega⟩, ⟨rfl, b3, c3⟩, ⟨rfl, b4, c4⟩, ⟨rfl, b5, c5⟩, ⟨rfl, b6, c6⟩, ⟨rfl, b7, c7⟩, trivial⟩, ⟨⟨rfl, by show (1 : Int) ≤ (x 0).toInt; omega, by show (x 0).toInt ≤ (1 : Int); omega⟩, ⟨rfl, a1.1, a1.2⟩, ⟨rfl, by show (2 : Int) ≤ (x 2).toInt; omega, by show (x 2).toInt ≤ (2 : Int); omega⟩, ⟨rfl, a3.1, a3.2⟩, ⟨rfl, a4.1, a4.2⟩, trivial⟩, trivial⟩
                  · skip
                    by_cases h20 : (v 4).toInt ≤ 0
                    · skip
                      exact ⟨_, List.mem_of_getElem? (i := 67) rfl, ⟨⟨rfl, b0, c0⟩, ⟨rfl, b1, c1⟩, ⟨rfl, by show (1 : Int) ≤ (v 2).toInt; omega, c2⟩, ⟨rfl, b3, c3⟩, ⟨rfl, b4, by show (v 4).toInt ≤ (0 : Int); omega⟩, ⟨rfl, b5, c5⟩, ⟨rfl, b6, c6⟩, ⟨rfl, b7, c7⟩, trivial⟩, ⟨⟨rfl, by show (1 : Int) ≤ (x 0).toInt; omega, by show (x 0).toInt ≤ (1 : Int); omega⟩, ⟨rfl, a1.1, a1.2⟩, ⟨rfl, by show (2 : Int) ≤ (x 2).toInt; omega, by show (x 2).toInt ≤ (2 : Int); omega⟩, ⟨rfl, a3.1, a3.2⟩, ⟨rfl, a4.1, a4.2⟩, trivial⟩, trivial⟩
                    · skip
                      by_cases h22 : mm_P2 .lt (v 2) (v 4) = true
                      · skip
                        exact ⟨_, List.mem_of_getElem? (i := 68) rfl, ⟨⟨rfl, b0, c0⟩, ⟨rfl, b1, c1⟩, ⟨rfl, by show (1 : Int) ≤ (v 2).toInt; omega, c2⟩, ⟨rfl, b3, c3⟩, ⟨rfl, by show (1 : Int) ≤ (v 4).toInt; omega, c4⟩, ⟨rfl, b5, c5⟩, ⟨rfl, b6, c6⟩, ⟨rfl, b7, c7⟩, trivial⟩, ⟨⟨rfl, by show (1 : Int) ≤ (x 0).toInt; omega, by show (x 0).toInt ≤ (1 : Int); omega⟩, ⟨rfl, a1.1, a1.2⟩, ⟨rfl, by show (2 : Int) ≤ (x 2).toInt; omega, by show (x 2).toInt ≤ (2 : Int); omega⟩, ⟨rfl, a3.1, a3.2⟩, ⟨rfl, a4.1, a4.2⟩, trivial⟩, ⟨h22, trivial⟩⟩
                      · skip
                        by_cases h22g : mm_P2 .gt (v 2) (v 4) = true
                        · skip
                          exact ⟨_, List.mem_of_getElem? (i := 69) rfl, ⟨⟨rfl, b0, c0⟩, ⟨rfl, b1, c1⟩, ⟨rfl, by show (1 : Int) ≤ (v 2).toInt; omega, c2⟩, ⟨rfl, b3, c3⟩, ⟨rfl, by show (1 : Int) ≤ (v 4).toInt; omega, c4⟩, ⟨rfl, b5, c5⟩, ⟨rfl, b6, c6⟩, ⟨rfl, b7, c7⟩, trivial⟩, ⟨⟨rfl, by show (1 : Int) ≤ (x 0).toInt; omega, by show (x 0).toInt ≤ (1 : Int); omega⟩, ⟨rfl, a1.1, a1.2⟩, ⟨rfl, by show (2 : Int) ≤ (x 2).toInt; omega, by show (x 2).toInt ≤ (2 : Int); omega⟩, ⟨rfl, a3.1, a3.2⟩, ⟨rfl, a4.1, a4.2⟩, trivial⟩, ⟨h22g, trivial⟩⟩
                        · skip
                          by_cases h26 : (x 4).toInt ≤ -1
                          · skip
                            exact ⟨_, List.mem_of_getElem? (i := 70) rfl, ⟨⟨rfl, b0, c0⟩, ⟨rfl, b1, c1⟩, ⟨rfl, by show (1 : Int) ≤ (v 2).toInt; omega, c2⟩, ⟨rfl, b3, c3⟩, ⟨rfl, by show (1 : Int) ≤ (v 4).toInt; omega, c4⟩, ⟨rfl, b5, c5⟩, ⟨rfl, b6, c6⟩, ⟨rfl, b7, c7⟩, trivial⟩, ⟨⟨rfl, by show (1 : Int) ≤ (x 0).toInt; omega, by show (x 0).toInt ≤ (1 : Int); omega⟩, ⟨rfl, a1.1, a1.2⟩, ⟨rfl, by show (2 : Int) ≤ (x 2).toInt; omega, by show (x 2).toInt ≤ (2 : Int); omega⟩, ⟨rfl, a3.1, a3.2⟩, ⟨rfl, a4.1, by show (x 4).toInt ≤ (-1 : Int); omega⟩, trivial⟩, ⟨la_n_tri h22 h22g, trivial⟩⟩
                          · skip
                            by_cases h28 : (v 3).toInt < (x 4).toInt
                            · skip
                              exact ⟨_, List.mem_of_getElem? (i := 71) rfl, ⟨⟨rfl, b0, c0⟩, ⟨rfl, b1, c1⟩, ⟨rfl, by show (1 : Int) ≤ (v 2).toInt; omega, c2⟩, ⟨rfl, b3, c3⟩, ⟨rfl, by show (1 : Int) ≤ (v 4).toInt; omega, c4⟩, ⟨rfl, b5, c5⟩, ⟨rfl, b6, c6⟩, ⟨rfl, b7, c7⟩, trivial⟩, ⟨⟨rfl, by show (1 : Int) ≤ (x 0).toInt; omega, by show (x 0).toInt ≤ (1 : Int); omega⟩, ⟨rfl, a1.1, a1.2⟩, ⟨rfl, by show (2 : Int) ≤ (x 2).toInt; omega, by show (x 2).toInt ≤ (2 : Int); omega⟩, ⟨rfl, a3.1, a3.2⟩, ⟨rfl, by show (1 : Int) ≤ (x 4).toInt; omega, a4.2⟩, trivial⟩, ⟨la_n_tri h22 h22g, ⟨la_p_gt (a := x 4) (b := v 3) (by omega), trivial⟩⟩⟩
                            · skip
                              by_cases h30 : (v 5).toInt < (x 4).toInt
                              · skip
                                exact ⟨_, List.mem_of_getElem? (i := 72) rfl, ⟨⟨rfl, b0, c0⟩, ⟨rfl, b1, c1⟩, ⟨rfl, by show (1 : Int) ≤ (v 2).toInt; omega, c2⟩, ⟨rfl, b3, c3⟩, ⟨rfl, by show (1 : Int) ≤ (v 4).toInt; omega, c4⟩, ⟨rfl, b5, c5⟩, ⟨rfl, b6, c6⟩, ⟨rfl, b7, c7⟩, trivial⟩, ⟨⟨rfl, by show (1 : Int) ≤ (x 0).toInt; omega, by show (x 0).toInt ≤ (1 : Int); omega⟩, ⟨rfl, a1.1, a1.2⟩, ⟨rfl, by show (2 : Int) ≤ (x 2).toInt; omega, by show (x 2).toInt ≤ (2 : Int); omega⟩, ⟨rfl, a3.1, a3.2⟩, ⟨rfl, by show (1 : Int) ≤ (x 4).toInt; omega, by show (x 4).toInt ≤ (20 : Int); omega⟩, trivial⟩, ⟨la_n_tri h22 h22g, ⟨la_p_le (a := x 4) (b := v 3) (by omega), ⟨la_p_gt (a := x 4) (b := v 5) (by omega), trivial⟩⟩⟩⟩
                              · skip
                                by_cases h32 : (x 1).toInt ≤ -1
                                · skip
                                  exact ⟨_, List.mem_of_getElem? (i := 73) rfl, ⟨⟨rfl, b0, c0⟩, ⟨rfl, b1, c1⟩, ⟨rfl, by show (1 : Int) ≤ (v 2).toInt; omega, c2⟩, ⟨rfl, b3, c3⟩, ⟨rfl, by show (1 : Int) ≤ (v 4).toInt; omega, c4⟩, ⟨rfl, b5, c5⟩, ⟨rfl, b6, c6⟩, ⟨rfl, b7, c7⟩, trivial⟩, ⟨⟨rfl, by show (1 : Int) ≤ (x 0).toInt; omega, by show (x 0).toInt ≤ (1 : Int); omega⟩, ⟨rfl, a1.1, by show (x 1).toInt ≤ (-1 : Int); omega⟩, ⟨rfl, by show (2 : Int) ≤ (x 2).toInt; omega, by show (x 2).toInt ≤ (2 : Int); omega⟩, ⟨rfl, a3.1, a3.2⟩, ⟨rfl, by show (0 : Int) ≤ (x 4).toInt; omega, by show (x 4).toInt ≤ (20 : Int); omega⟩, trivial⟩, ⟨la_n_tri h22 h22g, ⟨la_p_le (a := x 4) (b := v 3) (by omega), ⟨la_p_le (a := x 4) (b := v 5) (by omega), trivial⟩⟩⟩⟩
                                · skip
                                  by_cases h34 : mm_P2 .gt (x 1) (v 3 - x 4) = true
                                  · skip
                                    exact ⟨_, List.mem_of_getElem? (i := 74) rfl, ⟨⟨rfl, b0, c0⟩, ⟨rfl, b1, c1⟩, ⟨rfl, by show (1 : Int) ≤ (v 2).toInt; omega, c2⟩, ⟨rfl, b3, c3⟩, ⟨rfl, by show (1 : Int) ≤ (v 4).toInt; omega, c4⟩, ⟨rfl, b5, c5⟩, ⟨rfl, b6, c6⟩, ⟨rfl, b7, c7⟩, trivial⟩, ⟨⟨rfl, by show (1 : Int) ≤ (x 0).toInt; omega, by show (x 0).toInt ≤ (1 : Int); omega⟩, ⟨rfl, by show (0 : Int) ≤ (x 1).toInt; omega, a1.2⟩, ⟨rfl, by show (2 : Int) ≤ (x 2).toInt; omega, by show (x 2).toInt ≤ (2 : Int); omega⟩, ⟨rfl, a3.1, a3.2⟩, ⟨rfl, by show (0 : Int) ≤ (x 4).toInt; omega, by show (x 4).toInt ≤ (20 : Int); omega⟩, trivial⟩, ⟨la_n_tri h22 h22g, ⟨la_p_le (a := x 4) (b := v 3) (by omega), ⟨la_p_le (a := x 4) (b := v 5) (by omega), ⟨h34, trivial⟩⟩⟩⟩⟩
                                  · skip
                                    by_cases h36 : (x 3).toInt ≤ -1
                                    · skip
                                      exact ⟨_, List.mem_of_getElem? (i := 75) rfl, ⟨⟨rfl, b0, c0⟩, ⟨rfl, b1, c1⟩, ⟨rfl, by show (1 : Int) ≤ (v 2).toInt; omega, c2⟩, ⟨rfl, b3, c3⟩, ⟨rfl, by show (1 : Int) ≤ (v 4).toInt; omega, c4⟩, ⟨rfl, b5, c5⟩, ⟨rfl, b6, c6⟩, ⟨rfl, b7, c7⟩, trivial⟩, ⟨⟨rfl, by show (1 : Int) ≤ (x 0).toInt; omega, by show (x 0).toInt ≤ (1 : Int); omega⟩, ⟨rfl, by show (0 : Int) ≤ (x 1).toInt; omega, a1.2⟩, ⟨rfl, by show (2 : Int) ≤ (x 2).toInt; omega, by show (x 2).toInt ≤ (2 : Int); omega⟩, ⟨rfl, a3.1, by show (x 3).toInt ≤ (-1 : Int); omega⟩, ⟨rfl, by show (0 : Int) ≤ (x 4).toInt; omega, by show (x 4).toInt ≤ (20 : Int); omega⟩, trivial⟩, ⟨la_n_tri h22 h22g, ⟨la_p_le (a := x 4) (b := v 3) (by omega), ⟨la_p_le (a := x 4) (b := v 5) (by omega), ⟨la_n_gt h34, trivial⟩⟩⟩⟩⟩
                                    · skip
                                      by_cases h38 : mm_P2 .gt (x 3) (v 5 - x 4) = true
                                      · skip
                                        exact ⟨_, List.mem_of_getElem? (i := 76) rfl, ⟨⟨rfl, b0, c0⟩, ⟨rfl, b1, c1⟩, ⟨rfl, by show (1 : Int) ≤ (v 2).toInt; omega, c2⟩, ⟨rfl, b3, c3⟩, ⟨rfl, by show (1 : Int) ≤ (v 4).toInt; omega, c4⟩, ⟨rfl, b5, c5⟩, ⟨rfl, b6, c6⟩, ⟨rfl, b7, c7⟩, trivial⟩, ⟨⟨rfl, by show (1 : Int) ≤ (x 0).toInt; omega, by show (x 0).toInt ≤ (1 : Int); omega⟩, ⟨rfl, by show (0 : Int) ≤ (x 1).toInt; omega, a1.2⟩, ⟨rfl, by show (2 : Int) ≤ (x 2).toInt; omega, by show (x 2).toInt ≤ (2 : Int); omega⟩, ⟨rfl, by show (0 : Int) ≤ (x 3).toInt; omega, a3.2⟩, ⟨rfl, by show (0 : Int) ≤ (x 4).toInt; omega, by show (x 4).toInt ≤ (20 : Int); omega⟩, trivial⟩, ⟨la_n_tri h22 h22g, ⟨la_p_le (a := x 4) (b := v 3) (by omega), ⟨la_p_le (a := x 4) (b := v 5) (by omega), ⟨la_n_gt h34, ⟨h38, trivial⟩⟩⟩⟩⟩⟩
                                      · skip
                                        exact ⟨_, List.mem_of_getElem? (i := 77) rfl, ⟨⟨rfl, b0, c0⟩, ⟨rfl, b1, c1⟩, ⟨rfl, by show (1 : Int) ≤ (v 2).toInt; omega, c2⟩, ⟨rfl, b3, c3⟩, ⟨rfl, by show (1 : Int) ≤ (v 4).toInt; omega, c4⟩, ⟨rfl, b5, c5⟩, ⟨rfl, b6, c6⟩, ⟨rfl, b7, c7⟩, trivial⟩, ⟨⟨rfl, by show (1 : Int) ≤ (x 0).toInt; omega, by show (x 0).toInt ≤ (1 : Int); omega⟩, ⟨rfl, by show (0 : Int) ≤ (x 1).toInt; omega, a1.2⟩, ⟨rfl, by show (2 : Int) ≤ (x 2).toInt; omega, by show (x 2).toInt ≤ (2 : Int); omega⟩, ⟨rfl, by show (0 : Int) ≤ (x 3).toInt; omega, a3.2⟩, ⟨rfl, by show (0 : Int) ≤ (x 4).toInt; omega, by show (x 4).toInt ≤ (20 : Int); omega⟩, trivial⟩, ⟨la_n_tri h22 h22g, ⟨la_p_le (a := x 4) (b := v 3) (by omega), ⟨la_p_le (a := x 4) (b := v 5) (by omega), ⟨la_n_gt h34, ⟨la_n_gt h38, trivial⟩⟩⟩⟩⟩⟩
                · skip
                  by_cases h18 : (v 2).toInt ≤ 0
                  · skip
                    exact ⟨_, List.mem_of_getElem? (i := 78) rfl, ⟨⟨rfl, b0, c0⟩, ⟨rfl, b1, c1⟩, ⟨rfl, b2, by show (v 2).toInt ≤ (0 : Int); omega⟩, ⟨rfl, b3, c3⟩, ⟨rfl, b4, c4⟩, ⟨rfl, b5, c5⟩, ⟨rfl, b6, c6⟩, ⟨rfl, b7, c7⟩, trivial⟩, ⟨⟨rfl, by show (1 : Int) ≤ (x 0).toInt; omega, by show (x 0).toInt ≤ (1 : Int); omega⟩, ⟨rfl, a1.1, a1.2⟩, ⟨rfl, by show (3 : Int) ≤ (x 2).toInt; omega, by show (x 2).toInt ≤ (3 : Int); omega⟩, ⟨rfl, a3.1, a3.2⟩, ⟨rfl, a4.1, a4.2⟩, trivial⟩, trivial⟩
                  · skip
                    by_cases h20 : (v 6).toInt ≤ 0
                    · skip
                      exact ⟨_, List.mem_of_getElem? (i := 79) rfl, ⟨⟨rfl, b0, c0⟩, ⟨rfl, b1, c1⟩, ⟨rfl, by show (1 : Int) ≤ (v 2).toInt; omega, c2⟩, ⟨rfl, b3, c3⟩, ⟨rfl, b4, c4⟩, ⟨rfl, b5, c5⟩, ⟨rfl, b6, by show (v 6).toInt ≤ (0 : Int); omega⟩, ⟨rfl, b7, c7⟩, trivial⟩, ⟨⟨rfl, by show (1 : Int) ≤ (x 0).toInt; omega, by show (x 0).toInt ≤ (1 : Int); omega⟩, ⟨rfl, a1.1, a1.2⟩, ⟨rfl, by show (3 : Int) ≤ (x 2).toInt; omega, by show (x 2).toInt ≤ (3 : Int); omega⟩, ⟨rfl, a3.1, a3.2⟩, ⟨rfl, a4.1, a4.2⟩, trivial⟩, trivial⟩
                    · skip
                      by_cases h22 : mm_P2 .lt (v 2) (v 6) = true
                      · skip
                        exact ⟨_, List.mem_of_getElem? (i := 80) rfl, ⟨⟨rfl, b0, c0⟩, ⟨rfl, b1, c1⟩, ⟨rfl, by show (1 : Int) ≤ (v 2).toInt; omega, c2⟩, ⟨rfl, b3, c3⟩, ⟨rfl, b4, c4⟩, ⟨rfl, b5, c5⟩, ⟨rfl, by show (1 : Int) ≤ (v 6).toInt; omega, c6⟩, ⟨rfl, b7, c7⟩, trivial⟩, ⟨⟨rfl, by show (1 : Int) ≤ (x 0).toInt; omega, by show (x 0).toInt ≤ (1 : Int); omega⟩, ⟨rfl, a1.1, a1.2⟩, ⟨rfl, by show (3 : Int) ≤ (x 2).toInt; omega, by show (x 2).toInt ≤ (3 : Int); omega⟩, ⟨rfl, a3.1, a3.2⟩, ⟨rfl, a4.1, a4.2⟩, trivial⟩, ⟨h22, trivial⟩⟩
                      · skip
                        by_cases h22g : mm_P2 .gt (v 2) (v 6) = true
                        · skip
                          exact ⟨_, List.mem_of_getElem? (i := 81) rfl, ⟨⟨rfl, b0, c0⟩, ⟨rfl, b1, c1⟩, ⟨rfl, by show (1 : Int) ≤ (v 2).toInt; omega, c2⟩, ⟨rfl, b3, c3⟩, ⟨rfl, b4, c4⟩, ⟨rfl, b5, c5⟩, ⟨rfl, by show (1 : Int) ≤ (v 6).toInt; omega, c6⟩, ⟨rfl, b7, c7⟩, trivial⟩, ⟨⟨rfl, by show (1 : Int) ≤ (x 0).toInt; omega, by show (x 0).toInt ≤ (1 : Int); omega⟩, ⟨rfl, a1.1, a1.2⟩, ⟨rfl, by show (3 : Int) ≤ (x 2).toInt; omega, by show (x 2).toInt ≤ (3 : Int); omega⟩, ⟨rfl, a3.1, a3.2⟩, ⟨rfl, a4.1, a4.2⟩, trivial⟩, ⟨h22g, trivial⟩⟩
                        · skip
                          by_cases h26 : (x 4).toInt ≤ -1
                          · skip
                            exact ⟨_, List.mem_of_getElem? (i := 82) rfl, ⟨⟨rfl, b0, c0⟩, ⟨rfl, b1, c1⟩, ⟨rfl, by show (1 : Int) ≤ (v 2).toInt; omega, c2⟩, ⟨rfl, b3, c3⟩, ⟨rfl, b4, c4⟩, ⟨rfl, b5, c5⟩, ⟨rfl, by show (1 : Int) ≤ (v 6).toInt; omega, c6⟩, ⟨rfl, b7, c7⟩, trivial⟩, ⟨⟨rfl, by show (1 : Int) ≤ (x 0).toInt; omega, by show (x 0).toInt ≤ (1 : Int); omega⟩, ⟨rfl, a1.1, a1.2⟩, ⟨rfl, by show (3 : Int) ≤ (x 2).toInt; omega, by show (x 2).toInt ≤ (3 : Int); omega⟩, ⟨rfl, a3.1, a3.2⟩, ⟨rfl, a4.1, by show (x 4).toInt ≤ (-1 : Int); omega⟩, trivial⟩, ⟨la_n_tri h22 h22g, trivial⟩⟩
                          · skip
                            by_cases h28 : (v 3).toInt < (x 4).toInt
                            · skip
                              exact ⟨_, List.mem_of_getElem? (i := 83) rfl, ⟨⟨rfl, b0, c0⟩, ⟨rfl, b1, c1⟩, ⟨rfl, by show (1 : Int) ≤ (v 2).toInt; omega, c2⟩, ⟨rfl, b3, c3⟩, ⟨rfl, b4, c4⟩, ⟨rfl, b5, c5⟩, ⟨rfl, by show (1 : Int) ≤ (v 6).toInt; omega, c6⟩, ⟨rfl, b7, c7⟩, trivial⟩, ⟨⟨rfl, by show (1 : Int) ≤ (x 0).toInt; omega, by show (x 0).toInt ≤ (1 : Int); omega⟩, ⟨rfl, a1.1, a1.2⟩, ⟨rfl, by show (3 : Int) ≤ (x 2).toInt; omega, by show (x 2).toInt ≤ (3 : Int); omega⟩, ⟨rfl, a3.1, a3.2⟩, ⟨rfl, by show (1 : Int) ≤ (x 4).toInt; omega, a4.2⟩, trivial⟩, ⟨la_n_tri h22 h22g, ⟨la_p_gt (a := x 4) (b := v 3) (by omega), trivial⟩⟩⟩
                            · skip
                              by_cases h30 : (v 7).toInt < (x 4).toInt
                              · skip
                                exact ⟨_, List.mem_of_getElem? (i := 84) rfl, ⟨⟨rfl, b0, c0⟩, ⟨rfl, b1, c1⟩, ⟨rfl, by show (1 : Int) ≤ (v 2).toInt; omega, c2⟩, ⟨rfl, b3, c3⟩, ⟨rfl, b4, c4⟩, ⟨rfl, b5, c5⟩, ⟨rfl, by show (1 : Int) ≤ (v 6).toInt; omega, c6⟩, ⟨rfl, b7, c7⟩, trivial⟩, ⟨⟨rfl, by show (1 : Int) ≤ (x 0).toInt; omega, by show (x 0).toInt ≤ (1 : Int); omega⟩, ⟨rfl, a1.1, a1.2⟩, ⟨rfl, by show (3 : Int) ≤ (x 2).toInt; omega, by show (x 2).toInt ≤ (3 : Int); omega⟩, ⟨rfl, a3.1, a3.2⟩, ⟨rfl, by show (1 : Int) ≤ (x 4).toInt; omega, by show (x 4).toInt ≤ (20 : Int); omega⟩, trivial⟩, ⟨la_n_tri h22 h22g, ⟨la_p_le (a := x 4) (b := v 3) (by omega), ⟨la_p_gt (a := x 4) (b := v 7) (by omega), trivial⟩⟩⟩⟩
                              · skip
                                by_cases h32 : (x 1).toInt ≤ -1
                                · skip
                                  exact ⟨_, List.mem_of_getElem? (i := 85) rfl, ⟨⟨rfl, b0, c0⟩, ⟨rfl, b1, c1⟩, ⟨rfl, by show (1 : Int) ≤ (v 2).toInt; omega, c2⟩, ⟨rfl, b3, c3⟩, ⟨rfl, b4, c4⟩, ⟨rfl, b5, c5⟩, ⟨rfl, by show (1 : Int) ≤ (v 6).toInt; omega, c6⟩, ⟨rfl, b7, c7⟩, trivial⟩, ⟨⟨rfl, by show (1 : Int) ≤ (x 0).toInt; omega, by show (x 0).toInt ≤ (1 : Int); omega⟩, ⟨rfl, a1.1, by show (x 1).toInt ≤ (-1 : Int); omega⟩, ⟨rfl, by show (3 : Int) ≤ (x 2).toInt; omega, by show (x 2).toInt ≤ (3 : Int); omega⟩, ⟨rfl, a3.1, a3.2⟩, ⟨rfl, by show (0 : Int) ≤ (x 4).toInt; omega, by show (x 4).toInt ≤ (20 : Int); omega⟩, trivial⟩, ⟨la_n_tri h22 h22g, ⟨la_p_le (a := x 4) (b := v 3) (by omega), ⟨la_p_le (a := x 4) (b := v 7) (by omega), trivial⟩⟩⟩⟩
                                · skip
                                  by_cases h34 : mm_P2 .gt (x 1) (v 3 - x 4) = true
                                  · skip
                                    exact ⟨_, List.mem_of_getElem? (i := 86) rfl, ⟨⟨rfl, b0, c0⟩, ⟨rfl, b1, c1⟩, ⟨rfl, by show (1 : Int) ≤ (v 2).toInt; omega, c2⟩, ⟨rfl, b3, c3⟩, ⟨rfl, b4, c4⟩, ⟨rfl, b5, c5⟩, ⟨rfl, by show (1 : Int) ≤ (v 6).toInt; omega, c6⟩, ⟨rfl, b7, c7⟩, trivial⟩, ⟨⟨rfl, by show (1 : Int) ≤ (x 0).toInt; omega, by show (x 0).toInt ≤ (1 : Int); omega⟩, ⟨rfl, by show (0 : Int) ≤ (x 1).toInt; omega, a1.2⟩, ⟨rfl, by show (3 : Int) ≤ (x 2).toInt; omega, by show (x 2).toInt ≤ (3 : Int); omega⟩, ⟨rfl, a3.1, a3.2⟩, ⟨rfl, by show (0 : Int) ≤ (x 4).toInt; omega, by show (x 4).toInt ≤ (20 : Int); omega⟩, trivial⟩, ⟨la_n_tri h22 h22g, ⟨la_p_le (a := x 4) (b := v 3) (by omega), ⟨la_p_le (a := x 4) (b := v 7) (by omega), ⟨h34, trivial⟩⟩⟩⟩⟩
                                  · skip
                                    by_cases h36 : (x 3).toInt ≤ -1
                                    · skip
                                      exact ⟨_, List.mem_of_getElem? (i := 87) rfl, ⟨⟨rfl, b0, c0⟩, ⟨rfl, b1, c1⟩, ⟨rfl, by show (1 : Int) ≤ (v 2).toInt; omega, c2⟩, ⟨rfl, b3, c3⟩, ⟨rfl, b4, c4⟩, ⟨rfl, b5, c5⟩, ⟨rfl, by show (1 : Int) ≤ (v 6).toInt; omega, c6⟩, ⟨rfl, b7, c7⟩, trivial⟩, ⟨⟨rfl, by show (1 : Int) ≤ (x 0).toInt; omega, by show (x 0).toInt ≤ (1 : Int); omega⟩, ⟨rfl, by show (0 : Int) ≤ (x 1).toInt; omega, a1.2⟩, ⟨rfl, by show (3 : Int) ≤ (x 2).toInt; omega, by show (x 2).toInt ≤ (3 : Int); omega⟩, ⟨rfl, a3.1, by show (x 3).toInt ≤ (-1 : Int); omega⟩, ⟨rfl, by show (0 : Int) ≤ (x 4).toInt; omega, by show (x 4).toInt ≤ (20 : Int); omega⟩, trivial⟩, ⟨la_n_tri h22 h22g, ⟨la_p_le (a := x 4) (b := v 3) (by omega), ⟨la_p_le (a := x 4) (b := v 7) (by omega), ⟨la_n_gt h34, trivial⟩⟩⟩⟩⟩
                                    · skip
                                      by_cases h38 : mm_P2 .gt (x 3) (v 7 - x 4) = true
                                      · skip
                                        exact ⟨_, List.mem_of_getElem? (i := 88) rfl, ⟨⟨rfl, b0, c0⟩, ⟨rfl, b1, c1⟩, ⟨rfl, by show (1 : Int) ≤ (v 2).toInt; omega, c2⟩, ⟨rfl, b3, c3⟩, ⟨rfl, b4, c4⟩, ⟨rfl, b5, c5⟩, ⟨rfl, by show (1 : Int) ≤ (v 6).toInt; omega, c6⟩, ⟨rfl, b7, c7⟩, trivial⟩, ⟨⟨rfl, by show (1 : Int) ≤ (x 0).toInt; omega, by show (x 0).toInt ≤ (1 : Int); omega⟩, ⟨rfl, by show (0 : Int) ≤ (x 1).toInt; omega, a1.2⟩, ⟨rfl, by show (3 : Int) ≤ (x 2).toInt; omega, by show (x 2).toInt ≤ (3 : Int); omega⟩, ⟨rfl, by show (0 : Int) ≤ (x 3).toInt; omega, a3.2⟩, ⟨rfl, by show (0 : Int) ≤ (x 4).toInt; omega, by show (x 4).toInt ≤ (20 : Int); omega⟩, trivial⟩, ⟨la_n_tri h22 h22g, ⟨la_p_le (a := x 4) (b := v 3) (by omega), ⟨la_p_le (a := x 4) (b := v 7) (by omega), ⟨la_n_gt h34, ⟨h38, trivial⟩⟩⟩⟩⟩⟩
                                      · skip
                                        exact ⟨_, List.mem_of_getElem? (i := 89) rfl, ⟨⟨rfl, b0, c0⟩, ⟨rfl, b1, c1⟩, ⟨rfl, by show (1 : Int) ≤ (v 2).toInt; omega, c2⟩, ⟨rfl, b3, c3⟩, ⟨rfl, b4, c4⟩, ⟨rfl, b5, c5⟩, ⟨rfl, by show (1 : Int) ≤ (v 6).toInt; omega, c6⟩, ⟨rfl, b7, c7⟩, trivial⟩, ⟨⟨rfl, by show (1 : Int) ≤ (x 0).toInt; omega, by show (x 0).toInt ≤ (1 : Int); omega⟩, ⟨rfl, by show (0 : Int) ≤ (x 1).toInt; omega, a1.2⟩, ⟨rfl, by show (3 : Int) ≤ (x 2).toInt; omega, by show (x 2).toInt ≤ (3 : Int); omega⟩, ⟨rfl, by show (0 : Int) ≤ (x 3).toInt; omega, a3.2⟩, ⟨rfl, by show (0 : Int) ≤ (x 4).toInt; omega, by show (x 4).toInt ≤ (20 : Int); omega⟩, trivial⟩, ⟨la_n_tri h22 h22g, ⟨la_p_le (a := x 4) (b := v 3) (by omega), ⟨la_p_le (a := x 4) (b := v 7) (by omega), ⟨la_n_gt h34, ⟨la_n_gt h38, trivial⟩⟩⟩⟩⟩⟩
          · skip
            by_cases h12 : (x 0).toInt ≤ 2
            · skip
              by_cases h14 : (x 2).toInt ≤ 1
              · skip
                by_cases h16 : (x 2).toInt ≤ 0
                · skip
                  by_cases h18 : (v 4).toInt ≤ 0
                  · skip
                    exact ⟨_, List.mem_of_getElem? (i := 90) rfl, ⟨⟨rfl, b0, c0⟩, ⟨rfl, b1, c1⟩, ⟨rfl, b2, c2⟩, ⟨rfl, b3, c3⟩, ⟨rfl, b4, by show (v 4).toInt ≤ (0 : Int); omega⟩, ⟨rfl, b5, c5⟩, ⟨rfl, b6, c6⟩, ⟨rfl, b7, c7⟩, trivial⟩, ⟨⟨rfl, by show (2 : Int) ≤ (x 0).toInt; omega, by show (x 0).toInt ≤ (2 : Int); omega⟩, ⟨rfl, a1.1, a1.2⟩, ⟨rfl, by show (0 : Int) ≤ (x 2).toInt; omega, by show (x 2).toInt ≤ (0 : Int); omega⟩, ⟨rfl, a3.1, a3.2⟩, ⟨rfl, a4.1, a4.2⟩, trivial⟩, trivial⟩
                  · skip
                    by_cases h20 : (v 0).toInt ≤ 0
                    · skip
                      exact ⟨_, List.mem_of_getElem? (i := 91) rfl, ⟨⟨rfl, b0, by show (v 0).toInt ≤ (0 : Int); omega⟩, ⟨rfl, b1, c1⟩, ⟨rfl, b2, c2⟩, ⟨rfl, b3, c3⟩, ⟨rfl, by show (1 : Int) ≤ (v 4).toInt; omega, c4⟩, ⟨rfl, b5, c5⟩, ⟨rfl, b6, c6⟩, ⟨rfl, b7, c7⟩, trivial⟩, ⟨⟨rfl, by show (2 : Int) ≤ (x 0).toInt; omega, by show (x 0).toInt ≤ (2 : Int); omega⟩, ⟨rfl, a1.1, a1.2⟩, ⟨rfl, by show (0 : Int) ≤ (x 2).toInt; omega, by show (x 2).toInt ≤ (0 : Int); omega⟩, ⟨rfl, a3.1, a3.2⟩, ⟨rfl, a4.1, a4.2⟩, trivial⟩, trivial⟩
                    · skip
                      by_cases h22 : mm_P2 .lt (v 4) (v 0) = true
                      · skip
                        exact ⟨_, List.mem_of_getElem? (i := 92) rfl, ⟨⟨rfl, by show (1 : Int) ≤ (v 0).toInt; omega, c0⟩, ⟨rfl, b1, c1⟩, ⟨rfl, b2, c2⟩, ⟨rfl, b3, c3⟩, ⟨rfl, by show (1 : Int) ≤ (v 4).toInt; omega, c4⟩, ⟨rfl, b5, c5⟩, ⟨rfl, b6, c6⟩, ⟨rfl, b7, c7⟩, trivial⟩, ⟨⟨rfl, by show (2 : Int) ≤ (x 0).toInt; omega, by show (x 0).toInt ≤ (2 : Int); omega⟩, ⟨rfl, a1.1, a1.2⟩, ⟨rfl, by show (0 : Int) ≤ (x 2).toInt; omega, by show (x 2).toInt ≤ (0 : Int); omega⟩, ⟨rfl, a3.1, a3.2⟩, ⟨rfl, a4.1, a4.2⟩, trivial⟩, ⟨h22, trivial⟩⟩
                      · skip
                        by_cases h22g : mm_P2 .gt (v 4) (v 0) = true
                        · skip
                          exact ⟨_, List.mem_of_getElem? (i := 93) rfl, ⟨⟨rfl, by show (1 : Int) ≤ (v 0).toInt; omega, c0⟩, ⟨rfl, b1, c1⟩, ⟨rfl, b2, c2⟩, ⟨rfl, b3, c3⟩, ⟨rfl, by show (1 : Int) ≤ (v 4).toInt; omega, c4⟩, ⟨rfl, b5, c5⟩, ⟨rfl, b6, c6⟩, ⟨rfl, b7, c7⟩, trivial⟩, ⟨⟨rfl, by show (2 : Int) ≤ (x 0).toInt; omega, by show (x 0).toInt ≤ (2 : Int); omega⟩, ⟨rfl, a1.1, a1.2⟩, ⟨rfl, by show (0 : Int) ≤ (x 2).toInt; omega, by show (x 2).toInt ≤ (0 : Int); omega⟩, ⟨rfl, a3.1, a3.2⟩, ⟨rfl, a4.1, a4.2⟩, trivial⟩, ⟨h22g, trivial⟩⟩
                        · skip
                          by_cases h26 : (x 4).toInt ≤ -1
                          · skip
                            exact ⟨_, List.mem_of_getElem? (i := 94) rfl, ⟨⟨rfl, by show (1 : Int) ≤ (v 0).toInt; omega, c0⟩, ⟨rfl, b1, c1⟩, ⟨rfl, b2, c2⟩, ⟨rfl, b3, c3⟩, ⟨rfl, by show (1 : Int) ≤ (v 4).toInt; omega, c4⟩, ⟨rfl, b5, c5⟩, ⟨rfl, b6, c6⟩, ⟨rfl, b7, c7⟩, trivial⟩, ⟨⟨rfl, by show (2 : Int) ≤ (x 0).toInt; omega, by show (x 0).toInt ≤ (2 : Int); omega⟩, ⟨rfl, a1.1, a1.2⟩, ⟨rfl, by show (0 : Int) ≤ (x 2).toInt; omega, by show (x 2).toInt ≤ (0 : Int); omega⟩, ⟨rfl, a3.1, a3.2⟩, ⟨rfl, a4.1, by show (x 4).toInt ≤ (-1 : Int); omega⟩, trivial⟩, ⟨la_n_tri h22 h22g, trivial⟩⟩
                          · skip
                            by_cases h28 : (v 5).toInt < (x 4).toInt
                            · skip
                              exact ⟨_, List.mem_of_getElem? (i := 95) rfl, ⟨⟨rfl, by show (1 : Int) ≤ (v 0).toInt; omega, c0⟩, ⟨rfl, b1, c1⟩, ⟨rfl, b2, c2⟩, ⟨rfl, b3, c3⟩, ⟨rfl, by show (1 : Int) ≤ (v 4).toInt; omega, c4⟩, ⟨rfl, b5, c5⟩, ⟨rfl, b6, c6⟩, ⟨rfl, b7, c7⟩, trivial⟩, ⟨⟨rfl, by show (2 : Int) ≤ (x 0).toInt; omega, by show (x 0).toInt ≤ (2 : Int); omega⟩, ⟨rfl, a1.1, a1.2⟩, ⟨rfl, by show (0 : Int) ≤ (x 2).toInt; omega, by show (x 2).toInt ≤ (0 : Int); omega⟩, ⟨rfl, a3.1, a3.2⟩, ⟨rfl, by show (1 : Int) ≤ (x 4).toInt; omega, a4.2⟩, trivial⟩, ⟨la_n_tri h22 h22g, ⟨la_p_gt (a := x 4) (b := v 5) (by omega), trivial⟩⟩⟩
                            · skip
                              by_cases h30 : (v 1).toInt < (x 4).toInt
                              · skip
                                exact ⟨_, List.mem_of_getElem? (i := 96) rfl, ⟨⟨rfl, by show (1 : Int) ≤ (v 0).toInt; omega, c0⟩, ⟨rfl, b1, c1⟩, ⟨rfl, b2, c2⟩, ⟨rfl, b3, c3⟩, ⟨rfl, by show (1 : Int) ≤ (v 4).toInt; omega, c4⟩, ⟨rfl, b5, c5⟩, ⟨rfl, b6, c6⟩, ⟨rfl, b7, c7⟩, trivial⟩, ⟨⟨rfl, by show (2 : Int) ≤ (x 0).toInt; omega, by show (x 0).toInt ≤ (2 : Int); omega⟩, ⟨rfl, a1.1, a1.2⟩, ⟨rfl, by show (0 : Int) ≤ (x 2).toInt; omega, by show (x 2).toInt ≤ (0 : Int); omega⟩, ⟨rfl, a3.1, a3.2⟩, ⟨rfl, by show (1 : Int) ≤ (x 4).toInt; omega, by show (x 4).toInt ≤ (20 : Int); omega⟩, trivial⟩, ⟨la_n_tri h22 h22g, ⟨la_p_le (a := x 4) (b := v 5) (by omega), ⟨la_p_gt (a := x 4) (b := v 1) (by omega), trivial⟩⟩⟩⟩
                              · skip
                                by_cases h32 : (x 1).toInt ≤ -1
                                · skip
                                  exact ⟨_, List.mem_of_getElem? (i := 97) rfl, ⟨⟨rfl, by show (1 : Int) ≤ (v 0).toInt; omega, c0⟩, ⟨rfl, b1, c1⟩, ⟨rfl, b2, c2⟩, ⟨rfl, b3, c3⟩, ⟨rfl, by show (1 : Int) ≤ (v 4).toInt; omega, c4⟩, ⟨rfl, b5, c5⟩, ⟨rfl, b6, c6⟩, ⟨rfl, b7, c7⟩, trivial⟩, ⟨⟨rfl, by show (2 : Int) ≤ (x 0).toInt; omega, by show (x 0).toInt ≤ (2 : Int); omega⟩, ⟨rfl, a1.1, by show (x 1).toInt ≤ (-1 : Int); omega⟩, ⟨rfl, by show (0 : Int) ≤ (x 2).toInt; omega, by show (x 2).toInt ≤ (0 : Int); omega⟩, ⟨rfl, a3.1, a3.2⟩, ⟨rfl, by show (0 : Int) ≤ (x 4).toInt; omega, by show (x 4).toInt ≤ (20 : Int); omega⟩, trivial⟩, ⟨la_n_tri h22 h22g, ⟨la_p_le (a := x 4) (b := v 5) (by omega), ⟨la_p_le (a := x 4) (b := v 1) (by omega), trivial⟩⟩⟩⟩
                                · skip
                                  by_cases h34 : mm_P2 .gt (x 1) (v 5 - x 4) = true
                                  · skip
                                    exact ⟨_, List.mem_of_getElem? (i := 98) rfl, ⟨⟨rfl, by show (1 : Int) ≤ (v 0).toInt; omega, c0⟩, ⟨rfl, b1, c1⟩, ⟨rfl, b2, c2⟩, ⟨rfl, b3, c3⟩, ⟨rfl, by show (1 : Int) ≤ (v 4).toInt; omega, c4⟩, ⟨rfl, b5, c5⟩, ⟨rfl, b6, c6⟩, ⟨rfl, b7, c7⟩, trivial⟩, ⟨⟨rfl, by show (2 : Int) ≤ (x 0).toInt; omega, by show (x 0).toInt ≤ (2 : Int); omega⟩, ⟨rfl, by show (0 : Int) ≤ (x 1).toInt; omega, a1.2⟩, ⟨rfl, by show (0 : Int) ≤ (x 2).toInt; omega, by show (x 2).toInt ≤ (0 : Int); omega⟩, ⟨rfl, a3.1, a3.2⟩, ⟨rfl, by show (0 : Int) ≤ (x 4).toInt; omega, by show (x 4).toInt ≤ (20 : Int); omega⟩, trivial⟩, ⟨la_n_tri h22 h22g, ⟨la_p_le (a := x 4) (b := v 5) (by omega), ⟨la_p_le (a := x 4) (b := v 1) (by omega), ⟨h34, trivial⟩⟩⟩⟩⟩
                                  · skip
                                    by_cases h36 : (x 3).toInt ≤ -1
                                    · skip
                                      exact ⟨_, List.mem_of_getElem? (i := 99) rfl, ⟨⟨rfl, by show (1 : Int) ≤ (v 0).toInt; omega, c0⟩, ⟨rfl, b1, c1⟩, ⟨rfl, b2, c2⟩, ⟨rfl, b3, c3⟩, ⟨rfl, by show (1 : Int) ≤ (v 4).toInt; omega, c4⟩, ⟨rfl, b5, c5⟩, ⟨rfl, b6, c6⟩, ⟨rfl, b7, c7⟩, trivial⟩, ⟨⟨rfl, by show (2 : Int) ≤ (x 0).toInt; omega, by show (x 0).toInt ≤ (2 : Int); omega⟩, ⟨rfl, by show (0 : Int) ≤ (x 1).toInt; omega, a1.2⟩, ⟨rfl, by show (0 : Int) ≤ (x 2).toInt; omega, by show (x 2).toInt ≤ (0 : Int); omega⟩, ⟨rfl, a3.1, by show (x 3).toInt ≤ (-1 : Int); omega⟩, ⟨rfl, by show (0 : Int) ≤ (x 4).toInt; omega, by show (x 4).toInt ≤ (20 : Int); omega⟩, trivial⟩, ⟨la_n_tri h22 h22g, ⟨la_p_le (a := x 4) (b := v 5) (by omega), ⟨la_p_le (a := x 4) (b := v 1) (by omega), ⟨la_n_gt h34, trivial⟩⟩⟩⟩⟩
                                    · skip
                                      by_cases h38 : mm_P2 .gt (x 3) (v 1 - x 4) = true
                                      · skip
                                        exact ⟨_, List.mem_of_getElem? (i := 100) rfl, ⟨⟨rfl, by show (1 : Int) ≤ (v 0).toInt; omega, c0⟩, ⟨rfl, b1, c1⟩, ⟨rfl, b2, c2⟩, ⟨rfl, b3, c3⟩, ⟨rfl, by show (1 : Int) ≤ (v 4).toInt; omega, c4⟩, ⟨rfl, b5, c5⟩, ⟨rfl, b6, c6⟩, ⟨rfl, b7, c7⟩, trivial⟩, ⟨⟨rfl, by show (2 : Int) ≤ (x 0).toInt; omega, by show (x 0).toInt ≤ (2 : Int); omega⟩, ⟨rfl, by show (0 : Int) ≤ (x 1).toInt; omega, a1.2⟩, ⟨rfl, by show (0 : Int) ≤ (x 2).toInt; omega, by show (x 2).toInt ≤ (0 : Int); omega⟩, ⟨rfl, by show (0 : Int) ≤ (x 3).toInt; omega, a3.2⟩, ⟨rfl, by show (0 : Int) ≤ (x 4).toInt; omega, by show (x 4).toInt ≤ (20 : Int); omega⟩, trivial⟩, ⟨la_n_tri h22 h22g, ⟨la_p_le (a := x 4) (b := v 5) (by omega), ⟨la_p_le (a := x 4) (b := v 1) (by omega), ⟨la_n_gt h34, ⟨h38, trivial⟩⟩⟩⟩⟩⟩
                                      · skip
                                        exact ⟨_, List.mem_of_getElem? (i := 101) rfl, ⟨⟨rfl, by show (1 : Int) ≤ (v 0).toInt; omega, c0⟩, ⟨rfl, b1, c1⟩, ⟨rfl, b2, c2⟩, ⟨rfl, b3, c3⟩, ⟨rfl, by show (1 : Int) ≤ (v 4).toInt; omega, c4⟩, ⟨rfl, b5, c5⟩, ⟨rfl, b6, c6⟩, ⟨rfl, b7, c7⟩, trivial⟩, ⟨⟨rfl, by show (2 : Int) ≤ (x 0).toInt; omega, by show (x 0).toInt ≤ (2 : Int); omega⟩, ⟨rfl, by show (0 : Int) ≤ (x 1).toInt; omega, a1.2⟩, ⟨rfl, by show (0 : Int) ≤ (x 2).toInt; omega, by show (x 2).toInt ≤ (0 : Int); omega⟩, ⟨rfl, by show (0 : Int) ≤ (x 3).toInt; omega, a3.2⟩, ⟨rfl, by show (0 : Int) ≤ (x 4).toInt; omega, by show (x 4).toInt ≤ (20 : Int); omega⟩, trivial⟩, ⟨la_n_tri h22 h22g, ⟨la_p_le (a := x 4) (b := v 5) (by omega), ⟨la_p_le (a := x 4) (b := v 1) (by omega), ⟨la_n_gt h34, ⟨la_n_gt h38, trivial⟩⟩⟩⟩⟩⟩
                · skip
                  by_cases h18 : (v 4).toInt ≤ 0
                  · skip
                    exact ⟨_, List.mem_of_getElem? (i := 102) rfl, ⟨⟨rfl, b0, c0⟩, ⟨rfl, b1, c1⟩, ⟨rfl, b2, c2⟩, ⟨rfl, b3, c3⟩, ⟨rfl, b4, by show (v 4).toInt ≤ (0 : Int); omega⟩, ⟨rfl, b5, c5⟩, ⟨rfl, b6, c6⟩, ⟨rfl, b7, c7⟩, trivial⟩, ⟨⟨rfl, by show (2 : Int) ≤ (x 0).toInt; omega, by show (x 0).toInt ≤ (2 : Int); omega⟩, ⟨rfl, a1.1, a1.2⟩, ⟨rfl, by show (1 : Int) ≤ (x 2).toInt; omega, by show (x 2).toInt ≤ (1 : Int); omega⟩, ⟨rfl, a3.1, a3.2⟩, ⟨rfl, a4.1, a4.2⟩, trivial⟩, trivial⟩
                  · skip
                    by_cases h20 : (v 2).toInt ≤ 0
                    · skip
                      exact ⟨_, List.mem_of_getElem? (i := 103) rfl, ⟨⟨rfl, b0, c0⟩, ⟨rfl, b1, c1⟩, ⟨rfl, b2, by show (v 2).toInt ≤ (0 : Int); omega⟩, ⟨rfl, b3, c3⟩, ⟨rfl, by show (1 : Int) ≤ (v 4).toInt; omega, c4⟩, ⟨rfl, b5, c5⟩, ⟨rfl, b6, c6⟩, ⟨rfl, b7, c7⟩, trivial⟩, ⟨⟨rfl, by show (2 : Int) ≤ (x 0).toInt; omega, by show (x 0).toInt ≤ (2 : Int); omega⟩, ⟨rfl, a1.1, a1.2⟩, ⟨rfl, by show (1 : Int) ≤ (x 2).toInt; omega, by show (x 2).toInt ≤ (1 : Int); omega⟩, ⟨rfl, a3.1, a3.2⟩, ⟨rfl, a4.1, a4.2⟩, trivial⟩, trivial⟩
                    · skip
                      by_cases h22 : mm_P2 .lt (v 4) (v 2) = true
                      · skip
                        exact ⟨_, List.mem_of_getElem? (i := 104) rfl, ⟨⟨rfl, b0, c0⟩, ⟨rfl, b1, c1⟩, ⟨rfl, by show (1 : Int) ≤ (v 2).toInt; omega, c2⟩, ⟨rfl, b3, c3⟩, ⟨rfl, by show (1 : Int) ≤ (v 4).toInt; omega, c4⟩, ⟨rfl, b5, c5⟩, ⟨rfl, b6, c6⟩, ⟨rfl, b7, c7⟩, trivial⟩, ⟨⟨rfl, by show (2 : Int) ≤ (x 0).toInt; omega, by show (x 0).toInt ≤ (2 : Int); omega⟩, ⟨rfl, a1.1, a1.2⟩, ⟨rfl, by show (1 : Int) ≤ (x 2).toInt; omega, by show (x 2).toInt ≤ (1 : Int); omega⟩, ⟨rfl, a3.1, a3.2⟩, ⟨rfl, a4.1, a4.2⟩, trivial⟩, ⟨h22, trivial⟩⟩
                      · skip
                        by_cases h22g : mm_P2 .gt (v 4) (v 2) = true
                        · skip
                          exact ⟨_, List.mem_of_getElem? (i := 105) rfl, ⟨⟨rfl, b0, c0⟩, ⟨rfl, b1, c1⟩, ⟨rfl, by show (1 : Int) ≤ (v 2).toInt; omega, c2⟩, ⟨rfl, b3, c3⟩, ⟨rfl, by show (1 : Int) ≤ (v 4).toInt; omega, c4⟩, ⟨rfl, b5, c5⟩, ⟨rfl, b6, c6⟩, ⟨rfl, b7, c7⟩, trivial⟩, ⟨⟨rfl, by show (2 : Int) ≤ (x 0).toInt; omega, by show (x 0).toInt ≤ (2 : Int); omega⟩, ⟨rfl, a1.1, a1.2⟩, ⟨rfl, by show (1 : Int) ≤ (x 2).toInt; omega, by show (x 2).toInt ≤ (1 : Int); omega⟩, ⟨rfl, a3.1, a3.2⟩, ⟨rfl, a4.1, a4.2⟩, trivial⟩, ⟨h22g, trivial⟩⟩
                        · skip
                          by_cases h26 : (x 4).toInt ≤ -1
                          · skip
                            exact ⟨_, List.mem_of_getElem? (i := 106) rfl, ⟨⟨rfl, b0, c0⟩, ⟨rfl, b1, c1⟩, ⟨rfl, by show (1 : Int) ≤ (v 2).toInt; omega, c2⟩, ⟨rfl, b3, c3⟩, ⟨rfl, by show (1 : Int) ≤ (v 4).toInt; omega, c4⟩, ⟨rfl, b5, c5⟩, ⟨rfl, b6, c6⟩, ⟨rfl, b7, c7⟩, trivial⟩, ⟨⟨rfl, by show (2 : Int) ≤ (x 0).toInt; omega, by show (x 0).toInt ≤ (2 : Int); omega⟩, ⟨rfl, a1.1, a1.2⟩, ⟨rfl, by show (1 : Int) ≤ (x 2).toInt; omega, by show (x 2).toInt ≤ (1 : Int); omega⟩, ⟨rfl, a3.1, a3.2⟩, ⟨rfl, a4.1, by show (x 4).toInt ≤ (-1 : Int); omega⟩, trivial⟩, ⟨la_n_tri h22 h22g, trivial⟩⟩
                          · skip
                            by_cases h28 : (v 5).toInt < (x 4).toInt
                            · skip
                              exact ⟨_, List.mem_of_getElem? (i := 107) rfl, ⟨⟨rfl, b0, c0⟩, ⟨rfl, b1, c1⟩, ⟨rfl, by show (1 : Int) ≤ (v 2).toInt; omega, c2⟩, ⟨rfl, b3, c3⟩, ⟨rfl, by show (1 : Int) ≤ (v 4).toInt; omega, c4⟩, ⟨rfl, b5, c5⟩, ⟨rfl, b6, c6⟩, ⟨rfl, b7, c7⟩, trivial⟩, ⟨⟨rfl, by show (2 : Int) ≤ (x 0).toInt; omega, by show (x 0).toInt ≤ (2 : Int); omega⟩, ⟨rfl, a1.1, a1.2⟩, ⟨rfl, by show (1 : Int) ≤ (x 2).toInt; omega, by show (x 2).toInt ≤ (1 : Int); omega⟩, ⟨rfl, a3.1, a3.2⟩, ⟨rfl, by show (1 : Int) ≤ (x 4).toInt; omega, a4.2⟩, trivial⟩, ⟨la_n_tri h22 h22g, ⟨la_p_gt (a := x 4) (b := v 5) (by omega), trivial⟩⟩⟩
                            · skip
                              by_cases h30 : (v 3).toInt < (x 4).toInt
                              · skip
                                exact ⟨_, List.mem_of_getElem? (i := 108) rfl, ⟨⟨rfl, b0, c0⟩, ⟨rfl, b1, c1⟩, ⟨rfl, by show (1 : Int) ≤ (v 2).toInt; omega, c2⟩, ⟨rfl, b3, c3⟩, ⟨rfl, by show (1 : Int) ≤ (v 4).toInt; omega, c4⟩, ⟨rfl, b5, c5⟩, ⟨rfl, b6, c6⟩, ⟨rfl, b7, c7⟩, trivial⟩, ⟨⟨rfl, by show (2 : Int) ≤ (x 0).toInt; omega, by show (x 0).toInt ≤ (2 : Int); omega⟩, ⟨rfl, a1.1, a1.2⟩, ⟨rfl, by show (1 : Int) ≤ (x 2).toInt; omega, by show (x 2).toInt ≤ (1 : Int); omega⟩, ⟨rfl, a3.1, a3.2⟩, ⟨rfl, by show (1 : Int) ≤ (x 4).toInt; omega, by show (x 4).toInt ≤ (20 : Int); omega⟩, trivial⟩, ⟨la_n_tri h22 h22g, ⟨la_p_le (a := x 4) (b := v 5) (by omega), ⟨la_p_gt (a := x 4) (b := v 3) (by omega), trivial⟩⟩⟩⟩
                              · skip
                                by_cases h32 : (x 1).toInt ≤ -1
                                · skip
                                  exact ⟨_, List.mem_of_getElem? (i := 109) rfl, ⟨⟨rfl, b0, c0⟩, ⟨rfl, b1, c1⟩, ⟨rfl, by show (1 : Int) ≤ (v 2).toInt; omega, c2⟩, ⟨rfl, b3, c3⟩, ⟨rfl, by show (1 : Int) ≤ (v 4).toInt; omega, c4⟩, ⟨rfl, b5, c5⟩, ⟨rfl, b6, c6⟩, ⟨rfl, b7, c7⟩, trivial⟩, ⟨⟨rfl, by show (2 : Int) ≤ (x 0).toInt; omega, by show (x 0).toInt ≤ (2 : Int); omega⟩, ⟨rfl, a1.1, by show (x 1).toInt ≤ (-1 : Int); omega⟩, ⟨rfl, by show (1 : Int) ≤ (x 2).toInt; omega, by show (x 2).toInt ≤ (1 : Int); omega⟩, ⟨rfl, a3.1, a3.2⟩, ⟨rfl, by show (0 : Int) ≤ (x 4).toInt; omega, by show (x 4).toInt ≤ (20 : Int); omega⟩, trivial⟩, ⟨la_n_tri h22 h22g, ⟨la_p_le (a := x 4) (b := v 5) (by omega), ⟨la_p_le (a := x 4) (b := v 3) (by omega), trivial⟩⟩⟩⟩
                                · skip
                                  by_cases h34 : mm_P2 .gt (x 1) (v 5 - x 4) = true
                                  · skip
                                    exact ⟨_, List.mem_of_getElem? (i := 110) rfl, ⟨⟨rfl, b0, c0⟩, ⟨rfl, b1, c1⟩, ⟨rfl, by show (1 : Int) ≤ (v 2).toInt; omega, c2⟩, ⟨rfl, b3, c3⟩, ⟨rfl, by show (1 : Int) ≤ (v 4).toInt; omega, c4⟩, ⟨rfl, b5, c5⟩, ⟨rfl, b6, c6⟩, ⟨rfl, b7, c7⟩, trivial⟩, ⟨⟨rfl, by show (2 : Int) ≤ (x 0).toInt; omega, by show (x 0).toInt ≤ (2 : Int); omega⟩, ⟨rfl, by show (0 : Int) ≤ (x 1).toInt; omega, a1.2⟩, ⟨rfl, by show (1 : Int) ≤ (x 2).toInt; omega, by show (x 2).toInt ≤ (1 : Int); omega⟩, ⟨rfl, a3.1, a3.2⟩, ⟨rfl, by show (0 : Int) ≤ (x 4).toInt; omega, by show (x 4).toInt ≤ (20 : Int); omega⟩, trivial⟩, ⟨la_n_tri h22 h22g, ⟨la_p_le (a := x 4) (b := v 5) (by omega), ⟨la_p_le (a := x 4) (b := v 3) (by omega), ⟨h34, trivial⟩⟩⟩⟩⟩
                                  · skip
                                    by_cases h36 : (x 3).toInt ≤ -1
                                    · skip
                                      exact ⟨_, List.mem_of_getElem? (i := 111) rfl, ⟨⟨rfl, b0, c0⟩, ⟨rfl, b1, c1⟩, ⟨rfl, by show (1 : Int) ≤ (v 2).toInt; omega, c2⟩, ⟨rfl, b3, c3⟩, ⟨rfl, by show (1 : Int) ≤ (v 4).toInt; omega, c4⟩, ⟨rfl, b5, c5⟩, ⟨rfl, b6, c6⟩, ⟨rfl, b7, c7⟩, trivial⟩, ⟨⟨rfl, by show (2 : Int) ≤ (x 0).toInt; omega, by show (x 0).toInt ≤ (2 : Int); omega⟩, ⟨rfl, by show (0 : Int) ≤ (x 1).toInt; omega, a1.2⟩, ⟨rfl, by show (1 : Int) ≤ (x 2).toInt; omega, by show (x 2).toInt ≤ (1 : Int); omega⟩, ⟨rfl, a3.1, by show (x 3).toInt ≤ (-1 : Int); omega⟩, ⟨rfl, by show (0 : Int) ≤ (x 4).toInt; omega, by show (x 4).toInt ≤ (20 : Int); omega⟩, trivial⟩, ⟨la_n_tri h22 h22g, ⟨la_p_le (a := x 4) (b := v 5) (by omega), ⟨la_p_le (a := x 4) (b := v 3) (by omega), ⟨la_n_gt h34, trivial⟩⟩⟩⟩⟩
                                    · skip
                                      by_cases h38 : mm_P2 .gt (x 3) (v 3 - x 4) = true
                                      · skip
                                        exact ⟨_, List.mem_of_getElem? (i := 112) rfl, ⟨⟨rfl, b0, c0⟩, ⟨rfl, b1, c1⟩, ⟨rfl, by show (1 : Int) ≤ (v 2).toInt; omega, c2⟩, ⟨rfl, b3, c3⟩, ⟨rfl, by show (1 : Int) ≤ (v 4).toInt; omega, c4⟩, ⟨rfl, b5, c5⟩, ⟨rfl, b6, c6⟩, ⟨rfl, b7, c7⟩, trivial⟩, ⟨⟨rfl, by show (2 : Int) ≤ (x 0).toInt; omega, by show (x 0).toInt ≤ (2 : Int); omega⟩, ⟨rfl, by show (0 : Int) ≤ (x 1).toInt; omega, a1.2⟩, ⟨rfl, by show (1 : Int) ≤ (x 2).toInt; omega, by show (x 2).toInt ≤ (1 : Int); omega⟩, ⟨rfl, by show (0 : Int) ≤ (x 3).toInt; omega, a3.2⟩, ⟨rfl, by show (0 : Int) ≤ (x 4).toInt; omega, by show (x 4).toInt ≤ (20 : Int); omega⟩, trivial⟩, ⟨la_n_tri h22 h22g, ⟨la_p_le (a := x 4) (b := v 5) (by omega), ⟨la_p_le (a := x 4) (b := v 3) (by omega), ⟨la_n_gt h34, ⟨h38, trivial⟩⟩⟩⟩⟩⟩
                                      · skip
                                        exact ⟨_, List.mem_of_getElem? (i := 113) rfl, ⟨⟨rfl, b0, c0⟩, ⟨rfl, b1, c1⟩, ⟨rfl, by show (1 : Int) ≤ (v 2).toInt; omega, c2⟩, ⟨rfl, b3, c3⟩, ⟨rfl, by show (1 : Int) ≤ (v 4).toInt; omega, c4⟩, ⟨rfl, b5, c5⟩, ⟨rfl, b6, c6⟩, ⟨rfl, b7, c7⟩, trivial⟩, ⟨⟨rfl, by show (2 : Int) ≤ (x 0).toInt; omega, by show (x 0).toInt ≤ (2 : Int); omega⟩, ⟨rfl, by show (0 : Int) ≤ (x 1).toInt; omega, a1.2⟩, ⟨rfl, by show (1 : Int) ≤ (x 2).toInt; omega, by show (x 2).toInt ≤ (1 : Int); omega⟩, ⟨rfl, by show (0 : Int) ≤ (x 3).toInt; omega, a3.2⟩, ⟨rfl, by show (0 : Int) ≤ (x 4).toInt; omega, by show (x 4).toInt ≤ (20 : Int); omega⟩, trivial⟩, ⟨la_n_tri h22 h22g, ⟨la_p_le (a := x 4) (b := v 5) (by omega), ⟨la_p_le (a := x 4) (b := v 3) (by omega), ⟨la_n_gt h34, ⟨la_n_gt h38, trivial⟩⟩⟩⟩⟩⟩
              · skip
                by_cases h16 : (x 2).toInt ≤ 2
                · skip
                  by_cases h18 : (v 4).toInt ≤ 0
                  · skip
                    exact ⟨_, List.mem_of_getElem? (i := 114) rfl, ⟨⟨rfl, b0, c0⟩, ⟨rfl, b1, c1⟩, ⟨rfl, b2, c2⟩, ⟨rfl, b3, c3⟩, ⟨rfl, b4, by show (v 4).toInt ≤ (0 : Int); omega⟩, ⟨rfl, b5, c5⟩, ⟨rfl, b6, c6⟩, ⟨rfl, b7, c7⟩, trivial⟩, ⟨⟨rfl, by show (2 : Int) ≤ (x 0).toInt; omega, by show (x 0).toInt ≤ (2 : Int); omega⟩, ⟨rfl, a1.1, a1.2⟩, ⟨rfl, by show (2 : Int) ≤ (x 2).toInt; omega, by show (x 2).toInt ≤ (2 : Int); omega⟩, ⟨rfl, a3.1, a3.2⟩, ⟨rfl, a4.1, a4.2⟩, trivial⟩, trivial⟩
                  · skip
                    by_cases h20 : (x 4).toInt ≤ -1
                    · skip
                      exact ⟨_, List.mem_of_getElem? (i := 115) rfl, ⟨⟨rfl, b0, c0⟩, ⟨rfl, b1, c1⟩, ⟨rfl, b2, c2⟩, ⟨rfl, b3, c3⟩, ⟨rfl, by show (1 : Int) ≤ (v 4).toInt; omega, c4⟩, ⟨rfl, b5, c5⟩, ⟨rfl, b6, c6⟩, ⟨rfl, b7, c7⟩, trivial⟩, ⟨⟨rfl, by show (2 : Int) ≤ (x 0).toInt; omega, by show (x 0).toInt ≤ (2 : Int); omega⟩, ⟨rfl, a1.1, a1.2⟩, ⟨rfl, by show (2 : Int) ≤ (x 2).toInt; omega, by show (x 2).toInt ≤ (2 : Int); omega⟩, ⟨rfl, a3.1, a3.2⟩, ⟨rfl, a4.1, by show (x 4).toInt ≤ (-1 : Int); omega⟩, trivial⟩, trivial⟩
                    · skip
                      by_cases h22 : (v 5).toInt < (x 4).toInt
                      · skip
                        exact ⟨_, List.mem_of_getElem? (i := 116) rfl, ⟨⟨rfl, b0, c0⟩, ⟨rfl, b1, c1⟩, ⟨rfl, b2, c2⟩, ⟨rfl, b3, c3⟩, ⟨rfl, by show (1 : Int) ≤ (v 4).toInt; omega, c4⟩, ⟨rfl, b5, c5⟩, ⟨rfl, b6, c6⟩, ⟨rfl, b7, c7⟩, trivial⟩, ⟨⟨rfl, by show (2 : Int) ≤ (x 0).toInt; omega, by show (x 0).toInt ≤ (2 : Int); omega⟩, ⟨rfl, a1.1, a1.2⟩, ⟨rfl, by show (2 : Int) ≤ (x 2).toInt; omega, by show (x 2).toInt ≤ (2 : Int); omega⟩, ⟨rfl, a3.1, a3.2⟩, ⟨rfl, by show (1 : Int) ≤ (x 4).toInt; omega, a4.2⟩, trivial⟩, ⟨la_p_gt (a := x 4) (b := v 5) (by omega), trivial⟩⟩
                      · skip
                        by_cases h24 : (x 1).toInt ≤ -1
                        · skip
                          exact ⟨_, List.mem_of_getElem? (i := 117) rfl, ⟨⟨rfl, b0, c0⟩, ⟨rfl, b1, c1⟩, ⟨rfl, b2, c2⟩, ⟨rfl, b3, c3⟩, ⟨rfl, by show (1 : Int) ≤ (v 4).toInt; omega, c4⟩, ⟨rfl, b5, c5⟩, ⟨rfl, b6, c6⟩, ⟨rfl, b7, c7⟩, trivial⟩, ⟨⟨rfl, by show (2 : Int) ≤ (x 0).toInt; omega, by show (x 0).toInt ≤ (2 : Int); omega⟩, ⟨rfl, a1.1, by show (x 1).toInt ≤ (-1 : Int); omega⟩, ⟨rfl, by show (2 : Int) ≤ (x 2).toInt; omega, by show (x 2).toInt ≤ (2 : Int); omega⟩, ⟨rfl, a3.1, a3.2⟩, ⟨rfl, by show (0 : Int) ≤ (x 4).toInt; omega, by show (x 4).toInt ≤ (20 : Int); omega⟩, trivial⟩, ⟨la_p_le (a := x 4) (b := v 5) (by omega), trivial⟩⟩
                        · skip
                          by_cases h26 : mm_P2 .gt (x 1) (v 5 - x 4) = true
                          · skip
                            exact ⟨_, List.mem_of_getElem? (i := 118) rfl, ⟨⟨rfl, b0, c0⟩, ⟨rfl, b1, c1⟩, ⟨rfl, b2, c2⟩, ⟨rfl, b3, c3⟩, ⟨rfl, by show (1 : Int) ≤ (v 4).toInt; omega, c4⟩, ⟨rfl, b5, c5⟩, ⟨rfl, b6, c6⟩, ⟨rfl, b7, c7⟩, trivial⟩, ⟨⟨rfl, by show (2 : Int) ≤ (x 0).toInt; omega, by show (x 0).toInt ≤ (2 : Int); omega⟩, ⟨rfl, by show (0 : Int) ≤ (x 1).toInt; omega, a1.2⟩, ⟨rfl, by show (2 : Int) ≤ (x 2).toInt; omega, by show (x 2).toInt ≤ (2 : Int); omega⟩, ⟨rfl, a3.1, a3.2⟩, ⟨rfl, by show (0 : Int) ≤ (x 4).toInt; omega, by show (x 4).toInt ≤ (20 : Int); omega⟩, trivial⟩, ⟨la_p_le (a := x 4) (b := v 5) (by omega), ⟨h26, trivial⟩⟩⟩
                          · skip
                            by_cases h28 : (x 3).toInt ≤ -1
                            · skip
                              exact ⟨_, List.mem_of_getElem? (i := 119) rfl, ⟨⟨rfl, b0, c0⟩, ⟨rfl, b1, c1⟩, ⟨rfl, b2, c2⟩, ⟨rfl, b3, c3⟩, ⟨rfl, by show (1 : Int) ≤ (v 4).toInt; omega, c4⟩, ⟨rfl, b5, c5⟩, ⟨rfl, b6, c6⟩, ⟨rfl, b7, c7⟩, trivial⟩, ⟨⟨rfl, by show (2 : Int) ≤ (x 0).toInt; omega, by show (x 0).toInt ≤ (2 : Int); omega⟩, ⟨rfl, by show (0 : Int) ≤ (x 1).toInt; omega, a1.2⟩, ⟨rfl, by show (2 : Int) ≤ (x 2).toInt; omega, by show (x 2).toInt ≤ (2 : Int); omega⟩, ⟨rfl, a3.1, by show (x 3).toInt ≤ (-1 : Int); omega⟩, ⟨rfl, by show (0 : Int) ≤ (x 4).toInt; omega, by show (x 4).toInt ≤ (20 : Int); omega⟩, trivial⟩, ⟨la_p_le (a := x 4) (b := v 5) (by omega), ⟨la_n_gt h26, trivial⟩⟩⟩
                            · skip
                              by_cases h30 : mm_P2 .gt (x 3) (v 5 - x 4) = true
                              · skip
                                exact ⟨_, List.mem_of_getElem? (i := 120) rfl, ⟨⟨rfl, b0, c0⟩, ⟨rfl, b1, c1⟩, ⟨rfl, b2, c2⟩, ⟨rfl, b3, c3⟩, ⟨rfl, by show (1 : Int) ≤ (v 4).toInt; omega, c4⟩, ⟨rfl, b5, c5⟩, ⟨rfl, b6, c6⟩, ⟨rfl, b7, c7⟩, trivial⟩, ⟨⟨rfl, by show (2 : Int) ≤ (x 0).toInt; omega, by show (x 0).toInt ≤ (2 : Int); omega⟩, ⟨rfl, by show (0 : Int) ≤ (x 1).toInt; omega, a1.2⟩, ⟨rfl, by show (2 : Int) ≤ (x 2).toInt; omega, by show (x 2).toInt ≤ (2 : Int); omega⟩, ⟨rfl, by show (0 : Int) ≤ (x 3).toInt; omega, a3.2⟩, ⟨rfl, by show (0 : Int) ≤ (x 4).toInt; omega, by show (x 4).toInt ≤ (20 : Int); omega⟩, trivial⟩, ⟨la_p_le (a := x 4) (b := v 5) (by omega), ⟨la_n_gt h26, ⟨h30, trivial⟩⟩⟩⟩
                              · skip
                                exact ⟨_, List.mem_of_getElem? (i := 121) rfl, ⟨⟨rfl, b0, c0⟩, ⟨rfl, b1, c1⟩, ⟨rfl, b2, c2⟩, ⟨rfl, b3, c3⟩, ⟨rfl, by show (1 : Int) ≤ (v 4).toInt; omega, c4⟩, ⟨rfl, b5, c5⟩, ⟨rfl, b6, c6⟩, ⟨rfl, b7, c7⟩, trivial⟩, ⟨⟨rfl, by show (2 : Int) ≤ (x 0).toInt; omega, by show (x 0).toInt ≤ (2 : Int); omega⟩, ⟨rfl, by show (0 : Int) ≤ (x 1).toInt; omega, a1.2⟩, ⟨rfl, by show (2 : Int) ≤ (x 2).toInt; omega, by show (x 2).toInt ≤ (2 : Int); omega⟩, ⟨rfl, by show (0 : Int) ≤ (x 3).toInt; omega, a3.2⟩, ⟨rfl, by show (0 : Int) ≤ (x 4).toInt; omega, by show (x 4).toInt ≤ (20 : Int); omega⟩, trivial⟩, ⟨la_p_le (a := x 4) (b := v 5) (by omega), ⟨la_n_gt h26, ⟨la_n_gt h30, trivial⟩⟩⟩⟩
                · skip
                  by_cases h18 : (v 4).toInt ≤ 0
                  · skip
                    exact ⟨_, List.mem_of_getElem? (i := 122) rfl, ⟨⟨rfl, b0, c0⟩, ⟨rfl, b1, c1⟩, ⟨rfl, b2, c2⟩, ⟨rfl, b3, c3⟩, ⟨rfl, b4, by show (v 4).toInt ≤ (0 : Int); omega⟩, ⟨rfl, b5, c5⟩, ⟨rfl, b6, c6⟩, ⟨rfl, b7, c7⟩, trivial⟩, ⟨⟨rfl, by show (2 : Int) ≤ (x 0).toInt; omega, by show (x 0).toInt ≤ (2 : Int); omega⟩, ⟨rfl, a1.1, a1.2⟩, ⟨rfl, by show (3 : Int) ≤ (x 2).toInt; omega, by show (x 2).toInt ≤ (3 : Int); omega⟩, ⟨rfl, a3.1, a3.2⟩, ⟨rfl, a4.1, a4.2⟩, trivial⟩, trivial⟩
                  · skip
                    by_cases h20 : (v 6).toInt ≤ 0
                    · skip
                      exact ⟨_, List.mem_of_getElem? (i := 123) rfl, ⟨⟨rfl, b0, c0⟩, ⟨rfl, b1, c1⟩, ⟨rfl, b2, c2⟩, ⟨rfl, b3, c3⟩, ⟨rfl, by show (1 : Int) ≤ (v 4).toInt; omega, c4⟩, ⟨rfl, b5, c5⟩, ⟨rfl, b6, by show (v 6).toInt ≤ (0 : Int); omega⟩, ⟨rfl, b7, c7⟩, trivial⟩, ⟨⟨rfl, by show (2 : Int) ≤ (x 0).toInt; omega, by show (x 0).toInt ≤ (2 : Int); omega⟩, ⟨rfl, a1.1, a1.2⟩, ⟨rfl, by show (3 : Int) ≤ (x 2).toInt; omega, by show (x 2).toInt ≤ (3 : Int); omega⟩, ⟨rfl, a3.1, a3.2⟩, ⟨rfl, a4.1, a4.2⟩, trivial⟩, trivial⟩
                    · skip
                      by_cases h22 : mm_P2 .lt (v 4) (v 6) = true
                      · skip
                        exact ⟨_, List.mem_of_getElem? (i := 124) rfl, ⟨⟨rfl, b0, c0⟩, ⟨rfl, b1, c1⟩, ⟨rfl, b2, c2⟩, ⟨rfl, b3, c3⟩, ⟨rfl, by show (1 : Int) ≤ (v 4).toInt; omega, c4⟩, ⟨rfl, b5, c5⟩, ⟨rfl, by show (1 : Int) ≤ (v 6).toInt; omega, c6⟩, ⟨rfl, b7, c7⟩, trivial⟩, ⟨⟨rfl, by show (2 : Int) ≤ (x 0).toInt; omega, by show (x 0).toInt ≤ (2 : Int); omega⟩, ⟨rfl, a1.1, a1.2⟩, ⟨rfl, by show (3 : Int) ≤ (x 2).toInt; omega, by show (x 2).toInt ≤ (3 : Int); omega⟩, ⟨rfl, a3.1, a3.2⟩, ⟨rfl, a4.1, a4.2⟩, trivial⟩, ⟨h22, trivial⟩⟩
                      · skip
                        by_cases h22g : mm_P2 .gt (v 4) (v 6) = true
                        · skip
                          exact ⟨_, List.mem_of_getElem? (i := 125) rfl, ⟨⟨rfl, b0, c0⟩, ⟨rfl, b1, c1⟩, ⟨rfl, b2, c2⟩, ⟨rfl, b3, c3⟩, ⟨rfl, by show (1 : Int) ≤ (v 4).toInt; omega, c4⟩, ⟨rfl, b5, c5⟩, ⟨rfl, by show (1 : Int) ≤ (v 6).toInt; omega, c6⟩, ⟨rfl, b7, c7⟩, trivial⟩, ⟨⟨rfl, by show (2 : Int) ≤ (x 0).toInt; omega, by show (x 0).toInt ≤ (2 : Int); omega⟩, ⟨rfl, a1.1, a1.2⟩, ⟨rfl, by show (3 : Int) ≤ (x 2).toInt; omega, by show (x 2).toInt ≤ (3 : Int); omega⟩, ⟨rfl, a3.1, a3.2⟩, ⟨rfl, a4.1, a4.2⟩, trivial⟩, ⟨h22g, trivial⟩⟩
                        · skip
                          by_cases h26 : (x 4).toInt ≤ -1
                          · skip
                            exact ⟨_, List.mem_of_getElem? (i := 126) rfl, ⟨⟨rfl, b0, c0⟩, ⟨rfl, b1, c1⟩, ⟨rfl, b2, c2⟩, ⟨rfl, b3, c3⟩, ⟨rfl, by show (1 : Int) ≤ (v 4).toInt; omega, c4⟩, ⟨rfl, b5, c5⟩, ⟨rfl, by show (1 : Int) ≤ (v 6).toInt; omega, c6⟩, ⟨rfl, b7, c7⟩, trivial⟩, ⟨⟨rfl, by show (2 : Int) ≤ (x 0).toInt; omega, by show (x 0).toInt ≤ (2 : Int); omega⟩, ⟨rfl, a1.1, a1.2⟩, ⟨rfl, by show (3 : Int) ≤ (x 2).toInt; omega, by show (x 2).toInt ≤ (3 : Int); omega⟩, ⟨rfl, a3.1, a3.2⟩, ⟨rfl, a4.1, by show (x 4).toInt ≤ (-1 : Int); omega⟩, trivial⟩, ⟨la_n_tri h22 h22g, trivial⟩⟩
                          · skip
                            by_cases h28 : (v 5).toInt < (x 4).toInt
                            · skip
                              exact ⟨_, List.mem_of_getElem? (i := 127) rfl, ⟨⟨rfl, b0, c0⟩, ⟨rfl, b1, c1⟩, ⟨rfl, b2, c2⟩, ⟨rfl, b3, c3⟩, ⟨rfl, by show (1 : Int) ≤ (v 4).toInt; omega, c4⟩, ⟨rfl, b5, c5⟩, ⟨rfl, by show (1 : Int) ≤ (v 6).toInt; omega, c6⟩, ⟨rfl, b7, c7⟩, trivial⟩, ⟨⟨rfl, by show (2 : Int) ≤ (x 0).toInt; omega, by show (x 0).toInt ≤ (2 : Int); omega⟩, ⟨rfl, a1.1, a1.2⟩, ⟨rfl, by show (3 : Int) ≤ (x 2).toInt; omega, by show (x 2).toInt ≤ (3 : Int); omega⟩, ⟨rfl, a3.1, a3.2⟩, ⟨rfl, by show (1 : Int) ≤ (x 4).toInt; omega, a4.2⟩, trivial⟩, ⟨la_n_tri h22 h22g, ⟨la_p_gt (a := x 4) (b := v 5) (by omega), trivial⟩⟩⟩
                            · skip
                              by_cases h30 : (v 7).toInt < (x 4).toInt
                              · skip
                                exact ⟨_, List.mem_of_getElem? (i := 128) rfl, ⟨⟨rfl, b0, c0⟩, ⟨rfl, b1, c1⟩, ⟨rfl, b2, c2⟩, ⟨rfl, b3, c3⟩, ⟨rfl, by show (1 : Int) ≤ (v 4).toInt; omega, c4⟩, ⟨rfl, b5, c5⟩, ⟨rfl, by show (1 : Int) ≤ (v 6).toInt; omega, c6⟩, ⟨rfl, b7, c7⟩, trivial⟩, ⟨⟨rfl, by show (2 : Int) ≤ (x 0).toInt; omega, by show (x 0).toInt ≤ (2 : Int); omega⟩, ⟨rfl, a1.1, a1.2⟩, ⟨rfl, by show (3 : Int) ≤ (x 2).toInt; omega, by show (x 2).toInt ≤ (3 : Int); omega⟩, ⟨rfl, a3.1, a3.2⟩, ⟨rfl, by show (1 : Int) ≤ (x 4).toInt; omega, by show (x 4).toInt ≤ (20 : Int); omega⟩, trivial⟩, ⟨la_n_tri h22 h22g, ⟨la_p_le (a := x 4) (b := v 5) (by omega), ⟨la_p_gt (a := x 4) (b := v 7) (by omega), trivial⟩⟩⟩⟩
                              · skip
                                by_cases h32 : (x 1).toInt ≤ -1
                                · skip
                                  exact ⟨_, List.mem_of_getElem? (i := 129) rfl, ⟨⟨rfl, b0, c0⟩, ⟨rfl, b1, c1⟩, ⟨rfl, b2, c2⟩, ⟨rfl, b3, c3⟩, ⟨rfl, by show (1 : Int) ≤ (v 4).toInt; omega, c4⟩, ⟨rfl, b5, c5⟩, ⟨rfl, by show (1 : Int) ≤ (v 6).toInt; omega, c6⟩, ⟨rfl, b7, c7⟩, trivial⟩, ⟨⟨rfl, by show (2 : Int) ≤ (x 0).toInt; omega, by show (x 0).toInt ≤ (2 : Int); omega⟩, ⟨rfl, a1.1, by show (x 1).toInt ≤ (-1 : Int); omega⟩, ⟨rfl, by show (3 : Int) ≤ (x 2).toInt; omega, by show (x 2).toInt ≤ (3 : Int); omega⟩, ⟨rfl, a3.1, a3.2⟩, ⟨rfl, by show (0 : Int) ≤ (x 4).toInt; omega, by show (x 4).toInt ≤ (20 : Int); omega⟩, trivial⟩, ⟨la_n_tri h22 h22g, ⟨la_p_le (a := x 4) (b := v 5) (by omega), ⟨la_p_le (a := x 4) (b := v 7) (by omega), trivial⟩⟩⟩⟩
                                · skip
                                  by_cases h34 : mm_P2 .gt (x 1) (v 5 - x 4) = true
                                  · skip
                                    exact ⟨_, List.mem_of_getElem? (i := 130) rfl, ⟨⟨rfl, b0, c0⟩, ⟨rfl, b1, c1⟩, ⟨rfl, b2, c2⟩, ⟨rfl, b3, c3⟩, ⟨rfl, by show (1 : Int) ≤ (v 4).toInt; omega, c4⟩, ⟨rfl, b5, c5⟩, ⟨rfl, by show (1 : Int) ≤ (v 6).toInt; omega, c6⟩, ⟨rfl, b7, c7⟩, trivial⟩, ⟨⟨rfl, by show (2 : Int) ≤ (x 0).toInt; omega, by show (x 0).toInt ≤ (2 : Int); omega⟩, ⟨rfl, by show (0 : Int) ≤ (x 1).toInt; omega, a1.2⟩, ⟨rfl, by show (3 : Int) ≤ (x 2).toInt; omega, by show (x 2).toInt ≤ (3 : Int); omega⟩, ⟨rfl, a3.1, a3.2⟩, ⟨rfl, by show (0 : Int) ≤ (x 4).toInt; omega, by show (x 4).toInt ≤ (20 : Int); omega⟩, trivial⟩, ⟨la_n_tri h22 h22g, ⟨la_p_le (a := x 4) (b := v 5) (by omega), ⟨la_p_le (a := x 4) (b := v 7) (by omega), ⟨h34, trivial⟩⟩⟩⟩⟩
                                  · skip
                                    by_cases h36 : (x 3).toInt ≤ -1
                                    · skip
                                      exact ⟨_, List.mem_of_getElem? (i := 131) rfl, ⟨⟨rfl, b0, c0⟩, ⟨rfl, b1, c1⟩, ⟨rfl, b2, c2⟩, ⟨rfl, b3, c3⟩, ⟨rfl, by show (1 : Int) ≤ (v 4).toInt; omega, c4⟩, ⟨rfl, b5, c5⟩, ⟨rfl, by show (1 : Int) ≤ (v 6).toInt; omega, c6⟩, ⟨rfl, b7, c7⟩, trivial⟩, ⟨⟨rfl, by show (2 : Int) ≤ (x 0).toInt; omega, by show (x 0).toInt ≤ (2 : Int); omega⟩, ⟨rfl, by show (0 : Int) ≤ (x 1).toInt; omega, a1.2⟩, ⟨rfl, by show (3 : Int) ≤ (x 2).toInt; omega, by show (x 2).toInt ≤ (3 : Int); omega⟩, ⟨rfl, a3.1, by show (x 3).toInt ≤ (-1 : Int); omega⟩, ⟨rfl, by show (0 : Int) ≤ (x 4).toInt; omega, by show (x 4).toInt ≤ (20 : Int); omega⟩, trivial⟩, ⟨la_n_tri h22 h22g, ⟨la_p_le (a := x 4) (b := v 5) (by omega), ⟨la_p_le (a := x 4) (b := v 7) (by omega), ⟨la_n_gt h34, trivial⟩⟩⟩⟩⟩
                                    · skip
                                      by_cases h38 : mm_P2 .gt (x 3) (v 7 - x 4) = true
                                      · skip
                                        exact ⟨_, List.mem_of_getElem? (i := 132) rfl, ⟨⟨rfl, b0, c0⟩, ⟨rfl, b1, c1⟩, ⟨rfl, b2, c2⟩, ⟨rfl, b3, c3⟩, ⟨rfl, by show (1 : Int) ≤ (v 4).toInt; omega, c4⟩, ⟨rfl, b5, c5⟩, ⟨rfl, by show (1 : Int) ≤ (v 6).toInt; omega, c6⟩, ⟨rfl, b7, c7⟩, trivial⟩, ⟨⟨rfl, by show (2 : Int) ≤ (x 0).toInt; omega, by show (x 0).toInt ≤ (2 : Int); omega⟩, ⟨rfl, by show (0 : Int) ≤ (x 1).toInt; omega, a1.2⟩, ⟨rfl, by show (3 : Int) ≤ (x 2).toInt; omega, by show (x 2).toInt ≤ (3 : Int); omega⟩, ⟨rfl, by show (0 : Int) ≤ (x 3).toInt; omega, a3.2⟩, ⟨rfl, by show (0 : Int) ≤ (x 4).toInt; omega, by show (x 4).toInt ≤ (20 : Int); omega⟩, trivial⟩, ⟨la_n_tri h22 h22g, ⟨la_p_le (a := x 4) (b := v 5) (by omega), ⟨la_p_le (a := x 4) (b := v 7) (by omega), ⟨la_n_gt h34, ⟨h38, trivial⟩⟩⟩⟩⟩⟩
                                      · skip
                                        exact ⟨_, List.mem_of_getElem? (i := 133) rfl, ⟨⟨rfl, b0, c0⟩, ⟨rfl, b1, c1⟩, ⟨rfl, b2, c2⟩, ⟨rfl, b3, c3⟩, ⟨rfl, by show (1 : Int) ≤ (v 4).toInt; omega, c4⟩, ⟨rfl, b5, c5⟩, ⟨rfl, by show (1 : Int) ≤ (v 6).toInt; omega, c6⟩, ⟨rfl, b7, c7⟩, trivial⟩, ⟨⟨rfl, by show (2 : Int) ≤ (x 0).toInt; omega, by show (x 0).toInt ≤ (2 : Int); omega⟩, ⟨rfl, by show (0 : Int) ≤ (x 1).toInt; omega, a1.2⟩, ⟨rfl, by show (3 : Int) ≤ (x 2).toInt; omega, by show (x 2).toInt ≤ (3 : Int); omega⟩, ⟨rfl, by show (0 : Int) ≤ (x 3).toInt; omega, a3.2⟩, ⟨rfl, by show (0 : Int) ≤ (x 4).toInt; omega, by show (x 4).toInt ≤ (20 : Int); omega⟩, trivial⟩, ⟨la_n_tri h22 h22g, ⟨la_p_le (a := x 4) (b := v 5) (by omega), ⟨la_p_le (a := x 4) (b := v 7) (by omega), ⟨la_n_gt h34, ⟨la_n_gt h38, trivial⟩⟩⟩⟩⟩⟩
            · skip
              by_cases h14 : (x 2).toInt ≤ 1
              · skip
                by_cases h16 : (x 2).toInt ≤ 0
                · skip
                  by_cases h18 : (v 6).toInt ≤ 0
                  · skip
                    exact ⟨_, List.mem_of_getElem? (i := 134) rfl, ⟨⟨rfl, b0, c0⟩, ⟨rfl, b1, c1⟩, ⟨rfl, b2, c2⟩, ⟨rfl, b3, c3⟩, ⟨rfl, b4, c4⟩, ⟨rfl, b5, c5⟩, ⟨rfl, b6, by show (v 6).toInt ≤ (0 : Int); omega⟩, ⟨rfl, b7, c7⟩, trivial⟩, ⟨⟨rfl, by show (3 : Int) ≤ (x 0).toInt; omega, by show (x 0).toInt ≤ (3 : Int); omega⟩, ⟨rfl, a1.1, a1.2⟩, ⟨rfl, by show (0 : Int) ≤ (x 2).toInt; omega, by show (x 2).toInt ≤ (0 : Int); omega⟩, ⟨rfl, a3.1, a3.2⟩, ⟨rfl, a4.1, a4.2⟩, trivial⟩, trivial⟩
                  · skip
                    by_cases h20 : (v 0).toInt ≤ 0
                    · skip
                      exact ⟨_, List.mem_of_getElem? (i := 135) rfl, ⟨⟨rfl, b0, by show (v 0).toInt ≤ (0 : Int); omega⟩, ⟨rfl, b1, c1⟩, ⟨rfl, b2, c2⟩, ⟨rfl, b3, c3⟩, ⟨rfl, b4, c4⟩, ⟨rfl, b5, c5⟩, ⟨rfl, by show (1 : Int) ≤ (v 6).toInt; omega, c6⟩, ⟨rfl, b7, c7⟩, trivial⟩, ⟨⟨rfl, by show (3 : Int) ≤ (x 0).toInt; omega, by show (x 0).toInt ≤ (3 : Int); omega⟩, ⟨rfl, a1.1, a1.2⟩, ⟨rfl, by show (0 : Int) ≤ (x 2).toInt; omega, by show (x 2).toInt ≤ (0 : Int); omega⟩, ⟨rfl, a3.1, a3.2⟩, ⟨rfl, a4.1, a4.2⟩, trivial⟩, trivial⟩
                    · skip
                      by_cases h22 : mm_P2 .lt (v 6) (v 0) = true
                      · skip
                        exact ⟨_, List.mem_of_getElem? (i := 136) rfl, ⟨⟨rfl, by show (1 : Int) ≤ (v 0).toInt; omega, c0⟩, ⟨rfl, b1, c1⟩, ⟨rfl, b2, c2⟩, ⟨rfl, b3, c3⟩, ⟨rfl, b4, c4⟩, ⟨rfl, b5, c5⟩, ⟨rfl, by show (1 : Int) ≤ (v 6).toInt; omega, c6⟩, ⟨rfl, b7, c7⟩, trivial⟩, ⟨⟨rfl, by show (3 : Int) ≤ (x 0).toInt; omega, by show (x 0).toInt ≤ (3 : Int); omega⟩, ⟨rfl, a1.1, a1.2⟩, ⟨rfl, by show (0 : Int) ≤ (x 2).toInt; omega, by show (x 2).toInt ≤ (0 : Int); omega⟩, ⟨rfl, a3.1, a3.2⟩, ⟨rfl, a4.1, a4.2⟩, trivial⟩, ⟨h22, trivial⟩⟩
                      · skip
                        by_cases h22g : mm_P2 .gt (v 6) (v 0) = true
                        · skip
                          exact ⟨_, List.mem_of_getElem? (i := 137) rfl, ⟨⟨rfl, by show (1 : Int) ≤ (v 0).toInt; omega, c0⟩, ⟨rfl, b1, c1⟩, ⟨rfl, b2, c2⟩, ⟨rfl, b3, c3⟩, ⟨rfl, b4, c4⟩, ⟨rfl, b5, c5⟩, ⟨rfl, by show (1 : Int) ≤ (v 6).toInt; omega, c6⟩, ⟨rfl, b7, c7⟩, trivial⟩, ⟨⟨rfl, by show (3 : Int) ≤ (x 0).toInt; omega, by show (x 0).toInt ≤ (3 : Int); omega⟩, ⟨rfl, a1.1, a1.2⟩, ⟨rfl, by show (0 : Int) ≤ (x 2).toInt; omega, by show (x 2).toInt ≤ (0 : Int); omega⟩, ⟨rfl, a3.1, a3.2⟩, ⟨rfl, a4.1, a4.2⟩, trivial⟩, ⟨h22g, trivial⟩⟩
                        · skip
                          by_cases h26 : (x 4).toInt ≤ -1
                          · skip
                            exact ⟨_, List.mem_of_getElem? (i := 138) rfl, ⟨⟨rfl, by show (1 : Int) ≤ (v 0).toInt; omega, c0⟩, ⟨rfl, b1, c1⟩, ⟨rfl, b2, c2⟩, ⟨rfl, b3, c3⟩, ⟨rfl, b4, c4⟩, ⟨rfl, b5, c5⟩, ⟨rfl, by show (1 : Int) ≤ (v 6).toInt; omega, c6⟩, ⟨rfl, b7, c7⟩, trivial⟩, ⟨⟨rfl, by show (3 : Int) ≤ (x 0).toInt; omega, by show (x 0).toInt ≤ (3 : Int); omega⟩, ⟨rfl, a1.1, a1.2⟩, ⟨rfl, by show (0 : Int) ≤ (x 2).toInt; omega, by show (x 2).toInt ≤ (0 : Int); omega⟩, ⟨rfl, a3.1, a3.2⟩, ⟨rfl, a4.1, by show (x 4).toInt ≤ (-1 : Int); omega⟩, trivial⟩, ⟨la_n_tri h22 h22g, trivial⟩⟩
                          · skip
                            by_cases h28 : (v 7).toInt < (x 4).toInt
                            · skip
                              exact ⟨_, List.mem_of_getElem? (i := 139) rfl, ⟨⟨rfl, by show (1 : Int) ≤ (v 0).toInt; omega, c0⟩, ⟨rfl, b1, c1⟩, ⟨rfl, b2, c2⟩, ⟨rfl, b3, c3⟩, ⟨rfl, b4, c4⟩, ⟨rfl, b5, c5⟩, ⟨rfl, by show (1 : Int) ≤ (v 6).toInt; omega, c6⟩, ⟨rfl, b7, c7⟩, trivial⟩, ⟨⟨rfl, by show (3 : Int) ≤ (x 0).toInt; omega, by show (x 0).toInt ≤ (3 : Int); omega⟩, ⟨rfl, a1.1, a1.2⟩, ⟨rfl, by show (0 : Int) ≤ (x 2).toInt; omega, by show (x 2).toInt ≤ (0 : Int); omega⟩, ⟨rfl, a3.1, a3.2⟩, ⟨rfl, by show (1 : Int) ≤ (x 4).toInt; omega, a4.2⟩, trivial⟩, ⟨la_n_tri h22 h22g, ⟨la_p_gt (a := x 4) (b := v 7) (by omega), trivial⟩⟩⟩
                            · skip
                              by_cases h30 : (v 1).toInt < (x 4).toInt
                              · skip
                                exact ⟨_, List.mem_of_getElem? (i := 140) rfl, ⟨⟨rfl, by show (1 : Int) ≤ (v 0).toInt; omega, c0⟩, ⟨rfl, b1, c1⟩, ⟨rfl, b2, c2⟩, ⟨rfl, b3, c3⟩, ⟨rfl, b4, c4⟩, ⟨rfl, b5, c5⟩, ⟨rfl, by show (1 : Int) ≤ (v 6).toInt; omega, c6⟩, ⟨rfl, b7, c7⟩, trivial⟩, ⟨⟨rfl, by show (3 : Int) ≤ (x 0).toInt; omega, by show (x 0).toInt ≤ (3 : Int); omega⟩, ⟨rfl, a1.1, a1.2⟩, ⟨rfl, by show (0 : Int) ≤ (x 2).toInt; omega, by show (x 2).toInt ≤ (0 : Int); omega⟩, ⟨rfl, a3.1, a3.2⟩, ⟨rfl, by show (1 : Int) ≤ (x 4).toInt; omega, by show (x 4).toInt ≤ (20 : Int); omega⟩, trivial⟩, ⟨la_n_tri h22 h22g, ⟨la_p_le (a := x 4) (b := v 7) (by omega), ⟨la_p_gt (a := x 4) (b := v 1) (by omega), trivial⟩⟩⟩⟩
                              · skip
                                by_cases h32 : (x 1).toInt ≤ -1
                                · skip
                                  exact ⟨_, List.mem_of_getElem? (i := 141) rfl, ⟨⟨rfl, by show (1 : Int) ≤ (v 0).toInt; omega, c0⟩, ⟨rfl, b1, c1⟩, ⟨rfl, b2, c2⟩, ⟨rfl, b3, c3⟩, ⟨rfl, b4, c4⟩, ⟨rfl, b5, c5⟩, ⟨rfl, by show (1 : Int) ≤ (v 6).toInt; omega, c6⟩, ⟨rfl, b7, c7⟩, trivial⟩, ⟨⟨rfl, by show (3 : Int) ≤ (x 0).toInt; omega, by show (x 0).toInt ≤ (3 : Int); omega⟩, ⟨rfl, a1.1, by show (x 1).toInt ≤ (-1 : Int); omega⟩, ⟨rfl, by show (0 : Int) ≤ (x 2).toInt; omega, by show (x 2).toInt ≤ (0 : Int); omega⟩, ⟨rfl, a3.1, a3.2⟩, ⟨rfl, by show (0 : Int) ≤ (x 4).toInt; omega, by show (x 4).toInt ≤ (20 : Int); omega⟩, trivial⟩, ⟨la_n_tri h22 h22g, ⟨la_p_le (a := x 4) (b := v 7) (by omega), ⟨la_p_le (a := x 4) (b := v 1) (by omega), trivial⟩⟩⟩⟩
                                · skip
                                  by_cases h34 : mm_P2 .gt (x 1) (v 7 - x 4) = true
                                  · skip
                                    exact ⟨_, List.mem_of_getElem? (i := 142) rfl, ⟨⟨rfl, by show (1 : Int) ≤ (v 0).toInt; omega, c0⟩, ⟨rfl, b1, c1⟩, ⟨rfl, b2, c2⟩, ⟨rfl, b3, c3⟩, ⟨rfl, b4, c4⟩, ⟨rfl, b5, c5⟩, ⟨rfl, by show (1 : Int) ≤ (v 6).toInt; omega, c6⟩, ⟨rfl, b7, c7⟩, trivial⟩, ⟨⟨rfl, by show (3 : Int) ≤ (x 0).toInt; omega, by show (x 0).toInt ≤ (3 : Int); omega⟩, ⟨rfl, by show (0 : Int) ≤ (x 1).toInt; omega, a1.2⟩, ⟨rfl, by show (0 : Int) ≤ (x 2).toInt; omega, by show (x 2).toInt ≤ (0 : Int); omega⟩, ⟨rfl, a3.1, a3.2⟩, ⟨rfl, by show (0 : Int) ≤ (x 4).toInt; omega, by show (x 4).toInt ≤ (20 : Int); omega⟩, trivial⟩, ⟨la_n_tri h22 h22g, ⟨la_p_le (a := x 4) (b := v 7) (by omega), ⟨la_p_le (a := x 4) (b := v 1) (by omega), ⟨h34, trivial⟩⟩⟩⟩⟩
                                  · skip
                                    by_cases h36 : (x 3).toInt ≤ -1
                                    · skip
                                      exact ⟨_, List.mem_of_getElem? (i := 143) rfl, ⟨⟨rfl, by show (1 : Int) ≤ (v 0).toInt; omega, c0⟩, ⟨rfl, b1, c1⟩, ⟨rfl, b2, c2⟩, ⟨rfl, b3, c3⟩, ⟨rfl, b4, c4⟩, ⟨rfl, b5, c5⟩, ⟨rfl, by show (1 : Int) ≤ (v 6).toInt; omega, c6⟩, ⟨rfl, b7, c7⟩, trivial⟩, ⟨⟨rfl, by show (3 : Int) ≤ (x 0).toInt; omega, by show (x 0).toInt ≤ (3 : Int); omega⟩, ⟨rfl, by show (0 : Int) ≤ (x 1).toInt; omega, a1.2⟩, ⟨rfl, by show (0 : Int) ≤ (x 2).toInt; omega, by show (x 2).toInt ≤ (0 : Int); omega⟩, ⟨rfl, a3.1, by show (x 3).toInt ≤ (-1 : Int); omega⟩, ⟨rfl, by show (0 : Int) ≤ (x 4).toInt; omega, by show (x 4).toInt ≤ (20 : Int); omega⟩, trivial⟩, ⟨la_n_tri h22 h22g, ⟨la_p_le (a := x 4) (b := v 7) (by omega), ⟨la_p_le (a := x 4) (b := v 1) (by omega), ⟨la_n_gt h34, trivial⟩⟩⟩⟩⟩
                                    · skip
                                      by_cases h38 : mm_P2 .gt (x 3) (v 1 - x 4) = true
                                      · skip
                                        exact ⟨_, List.mem_of_getElem? (i := 144) rfl, ⟨⟨rfl, by show (1 : Int) ≤ (v 0).toInt; omega, c0⟩, ⟨rfl, b1, c1⟩, ⟨rfl, b2, c2⟩, ⟨rfl, b3, c3⟩, ⟨rfl, b4, c4⟩, ⟨rfl, b5, c5⟩, ⟨rfl, by show (1 : Int) ≤ (v 6).toInt; omega, c6⟩, ⟨rfl, b7, c7⟩, trivial⟩, ⟨⟨rfl, by show (3 : Int) ≤ (x 0).toInt; omega, by show (x 0).toInt ≤ (3 : Int); omega⟩, ⟨rfl, by show (0 : Int) ≤ (x 1).toInt; omega, a1.2⟩, ⟨rfl, by show (0 : Int) ≤ (x 2).toInt; omega, by show (x 2).toInt ≤ (0 : Int); omega⟩, ⟨rfl, by show (0 : Int) ≤ (x 3).toInt; omega, a3.2⟩, ⟨rfl, by show (0 : Int) ≤ (x 4).toInt; omega, by show (x 4).toInt ≤ (20 : Int); omega⟩, trivial⟩, ⟨la_n_tri h22 h22g, ⟨la_p_le (a := x 4) (b := v 7) (by omega), ⟨la_p_le (a := x 4) (b := v 1) (by omega), ⟨la_n_gt h34, ⟨h38, trivial⟩⟩⟩⟩⟩⟩
                                      · skip
                                        exact ⟨_, List.mem_of_getElem? (i := 145) rfl, ⟨⟨rfl, by show (1 : Int) ≤ (v 0).toInt; omega, c0⟩, ⟨rfl, b1, c1⟩, ⟨rfl, b2, c2⟩, ⟨rfl, b3, c3⟩, ⟨rfl, b4, c4⟩, ⟨rfl, b5, c5⟩, ⟨rfl, by show (1 : Int) ≤ (v 6).toInt; omega, c6⟩, ⟨rfl, b7, c7⟩, trivial⟩, ⟨⟨rfl, by show (3 : Int) ≤ (x 0).toInt; omega, by show (x 0).toInt ≤ (3 : Int); omega⟩, ⟨rfl, by show (0 : Int) ≤ (x 1).toInt; omega, a1.2⟩, ⟨rfl, by show (0 : Int) ≤ (x 2).toInt; omega, by show (x 2).toInt ≤ (0 : Int); omega⟩, ⟨rfl, by show (0 : Int) ≤ (x 3).toInt; omega, a3.2⟩, ⟨rfl, by show (0 : Int) ≤ (x 4).toInt; omega, by show (x 4).toInt ≤ (20 : Int); omega⟩, trivial⟩, ⟨la_n_tri h22 h22g, ⟨la_p_le (a := x 4) (b := v 7) (by omega), ⟨la_p_le (a := x 4) (b := v 1) (by omega), ⟨la_n_gt h34, ⟨la_n_gt h38, trivial⟩⟩⟩⟩⟩⟩
                · skip
                  by_cases h18 : (v 6).toInt ≤ 0
                  · skip
                    exact ⟨_, List.mem_of_getElem? (i := 146) rfl, ⟨⟨rfl, b0, c0⟩, ⟨rfl, b1, c1⟩, ⟨rfl, b2, c2⟩, ⟨rfl, b3, c3⟩, ⟨rfl, b4, c4⟩, ⟨rfl, b5, c5⟩, ⟨rfl, b6, by show (v 6).toInt ≤ (0 : Int); omega⟩, ⟨rfl, b7, c7⟩, trivial⟩, ⟨⟨rfl, by show (3 : Int) ≤ (x 0).toInt; omega, by show (x 0).toInt ≤ (3 : Int); omega⟩, ⟨rfl, a1.1, a1.2⟩, ⟨rfl, by show (1 : Int) ≤ (x 2).toInt; omega, by show (x 2).toInt ≤ (1 : Int); omega⟩, ⟨rfl, a3.1, a3.2⟩, ⟨rfl, a4.1, a4.2⟩, trivial⟩, trivial⟩
                  · skip
                    by_cases h20 : (v 2).toInt ≤ 0
                    · skip
                      exact ⟨_, List.mem_of_getElem? (i := 147) rfl, ⟨⟨rfl, b0, c0⟩, ⟨rfl, b1, c1⟩, ⟨rfl, b2, by show (v 2).toInt ≤ (0 : Int); omega⟩, ⟨rfl, b3, c3⟩, ⟨rfl, b4, c4⟩, ⟨rfl, b5, c5⟩, ⟨rfl, by show (1 : Int) ≤ (v 6).toInt; omega, c6⟩, ⟨rfl, b7, c7⟩, trivial⟩, ⟨⟨rfl, by show (3 : Int) ≤ (x 0).toInt; omega, by show (x 0).toInt ≤ (3 : Int); omega⟩, ⟨rfl, a1.1, a1.2⟩, ⟨rfl, by show (1 : Int) ≤ (x 2).toInt; omega, by show (x 2).toInt ≤ (1 : Int); omega⟩, ⟨rfl, a3.1, a3.2⟩, ⟨rfl, a4.1, a4.2⟩, trivial⟩, trivial⟩
                    · skip
                      by_cases h22 : mm_P2 .lt (v 6) (v 2) = true
                      · skip
                        exact ⟨_, List.mem_of_getElem? (i := 148) rfl, ⟨⟨rfl, b0, c0⟩, ⟨rfl, b1, c1⟩, ⟨rfl, by show (1 : Int) ≤ (v 2).toInt; omega, c2⟩, ⟨rfl, b3, c3⟩, ⟨rfl, b4, c4⟩, ⟨rfl, b5, c5⟩, ⟨rfl, by show (1 : Int) ≤ (v 6).toInt; omega, c6⟩, ⟨rfl, b7, c7⟩, trivial⟩, ⟨⟨rfl, by show (3 : Int) ≤ (x 0).toInt; omega, by show (x 0).toInt ≤ (3 : Int); omega⟩, ⟨rfl, a1.1, a1.2⟩, ⟨rfl, by show (1 : Int) ≤ (x 2).toInt; omega, by show (x 2).toInt ≤ (1 : Int); omega⟩, ⟨rfl, a3.1, a3.2⟩, ⟨rfl, a4.1, a4.2⟩, trivial⟩, ⟨h22, trivial⟩⟩
                      · skip
                        by_cases h22g : mm_P2 .gt (v 6) (v 2) = true
                        · skip
                          exact ⟨_, List.mem_of_getElem? (i := 149) rfl, ⟨⟨rfl, b0, c0⟩, ⟨rfl, b1, c1⟩, ⟨rfl, by show (1 : Int) ≤ (v 2).toInt; omega, c2⟩, ⟨rfl, b3, c3⟩, ⟨rfl, b4, c4⟩, ⟨rfl, b5, c5⟩, ⟨rfl, by show (1 : Int) ≤ (v 6).toInt; omega, c6⟩, ⟨rfl, b7, c7⟩, trivial⟩, ⟨⟨rfl, by show (3 : Int) ≤ (x 0).toInt; omega, by show (x 0).toInt ≤ (3 : Int); omega⟩, ⟨rfl, a1.1, a1.2⟩, ⟨rfl, by show (1 : Int) ≤ (x 2).toInt; omega, by show (x 2).toInt ≤ (1 : Int); omega⟩, ⟨rfl, a3.1, a3.2⟩, ⟨rfl, a4.1, a4.2⟩, trivial⟩, ⟨h22g, trivial⟩⟩
                        · skip
                          by_cases h26 : (x 4).toInt ≤ -1
                          · skip
                            exact ⟨_, List.mem_of_getElem? (i := 150) rfl, ⟨⟨rfl, b0, c0⟩, ⟨rfl, b1, c1⟩, ⟨rfl, by show (1 : Int) ≤ (v 2).toInt; omega, c2⟩, ⟨rfl, b3, c3⟩, ⟨rfl, b4, c4⟩, ⟨rfl, b5, c5⟩, ⟨rfl, by show (1 : Int) ≤ (v 6).toInt; omega, c6⟩, ⟨rfl, b7, c7⟩, trivial⟩, ⟨⟨rfl, by show (3 : Int) ≤ (x 0).toInt; omega, by show (x 0).toInt ≤ (3 : Int); omega⟩, ⟨rfl, a1.1, a1.2⟩, ⟨rfl, by show (1 : Int) ≤ (x 2).toInt; omega, by show (x 2).toInt ≤ (1 : Int); omega⟩, ⟨rfl, a3.1, a3.2⟩, ⟨rfl, a4.1, by show (x 4).toInt ≤ (-1 : Int); omega⟩, trivial⟩, ⟨la_n_tri h22 h22g, trivial⟩⟩
                          · skip
                            by_cases h28 : (v 7).toInt < (x 4).toInt
                            · skip
                              exact ⟨_, List.mem_of_getElem? (i := 151) rfl, ⟨⟨rfl, b0, c0⟩, ⟨rfl, b1, c1⟩, ⟨rfl, by show (1 : Int) ≤ (v 2).toInt; omega, c2⟩, ⟨rfl, b3, c3⟩, ⟨rfl, b4, c4⟩, ⟨rfl, b5, c5⟩, ⟨rfl, by show (1 : Int) ≤ (v 6).toInt; omega, c6⟩, ⟨rfl, b7, c7⟩, trivial⟩, ⟨⟨rfl, by show (3 : Int) ≤ (x 0).toInt; omega, by show (x 0).toInt ≤ (3 : Int); omega⟩, ⟨rfl, a1.1, a1.2⟩, ⟨rfl, by show (1 : Int) ≤ (x 2).toInt; omega, by show (x 2).toInt ≤ (1 : Int); omega⟩, ⟨rfl, a3.1, a3.2⟩, ⟨rfl, by show (1 : Int) ≤ (x 4).toInt; omega, a4.2⟩, trivial⟩, ⟨la_n_tri h22 h22g, ⟨la_p_gt (a := x 4) (b := v 7) (by omega), trivial⟩⟩⟩
                            · skip
                              by_cases h30 : (v 3).toInt < (x 4).toInt
                              · skip
                                exact ⟨_, List.mem_of_getElem? (i := 152) rfl, ⟨⟨rfl, b0, c0⟩, ⟨rfl, b1, c1⟩, ⟨rfl, by show (1 : Int) ≤ (v 2).toInt; omega, c2⟩, ⟨rfl, b3, c3⟩, ⟨rfl, b4, c4⟩, ⟨rfl, b5, c5⟩, ⟨rfl, by show (1 : Int) ≤ (v 6).toInt; omega, c6⟩, ⟨rfl, b7, c7⟩, trivial⟩, ⟨⟨rfl, by show (3 : Int) ≤ (x 0).toInt; omega, by show (x 0).toInt ≤ (3 : Int); omega⟩, ⟨rfl, a1.1, a1.2⟩, ⟨rfl, by show (1 : Int) ≤ (x 2).toInt; omega, by show (x 2).toInt ≤ (1 : Int); omega⟩, ⟨rfl, a3.1, a3.2⟩, ⟨rfl, by show (1 : Int) ≤ (x 4).toInt; omega, by show (x 4).toInt ≤ (20 : Int); omega⟩, trivial⟩, ⟨la_n_tri h22 h22g, ⟨la_p_le (a := x 4) (b := v 7) (by omega), ⟨la_p_gt (a := x 4) (b := v 3) (by omega), trivial⟩⟩⟩⟩
                              · skip
                                by_cases h32 : (x 1).toInt ≤ -1
                                · skip
                                  exact ⟨_, List.mem_of_getElem? (i := 153) rfl, ⟨⟨rfl, b0, c0⟩, ⟨rfl, b1, c1⟩, ⟨rfl, by show (1 : Int) ≤ (v 2).toInt; omega, c2⟩, ⟨rfl, b3, c3⟩, ⟨rfl, b4, c4⟩, ⟨rfl, b5, c5⟩, ⟨rfl, by show (1 : Int) ≤ (v 6).toInt; omega, c6⟩, ⟨rfl, b7, c7⟩, trivial⟩, ⟨⟨rfl, by show (3 : Int) ≤ (x 0).toInt; omega, by show (x 0).toInt ≤ (3 : Int); omega⟩, ⟨rfl, a1.1, by show (x 1).toInt ≤ (-1 : Int); omega⟩, ⟨rfl, by show (1 : Int) ≤ (x 2).toInt; omega, by show (x 2).toInt ≤ (1 : Int); omega⟩, ⟨rfl, a3.1, a3.2⟩, ⟨rfl, by show (0 : Int) ≤ (x 4).toInt; omega, by show (x 4).toInt ≤ (20 : Int); omega⟩, trivial⟩, ⟨la_n_tri h22 h22g, ⟨la_p_le (a := x 4) (b := v 7) (by omega), ⟨la_p_le (a := x 4) (b := v 3) (by omega), trivial⟩⟩⟩⟩
                                · skip
                                  by_cases h34 : mm_P2 .gt (x 1) (v 7 - x 4) = true
                                  · skip
                                    exact ⟨_, List.mem_of_getElem? (i := 154) rfl, ⟨⟨rfl, b0, c0⟩, ⟨rfl, b1, c1⟩, ⟨rfl, by show (1 : Int) ≤ (v 2).toInt; omega, c2⟩, ⟨rfl, b3, c3⟩, ⟨rfl, b4, c4⟩, ⟨rfl, b5, c5⟩, ⟨rfl, by show (1 : Int) ≤ (v 6).toInt; omega, c6⟩, ⟨rfl, b7, c7⟩, trivial⟩, ⟨⟨rfl, by show (3 : Int) ≤ (x 0).toInt; omega, by show (x 0).toInt ≤ (3 : Int); omega⟩, ⟨rfl, by show (0 : Int) ≤ (x 1).toInt; omega, a1.2⟩, ⟨rfl, by show (1 : Int) ≤ (x 2).toInt; omega, by show (x 2).toInt ≤ (1 : Int); omega⟩, ⟨rfl, a3.1, a3.2⟩, ⟨rfl, by show (0 : Int) ≤ (x 4).toInt; omega, by show (x 4).toInt ≤ (20 : Int); omega⟩, trivial⟩, ⟨la_n_tri h22 h22g, ⟨la_p_le (a := x 4) (b := v 7) (by omega), ⟨la_p_le (a := x 4) (b := v 3) (by omega), ⟨h34, trivial⟩⟩⟩⟩⟩
                                  · skip
                                    by_cases h36 : (x 3).toInt ≤ -1
                                    · skip
                                      exact ⟨_, List.mem_of_getElem? (i := 155) rfl, ⟨⟨rfl, b0, c0⟩, ⟨rfl, b1, c1⟩, ⟨rfl, by show (1 : Int) ≤ (v 2).toInt; omega, c2⟩, ⟨rfl, b3, c3⟩, ⟨rfl, b4, c4⟩, ⟨rfl, b5, c5⟩, ⟨rfl, by show (1 : Int) ≤ (v 6).toInt; omega, c6⟩, ⟨rfl, b7, c7⟩, trivial⟩, ⟨⟨rfl, by show (3 : Int) ≤ (x 0).toInt; omega, by show (x 0).toInt ≤ (3 : Int); omega⟩, ⟨rfl, by show (0 : Int) ≤ (x 1).toInt; omega, a1.2⟩, ⟨rfl, by show (1 : Int) ≤ (x 2).toInt; omega, by show (x 2).toInt ≤ (1 : Int); omega⟩, ⟨rfl, a3.1, by show (x 3).toInt ≤ (-1 : Int); omega⟩, ⟨rfl, by show (0 : Int) ≤ (x 4).toInt; omega, by show (x 4).toInt ≤ (20 : Int); omega⟩, trivial⟩, ⟨la_n_tri h22 h22g, ⟨la_p_le (a := x 4) (b := v 7) (by omega), ⟨la_p_le (a := x 4) (b := v 3) (by omega), ⟨la_n_gt h34, trivial⟩⟩⟩⟩⟩
                                    · skip
                                      by_cases h38 : mm_P2 .gt (x 3) (v 3 - x 4) = true
                                      · skip
                                        exact ⟨_, List.mem_of_getElem? (i := 156) rfl, ⟨⟨rfl, b0, c0⟩, ⟨rfl, b1, c1⟩, ⟨rfl, by show (1 : Int) ≤ (v 2).toInt; omega, c2⟩, ⟨rfl, b3, c3⟩, ⟨rfl, b4, c4⟩, ⟨rfl, b5, c5⟩, ⟨rfl, by show (1 : Int) ≤ (v 6).toInt; omega, c6⟩, ⟨rfl, b7, c7⟩, trivial⟩, ⟨⟨rfl, by show (3 : Int) ≤ (x 0).toInt; omega, by show (x 0).toInt ≤ (3 : Int); omega⟩, ⟨rfl, by show (0 : Int) ≤ (x 1).toInt; omega, a1.2⟩, ⟨rfl, by show (1 : Int) ≤ (x 2).toInt; omega, by show (x 2).toInt ≤ (1 : Int); omega⟩, ⟨rfl, by show (0 : Int) ≤ (x 3).toInt; omega, a3.2⟩, ⟨rfl, by show (0 : Int) ≤ (x 4).toInt; omega, by show (x 4).toInt ≤ (20 : Int); omega⟩, trivial⟩, ⟨la_n_tri h22 h22g, ⟨la_p_le (a := x 4) (b := v 7) (by omega), ⟨la_p_le (a := x 4) (b := v 3) (by omega), ⟨la_n_gt h34, ⟨h38, trivial⟩⟩⟩⟩⟩⟩
                                      · skip
                                        exact ⟨_, List.mem_of_getElem? (i := 157) rfl, ⟨⟨rfl, b0, c0⟩, ⟨rfl, b1, c1⟩, ⟨rfl, by show (1 : Int) ≤ (v 2).toInt; omega, c2⟩, ⟨rfl, b3, c3⟩, ⟨rfl, b4, c4⟩, ⟨rfl, b5, c5⟩, ⟨rfl, by show (1 : Int) ≤ (v 6).toInt; omega, c6⟩, ⟨rfl, b7, c7⟩, trivial⟩, ⟨⟨rfl, by show (3 : Int) ≤ (x 0).toInt; omega, by show (x 0).toInt ≤ (3 : Int); omega⟩, ⟨rfl, by show (0 : Int) ≤ (x 1).toInt; omega, a1.2⟩, ⟨rfl, by show (1 : Int) ≤ (x 2).toInt; omega, by show (x 2).toInt ≤ (1 : Int); omega⟩, ⟨rfl, by show (0 : Int) ≤ (x 3).toInt; omega, a3.2⟩, ⟨rfl, by show (0 : Int) ≤ (x 4).toInt; omega, by show (x 4).toInt ≤ (20 : Int); omega⟩, trivial⟩, ⟨la_n_tri h22 h22g, ⟨la_p_le (a := x 4) (b := v 7) (by omega), ⟨la_p_le (a := x 4) (b := v 3) (by omega), ⟨la_n_gt h34, ⟨la_n_gt h38, trivial⟩⟩⟩⟩⟩⟩
              · skip
                by_cases h16 : (x 2).toInt ≤ 2
                · skip
                  by_cases h18 : (v 6).toInt ≤ 0
                  · skip
                    exact ⟨_, List.mem_of_getElem? (i := 158) rfl, ⟨⟨rfl, b0, c0⟩, ⟨rfl, b1, c1⟩, ⟨rfl, b2, c2⟩, ⟨rfl, b3, c3⟩, ⟨rfl, b4, c4⟩, ⟨rfl, b5, c5⟩, ⟨rfl, b6, by show (v 6).toInt ≤ (0 : Int); omega⟩, ⟨rfl, b7, c7⟩, trivial⟩, ⟨⟨rfl, by show (3 : Int) ≤ (x 0).toInt; omega, by show (x 0).toInt ≤ (3 : Int); omega⟩, ⟨rfl, a1.1, a1.2⟩, ⟨rfl, by show (2 : Int) ≤ (x 2).toInt; omega, by show (x 2).toInt ≤ (2 : Int); omega⟩, ⟨rfl, a3.1, a3.2⟩, ⟨rfl, a4.1, a4.2⟩, trivial⟩, trivial⟩
                  · skip
                    by_cases h20 : (v 4).toInt ≤ 0
                    · skip
                      exact ⟨_, List.mem_of_getElem? (i := 159) rfl, ⟨⟨rfl, b0, c0⟩, ⟨rfl, b1, c1⟩, ⟨rfl, b2, c2⟩, ⟨rfl, b3, c3⟩, ⟨rfl, b4, by show (v 4).toInt ≤ (0 : Int); omega⟩, ⟨rfl, b5, c5⟩, ⟨rfl, by show (1 : Int) ≤ (v 6).toInt; omega, c6⟩, ⟨rfl, b7, c7⟩, trivial⟩, ⟨⟨rfl, by show (3 : Int) ≤ (x 0).toInt; omega, by show (x 0).toInt ≤ (3 : Int); omega⟩, ⟨rfl, a1.1, a1.2⟩, ⟨rfl, by show (2 : Int) ≤ (x 2).toInt; omega, by show (x 2).toInt ≤ (2 : Int); omega⟩, ⟨rfl, a3.1, a3.2⟩, ⟨rfl, a4.1, a4.2⟩, trivial⟩, trivial⟩
                    · skip
                      by_cases h22 : mm_P2 .lt (v 6) (v 4) = true
                      · skip
                        exact ⟨_, List.mem_of_getElem? (i := 160) rfl, ⟨⟨rfl, b0, c0⟩, ⟨rfl, b1, c1⟩, ⟨rfl, b2, c2⟩, ⟨rfl, b3, c3⟩, ⟨rfl, by show (1 : Int) ≤ (v 4).toInt; omega, c4⟩, ⟨rfl, b5, c5⟩, ⟨rfl, by show (1 : Int) ≤ (v 6).toInt; omega, c6⟩, ⟨rfl, b7, c7⟩, trivial⟩, ⟨⟨rfl, by show (3 : Int) ≤ (x 0).toInt; omega, by show (x 0).toInt ≤ (3 : Int); omega⟩, ⟨rfl, a1.1, a1.2⟩, ⟨rfl, by show (2 : Int) ≤ (x 2).toInt; omega, by show (x 2).toInt ≤ (2 : Int); omega⟩, ⟨rfl, a3.1, a3.2⟩, ⟨rfl, a4.1, a4.2⟩, trivial⟩, ⟨h22, trivial⟩⟩
                      · skip
                        by_cases h22g : mm_P2 .gt (v 6) (v 4) = true
                        · skip
                          exact ⟨_, List.mem_of_getElem? (i := 161) rfl, ⟨⟨rfl, b0, c0⟩, ⟨rfl, b1, c1⟩, ⟨rfl, b2, c2⟩, ⟨rfl, b3, c3⟩, ⟨rfl, by show (1 : Int) ≤ (v 4).toInt; omega, c4⟩, ⟨rfl, b5, c5⟩, ⟨rfl, by show (1 : Int) ≤ (v 6).toInt; omega, c6⟩, ⟨rfl, b7, c7⟩, trivial⟩, ⟨⟨rfl, by show (3 : Int) ≤ (x 0).toInt; omega, by show (x 0).toInt ≤ (3 : Int); omega⟩, ⟨rfl, a1.1, a1.2⟩, ⟨rfl, by show (2 : Int) ≤ (x 2).toInt; omega, by show (x 2).toInt ≤ (2 : Int); omega⟩, ⟨rfl, a3.1, a3.2⟩, ⟨rfl, a4.1, a4.2⟩, trivial⟩, ⟨h22g, trivial⟩⟩
                        · skip
                          by_cases h26 : (x 4).toInt ≤ -1
                          · skip
                            exact ⟨_, List.mem_of_getElem? (i := 162) rfl, ⟨⟨rfl, b0, c0⟩, ⟨rfl, b1, c1⟩, ⟨rfl, b2, c2⟩, ⟨rfl, b3, c3⟩, ⟨rfl, by show (1 : Int) ≤ (v 4).toInt; omega, c4⟩, ⟨rfl, b5, c5⟩, ⟨rfl, by show (1 : Int) ≤ (v 6).toInt; omega, c6⟩, ⟨rfl, b7, c7⟩, trivial⟩, ⟨⟨rfl, by show (3 : Int) ≤ (x 0).toInt; omega, by show (x 0).toInt ≤ (3 : Int); omega⟩, ⟨rfl, a1.1, a1.2⟩, ⟨rfl, by show (2 : Int) ≤ (x 2).toInt; omega, by show (x 2).toInt ≤ (2 : Int); omega⟩, ⟨rfl, a3.1, a3.2⟩, ⟨rfl, a4.1, by show (x 4).toInt ≤ (-1 : Int); omega⟩, trivial⟩, ⟨la_n_tri h22 h22g, trivial⟩⟩
                          · skip
                            by_cases h28 : (v 7).toInt < (x 4).toInt
                            · skip
                              exact ⟨_, List.mem_of_getElem? (i := 163) rfl, ⟨⟨rfl, b0, c0⟩, ⟨rfl, b1, c1⟩, ⟨rfl, b2, c2⟩, ⟨rfl, b3, c3⟩, ⟨rfl, by show (1 : Int) ≤ (v 4).toInt; omega, c4⟩, ⟨rfl, b5, c5⟩, ⟨rfl, by show (1 : Int) ≤ (v 6).toInt; omega, c6⟩, ⟨rfl, b7, c7⟩, trivial⟩, ⟨⟨rfl, by show (3 : Int) ≤ (x 0).toInt; omega, by show (x 0).toInt ≤ (3 : Int); omega⟩, ⟨rfl, a1.1, a1.2⟩, ⟨rfl, by show (2 : Int) ≤ (x 2).toInt; omega, by show (x 2).toInt ≤ (2 : Int); omega⟩, ⟨rfl, a3.1, a3.2⟩, ⟨rfl, by show (1 : Int) ≤ (x 4).toInt; omega, a4.2⟩, trivial⟩, ⟨la_n_tri h22 h22g, ⟨la_p_gt (a := x 4) (b := v 7) (by omega), trivial⟩⟩⟩
                            · skip
                              by_cases h30 : (v 5).toInt < (x 4).toInt
                              · skip
                                exact ⟨_, List.mem_of_getElem? (i := 164) rfl, ⟨⟨rfl, b0, c0⟩, ⟨rfl, b1, c1⟩, ⟨rfl, b2, c2⟩, ⟨rfl, b3, c3⟩, ⟨rfl, by show (1 : Int) ≤ (v 4).toInt; omega, c4⟩, ⟨rfl, b5, c5⟩, ⟨rfl, by show (1 : Int) ≤ (v 6).toInt; omega, c6⟩, ⟨rfl, b7, c7⟩, trivial⟩, ⟨⟨rfl, by show (3 : Int) ≤ (x 0).toInt; omega, by show (x 0).toInt ≤ (3 : Int); omega⟩, ⟨rfl, a1.1, a1.2⟩, ⟨rfl, by show (2 : Int) ≤ (x 2).toInt; omega, by show (x 2).toInt ≤ (2 : Int); omega⟩, ⟨rfl, a3.1, a3.2⟩, ⟨rfl, by show (1 : Int) ≤ (x 4).toInt; omega, by show (x 4).toInt ≤ (20 : Int); omega⟩, trivial⟩, ⟨la_n_tri h22 h22g, ⟨la_p_le (a := x 4) (b := v 7) (by omega), ⟨la_p_gt (a := x 4) (b := v 5) (by omega), trivial⟩⟩⟩⟩
                              · skip
                                by_cases h32 : (x 1).toInt ≤ -1
                                · skip
                                  exact ⟨_, List.mem_of_getElem? (i := 165) rfl, ⟨⟨rfl, b0, c0⟩, ⟨rfl, b1, c1⟩, ⟨rfl, b2, c2⟩, ⟨rfl, b3, c3⟩, ⟨rfl, by show (1 : Int) ≤ (v 4).toInt; omega, c4⟩, ⟨rfl, b5, c5⟩, ⟨rfl, by show (1 : Int) ≤ (v 6).toInt; omega, c6⟩, ⟨rfl, b7, c7⟩, trivial⟩, ⟨⟨rfl, by show (3 : Int) ≤ (x 0).toInt; omega, by show (x 0).toInt ≤ (3 : Int); omega⟩, ⟨rfl, a1.1, by show (x 1).toInt ≤ (-1 : Int); omega⟩, ⟨rfl, by show (2 : Int) ≤ (x 2).toInt; omega, by show (x 2).toInt ≤ (2 : Int); omega⟩, ⟨rfl, a3.1, a3.2⟩, ⟨rfl, by show (0 : Int) ≤ (x 4).toInt; omega, by show (x 4).toInt ≤ (20 : Int); omega⟩, trivial⟩, ⟨la_n_tri h22 h22g, ⟨la_p_le (a := x 4) (b := v 7) (by omega), ⟨la_p_le (a := x 4) (b := v 5) (by omega), trivial⟩⟩⟩⟩
                                · skip
                                  by_cases h34 : mm_P2 .gt (x 1) (v 7 - x 4) = true
                                  · skip
                                    exact ⟨_, List.mem_of_getElem? (i := 166) rfl, ⟨⟨rfl, b0, c0⟩, ⟨rfl, b1, c1⟩, ⟨rfl, b2, c2⟩, ⟨rfl, b3, c3⟩, ⟨rfl, by show (1 : Int) ≤ (v 4).toInt; omega, c4⟩, ⟨rfl, b5, c5⟩, ⟨rfl, by show (1 : Int) ≤ (v 6).toInt; omega, c6⟩, ⟨rfl, b7, c7⟩, trivial⟩, ⟨⟨rfl, by show (3 : Int) ≤ (x 0).toInt; omega, by show (x 0).toInt ≤ (3 : Int); omega⟩, ⟨rfl, by show (0 : Int) ≤ (x 1).toInt; omega, a1.2⟩, ⟨rfl, by show (2 : Int) ≤ (x 2).toInt; omega, by show (x 2).toInt ≤ (2 : Int); omega⟩, ⟨rfl, a3.1, a3.2⟩, ⟨rfl, by show (0 : Int) ≤ (x 4).toInt; omega, by show (x 4).toInt ≤ (20 : Int); omega⟩, trivial⟩, ⟨la_n_tri h22 h22g, ⟨la_p_le (a := x 4) (b := v 7) (by omega), ⟨la_p_le (a := x 4) (b := v 5) (by omega), ⟨h34, trivial⟩⟩⟩⟩⟩
                                  · skip
                                    by_cases h36 : (x 3).toInt ≤ -1
                                    · skip
                                      exact ⟨_, List.mem_of_getElem? (i := 167) rfl, ⟨⟨rfl, b0, c0⟩, ⟨rfl, b1, c1⟩, ⟨rfl, b2, c2⟩, ⟨rfl, b3, c3⟩, ⟨rfl, by show (1 : Int) ≤ (v 4).toInt; omega, c4⟩, ⟨rfl, b5, c5⟩, ⟨rfl, by show (1 : Int) ≤ (v 6).toInt; omega, c6⟩, ⟨rfl, b7, c7⟩, trivial⟩, ⟨⟨rfl, by show (3 : Int) ≤ (x 0).toInt; omega, by show (x 0).toInt ≤ (3 : Int); omega⟩, ⟨rfl, by show (0 : Int) ≤ (x 1).toInt; omega, a1.2⟩, ⟨rfl, by show (2 : Int) ≤ (x 2).toInt; omega, by show (x 2).toInt ≤ (2 : Int); omega⟩, ⟨rfl, a3.1, by show (x 3).toInt ≤ (-1 : Int); omega⟩, ⟨rfl, by show (0 : Int) ≤ (x 4).toInt; omega, by show (x 4).toInt ≤ (20 : Int); omega⟩, trivial⟩, ⟨la_n_tri h22 h22g, ⟨la_p_le (a := x 4) (b := v 7) (by omega), ⟨la_p_le (a := x 4) (b := v 5) (by omega), ⟨la_n_gt h34, trivial⟩⟩⟩⟩⟩
                                    · skip
                                      by_cases h38 : mm_P2 .gt (x 3) (v 5 - x 4) = true
                                      · skip
                                        exact ⟨_, List.mem_of_getElem? (i := 168) rfl, ⟨⟨rfl, b0, c0⟩, ⟨rfl, b1, c1⟩, ⟨rfl, b2, c2⟩, ⟨rfl, b3, c3⟩, ⟨rfl, by show (1 : Int) ≤ (v 4).toInt; omega, c4⟩, ⟨rfl, b5, c5⟩, ⟨rfl, by show (1 : Int) ≤ (v 6).toInt; omega, c6⟩, ⟨rfl, b7, c7⟩, trivial⟩, ⟨⟨rfl, by show (3 : Int) ≤ (x 0).toInt; omega, by show (x 0).toInt ≤ (3 : Int); omega⟩, ⟨rfl, by show (0 : Int) ≤ (x 1).toInt; omega, a1.2⟩, ⟨rfl, by show (2 : Int) ≤ (x 2).toInt; omega, by show (x 2).toInt ≤ (2 : Int); omega⟩, ⟨rfl, by show (0 : Int) ≤ (x 3).toInt; omega, a3.2⟩, ⟨rfl, by show (0 : Int) ≤ (x 4).toInt; omega, by show (x 4).toInt ≤ (20 : Int); omega⟩, trivial⟩, ⟨la_n_tri h22 h22g, ⟨la_p_le (a := x 4) (b := v 7) (by omega), ⟨la_p_le (a := x 4) (b := v 5) (by omega), ⟨la_n_gt h34, ⟨h38, trivial⟩⟩⟩⟩⟩⟩
                                      · skip
                                        exact ⟨_, List.mem_of_getElem? (i := 169) rfl, ⟨⟨rfl, b0, c0⟩, ⟨rfl, b1, c1⟩, ⟨rfl, b2, c2⟩, ⟨rfl, b3, c3⟩, ⟨rfl, by show (1 : Int) ≤ (v 4).toInt; omega, c4⟩, ⟨rfl, b5, c5⟩, ⟨rfl, by show (1 : Int) ≤ (v 6).toInt; omega, c6⟩, ⟨rfl, b7, c7⟩, trivial⟩, ⟨⟨rfl, by show (3 : Int) ≤ (x 0).toInt; omega, by show (x 0).toInt ≤ (3 : Int); omega⟩, ⟨rfl, by show (0 : Int) ≤ (x 1).toInt; omega, a1.2⟩, ⟨rfl, by show (2 : Int) ≤ (x 2).toInt; omega, by show (x 2).toInt ≤ (2 : Int); omega⟩, ⟨rfl, by show (0 : Int) ≤ (x 3).toInt; omega, a3.2⟩, ⟨rfl, by show (0 : Int) ≤ (x 4).toInt; omega, by show (x 4).toInt ≤ (20 : Int); omega⟩, trivial⟩, ⟨la_n_tri h22 h22g, ⟨la_p_le (a := x 4) (b := v 7) (by omega), ⟨la_p_le (a := x 4) (b := v 5) (by omega), ⟨la_n_gt h34, ⟨la_n_gt h38, trivial⟩⟩⟩⟩⟩⟩
                · skip
                  by_cases h18 : (v 6).toInt ≤ 0
                  · skip
                    exact ⟨_, List.mem_of_getElem? (i := 170) rfl, ⟨⟨rfl, b0, c0⟩, ⟨rfl, b1, c1⟩, ⟨rfl, b2, c2⟩, ⟨rfl, b3, c3⟩, ⟨rfl, b4, c4⟩, ⟨rfl, b5, c5⟩, ⟨rfl, b6, by show (v 6).toInt ≤ (0 : Int); omega⟩, ⟨rfl, b7, c7⟩, trivial⟩, ⟨⟨rfl, by show (3 : Int) ≤ (x 0).toInt; omega, by show (x 0).toInt ≤ (3 : Int); omega⟩, ⟨rfl, a1.1, a1.2⟩, ⟨rfl, by show (3 : Int) ≤ (x 2).toInt; omega, by show (x 2).toInt ≤ (3 : Int); omega⟩, ⟨rfl, a3.1, a3.2⟩, ⟨rfl, a4.1, a4.2⟩, trivial⟩, trivial⟩
                  · skip
                    by_cases h20 : (x 4).toInt ≤ -1
                    · skip
                      exact ⟨_, List.mem_of_getElem? (i := 171) rfl, ⟨⟨rfl, b0, c0⟩, ⟨rfl, b1, c1⟩, ⟨rfl, b2, c2⟩, ⟨rfl, b3, c3⟩, ⟨rfl, b4, c4⟩, ⟨rfl, b5, c5⟩, ⟨rfl, by show (1 : Int) ≤ (v 6).toInt; omega, c6⟩, ⟨rfl, b7, c7⟩, trivial⟩, ⟨⟨rfl, by show (3 : Int) ≤ (x 0).toInt; omega, by show (x 0).toInt ≤ (3 : Int); omega⟩, ⟨rfl, a1.1, a1.2⟩, ⟨rfl, by show (3 : Int) ≤ (x 2).toInt; omega, by show (x 2).toInt ≤ (3 : Int); omega⟩, ⟨rfl, a3.1, a3.2⟩, ⟨rfl, a4.1, by show (x 4).toInt ≤ (-1 : Int); omega⟩, trivial⟩, trivial⟩
                    · skip
                      by_cases h22 : (v 7).toInt < (x 4).toInt
                      · skip
                        exact ⟨_, List.mem_of_getElem? (i := 172) rfl, ⟨⟨rfl, b0, c0⟩, ⟨rfl, b1, c1⟩, ⟨rfl, b2, c2⟩, ⟨rfl, b3, c3⟩, ⟨rfl, b4, c4⟩, ⟨rfl, b5, c5⟩, ⟨rfl, by show (1 : Int) ≤ (v 6).toInt; omega, c6⟩, ⟨rfl, b7, c7⟩, trivial⟩, ⟨⟨rfl, by show (3 : Int) ≤ (x 0).toInt; omega, by show (x 0).toInt ≤ (3 : Int); omega⟩, ⟨rfl, a1.1, a1.2⟩, ⟨rfl, by show (3 : Int) ≤ (x 2).toInt; omega, by show (x 2).toInt ≤ (3 : Int); omega⟩, ⟨rfl, a3.1, a3.2⟩, ⟨rfl, by show (1 : Int) ≤ (x 4).toInt; omega, a4.2⟩, trivial⟩, ⟨la_p_gt (a := x 4) (b := v 7) (by omega), trivial⟩⟩
                      · skip
                        by_cases h24 : (x 1).toInt ≤ -1
                        · skip
                          exact ⟨_, List.mem_of_getElem? (i := 173) rfl, ⟨⟨rfl, b0, c0⟩, ⟨rfl, b1, c1⟩, ⟨rfl, b2, c2⟩, ⟨rfl, b3, c3⟩, ⟨rfl, b4, c4⟩, ⟨rfl, b5, c5⟩, ⟨rfl, by show (1 : Int) ≤ (v 6).toInt; omega, c6⟩, ⟨rfl, b7, c7⟩, trivial⟩, ⟨⟨rfl, by show (3 : Int) ≤ (x 0).toInt; omega, by show (x 0).toInt ≤ (3 : Int); omega⟩, ⟨rfl, a1.1, by show (x 1).toInt ≤ (-1 : Int); omega⟩, ⟨rfl, by show (3 : Int) ≤ (x 2).toInt; omega, by show (x 2).toInt ≤ (3 : Int); omega⟩, ⟨rfl, a3.1, a3.2⟩, ⟨rfl, by show (0 : Int) ≤ (x 4).toInt; omega, by show (x 4).toInt ≤ (20 : Int); omega⟩, trivial⟩, ⟨la_p_le (a := x 4) (b := v 7) (by omega), trivial⟩⟩
                        · skip
                          by_cases h26 : mm_P2 .gt (x 1) (v 7 - x 4) = true
                          · skip
                            exact ⟨_, List.mem_of_getElem? (i := 174) rfl, ⟨⟨rfl, b0, c0⟩, ⟨rfl, b1, c1⟩, ⟨rfl, b2, c2⟩, ⟨rfl, b3, c3⟩, ⟨rfl, b4, c4⟩, ⟨rfl, b5, c5⟩, ⟨rfl, by show (1 : Int) ≤ (v 6).toInt; omega, c6⟩, ⟨rfl, b7, c7⟩, trivial⟩, ⟨⟨rfl, by show (3 : Int) ≤ (x 0).toInt; omega, by show (x 0).toInt ≤ (3 : Int); omega⟩, ⟨rfl, by show (0 : Int) ≤ (x 1).toInt; omega, a1.2⟩, ⟨rfl, by show (3 : Int) ≤ (x 2).toInt; omega, by show (x 2).toInt ≤ (3 : Int); omega⟩, ⟨rfl, a3.1, a3.2⟩, ⟨rfl, by show (0 : Int) ≤ (x 4).toInt; omega, by show (x 4).toInt ≤ (20 : Int); omega⟩, trivial⟩, ⟨la_p_le (a := x 4) (b := v 7) (by omega), ⟨h26, trivial⟩⟩⟩
                          · skip
                            by_cases h28 : (x 3).toInt ≤ -1
                            · skip
                              exact ⟨_, List.mem_of_getElem? (i := 175) rfl, ⟨⟨rfl, b0, c0⟩, ⟨rfl, b1, c1⟩, ⟨rfl, b2, c2⟩, ⟨rfl, b3, c3⟩, ⟨rfl, b4, c4⟩, ⟨rfl, b5, c5⟩, ⟨rfl, by show (1 : Int) ≤ (v 6).toInt; omega, c6⟩, ⟨rfl, b7, c7⟩, trivial⟩, ⟨⟨rfl, by show (3 : Int) ≤ (x 0).toInt; omega, by show (x 0).toInt ≤ (3 : Int); omega⟩, ⟨rfl, by show (0 : Int) ≤ (x 1).toInt; omega, a1.2⟩, ⟨rfl, by show (3 : Int) ≤ (x 2).toInt; omega, by show (x 2).toInt ≤ (3 : Int); omega⟩, ⟨rfl, a3.1, by show (x 3).toInt ≤ (-1 : Int); omega⟩, ⟨rfl, by show (0 : Int) ≤ (x 4).toInt; omega, by show (x 4).toInt ≤ (20 : Int); omega⟩, trivial⟩, ⟨la_p_le (a := x 4) (b := v 7) (by omega), ⟨la_n_gt h26, trivial⟩⟩⟩
                            · skip
                              by_cases h30 : mm_P2 .gt (x 3) (v 7 - x 4) = true
                              · skip
                                exact ⟨_, List.mem_of_getElem? (i := 176) rfl, ⟨⟨rfl, b0, c0⟩, ⟨rfl, b1, c1⟩, ⟨rfl, b2, c2⟩, ⟨rfl, b3, c3⟩, ⟨rfl, b4, c4⟩, ⟨rfl, b5, c5⟩, ⟨rfl, by show (1 : Int) ≤ (v 6).toInt; omega, c6⟩, ⟨rfl, b7, c7⟩, trivial⟩, ⟨⟨rfl, by show (3 : Int) ≤ (x 0).toInt; omega, by show (x 0).toInt ≤ (3 : Int); omega⟩, ⟨rfl, by show (0 : Int) ≤ (x 1).toInt; omega, a1.2⟩, ⟨rfl, by show (3 : Int) ≤ (x 2).toInt; omega, by show (x 2).toInt ≤ (3 : Int); omega⟩, ⟨rfl, by show (0 : Int) ≤ (x 3).toInt; omega, a3.2⟩, ⟨rfl, by show (0 : Int) ≤ (x 4).toInt; omega, by show (x 4).toInt ≤ (20 : Int); omega⟩, trivial⟩, ⟨la_p_le (a := x 4) (b := v 7) (by omega), ⟨la_n_gt h26, ⟨h30, trivial⟩⟩⟩⟩
                              · skip
                                exact ⟨_, List.mem_of_getElem? (i := 177) rfl, ⟨⟨rfl, b0, c0⟩, ⟨rfl, b1, c1⟩, ⟨rfl, b2, c2⟩, ⟨rfl, b3, c3⟩, ⟨rfl, b4, c4⟩, ⟨rfl, b5, c5⟩, ⟨rfl, by show (1 : Int) ≤ (v 6).toInt; omega, c6⟩, ⟨rfl, b7, c7⟩, trivial⟩, ⟨⟨rfl, by show (3 : Int) ≤ (x 0).toInt; omega, by show (x 0).toInt ≤ (3 : Int); omega⟩, ⟨rfl, by show (0 : Int) ≤ (x 1).toInt; omega, a1.2⟩, ⟨rfl, by show (3 : Int) ≤ (x 2).toInt; omega, by show (x 2).toInt ≤ (3 : Int); omega⟩, ⟨rfl, by show (0 : Int) ≤ (x 3).toInt; omega, a3.2⟩, ⟨rfl, by show (0 : Int) ≤ (x 4).toInt; omega, by show (x 4).toInt ≤ (20 : Int); omega⟩, trivial⟩, ⟨la_p_le (a := x 4) (b := v 7) (by omega), ⟨la_n_gt h26, ⟨la_n_gt h30, trivial⟩⟩⟩⟩
      · skip
        exact ⟨_, List.mem_of_getElem? (i := 178) rfl, ⟨⟨rfl, b0, c0⟩, ⟨rfl, b1, c1⟩, ⟨rfl, b2, c2⟩, ⟨rfl, b3, c3⟩, ⟨rfl, b4, c4⟩, ⟨rfl, b5, c5⟩, ⟨rfl, b6, c6⟩, ⟨rfl, b7, c7⟩, trivial⟩, ⟨⟨rfl, by show (0 : Int) ≤ (x 0).toInt; omega, by show (x 0).toInt ≤ (3 : Int); omega⟩, ⟨rfl, a1.1, a1.2⟩, ⟨rfl, by show (4 : Int) ≤ (x 2).toInt; omega, a2.2⟩, ⟨rfl, a3.1, a3.2⟩, ⟨rfl, a4.1, a4.2⟩, trivial⟩, trivial⟩
  · skip
    exact ⟨_, List.mem_of_getElem? (i := 179) rfl, ⟨⟨rfl, b0, c0⟩, ⟨rfl, b1, c1⟩, ⟨rfl, b2, c2⟩, ⟨rfl, b3, c3⟩, ⟨rfl, b4, c4⟩, ⟨rfl, b5, c5⟩, ⟨rfl, b6, c6⟩, ⟨rfl, b7, c7⟩, trivial⟩, ⟨⟨rfl, by show (4 : Int) ≤ (x 0).toInt; omega, a0.2⟩, ⟨rfl, a1.1, a1.2⟩, ⟨rfl, a2.1, a2.2⟩, ⟨rfl, a3.1, a3.2⟩, ⟨rfl, a4.1, a4.2⟩, trivial⟩, trivial⟩
set_option maxRecDepth 100000 in
set_option maxHeartbeats 4000000 in
theorem la_cov_any (x v : Nat → Int32) (hv : la_al la_vk v) : ∃ c ∈ la_cxs_any, la_al c.1 v ∧ la_al c.2.1 x ∧ la_pfx c x v := by
  have a0 := se_i32 (x 0)
  have a1 := se_i32 (x 1)
  have a2 := se_i32 (x 2)
  have a3 := se_i32 (x 3)
  have a4 := se_i32 (x 4)
  unfold se_lo se_hi at a0 a1 a2 a3 a4
  obtain ⟨⟨-, b0, c0⟩, ⟨-, b1, c1⟩, ⟨-, b2, c2⟩, ⟨-, b3, c3⟩, ⟨-, b4, c4⟩, ⟨-, b5, c5⟩, ⟨-, b6, c6⟩, ⟨-, b7, c7⟩, -⟩ := hv
  have b0 : (0 : Int) ≤ (v 0).toInt := b0
  have c0 : (v 0).toInt ≤ (32 : Int) := c0
  have b1 : (0 : Int) ≤ (v 1).toInt := b1
  have c1 : (v 1).toInt ≤ (20 : Int) := c1
  have b2 : (0 : Int) ≤ (v 2).toInt := b2
  have c2 : (v 2).toInt ≤ (32 : Int) := c2
  have b3 : (0 : Int) ≤ (v 3).toInt := b3
  have c3 : (v 3).toInt ≤ (20 : Int) := c3
  have b4 : (0 : Int) ≤ (v 4).toInt := b4
  have c4 : (v 4).toInt ≤ (32 : Int) := c4
  have b5 : (0 : Int) ≤ (v 5).toInt := b5
  have c5 : (v 5).toInt ≤ (20 : Int) := c5
  have b6 : (0 : Int) ≤ (v 6).toInt := b6
  have c6 : (v 6).toInt ≤ (32 : Int) := c6
  have b7 : (0 : Int) ≤ (v 7).toInt := b7
  have c7 : (v 7).toInt ≤ (20 : Int) := c7
  exact ⟨_, List.mem_of_getElem? (i := 0) rfl, ⟨⟨rfl, b0, c0⟩, ⟨rfl, b1, c1⟩, ⟨rfl, b2, c2⟩, ⟨rfl, b3, c3⟩, ⟨rfl, b4, c4⟩, ⟨rfl, b5, c5⟩, ⟨rfl, b6, c6⟩, ⟨rfl, b7, c7⟩, trivial⟩, ⟨⟨rfl, a0.1, a0.2⟩, ⟨rfl, a1.1, a1.2⟩, ⟨rfl, a2.1, a2.2⟩, ⟨rfl, a3.1, a3.2⟩, ⟨rfl, a4.1, a4.2⟩, trivial⟩, trivial⟩
theorem la_cov {p : Nat} {L : List la_cx} (h : (p, L) ∈ la_arms) (x v : Nat → Int32) (hv : la_al la_vk v) : ∃ c ∈ L, la_al c.1 v ∧ la_al c.2.1 x ∧ la_pfx c x v := by
  obtain ⟨a, ha, e⟩ := List.mem_map.mp h
  cases e
  have h2 := Nat.blt_eq.mp (List.all_eq_true.mp (show la_ar.all (fun a => Nat.blt a.2 3) = true by decide +kernel) _ ha)
  generalize a.2 = k at h2
  match k, h2 with
  | 0, _ => exact la_cov_any x v hv
  | 1, _ => exact la_cov_sheet x v hv
  | 2, _ => exact la_cov_copy x v hv
  | k + 3, h2 => omega
def la_off : Array Int := #[175, 218, 271, 304, 337, 396, 465, 518, 551, 584, 617, 680, 703, 736, 769, 782, 805, 838, 871, 904, 927, 990, 1013, 1046, 1069, 1102, 1135, 1158, 1181, 1214, 1247, 1296, 1339, 1372, 1405, 1448, 1491, 1554, 1567, 1580]
def la_bad : Nat := 1585
set_option maxRecDepth 100000 in
theorem hd_330_0 : decode (sx_fi 330).2.1 0 = .ok (.new 7, 3) := (sx_dec (y := 330) (full := sx_c330) rfl (e := (0, .new 7, 3, 4, 11, 1023, 1001)) (List.mem_of_getElem? (i := 0) rfl)).1
set_option maxRecDepth 100000 in
theorem hd_330_3 : decode (sx_fi 330).2.1 3 = .ok (.dup, 1) := (sx_dec (y := 330) (full := sx_c330) rfl (e := (3, .dup, 1, 0, 0, 0, 0)) (List.mem_of_getElem? (i := 1) rfl)).1
set_option maxRecDepth 100000 in
theorem hd_330_4 : decode (sx_fi 330).2.1 4 = .ok (.invokespecial 9, 3) := (sx_dec (y := 330) (full := sx_c330) rfl (e := (4, .invokespecial 9, 3, 2, 0, 0, 0)) (List.mem_of_getElem? (i := 2) rfl)).1
set_option maxRecDepth 100000 in
theorem hd_330_7 : decode (sx_fi 330).2.1 7 = .ok (.astore_n 1, 1) := (sx_dec (y := 330) (full := sx_c330) rfl (e := (7, .astore_n 1, 1, 0, 0, 0, 0)) (List.mem_of_getElem? (i := 3) rfl)).1
set_option maxRecDepth 100000 in
theorem hd_330_8 : decode (sx_fi 330).2.1 8 = .ok (.new 10, 3) := (sx_dec (y := 330) (full := sx_c330) rfl (e := (8, .new 10, 3, 4, 12, 6138, 1013)) (List.mem_of_getElem? (i := 4) rfl)).1
set_option maxRecDepth 100000 in
theorem hd_330_11 : decode (sx_fi 330).2.1 11 = .ok (.dup, 1) := (sx_dec (y := 330) (full := sx_c330) rfl (e := (11, .dup, 1, 0, 0, 0, 0)) (List.mem_of_getElem? (i := 5) rfl)).1
set_option maxRecDepth 100000 in
theorem hd_330_12 : decode (sx_fi 330).2.1 12 = .ok (.invokespecial 12, 3) := (sx_dec (y := 330) (full := sx_c330) rfl (e := (12, .invokespecial 12, 3, 2, 218, 0, 0)) (List.mem_of_getElem? (i := 6) rfl)).1
set_option maxRecDepth 100000 in
theorem hd_330_15 : decode (sx_fi 330).2.1 15 = .ok (.astore_n 2, 1) := (sx_dec (y := 330) (full := sx_c330) rfl (e := (15, .astore_n 2, 1, 0, 0, 0, 0)) (List.mem_of_getElem? (i := 7) rfl)).1
set_option maxRecDepth 100000 in
theorem hd_330_16 : decode (sx_fi 330).2.1 16 = .ok (.iconst 0, 1) := (sx_dec (y := 330) (full := sx_c330) rfl (e := (16, .iconst 0, 1, 0, 0, 0, 0)) (List.mem_of_getElem? (i := 8) rfl)).1
set_option maxRecDepth 100000 in
theorem hd_330_17 : decode (sx_fi 330).2.1 17 = .ok (.istore_n 3, 1) := (sx_dec (y := 330) (full := sx_c330) rfl (e := (17, .istore_n 3, 1, 0, 0, 0, 0)) (List.mem_of_getElem? (i := 9) rfl)).1
set_option maxRecDepth 100000 in
theorem hd_330_18 : decode (sx_fi 330).2.1 18 = .ok (.iload_n 3, 1) := (sx_dec (y := 330) (full := sx_c330) rfl (e := (18, .iload_n 3, 1, 0, 0, 0, 0)) (List.mem_of_getElem? (i := 10) rfl)).1
set_option maxRecDepth 100000 in
theorem hd_330_19 : decode (sx_fi 330).2.1 19 = .ok (.aload_n 0, 1) := (sx_dec (y := 330) (full := sx_c330) rfl (e := (19, .aload_n 0, 1, 0, 0, 0, 0)) (List.mem_of_getElem? (i := 11) rfl)).1
set_option maxRecDepth 100000 in
theorem hd_330_20 : decode (sx_fi 330).2.1 20 = .ok (.arraylength, 1) := (sx_dec (y := 330) (full := sx_c330) rfl (e := (20, .arraylength, 1, 0, 0, 0, 0)) (List.mem_of_getElem? (i := 12) rfl)).1
set_option maxRecDepth 100000 in
theorem hd_330_21 : decode (sx_fi 330).2.1 21 = .ok (.bipush 6, 2) := (sx_dec (y := 330) (full := sx_c330) rfl (e := (21, .bipush 6, 2, 0, 0, 0, 0)) (List.mem_of_getElem? (i := 13) rfl)).1
set_option maxRecDepth 100000 in
theorem hd_330_23 : decode (sx_fi 330).2.1 23 = .ok (.isub, 1) := (sx_dec (y := 330) (full := sx_c330) rfl (e := (23, .isub, 1, 0, 0, 0, 0)) (List.mem_of_getElem? (i := 14) rfl)).1
set_option maxRecDepth 100000 in
theorem hd_330_24 : decode (sx_fi 330).2.1 24 = .ok (.if_icmp .gt 1618, 3) := (sx_dec (y := 330) (full := sx_c330) rfl (e := (24, .if_icmp .gt 1618, 3, 0, 0, 0, 0)) (List.mem_of_getElem? (i := 15) rfl)).1
set_option maxRecDepth 100000 in
theorem hd_330_27 : decode (sx_fi 330).2.1 27 = .ok (.aload_n 0, 1) := (sx_dec (y := 330) (full := sx_c330) rfl (e := (27, .aload_n 0, 1, 0, 0, 0, 0)) (List.mem_of_getElem? (i := 16) rfl)).1
set_option maxRecDepth 100000 in
theorem hd_330_28 : decode (sx_fi 330).2.1 28 = .ok (.iload_n 3, 1) := (sx_dec (y := 330) (full := sx_c330) rfl (e := (28, .iload_n 3, 1, 0, 0, 0, 0)) (List.mem_of_getElem? (i := 17) rfl)).1
set_option maxRecDepth 100000 in
theorem hd_330_29 : decode (sx_fi 330).2.1 29 = .ok (.iaload, 1) := (sx_dec (y := 330) (full := sx_c330) rfl (e := (29, .iaload, 1, 0, 0, 0, 0)) (List.mem_of_getElem? (i := 18) rfl)).1
set_option maxRecDepth 100000 in
theorem hd_330_30 : decode (sx_fi 330).2.1 30 = .ok (.bipush 63, 2) := (sx_dec (y := 330) (full := sx_c330) rfl (e := (30, .bipush 63, 2, 0, 0, 0, 0)) (List.mem_of_getElem? (i := 19) rfl)).1
set_option maxRecDepth 100000 in
theorem hd_330_32 : decode (sx_fi 330).2.1 32 = .ok (.iand, 1) := (sx_dec (y := 330) (full := sx_c330) rfl (e := (32, .iand, 1, 0, 0, 0, 0)) (List.mem_of_getElem? (i := 20) rfl)).1
set_option maxRecDepth 100000 in
theorem hd_330_33 : decode (sx_fi 330).2.1 33 = .ok (.tableswitch 1603 0 39 #[175, 218, 271, 304, 337, 396, 465, 518, 551, 584, 617, 680, 703, 736, 769, 782, 805, 838, 871, 904, 927, 990, 1013, 1046, 1069, 1102, 1135, 1158, 1181, 1214, 1247, 1296, 1339, 1372, 1405, 1448, 1491, 1554, 1567, 1580], 175) := (sx_dec (y := 330) (full := sx_c330) rfl (e := (33, .tableswitch 1603 0 39 #[175, 218, 271, 304, 337, 396, 465, 518, 551, 584, 617, 680, 703, 736, 769, 782, 805, 838, 871, 904, 927, 990, 1013, 1046, 1069, 1102, 1135, 1158, 1181, 1214, 1247, 1296, 1339, 1372, 1405, 1448, 1491, 1554, 1567, 1580], 175, 0, 0, 0, 0)) (List.mem_of_getElem? (i := 21) rfl)).1
set_option maxRecDepth 100000 in
theorem hd_330_1585 : decode (sx_fi 330).2.1 1585 = .ok (.iconst 0, 1) := (sx_dec (y := 330) (full := sx_c330) rfl (e := (1585, .iconst 0, 1, 0, 0, 0, 0)) (List.mem_of_getElem? (i := 1147) rfl)).1
set_option maxRecDepth 100000 in
theorem hd_330_1586 : decode (sx_fi 330).2.1 1586 = .ok (.ireturn, 1) := (sx_dec (y := 330) (full := sx_c330) rfl (e := (1586, .ireturn, 1, 0, 0, 0, 0)) (List.mem_of_getElem? (i := 1148) rfl)).1
set_option maxRecDepth 100000 in
theorem hd_330_1636 : decode (sx_fi 330).2.1 1636 = .ok (.iinc 3 6, 3) := (sx_dec (y := 330) (full := sx_c330) rfl (e := (1636, .iinc 3 6, 3, 0, 0, 0, 0)) (List.mem_of_getElem? (i := 1180) rfl)).1
set_option maxRecDepth 100000 in
theorem hd_330_1639 : decode (sx_fi 330).2.1 1639 = .ok (.goto (-1621), 3) := (sx_dec (y := 330) (full := sx_c330) rfl (e := (1639, .goto (-1621), 3, 0, 0, 0, 0)) (List.mem_of_getElem? (i := 1181) rfl)).1
set_option maxRecDepth 100000 in
theorem hd_330_1642 : decode (sx_fi 330).2.1 1642 = .ok (.iconst 1, 1) := (sx_dec (y := 330) (full := sx_c330) rfl (e := (1642, .iconst 1, 1, 0, 0, 0, 0)) (List.mem_of_getElem? (i := 1182) rfl)).1
set_option maxRecDepth 100000 in
theorem hd_330_1643 : decode (sx_fi 330).2.1 1643 = .ok (.ireturn, 1) := (sx_dec (y := 330) (full := sx_c330) rfl (e := (1643, .ireturn, 1, 0, 0, 0, 0)) (List.mem_of_getElem? (i := 1183) rfl)).1
def la_tau0 : List Value := [.ref 38, .ref 195, .ref 173, .ref 174, .ref 176, .ref 178, .ref 180, .ref 209, .ref 210, .int 0, .int 0, .int 0, .int 0, .int 0, .int 0, .int 0, .int 0]
