set_option maxRecDepth 1000000 in
theorem fc_fq_0 : tr_all am_oke 5 fq_0 = true := dc_fq (by decide +kernel) (by decide +kernel)
set_option maxRecDepth 1000000 in
theorem fc_fq_1 : tr_all am_oke 5 fq_1 = true := dc_fq (by decide +kernel) (by decide +kernel)
set_option maxRecDepth 1000000 in
theorem fc_fq_2 : tr_all am_oke 5 fq_2 = true := dc_fq (by decide +kernel) (by decide +kernel)
set_option maxRecDepth 1000000 in
theorem fc_fq_3 : tr_all am_oke 5 fq_3 = true := dc_fq (by decide +kernel) (by decide +kernel)
set_option maxRecDepth 1000000 in
theorem fc_fq_4 : tr_all am_oke 5 fq_4 = true := dc_fq (by decide +kernel) (by decide +kernel)
set_option maxRecDepth 1000000 in
theorem fc_fq_5 : tr_all am_oke 5 fq_5 = true := dc_fq (by decide +kernel) (by decide +kernel)
set_option maxRecDepth 1000000 in
theorem fc_fq_6 : tr_all am_oke 5 fq_6 = true := dc_fq (by decide +kernel) (by decide +kernel)
set_option maxRecDepth 1000000 in
theorem fc_fq_7 : tr_all am_oke 5 fq_7 = true := dc_fq (by decide +kernel) (by decide +kernel)
set_option maxRecDepth 1000000 in
theorem fc_fq_8 : tr_all am_oke 5 fq_8 = true := dc_fq (by decide +kernel) (by decide +kernel)
set_option maxRecDepth 1000000 in
theorem fc_fq_9 : tr_all am_oke 5 fq_9 = true := dc_fq (by decide +kernel) (by decide +kernel)
set_option maxRecDepth 1000000 in
theorem fc_fq_10 : tr_all am_oke 5 fq_10 = true := dc_fq (by decide +kernel) (by decide +kernel)
set_option maxRecDepth 1000000 in
theorem fc_fq_11 : tr_all am_oke 5 fq_11 = true := dc_fq (by decide +kernel) (by decide +kernel)
set_option maxRecDepth 1000000 in
theorem fc_fq_12 : tr_all am_oke 5 fq_12 = true := dc_fq (by decide +kernel) (by decide +kernel)
set_option maxRecDepth 1000000 in
theorem fc_fq_13 : tr_all am_oke 5 fq_13 = true := dc_fq (by decide +kernel) (by decide +kernel)
set_option maxRecDepth 1000000 in
theorem fc_fq_14 : tr_all am_oke 5 fq_14 = true := dc_fq (by decide +kernel) (by decide +kernel)
set_option maxRecDepth 1000000 in
theorem fc_fq_15 : tr_all am_oke 5 fq_15 = true := dc_fq (by decide +kernel) (by decide +kernel)
set_option maxRecDepth 1000000 in
theorem fc_fq_16 : tr_all am_oke 5 fq_16 = true := dc_fq (by decide +kernel) (by decide +kernel)
set_option maxRecDepth 1000000 in
theorem fc_fq_17 : tr_all am_oke 5 fq_17 = true := dc_fq (by decide +kernel) (by decide +kernel)
set_option maxRecDepth 1000000 in
theorem fc_fq_18 : tr_all am_oke 5 fq_18 = true := dc_fq (by decide +kernel) (by decide +kernel)
set_option maxRecDepth 1000000 in
theorem fc_fq_19 : tr_all am_oke 5 fq_19 = true := dc_fq (by decide +kernel) (by decide +kernel)
set_option maxRecDepth 1000000 in
theorem fc_fq_20 : tr_all am_oke 5 fq_20 = true := dc_fq (by decide +kernel) (by decide +kernel)
set_option maxRecDepth 1000000 in
theorem fc_fq_21 : tr_all am_oke 5 fq_21 = true := dc_fq (by decide +kernel) (by decide +kernel)
set_option maxRecDepth 1000000 in
theorem fc_fq_22 : tr_all am_oke 5 fq_22 = true := dc_fq (by decide +kernel) (by decide +kernel)
set_option maxRecDepth 1000000 in
theorem fc_fq_23 : tr_all am_oke 5 fq_23 = true := dc_fq (by decide +kernel) (by decide +kernel)
set_option maxRecDepth 1000000 in
theorem fc_fq_24 : tr_all am_oke 5 fq_24 = true := dc_fq (by decide +kernel) (by decide +kernel)
set_option maxRecDepth 1000000 in
theorem fc_fq_25 : tr_all am_oke 5 fq_25 = true := dc_fq (by decide +kernel) (by decide +kernel)
set_option maxRecDepth 1000000 in
theorem fc_fq_26 : tr_all am_oke 5 fq_26 = true := dc_fq (by decide +kernel) (by decide +kernel)
set_option maxRecDepth 1000000 in
theorem fc_fq_27 : tr_all am_oke 5 fq_27 = true := dc_fq (by decide +kernel) (by decide +kernel)
set_option maxRecDepth 1000000 in
theorem fc_fq_28 : tr_all am_oke 5 fq_28 = true := dc_fq (by decide +kernel) (by decide +kernel)
set_option maxRecDepth 1000000 in
theorem fc_fq_29 : tr_all am_oke 5 fq_29 = true := dc_fq (by decide +kernel) (by decide +kernel)
set_option maxRecDepth 1000000 in
theorem fc_fq_30 : tr_all am_oke 5 fq_30 = true := dc_fq (by decide +kernel) (by decide +kernel)
set_option maxRecDepth 1000000 in
theorem fc_fq_31 : tr_all am_oke 5 fq_31 = true := dc_fq (by decide +kernel) (by decide +kernel)
set_option maxRecDepth 1000000 in
theorem fc_fq_32 : tr_all am_oke 5 fq_32 = true := dc_fq (by decide +kernel) (by decide +kernel)
set_option maxRecDepth 1000000 in
theorem fc_fq_33 : tr_all am_oke 5 fq_33 = true := dc_fq (by decide +kernel) (by decide +kernel)
set_option maxRecDepth 1000000 in
theorem fc_fq_34 : tr_all am_oke 5 fq_34 = true := dc_fq (by decide +kernel) (by decide +kernel)
set_option maxRecDepth 1000000 in
theorem fc_fq_35 : tr_all am_oke 5 fq_35 = true := dc_fq (by decide +kernel) (by decide +kernel)
set_option maxRecDepth 1000000 in
theorem fc_fq_36 : tr_all am_oke 5 fq_36 = true := dc_fq (by decide +kernel) (by decide +kernel)
set_option maxRecDepth 1000000 in
theorem fc_fq_37 : tr_all am_oke 5 fq_37 = true := dc_fq (by decide +kernel) (by decide +kernel)
set_option maxRecDepth 1000000 in
theorem fc_fq_38 : tr_all am_oke 5 fq_38 = true := dc_fq (by decide +kernel) (by decide +kernel)
set_option maxRecDepth 1000000 in
theorem fc_fq_39 : tr_all am_oke 5 fq_39 = true := dc_fq (by decide +kernel) (by decide +kernel)
set_option maxRecDepth 1000000 in
theorem fc_fq_40 : tr_all am_oke 5 fq_40 = true := dc_fq (by decide +kernel) (by decide +kernel)
set_option maxRecDepth 1000000 in
theorem fc_fq_41 : tr_all am_oke 5 fq_41 = true := dc_fq (by decide +kernel) (by decide +kernel)
set_option maxRecDepth 1000000 in
theorem fc_fq_42 : tr_all am_oke 5 fq_42 = true := dc_fq (by decide +kernel) (by decide +kernel)
set_option maxRecDepth 1000000 in
theorem fc_fq_43 : tr_all am_oke 5 fq_43 = true := dc_fq (by decide +kernel) (by decide +kernel)
set_option maxRecDepth 1000000 in
theorem fc_fq_44 : tr_all am_oke 5 fq_44 = true := dc_fq (by decide +kernel) (by decide +kernel)
set_option maxRecDepth 1000000 in
theorem fc_fq_45 : tr_all am_oke 5 fq_45 = true := dc_fq (by decide +kernel) (by decide +kernel)
set_option maxRecDepth 1000000 in
theorem fc_fq_46 : tr_all am_oke 5 fq_46 = true := dc_fq (by decide +kernel) (by decide +kernel)
set_option maxRecDepth 1000000 in
theorem fc_fq_47 : tr_all am_oke 5 fq_47 = true := dc_fq (by decide +kernel) (by decide +kernel)
set_option maxRecDepth 1000000 in
theorem fc_fq_48 : tr_all am_oke 5 fq_48 = true := dc_fq (by decide +kernel) (by decide +kernel)
set_option maxRecDepth 1000000 in
theorem fc_fq_49 : tr_all am_oke 5 fq_49 = true := dc_fq (by decide +kernel) (by decide +kernel)
set_option maxRecDepth 1000000 in
theorem fc_fq_50 : tr_all am_oke 5 fq_50 = true := dc_fq (by decide +kernel) (by decide +kernel)
set_option maxRecDepth 1000000 in
theorem fc_fq_51 : tr_all am_oke 5 fq_51 = true := dc_fq (by decide +kernel) (by decide +kernel)
set_option maxRecDepth 1000000 in
theorem fc_fq_52 : tr_all am_oke 5 fq_52 = true := dc_fq (by decide +kernel) (by decide +kernel)
set_option maxRecDepth 1000000 in
theorem fc_fq_53 : tr_all am_oke 5 fq_53 = true := dc_fq (by decide +kernel) (by decide +kernel)
set_option maxRecDepth 1000000 in
theorem fc_fq_54 : tr_all am_oke 5 fq_54 = true := dc_fq (by decide +kernel) (by decide +kernel)
set_option maxRecDepth 1000000 in
theorem fc_fq_55 : tr_all am_oke 5 fq_55 = true := dc_fq (by decide +kernel) (by decide +kernel)
set_option maxRecDepth 1000000 in
theorem fc_fq_56 : tr_all am_oke 5 fq_56 = true := dc_fq (by decide +kernel) (by decide +kernel)
set_option maxRecDepth 1000000 in
theorem fc_fq_57 : tr_all am_oke 5 fq_57 = true := dc_fq (by decide +kernel) (by decide +kernel)
set_option maxRecDepth 1000000 in
theorem fc_fq_58 : tr_all am_oke 5 fq_58 = true := dc_fq (by decide +kernel) (by decide +kernel)
set_option maxRecDepth 1000000 in
theorem fc_fq_59 : tr_all am_oke 5 fq_59 = true := dc_fq (by decide +kernel) (by decide +kernel)
set_option maxRecDepth 1000000 in
theorem fc_fq_60 : tr_all am_oke 5 fq_60 = true := dc_fq (by decide +kernel) (by decide +kernel)
set_option maxRecDepth 1000000 in
theorem fc_fq_61 : tr_all am_oke 5 fq_61 = true := dc_fq (by decide +kernel) (by decide +kernel)
set_option maxRecDepth 1000000 in
theorem fc_fq_62 : tr_all am_oke 5 fq_62 = true := dc_fq (by decide +kernel) (by decide +kernel)
set_option maxRecDepth 1000000 in
theorem fc_fq_63 : tr_all am_oke 5 fq_63 = true := dc_fq (by decide +kernel) (by decide +kernel)
set_option maxRecDepth 1000000 in
theorem fc_fq_64 : tr_all am_oke 5 fq_64 = true := dc_fq (by decide +kernel) (by decide +kernel)
set_option maxRecDepth 1000000 in
theorem fc_fq_65 : tr_all am_oke 5 fq_65 = true := dc_fq (by decide +kernel) (by decide +kernel)
set_option maxRecDepth 1000000 in
theorem fc_fq_66 : tr_all am_oke 5 fq_66 = true := dc_fq (by decide +kernel) (by decide +kernel)
set_option maxRecDepth 1000000 in
theorem fc_fq_67 : tr_all am_oke 5 fq_67 = true := dc_fq (by decide +kernel) (by decide +kernel)
set_option maxRecDepth 1000000 in
theorem fc_fq_68 : tr_all am_oke 5 fq_68 = true := dc_fq (by decide +kernel) (by decide +kernel)
set_option maxRecDepth 1000000 in
theorem fc_fq_69 : tr_all am_oke 5 fq_69 = true := dc_fq (by decide +kernel) (by decide +kernel)
set_option maxRecDepth 1000000 in
theorem fc_fq_70 : tr_all am_oke 5 fq_70 = true := dc_fq (by decide +kernel) (by decide +kernel)
set_option maxRecDepth 1000000 in
theorem fc_fq_71 : tr_all am_oke 5 fq_71 = true := dc_fq (by decide +kernel) (by decide +kernel)
set_option maxRecDepth 1000000 in
theorem fc_fq_72 : tr_all am_oke 5 fq_72 = true := dc_fq (by decide +kernel) (by decide +kernel)
set_option maxRecDepth 1000000 in
theorem fc_fq_73 : tr_all am_oke 5 fq_73 = true := dc_fq (by decide +kernel) (by decide +kernel)
set_option maxRecDepth 1000000 in
theorem fc_fq_74 : tr_all am_oke 5 fq_74 = true := dc_fq (by decide +kernel) (by decide +kernel)
set_option maxRecDepth 1000000 in
theorem fc_fq_75 : tr_all am_oke 5 fq_75 = true := dc_fq (by decide +kernel) (by decide +kernel)
set_option maxRecDepth 1000000 in
theorem fc_fq_76 : tr_all am_oke 5 fq_76 = true := dc_fq (by decide +kernel) (by decide +kernel)
set_option maxRecDepth 1000000 in
theorem fc_fq_77 : tr_all am_oke 5 fq_77 = true := dc_fq (by decide +kernel) (by decide +kernel)
set_option maxRecDepth 1000000 in
theorem fc_fq_78 : tr_all am_oke 5 fq_78 = true := dc_fq (by decide +kernel) (by decide +kernel)
set_option maxRecDepth 1000000 in
theorem fc_fq_79 : tr_all am_oke 5 fq_79 = true := dc_fq (by decide +kernel) (by decide +kernel)
set_option maxRecDepth 1000000 in
theorem fc_fq_80 : tr_all am_oke 5 fq_80 = true := dc_fq (by decide +kernel) (by decide +kernel)
set_option maxRecDepth 1000000 in
theorem fc_fq_81 : tr_all am_oke 5 fq_81 = true := dc_fq (by decide +kernel) (by decide +kernel)
set_option maxRecDepth 1000000 in
theorem fc_fq_82 : tr_all am_oke 5 fq_82 = true := dc_fq (by decide +kernel) (by decide +kernel)
set_option maxRecDepth 1000000 in
theorem fc_fq_83 : tr_all am_oke 5 fq_83 = true := dc_fq (by decide +kernel) (by decide +kernel)
set_option maxRecDepth 1000000 in
theorem fc_fq_84 : tr_all am_oke 5 fq_84 = true := dc_fq (by decide +kernel) (by decide +kernel)
set_option maxRecDepth 1000000 in
theorem fc_fq_85 : tr_all am_oke 5 fq_85 = true := dc_fq (by decide +kernel) (by decide +kernel)
set_option maxRecDepth 1000000 in
theorem fc_fq_86 : tr_all am_oke 5 fq_86 = true := dc_fq (by decide +kernel) (by decide +kernel)
set_option maxRecDepth 1000000 in
theorem fc_fq_87 : tr_all am_oke 5 fq_87 = true := dc_fq (by decide +kernel) (by decide +kernel)
set_option maxRecDepth 1000000 in
theorem fc_fq_88 : tr_all am_oke 5 fq_88 = true := dc_fq (by decide +kernel) (by decide +kernel)
set_option maxRecDepth 1000000 in
theorem fc_fq_89 : tr_all am_oke 5 fq_89 = true := dc_fq (by decide +kernel) (by decide +kernel)
set_option maxRecDepth 1000000 in
theorem fc_fq_90 : tr_all am_oke 5 fq_90 = true := dc_fq (by decide +kernel) (by decide +kernel)
set_option maxRecDepth 1000000 in
theorem fc_fq_91 : tr_all am_oke 5 fq_91 = true := dc_fq (by decide +kernel) (by decide +kernel)
set_option maxRecDepth 1000000 in
theorem fc_fq_92 : tr_all am_oke 5 fq_92 = true := dc_fq (by decide +kernel) (by decide +kernel)
set_option maxRecDepth 1000000 in
theorem fc_fq_93 : tr_all am_oke 5 fq_93 = true := dc_fq (by decide +kernel) (by decide +kernel)
set_option maxRecDepth 1000000 in
theorem fc_fq_94 : tr_all am_oke 5 fq_94 = true := dc_fq (by decide +kernel) (by decide +kernel)
set_option maxRecDepth 1000000 in
theorem fc_fq_95 : tr_all am_oke 5 fq_95 = true := dc_fq (by decide +kernel) (by decide +kernel)
set_option maxRecDepth 1000000 in
theorem fc_fq_96 : tr_all am_oke 5 fq_96 = true := dc_fq (by decide +kernel) (by decide +kernel)
set_option maxRecDepth 1000000 in
theorem fc_fq_97 : tr_all am_oke 5 fq_97 = true := dc_fq (by decide +kernel) (by decide +kernel)
set_option maxRecDepth 1000000 in
theorem fc_fq_98 : tr_all am_oke 5 fq_98 = true := dc_fq (by decide +kernel) (by decide +kernel)
set_option maxRecDepth 1000000 in
theorem fc_fq_99 : tr_all am_oke 5 fq_99 = true := dc_fq (by decide +kernel) (by decide +kernel)
set_option maxRecDepth 1000000 in
theorem fc_fq_100 : tr_all am_oke 5 fq_100 = true := dc_fq (by decide +kernel) (by decide +kernel)
set_option maxRecDepth 1000000 in
theorem fc_fq_101 : tr_all am_oke 5 fq_101 = true := dc_fq (by decide +kernel) (by decide +kernel)
set_option maxRecDepth 1000000 in
theorem fc_fq_102 : tr_all am_oke 5 fq_102 = true := dc_fq (by decide +kernel) (by decide +kernel)
set_option maxRecDepth 1000000 in
theorem fc_fq_103 : tr_all am_oke 5 fq_103 = true := dc_fq (by decide +kernel) (by decide +kernel)
set_option maxRecDepth 1000000 in
theorem fc_fq_104 : tr_all am_oke 5 fq_104 = true := dc_fq (by decide +kernel) (by decide +kernel)
set_option maxRecDepth 1000000 in
theorem fc_fq_105 : tr_all am_oke 5 fq_105 = true := dc_fq (by decide +kernel) (by decide +kernel)
set_option maxRecDepth 1000000 in
theorem fc_fq_106 : tr_all am_oke 5 fq_106 = true := dc_fq (by decide +kernel) (by decide +kernel)
set_option maxRecDepth 1000000 in
theorem fc_fq_107 : tr_all am_oke 5 fq_107 = true := dc_fq (by decide +kernel) (by decide +kernel)
set_option maxRecDepth 1000000 in
theorem fc_fq_108 : tr_all am_oke 5 fq_108 = true := dc_fq (by decide +kernel) (by decide +kernel)
set_option maxRecDepth 1000000 in
theorem fc_fq_109 : tr_all am_oke 5 fq_109 = true := dc_fq (by decide +kernel) (by decide +kernel)
set_option maxRecDepth 1000000 in
theorem fc_fq_110 : tr_all am_oke 5 fq_110 = true := dc_fq (by decide +kernel) (by decide +kernel)
set_option maxRecDepth 1000000 in
theorem fc_fq_111 : tr_all am_oke 5 fq_111 = true := dc_fq (by decide +kernel) (by decide +kernel)
set_option maxRecDepth 1000000 in
theorem fc_fq_112 : tr_all am_oke 5 fq_112 = true := dc_fq (by decide +kernel) (by decide +kernel)
set_option maxRecDepth 1000000 in
theorem fc_fq_113 : tr_all am_oke 5 fq_113 = true := dc_fq (by decide +kernel) (by decide +kernel)
set_option maxRecDepth 1000000 in
theorem fc_fq_114 : tr_all am_oke 5 fq_114 = true := dc_fq (by decide +kernel) (by decide +kernel)
set_option maxRecDepth 1000000 in
theorem fc_fq_115 : tr_all am_oke 5 fq_115 = true := dc_fq (by decide +kernel) (by decide +kernel)
set_option maxRecDepth 1000000 in
theorem fc_fq_116 : tr_all am_oke 5 fq_116 = true := dc_fq (by decide +kernel) (by decide +kernel)
set_option maxRecDepth 1000000 in
theorem fc_fq_117 : tr_all am_oke 5 fq_117 = true := dc_fq (by decide +kernel) (by decide +kernel)
set_option maxRecDepth 1000000 in
theorem fc_fq_118 : tr_all am_oke 5 fq_118 = true := dc_fq (by decide +kernel) (by decide +kernel)
set_option maxRecDepth 1000000 in
theorem fc_fq_119 : tr_all am_oke 5 fq_119 = true := dc_fq (by decide +kernel) (by decide +kernel)
set_option maxRecDepth 1000000 in
theorem fc_fq_120 : tr_all am_oke 5 fq_120 = true := dc_fq (by decide +kernel) (by decide +kernel)
set_option maxRecDepth 1000000 in
theorem fc_fq_121 : tr_all am_oke 5 fq_121 = true := dc_fq (by decide +kernel) (by decide +kernel)
set_option maxRecDepth 1000000 in
theorem fc_fq_122 : tr_all am_oke 5 fq_122 = true := dc_fq (by decide +kernel) (by decide +kernel)
set_option maxRecDepth 1000000 in
theorem fc_fq_123 : tr_all am_oke 5 fq_123 = true := dc_fq (by decide +kernel) (by decide +kernel)
set_option maxRecDepth 1000000 in
theorem fc_fq_124 : tr_all am_oke 5 fq_124 = true := dc_fq (by decide +kernel) (by decide +kernel)
set_option maxRecDepth 1000000 in
theorem fc_fq_125 : tr_all am_oke 5 fq_125 = true := dc_fq (by decide +kernel) (by decide +kernel)
set_option maxRecDepth 1000000 in
theorem fc_fq_126 : tr_all am_oke 5 fq_126 = true := dc_fq (by decide +kernel) (by decide +kernel)
set_option maxRecDepth 1000000 in
theorem fc_fq_127 : tr_all am_oke 5 fq_127 = true := dc_fq (by decide +kernel) (by decide +kernel)
set_option maxRecDepth 1000000 in
theorem fc_fq_128 : tr_all am_oke 5 fq_128 = true := dc_fq (by decide +kernel) (by decide +kernel)
set_option maxRecDepth 1000000 in
theorem fc_fq_129 : tr_all am_oke 5 fq_129 = true := dc_fq (by decide +kernel) (by decide +kernel)
set_option maxRecDepth 1000000 in
theorem fc_fq_130 : tr_all am_oke 5 fq_130 = true := dc_fq (by decide +kernel) (by decide +kernel)
set_option maxRecDepth 1000000 in
theorem fc_fq_131 : tr_all am_oke 5 fq_131 = true := dc_fq (by decide +kernel) (by decide +kernel)
set_option maxRecDepth 1000000 in
theorem fc_fq_132 : tr_all am_oke 5 fq_132 = true := dc_fq (by decide +kernel) (by decide +kernel)
set_option maxRecDepth 1000000 in
theorem fc_fq_133 : tr_all am_oke 5 fq_133 = true := dc_fq (by decide +kernel) (by decide +kernel)
set_option maxRecDepth 1000000 in
theorem fc_fq_134 : tr_all am_oke 5 fq_134 = true := dc_fq (by decide +kernel) (by decide +kernel)
set_option maxRecDepth 1000000 in
theorem fc_fq_135 : tr_all am_oke 5 fq_135 = true := dc_fq (by decide +kernel) (by decide +kernel)
set_option maxRecDepth 1000000 in
theorem fc_fq_136 : tr_all am_oke 5 fq_136 = true := dc_fq (by decide +kernel) (by decide +kernel)
set_option maxRecDepth 1000000 in
theorem fc_fq_137 : tr_all am_oke 5 fq_137 = true := dc_fq (by decide +kernel) (by decide +kernel)
set_option maxRecDepth 1000000 in
theorem fc_fq_138 : tr_all am_oke 5 fq_138 = true := dc_fq (by decide +kernel) (by decide +kernel)
set_option maxRecDepth 1000000 in
theorem fc_fq_139 : tr_all am_oke 5 fq_139 = true := dc_fq (by decide +kernel) (by decide +kernel)
set_option maxRecDepth 1000000 in
theorem fc_fq_140 : tr_all am_oke 5 fq_140 = true := dc_fq (by decide +kernel) (by decide +kernel)
set_option maxRecDepth 1000000 in
theorem fc_fq_141 : tr_all am_oke 5 fq_141 = true := dc_fq (by decide +kernel) (by decide +kernel)
set_option maxRecDepth 1000000 in
theorem fc_fq_142 : tr_all am_oke 5 fq_142 = true := dc_fq (by decide +kernel) (by decide +kernel)
set_option maxRecDepth 1000000 in
theorem fc_fq_143 : tr_all am_oke 5 fq_143 = true := dc_fq (by decide +kernel) (by decide +kernel)
set_option maxRecDepth 1000000 in
theorem fc_fq_144 : tr_all am_oke 5 fq_144 = true := dc_fq (by decide +kernel) (by decide +kernel)
set_option maxRecDepth 1000000 in
theorem fc_fq_145 : tr_all am_oke 5 fq_145 = true := dc_fq (by decide +kernel) (by decide +kernel)
set_option maxRecDepth 1000000 in
theorem fc_fq_146 : tr_all am_oke 5 fq_146 = true := dc_fq (by decide +kernel) (by decide +kernel)
set_option maxRecDepth 1000000 in
theorem fc_fq_147 : tr_all am_oke 5 fq_147 = true := dc_fq (by decide +kernel) (by decide +kernel)
set_option maxRecDepth 1000000 in
theorem fc_fq_148 : tr_all am_oke 5 fq_148 = true := dc_fq (by decide +kernel) (by decide +kernel)
set_option maxRecDepth 1000000 in
theorem fc_fq_149 : tr_all am_oke 5 fq_149 = true := dc_fq (by decide +kernel) (by decide +kernel)
set_option maxRecDepth 1000000 in
theorem fc_fq_150 : tr_all am_oke 5 fq_150 = true := dc_fq (by decide +kernel) (by decide +kernel)
set_option maxRecDepth 1000000 in
theorem fc_fq_151 : tr_all am_oke 5 fq_151 = true := dc_fq (by decide +kernel) (by decide +kernel)
set_option maxRecDepth 1000000 in
theorem fc_fq_152 : tr_all am_oke 5 fq_152 = true := dc_fq (by decide +kernel) (by decide +kernel)
set_option maxRecDepth 1000000 in
theorem fc_fq_153 : tr_all am_oke 5 fq_153 = true := dc_fq (by decide +kernel) (by decide +kernel)
set_option maxRecDepth 1000000 in
theorem fc_fq_154 : tr_all am_oke 5 fq_154 = true := dc_fq (by decide +kernel) (by decide +kernel)
set_option maxRecDepth 1000000 in
theorem fc_fq_155 : tr_all am_oke 5 fq_155 = true := dc_fq (by decide +kernel) (by decide +kernel)
set_option maxRecDepth 1000000 in
theorem fc_fq_156 : tr_all am_oke 5 fq_156 = true := dc_fq (by decide +kernel) (by decide +kernel)
set_option maxRecDepth 1000000 in
theorem fc_fq_157 : tr_all am_oke 5 fq_157 = true := dc_fq (by decide +kernel) (by decide +kernel)
set_option maxRecDepth 1000000 in
theorem fc_fq_158 : tr_all am_oke 5 fq_158 = true := dc_fq (by decide +kernel) (by decide +kernel)
set_option maxRecDepth 1000000 in
theorem fc_fq_159 : tr_all am_oke 5 fq_159 = true := dc_fq (by decide +kernel) (by decide +kernel)
set_option maxRecDepth 1000000 in
theorem fc_fq_160 : tr_all am_oke 5 fq_160 = true := dc_fq (by decide +kernel) (by decide +kernel)
set_option maxRecDepth 1000000 in
theorem fc_fq_161 : tr_all am_oke 5 fq_161 = true := dc_fq (by decide +kernel) (by decide +kernel)
set_option maxRecDepth 1000000 in
theorem fc_fq_162 : tr_all am_oke 5 fq_162 = true := dc_fq (by decide +kernel) (by decide +kernel)
set_option maxRecDepth 1000000 in
theorem fc_fq_163 : tr_all am_oke 5 fq_163 = true := dc_fq (by decide +kernel) (by decide +kernel)
set_option maxRecDepth 1000000 in
theorem fc_fq_164 : tr_all am_oke 5 fq_164 = true := dc_fq (by decide +kernel) (by decide +kernel)
set_option maxRecDepth 1000000 in
theorem fc_fq_165 : tr_all am_oke 5 fq_165 = true := dc_fq (by decide +kernel) (by decide +kernel)
set_option maxRecDepth 1000000 in
theorem fc_fq_166 : tr_all am_oke 5 fq_166 = true := dc_fq (by decide +kernel) (by decide +kernel)
set_option maxRecDepth 1000000 in
theorem fc_fq_167 : tr_all am_oke 5 fq_167 = true := dc_fq (by decide +kernel) (by decide +kernel)
set_option maxRecDepth 1000000 in
theorem fc_fq_168 : tr_all am_oke 5 fq_168 = true := dc_fq (by decide +kernel) (by decide +kernel)
set_option maxRecDepth 1000000 in
theorem fc_fq_169 : tr_all am_oke 5 fq_169 = true := dc_fq (by decide +kernel) (by decide +kernel)
set_option maxRecDepth 1000000 in
theorem fc_fq_170 : tr_all am_oke 5 fq_170 = true := dc_fq (by decide +kernel) (by decide +kernel)
set_option maxRecDepth 1000000 in
theorem fc_fq_171 : tr_all am_oke 5 fq_171 = true := dc_fq (by decide +kernel) (by decide +kernel)
set_option maxRecDepth 1000000 in
theorem fc_fq_172 : tr_all am_oke 5 fq_172 = true := dc_fq (by decide +kernel) (by decide +kernel)
set_option maxRecDepth 1000000 in
theorem fc_fq_173 : tr_all am_oke 5 fq_173 = true := dc_fq (by decide +kernel) (by decide +kernel)
set_option maxRecDepth 1000000 in
theorem fc_fq_174 : tr_all am_oke 5 fq_174 = true := dc_fq (by decide +kernel) (by decide +kernel)
set_option maxRecDepth 1000000 in
theorem fc_fq_175 : tr_all am_oke 5 fq_175 = true := dc_fq (by decide +kernel) (by decide +kernel)
set_option maxRecDepth 1000000 in
theorem fc_fq_176 : tr_all am_oke 5 fq_176 = true := dc_fq (by decide +kernel) (by decide +kernel)
set_option maxRecDepth 1000000 in
theorem fc_fq_177 : tr_all am_oke 5 fq_177 = true := dc_fq (by decide +kernel) (by decide +kernel)
set_option maxRecDepth 1000000 in
theorem fc_fq_178 : tr_all am_oke 5 fq_178 = true := dc_fq (by decide +kernel) (by decide +kernel)
set_option maxRecDepth 1000000 in
theorem fc_fq_179 : tr_all am_oke 5 fq_179 = true := dc_fq (by decide +kernel) (by decide +kernel)
set_option maxRecDepth 1000000 in
theorem fc_fq_180 : tr_all am_oke 5 fq_180 = true := dc_fq (by decide +kernel) (by decide +kernel)
set_option maxRecDepth 1000000 in
theorem fc_fq_181 : tr_all am_oke 5 fq_181 = true := dc_fq (by decide +kernel) (by decide +kernel)
set_option maxRecDepth 1000000 in
theorem fc_fq_182 : tr_all am_oke 5 fq_182 = true := dc_fq (by decide +kernel) (by decide +kernel)
set_option maxRecDepth 1000000 in
theorem fc_fq_183 : tr_all am_oke 5 fq_183 = true := dc_fq (by decide +kernel) (by decide +kernel)
set_option maxRecDepth 1000000 in
theorem fc_fq_184 : tr_all am_oke 5 fq_184 = true := dc_fq (by decide +kernel) (by decide +kernel)
set_option maxRecDepth 1000000 in
theorem fc_fq_185 : tr_all am_oke 5 fq_185 = true := dc_fq (by decide +kernel) (by decide +kernel)
set_option maxRecDepth 1000000 in
theorem fc_fq_186 : tr_all am_oke 5 fq_186 = true := dc_fq (by decide +kernel) (by decide +kernel)
set_option maxRecDepth 1000000 in
theorem fc_fq_187 : tr_all am_oke 5 fq_187 = true := dc_fq (by decide +kernel) (by decide +kernel)
set_option maxRecDepth 1000000 in
theorem fc_fq_188 : tr_all am_oke 5 fq_188 = true := dc_fq (by decide +kernel) (by decide +kernel)
set_option maxRecDepth 1000000 in
theorem fc_fq_189 : tr_all am_oke 5 fq_189 = true := dc_fq (by decide +kernel) (by decide +kernel)
set_option maxRecDepth 1000000 in
theorem fc_fq_190 : tr_all am_oke 5 fq_190 = true := dc_fq (by decide +kernel) (by decide +kernel)
set_option maxRecDepth 1000000 in
theorem fc_fq_191 : tr_all am_oke 5 fq_191 = true := dc_fq (by decide +kernel) (by decide +kernel)
set_option maxRecDepth 1000000 in
theorem fc_fq_192 : tr_all am_oke 5 fq_192 = true := dc_fq (by decide +kernel) (by decide +kernel)
set_option maxRecDepth 1000000 in
theorem fc_fq_193 : tr_all am_oke 5 fq_193 = true := dc_fq (by decide +kernel) (by decide +kernel)
set_option maxRecDepth 1000000 in
theorem fc_fq_194 : tr_all am_oke 5 fq_194 = true := dc_fq (by decide +kernel) (by decide +kernel)
set_option maxRecDepth 1000000 in
theorem fc_fq_195 : tr_all am_oke 5 fq_195 = true := dc_fq (by decide +kernel) (by decide +kernel)
set_option maxRecDepth 1000000 in
theorem fc_fq_196 : tr_all am_oke 5 fq_196 = true := dc_fq (by decide +kernel) (by decide +kernel)
set_option maxRecDepth 1000000 in
theorem fc_fq_197 : tr_all am_oke 5 fq_197 = true := dc_fq (by decide +kernel) (by decide +kernel)
set_option maxRecDepth 1000000 in
theorem fc_fq_198 : tr_all am_oke 5 fq_198 = true := dc_fq (by decide +kernel) (by decide +kernel)
set_option maxRecDepth 1000000 in
theorem fc_fq_199 : tr_all am_oke 5 fq_199 = true := dc_fq (by decide +kernel) (by decide +kernel)
