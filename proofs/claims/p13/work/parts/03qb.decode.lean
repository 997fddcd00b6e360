set_option maxRecDepth 1000000 in
theorem fc_fq_90 : tr_all am_oke 5 fq_90 = true := by decide +kernel
set_option maxRecDepth 1000000 in
theorem fc_fq_91 : tr_all am_oke 5 fq_91 = true := by decide +kernel
set_option maxRecDepth 1000000 in
theorem fc_fq_92 : tr_all am_oke 5 fq_92 = true := by decide +kernel
set_option maxRecDepth 1000000 in
theorem fc_fq_93 : tr_all am_oke 5 fq_93 = true := by decide +kernel
set_option maxRecDepth 1000000 in
theorem fc_fq_94 : tr_all am_oke 5 fq_94 = true := by decide +kernel
set_option maxRecDepth 1000000 in
theorem fc_fq_95 : tr_all am_oke 5 fq_95 = true := by decide +kernel
set_option maxRecDepth 1000000 in
theorem fc_fq_96 : tr_all am_oke 5 fq_96 = true := by decide +kernel
set_option maxRecDepth 1000000 in
theorem fc_fq_97 : tr_all am_oke 5 fq_97 = true := by decide +kernel
set_option maxRecDepth 1000000 in
theorem fc_fq_98 : tr_all am_oke 5 fq_98 = true := by decide +kernel
set_option maxRecDepth 1000000 in
theorem fc_fq_99 : tr_all am_oke 5 fq_99 = true := by decide +kernel
set_option maxRecDepth 1000000 in
theorem fc_fq_100 : tr_all am_oke 5 fq_100 = true := by decide +kernel
set_option maxRecDepth 1000000 in
theorem fc_fq_101 : tr_all am_oke 5 fq_101 = true := by decide +kernel
set_option maxRecDepth 1000000 in
theorem fc_fq_102 : tr_all am_oke 5 fq_102 = true := by decide +kernel
set_option maxRecDepth 1000000 in
theorem fc_fq_103 : tr_all am_oke 5 fq_103 = true := by decide +kernel
set_option maxRecDepth 1000000 in
theorem fc_fq_104 : tr_all am_oke 5 fq_104 = true := by decide +kernel
set_option maxRecDepth 1000000 in
theorem fc_fq_105 : tr_all am_oke 5 fq_105 = true := by decide +kernel
set_option maxRecDepth 1000000 in
theorem fc_fq_106 : tr_all am_oke 5 fq_106 = true := by decide +kernel
set_option maxRecDepth 1000000 in
theorem fc_fq_107 : tr_all am_oke 5 fq_107 = true := by decide +kernel
set_option maxRecDepth 1000000 in
theorem fc_fq_108 : tr_all am_oke 5 fq_108 = true := by decide +kernel
set_option maxRecDepth 1000000 in
theorem fc_fq_109 : tr_all am_oke 5 fq_109 = true := by decide +kernel
set_option maxRecDepth 1000000 in
theorem fc_fq_110 : tr_all am_oke 5 fq_110 = true := by decide +kernel
set_option maxRecDepth 1000000 in
theorem fc_fq_111 : tr_all am_oke 5 fq_111 = true := by decide +kernel
set_option maxRecDepth 1000000 in
theorem fc_fq_112 : tr_all am_oke 5 fq_112 = true := by decide +kernel
set_option maxRecDepth 1000000 in
theorem fc_fq_113 : tr_all am_oke 5 fq_113 = true := by decide +kernel
set_option maxRecDepth 1000000 in
theorem fc_fq_114 : tr_all am_oke 5 fq_114 = true := by decide +kernel
set_option maxRecDepth 1000000 in
theorem fc_fq_115 : tr_all am_oke 5 fq_115 = true := by decide +kernel
set_option maxRecDepth 1000000 in
theorem fc_fq_116 : tr_all am_oke 5 fq_116 = true := by decide +kernel
set_option maxRecDepth 1000000 in
theorem fc_fq_117 : tr_all am_oke 5 fq_117 = true := by decide +kernel
set_option maxRecDepth 1000000 in
theorem fc_fq_118 : tr_all am_oke 5 fq_118 = true := by decide +kernel
set_option maxRecDepth 1000000 in
theorem fc_fq_119 : tr_all am_oke 5 fq_119 = true := by decide +kernel
set_option maxRecDepth 1000000 in
theorem fc_fq_120 : tr_all am_oke 5 fq_120 = true := by decide +kernel
set_option maxRecDepth 1000000 in
theorem fc_fq_121 : tr_all am_oke 5 fq_121 = true := by decide +kernel
set_option maxRecDepth 1000000 in
theorem fc_fq_122 : tr_all am_oke 5 fq_122 = true := by decide +kernel
set_option maxRecDepth 1000000 in
theorem fc_fq_123 : tr_all am_oke 5 fq_123 = true := by decide +kernel
set_option maxRecDepth 1000000 in
theorem fc_fq_124 : tr_all am_oke 5 fq_124 = true := by decide +kernel
set_option maxRecDepth 1000000 in
theorem fc_fq_125 : tr_all am_oke 5 fq_125 = true := by decide +kernel
set_option maxRecDepth 1000000 in
theorem fc_fq_126 : tr_all am_oke 5 fq_126 = true := by decide +kernel
set_option maxRecDepth 1000000 in
theorem fc_fq_127 : tr_all am_oke 5 fq_127 = true := by decide +kernel
set_option maxRecDepth 1000000 in
theorem fc_fq_128 : tr_all am_oke 5 fq_128 = true := by decide +kernel
set_option maxRecDepth 1000000 in
theorem fc_fq_129 : tr_all am_oke 5 fq_129 = true := by decide +kernel
set_option maxRecDepth 1000000 in
theorem fc_fq_130 : tr_all am_oke 5 fq_130 = true := by decide +kernel
set_option maxRecDepth 1000000 in
theorem fc_fq_131 : tr_all am_oke 5 fq_131 = true := by decide +kernel
set_option maxRecDepth 1000000 in
theorem fc_fq_132 : tr_all am_oke 5 fq_132 = true := by decide +kernel
set_option maxRecDepth 1000000 in
theorem fc_fq_133 : tr_all am_oke 5 fq_133 = true := by decide +kernel
set_option maxRecDepth 1000000 in
theorem fc_fq_134 : tr_all am_oke 5 fq_134 = true := by decide +kernel
set_option maxRecDepth 1000000 in
theorem fc_fq_135 : tr_all am_oke 5 fq_135 = true := by decide +kernel
set_option maxRecDepth 1000000 in
theorem fc_fq_136 : tr_all am_oke 5 fq_136 = true := by decide +kernel
set_option maxRecDepth 1000000 in
theorem fc_fq_137 : tr_all am_oke 5 fq_137 = true := by decide +kernel
set_option maxRecDepth 1000000 in
theorem fc_fq_138 : tr_all am_oke 5 fq_138 = true := by decide +kernel
set_option maxRecDepth 1000000 in
theorem fc_fq_139 : tr_all am_oke 5 fq_139 = true := by decide +kernel
set_option maxRecDepth 1000000 in
theorem fc_fq_140 : tr_all am_oke 5 fq_140 = true := by decide +kernel
set_option maxRecDepth 1000000 in
theorem fc_fq_141 : tr_all am_oke 5 fq_141 = true := by decide +kernel
set_option maxRecDepth 1000000 in
theorem fc_fq_142 : tr_all am_oke 5 fq_142 = true := by decide +kernel
set_option maxRecDepth 1000000 in
theorem fc_fq_143 : tr_all am_oke 5 fq_143 = true := by decide +kernel
set_option maxRecDepth 1000000 in
theorem fc_fq_144 : tr_all am_oke 5 fq_144 = true := by decide +kernel
set_option maxRecDepth 1000000 in
theorem fc_fq_145 : tr_all am_oke 5 fq_145 = true := by decide +kernel
set_option maxRecDepth 1000000 in
theorem fc_fq_146 : tr_all am_oke 5 fq_146 = true := by decide +kernel
set_option maxRecDepth 1000000 in
theorem fc_fq_147 : tr_all am_oke 5 fq_147 = true := by decide +kernel
set_option maxRecDepth 1000000 in
theorem fc_fq_148 : tr_all am_oke 5 fq_148 = true := by decide +kernel
set_option maxRecDepth 1000000 in
theorem fc_fq_149 : tr_all am_oke 5 fq_149 = true := by decide +kernel
set_option maxRecDepth 1000000 in
theorem fc_fq_150 : tr_all am_oke 5 fq_150 = true := by decide +kernel
set_option maxRecDepth 1000000 in
theorem fc_fq_151 : tr_all am_oke 5 fq_151 = true := by decide +kernel
set_option maxRecDepth 1000000 in
theorem fc_fq_152 : tr_all am_oke 5 fq_152 = true := by decide +kernel
set_option maxRecDepth 1000000 in
theorem fc_fq_153 : tr_all am_oke 5 fq_153 = true := by decide +kernel
set_option maxRecDepth 1000000 in
theorem fc_fq_154 : tr_all am_oke 5 fq_154 = true := by decide +kernel
set_option maxRecDepth 1000000 in
theorem fc_fq_155 : tr_all am_oke 5 fq_155 = true := by decide +kernel
set_option maxRecDepth 1000000 in
theorem fc_fq_156 : tr_all am_oke 5 fq_156 = true := by decide +kernel
set_option maxRecDepth 1000000 in
theorem fc_fq_157 : tr_all am_oke 5 fq_157 = true := by decide +kernel
set_option maxRecDepth 1000000 in
theorem fc_fq_158 : tr_all am_oke 5 fq_158 = true := by decide +kernel
set_option maxRecDepth 1000000 in
theorem fc_fq_159 : tr_all am_oke 5 fq_159 = true := by decide +kernel
set_option maxRecDepth 1000000 in
theorem fc_fq_160 : tr_all am_oke 5 fq_160 = true := by decide +kernel
set_option maxRecDepth 1000000 in
theorem fc_fq_161 : tr_all am_oke 5 fq_161 = true := by decide +kernel
set_option maxRecDepth 1000000 in
theorem fc_fq_162 : tr_all am_oke 5 fq_162 = true := by decide +kernel
set_option maxRecDepth 1000000 in
theorem fc_fq_163 : tr_all am_oke 5 fq_163 = true := by decide +kernel
set_option maxRecDepth 1000000 in
theorem fc_fq_164 : tr_all am_oke 5 fq_164 = true := by decide +kernel
set_option maxRecDepth 1000000 in
theorem fc_fq_165 : tr_all am_oke 5 fq_165 = true := by decide +kernel
set_option maxRecDepth 1000000 in
theorem fc_fq_166 : tr_all am_oke 5 fq_166 = true := by decide +kernel
set_option maxRecDepth 1000000 in
theorem fc_fq_167 : tr_all am_oke 5 fq_167 = true := by decide +kernel
set_option maxRecDepth 1000000 in
theorem fc_fq_168 : tr_all am_oke 5 fq_168 = true := by decide +kernel
set_option maxRecDepth 1000000 in
theorem fc_fq_169 : tr_all am_oke 5 fq_169 = true := by decide +kernel
set_option maxRecDepth 1000000 in
theorem fc_fq_170 : tr_all am_oke 5 fq_170 = true := by decide +kernel
set_option maxRecDepth 1000000 in
theorem fc_fq_171 : tr_all am_oke 5 fq_171 = true := by decide +kernel
set_option maxRecDepth 1000000 in
theorem fc_fq_172 : tr_all am_oke 5 fq_172 = true := by decide +kernel
set_option maxRecDepth 1000000 in
theorem fc_fq_173 : tr_all am_oke 5 fq_173 = true := by decide +kernel
set_option maxRecDepth 1000000 in
theorem fc_fq_174 : tr_all am_oke 5 fq_174 = true := by decide +kernel
set_option maxRecDepth 1000000 in
theorem fc_fq_175 : tr_all am_oke 5 fq_175 = true := by decide +kernel
set_option maxRecDepth 1000000 in
theorem fc_fq_176 : tr_all am_oke 5 fq_176 = true := by decide +kernel
set_option maxRecDepth 1000000 in
theorem fc_fq_177 : tr_all am_oke 5 fq_177 = true := by decide +kernel
set_option maxRecDepth 1000000 in
theorem fc_fq_178 : tr_all am_oke 5 fq_178 = true := by decide +kernel
set_option maxRecDepth 1000000 in
theorem fc_fq_179 : tr_all am_oke 5 fq_179 = true := by decide +kernel
