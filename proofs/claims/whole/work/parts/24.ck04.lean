/-! ===== code rows against the class files (by wip/gen/emit_ck.py) ===== -/
set_option maxRecDepth 1000000 in
theorem ck_143 : (cd_143.all (aCk tfL tpL tgL tkkL tcL tvL tyyL ttL 2 prog_12_method_89_code)) = true := by decide +kernel
set_option maxRecDepth 1000000 in
theorem ck_144 : (cd_144.all (aCk tfL tpL tgL tkkL tcL tvL tyyL ttL 3 method_8_code)) = true := by decide +kernel
set_option maxRecDepth 1000000 in
theorem ck_145 : (cd_145.all (aCk tfL tpL tgL tkkL tcL tvL tyyL ttL 0 prog_1_method_9_code)) = true := by decide +kernel
set_option maxRecDepth 1000000 in
theorem ck_146 : (cd_146.all (aCk tfL tpL tgL tkkL tcL tvL tyyL ttL 2 prog_12_method_90_code)) = true := by decide +kernel
set_option maxRecDepth 1000000 in
theorem ck_147 : (cd_147.all (aCk tfL tpL tgL tkkL tcL tvL tyyL ttL 3 method_9_code)) = true := by decide +kernel
set_option maxRecDepth 1000000 in
theorem ck_148 : (cd_148.all (aCk tfL tpL tgL tkkL tcL tvL tyyL ttL 0 prog_1_method_10_code)) = true := by decide +kernel
set_option maxRecDepth 1000000 in
theorem ck_149 : (cd_149.all (aCk tfL tpL tgL tkkL tcL tvL tyyL ttL 2 prog_12_method_91_code)) = true := by decide +kernel
set_option maxRecDepth 1000000 in
theorem ck_150 : (cd_150.all (aCk tfL tpL tgL tkkL tcL tvL tyyL ttL 3 method_10_code)) = true := by decide +kernel
set_option maxRecDepth 1000000 in
theorem ck_151 : (cd_151.all (aCk tfL tpL tgL tkkL tcL tvL tyyL ttL 0 prog_1_method_11_code)) = true := by decide +kernel
set_option maxRecDepth 1000000 in
theorem ck_152 : (cd_152.all (aCk tfL tpL tgL tkkL tcL tvL tyyL ttL 0 prog_1_method_43_code)) = true := by decide +kernel
set_option maxRecDepth 1000000 in
theorem ck_153 : (cd_153.all (aCk tfL tpL tgL tkkL tcL tvL tyyL ttL 2 prog_12_method_46_code)) = true := by decide +kernel
set_option maxRecDepth 1000000 in
theorem ck_154 : (cd_154.all (aCk tfL tpL tgL tkkL tcL tvL tyyL ttL 2 prog_12_method_45_code)) = true := by decide +kernel
set_option maxRecDepth 1000000 in
theorem ck_155 : (cd_155.all (aCk tfL tpL tgL tkkL tcL tvL tyyL ttL 3 method_11_code)) = true := by decide +kernel
set_option maxRecDepth 1000000 in
theorem ck_156 : (cd_156.all (aCk tfL tpL tgL tkkL tcL tvL tyyL ttL 0 prog_1_method_12_code)) = true := by decide +kernel
set_option maxRecDepth 1000000 in
theorem ck_157 : (cd_157.all (aCk tfL tpL tgL tkkL tcL tvL tyyL ttL 0 prog_1_method_37_code)) = true := by decide +kernel
set_option maxRecDepth 1000000 in
theorem ck_158 : (cd_158.all (aCk tfL tpL tgL tkkL tcL tvL tyyL ttL 14 prog_2_method_2_code)) = true := by decide +kernel
set_option maxRecDepth 1000000 in
theorem ck_159 : (cd_159.all (aCk tfL tpL tgL tkkL tcL tvL tyyL ttL 14 prog_2_method_3_code)) = true := by decide +kernel
set_option maxRecDepth 1000000 in
theorem ck_160 : (cd_160.all (aCk tfL tpL tgL tkkL tcL tvL tyyL ttL 14 prog_2_method_4_code)) = true := by decide +kernel
set_option maxRecDepth 1000000 in
theorem ck_161 : (cd_161.all (aCk tfL tpL tgL tkkL tcL tvL tyyL ttL 14 prog_2_method_5_code)) = true := by decide +kernel
set_option maxRecDepth 1000000 in
theorem ck_162 : (cd_162.all (aCk tfL tpL tgL tkkL tcL tvL tyyL ttL 14 prog_2_method_6_code)) = true := by decide +kernel
set_option maxRecDepth 1000000 in
theorem ck_163 : (cd_163.all (aCk tfL tpL tgL tkkL tcL tvL tyyL ttL 14 prog_2_method_11_code)) = true := by decide +kernel
set_option maxRecDepth 1000000 in
theorem ck_164 : (cd_164.all (aCk tfL tpL tgL tkkL tcL tvL tyyL ttL 14 prog_2_method_10_code)) = true := by decide +kernel
set_option maxRecDepth 1000000 in
theorem ck_165 : (cd_165.all (aCk tfL tpL tgL tkkL tcL tvL tyyL ttL 14 prog_2_method_9_code)) = true := by decide +kernel
set_option maxRecDepth 1000000 in
theorem ck_166 : (cd_166.all (aCk tfL tpL tgL tkkL tcL tvL tyyL ttL 2 prog_12_method_59_code)) = true := by decide +kernel
set_option maxRecDepth 1000000 in
theorem ck_167 : (cd_167.all (aCk tfL tpL tgL tkkL tcL tvL tyyL ttL 2 prog_12_method_58_code)) = true := by decide +kernel
set_option maxRecDepth 1000000 in
theorem ck_168 : (cd_168.all (aCk tfL tpL tgL tkkL tcL tvL tyyL ttL 2 prog_12_method_48_code)) = true := by decide +kernel
set_option maxRecDepth 1000000 in
theorem ck_169 : (cd_169.all (aCk tfL tpL tgL tkkL tcL tvL tyyL ttL 2 prog_12_method_51_code)) = true := by decide +kernel
set_option maxRecDepth 1000000 in
theorem ck_170 : (cd_170.all (aCk tfL tpL tgL tkkL tcL tvL tyyL ttL 2 prog_12_method_49_code)) = true := by decide +kernel
set_option maxRecDepth 1000000 in
theorem ck_171 : (cd_171.all (aCk tfL tpL tgL tkkL tcL tvL tyyL ttL 2 prog_12_method_47_code)) = true := by decide +kernel
set_option maxRecDepth 1000000 in
theorem ck_172 : (cd_172.all (aCk tfL tpL tgL tkkL tcL tvL tyyL ttL 2 prog_12_method_50_code)) = true := by decide +kernel
set_option maxRecDepth 1000000 in
theorem ck_173 : (cd_173.all (aCk tfL tpL tgL tkkL tcL tvL tyyL ttL 3 method_12_code)) = true := by decide +kernel
set_option maxRecDepth 1000000 in
theorem ck_174 : (cd_174.all (aCk tfL tpL tgL tkkL tcL tvL tyyL ttL 0 prog_1_method_13_code)) = true := by decide +kernel
set_option maxRecDepth 1000000 in
theorem ck_175 : (cd_175.all (aCk tfL tpL tgL tkkL tcL tvL tyyL ttL 14 prog_2_method_12_code)) = true := by decide +kernel
set_option maxRecDepth 1000000 in
theorem ck_176 : (cd_176.all (aCk tfL tpL tgL tkkL tcL tvL tyyL ttL 14 prog_2_method_8_code)) = true := by decide +kernel
set_option maxRecDepth 1000000 in
theorem ck_177 : (cd_177.all (aCk tfL tpL tgL tkkL tcL tvL tyyL ttL 14 prog_2_method_13_code)) = true := by decide +kernel
set_option maxRecDepth 1000000 in
theorem ck_178 : (cd_178.all (aCk tfL tpL tgL tkkL tcL tvL tyyL ttL 2 prog_12_method_60_code)) = true := by decide +kernel
set_option maxRecDepth 1000000 in
theorem ck_179 : (cd_179.all (aCk tfL tpL tgL tkkL tcL tvL tyyL ttL 2 prog_12_method_52_code)) = true := by decide +kernel
set_option maxRecDepth 1000000 in
theorem ck_180 : (cd_180.all (aCk tfL tpL tgL tkkL tcL tvL tyyL ttL 2 prog_12_method_53_code)) = true := by decide +kernel
set_option maxRecDepth 1000000 in
theorem ck_181 : (cd_181.all (aCk tfL tpL tgL tkkL tcL tvL tyyL ttL 2 prog_12_method_54_code)) = true := by decide +kernel
set_option maxRecDepth 1000000 in
theorem ck_182 : (cd_182.all (aCk tfL tpL tgL tkkL tcL tvL tyyL ttL 3 method_13_code)) = true := by decide +kernel
set_option maxRecDepth 1000000 in
theorem ck_183 : (cd_183.all (aCk tfL tpL tgL tkkL tcL tvL tyyL ttL 0 prog_1_method_14_code)) = true := by decide +kernel
set_option maxRecDepth 1000000 in
theorem ck_184 : (cd_184.all (aCk tfL tpL tgL tkkL tcL tvL tyyL ttL 0 prog_1_method_40_code)) = true := by decide +kernel
