/-! ===== code rows against the class files (by wip/gen/emit_ck.py) ===== -/
set_option maxRecDepth 1000000 in
theorem ck_185 : (cd_185.all (aCk tfL tpL tgL tkkL tcL tvL tyyL ttL 14 prog_2_method_14_code)) = true := by decide +kernel
set_option maxRecDepth 1000000 in
theorem ck_186 : (cd_186.all (aCk tfL tpL tgL tkkL tcL tvL tyyL ttL 14 prog_2_method_16_code)) = true := by decide +kernel
set_option maxRecDepth 1000000 in
theorem ck_187 : (cd_187.all (aCk tfL tpL tgL tkkL tcL tvL tyyL ttL 14 prog_2_method_15_code)) = true := by decide +kernel
set_option maxRecDepth 1000000 in
theorem ck_188 : (cd_188.all (aCk tfL tpL tgL tkkL tcL tvL tyyL ttL 2 prog_12_method_61_code)) = true := by decide +kernel
set_option maxRecDepth 1000000 in
theorem ck_189 : (cd_189.all (aCk tfL tpL tgL tkkL tcL tvL tyyL ttL 2 prog_12_method_57_code)) = true := by decide +kernel
set_option maxRecDepth 1000000 in
theorem ck_190 : (cd_190.all (aCk tfL tpL tgL tkkL tcL tvL tyyL ttL 2 prog_12_method_55_code)) = true := by decide +kernel
set_option maxRecDepth 1000000 in
theorem ck_191 : (cd_191.all (aCk tfL tpL tgL tkkL tcL tvL tyyL ttL 2 prog_12_method_56_code)) = true := by decide +kernel
set_option maxRecDepth 1000000 in
theorem ck_192 : (cd_192.all (aCk tfL tpL tgL tkkL tcL tvL tyyL ttL 3 method_14_code)) = true := by decide +kernel
set_option maxRecDepth 1000000 in
theorem ck_193 : (cd_193.all (aCk tfL tpL tgL tkkL tcL tvL tyyL ttL 0 prog_1_method_15_code)) = true := by decide +kernel
set_option maxRecDepth 1000000 in
theorem ck_194 : (cd_194.all (aCk tfL tpL tgL tkkL tcL tvL tyyL ttL 2 prog_12_method_67_code)) = true := by decide +kernel
set_option maxRecDepth 1000000 in
theorem ck_195 : (cd_195.all (aCk tfL tpL tgL tkkL tcL tvL tyyL ttL 2 prog_12_method_66_code)) = true := by decide +kernel
set_option maxRecDepth 1000000 in
theorem ck_196 : (cd_196.all (aCk tfL tpL tgL tkkL tcL tvL tyyL ttL 3 method_15_code)) = true := by decide +kernel
set_option maxRecDepth 1000000 in
theorem ck_197 : (cd_197.all (aCk tfL tpL tgL tkkL tcL tvL tyyL ttL 0 prog_1_method_16_code)) = true := by decide +kernel
set_option maxRecDepth 1000000 in
theorem ck_198 : (cd_198.all (aCk tfL tpL tgL tkkL tcL tvL tyyL ttL 12 prog_7_method_4_code)) = true := by decide +kernel
set_option maxRecDepth 1000000 in
theorem ck_199 : (cd_199.all (aCk tfL tpL tgL tkkL tcL tvL tyyL ttL 12 prog_7_method_2_code)) = true := by decide +kernel
set_option maxRecDepth 1000000 in
theorem ck_200 : (cd_200.all (aCk tfL tpL tgL tkkL tcL tvL tyyL ttL 2 prog_12_method_72_code)) = true := by decide +kernel
set_option maxRecDepth 1000000 in
theorem ck_201 : (cd_201.all (aCk tfL tpL tgL tkkL tcL tvL tyyL ttL 2 prog_12_method_65_code)) = true := by decide +kernel
set_option maxRecDepth 1000000 in
theorem ck_202 : (cd_202.all (aCk tfL tpL tgL tkkL tcL tvL tyyL ttL 2 prog_12_method_68_code)) = true := by decide +kernel
set_option maxRecDepth 1000000 in
theorem ck_203 : (cd_203.all (aCk tfL tpL tgL tkkL tcL tvL tyyL ttL 2 prog_12_method_69_code)) = true := by decide +kernel
set_option maxRecDepth 1000000 in
theorem ck_204 : (cd_204.all (aCk tfL tpL tgL tkkL tcL tvL tyyL ttL 2 prog_12_method_70_code)) = true := by decide +kernel
set_option maxRecDepth 1000000 in
theorem ck_205 : (cd_205.all (aCk tfL tpL tgL tkkL tcL tvL tyyL ttL 2 prog_12_method_71_code)) = true := by decide +kernel
set_option maxRecDepth 1000000 in
theorem ck_206 : (cd_206.all (aCk tfL tpL tgL tkkL tcL tvL tyyL ttL 3 method_16_code)) = true := by decide +kernel
set_option maxRecDepth 1000000 in
theorem ck_207 : (cd_207.all (aCk tfL tpL tgL tkkL tcL tvL tyyL ttL 0 prog_1_method_17_code)) = true := by decide +kernel
set_option maxRecDepth 1000000 in
theorem ck_208 : (cd_208.all (aCk tfL tpL tgL tkkL tcL tvL tyyL ttL 13 prog_8_method_4_code)) = true := by decide +kernel
set_option maxRecDepth 1000000 in
theorem ck_209 : (cd_209.all (aCk tfL tpL tgL tkkL tcL tvL tyyL ttL 2 prog_12_method_79_code)) = true := by decide +kernel
set_option maxRecDepth 1000000 in
theorem ck_210 : (cd_210.all (aCk tfL tpL tgL tkkL tcL tvL tyyL ttL 3 method_17_code)) = true := by decide +kernel
set_option maxRecDepth 1000000 in
theorem ck_211 : (cd_211.all (aCk tfL tpL tgL tkkL tcL tvL tyyL ttL 0 prog_1_method_18_code)) = true := by decide +kernel
set_option maxRecDepth 1000000 in
theorem ck_212 : (cd_212.all (aCk tfL tpL tgL tkkL tcL tvL tyyL ttL 0 prog_1_method_47_code)) = true := by decide +kernel
set_option maxRecDepth 1000000 in
theorem ck_213 : (cd_213.all (aCk tfL tpL tgL tkkL tcL tvL tyyL ttL 0 prog_1_method_49_code)) = true := by decide +kernel
set_option maxRecDepth 1000000 in
theorem ck_214 : (cd_214.all (aCk tfL tpL tgL tkkL tcL tvL tyyL ttL 0 prog_1_method_48_code)) = true := by decide +kernel
set_option maxRecDepth 1000000 in
theorem ck_215 : (cd_215.all (aCk tfL tpL tgL tkkL tcL tvL tyyL ttL 2 prog_12_method_82_code)) = true := by decide +kernel
set_option maxRecDepth 1000000 in
theorem ck_216 : (cd_216.all (aCk tfL tpL tgL tkkL tcL tvL tyyL ttL 2 prog_12_method_80_code)) = true := by decide +kernel
set_option maxRecDepth 1000000 in
theorem ck_217 : (cd_217.all (aCk tfL tpL tgL tkkL tcL tvL tyyL ttL 2 prog_12_method_81_code)) = true := by decide +kernel
set_option maxRecDepth 1000000 in
theorem ck_218 : (cd_218.all (aCk tfL tpL tgL tkkL tcL tvL tyyL ttL 3 method_18_code)) = true := by decide +kernel
set_option maxRecDepth 1000000 in
theorem ck_219 : (cd_219.all (aCk tfL tpL tgL tkkL tcL tvL tyyL ttL 0 prog_1_method_19_code)) = true := by decide +kernel
set_option maxRecDepth 1000000 in
theorem ck_220 : (cd_220.all (aCk tfL tpL tgL tkkL tcL tvL tyyL ttL 13 prog_8_method_3_code)) = true := by decide +kernel
set_option maxRecDepth 1000000 in
theorem ck_221 : (cd_221.all (aCk tfL tpL tgL tkkL tcL tvL tyyL ttL 0 prog_1_method_50_code)) = true := by decide +kernel
