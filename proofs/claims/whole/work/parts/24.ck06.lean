/-! ===== code rows against the class files (by wip/gen/emit_ck.py) ===== -/
set_option maxRecDepth 1000000 in
theorem ck_222 : (cd_222.all (aCk tfL tpL tgL tkkL tcL tvL tyyL ttL 0 prog_1_method_51_code)) = true := by decide +kernel
set_option maxRecDepth 1000000 in
theorem ck_223 : (cd_223.all (aCk tfL tpL tgL tkkL tcL tvL tyyL ttL 0 prog_1_method_52_code)) = true := by decide +kernel
set_option maxRecDepth 1000000 in
theorem ck_224 : (cd_224.all (aCk tfL tpL tgL tkkL tcL tvL tyyL ttL 6 prog_19_method_66_code)) = true := by decide +kernel
set_option maxRecDepth 1000000 in
theorem ck_225 : (cd_225.all (aCk tfL tpL tgL tkkL tcL tvL tyyL ttL 2 prog_12_method_94_code)) = true := by decide +kernel
set_option maxRecDepth 1000000 in
theorem ck_226 : (cd_226.all (aCk tfL tpL tgL tkkL tcL tvL tyyL ttL 2 prog_12_method_93_code)) = true := by decide +kernel
set_option maxRecDepth 1000000 in
theorem ck_227 : (cd_227.all (aCk tfL tpL tgL tkkL tcL tvL tyyL ttL 2 prog_12_method_86_code)) = true := by decide +kernel
set_option maxRecDepth 1000000 in
theorem ck_228 : (cd_228.all (aCk tfL tpL tgL tkkL tcL tvL tyyL ttL 2 prog_12_method_84_code)) = true := by decide +kernel
set_option maxRecDepth 1000000 in
theorem ck_229 : (cd_229.all (aCk tfL tpL tgL tkkL tcL tvL tyyL ttL 2 prog_12_method_92_code)) = true := by decide +kernel
set_option maxRecDepth 1000000 in
theorem ck_230 : (cd_230.all (aCk tfL tpL tgL tkkL tcL tvL tyyL ttL 3 method_19_code)) = true := by decide +kernel
set_option maxRecDepth 1000000 in
theorem ck_231 : (cd_231.all (aCk tfL tpL tgL tkkL tcL tvL tyyL ttL 0 prog_1_method_20_code)) = true := by decide +kernel
set_option maxRecDepth 1000000 in
theorem ck_232 : (cd_232.all (aCk tfL tpL tgL tkkL tcL tvL tyyL ttL 0 prog_1_method_53_code)) = true := by decide +kernel
set_option maxRecDepth 1000000 in
theorem ck_233 : (cd_233.all (aCk tfL tpL tgL tkkL tcL tvL tyyL ttL 0 prog_1_method_54_code)) = true := by decide +kernel
set_option maxRecDepth 1000000 in
theorem ck_234 : (cd_234.all (aCk tfL tpL tgL tkkL tcL tvL tyyL ttL 0 prog_1_method_45_code)) = true := by decide +kernel
set_option maxRecDepth 1000000 in
theorem ck_235 : (cd_235.all (aCk tfL tpL tgL tkkL tcL tvL tyyL ttL 0 prog_1_method_55_code)) = true := by decide +kernel
set_option maxRecDepth 1000000 in
theorem ck_236 : (cd_236.all (aCk tfL tpL tgL tkkL tcL tvL tyyL ttL 0 prog_1_method_56_code)) = true := by decide +kernel
set_option maxRecDepth 1000000 in
theorem ck_237 : (cd_237.all (aCk tfL tpL tgL tkkL tcL tvL tyyL ttL 0 prog_1_method_46_code)) = true := by decide +kernel
set_option maxRecDepth 1000000 in
theorem ck_238 : (cd_238.all (aCk tfL tpL tgL tkkL tcL tvL tyyL ttL 2 prog_12_method_97_code)) = true := by decide +kernel
set_option maxRecDepth 1000000 in
theorem ck_239 : (cd_239.all (aCk tfL tpL tgL tkkL tcL tvL tyyL ttL 2 prog_12_method_96_code)) = true := by decide +kernel
set_option maxRecDepth 1000000 in
theorem ck_240 : (cd_240.all (aCk tfL tpL tgL tkkL tcL tvL tyyL ttL 2 prog_12_method_5_code)) = true := by decide +kernel
set_option maxRecDepth 1000000 in
theorem ck_241 : (cd_241.all (aCk tfL tpL tgL tkkL tcL tvL tyyL ttL 2 prog_12_method_85_code)) = true := by decide +kernel
set_option maxRecDepth 1000000 in
theorem ck_242 : (cd_242.all (aCk tfL tpL tgL tkkL tcL tvL tyyL ttL 2 prog_12_method_95_code)) = true := by decide +kernel
set_option maxRecDepth 1000000 in
theorem ck_243 : (cd_243.all (aCk tfL tpL tgL tkkL tcL tvL tyyL ttL 3 method_20_code)) = true := by decide +kernel
set_option maxRecDepth 1000000 in
theorem ck_244 : (cd_244.all (aCk tfL tpL tgL tkkL tcL tvL tyyL ttL 0 prog_1_method_21_code)) = true := by decide +kernel
set_option maxRecDepth 1000000 in
theorem ck_245 : (cd_245.all (aCk tfL tpL tgL tkkL tcL tvL tyyL ttL 0 prog_1_method_57_code)) = true := by decide +kernel
set_option maxRecDepth 1000000 in
theorem ck_246 : (cd_246.all (aCk tfL tpL tgL tkkL tcL tvL tyyL ttL 2 prog_12_method_98_code)) = true := by decide +kernel
set_option maxRecDepth 1000000 in
theorem ck_247 : (cd_247.all (aCk tfL tpL tgL tkkL tcL tvL tyyL ttL 3 method_21_code)) = true := by decide +kernel
set_option maxRecDepth 1000000 in
theorem ck_248 : (cd_248.all (aCk tfL tpL tgL tkkL tcL tvL tyyL ttL 0 prog_1_method_22_code)) = true := by decide +kernel
set_option maxRecDepth 1000000 in
theorem ck_249 : (cd_249.all (aCk tfL tpL tgL tkkL tcL tvL tyyL ttL 15 prog_10_method_2_code)) = true := by decide +kernel
set_option maxRecDepth 1000000 in
theorem ck_250 : (cd_250.all (aCk tfL tpL tgL tkkL tcL tvL tyyL ttL 0 prog_1_method_58_code)) = true := by decide +kernel
set_option maxRecDepth 1000000 in
theorem ck_251 : (cd_251.all (aCk tfL tpL tgL tkkL tcL tvL tyyL ttL 15 prog_10_method_3_code)) = true := by decide +kernel
set_option maxRecDepth 1000000 in
theorem ck_252 : (cd_252.all (aCk tfL tpL tgL tkkL tcL tvL tyyL ttL 15 prog_10_method_4_code)) = true := by decide +kernel
set_option maxRecDepth 1000000 in
theorem ck_253 : (cd_253.all (aCk tfL tpL tgL tkkL tcL tvL tyyL ttL 15 prog_10_method_8_code)) = true := by decide +kernel
set_option maxRecDepth 1000000 in
theorem ck_254 : (cd_254.all (aCk tfL tpL tgL tkkL tcL tvL tyyL ttL 15 prog_10_method_5_code)) = true := by decide +kernel
set_option maxRecDepth 1000000 in
theorem ck_255 : (cd_255.all (aCk tfL tpL tgL tkkL tcL tvL tyyL ttL 15 prog_10_method_9_code)) = true := by decide +kernel
set_option maxRecDepth 1000000 in
theorem ck_256 : (cd_256.all (aCk tfL tpL tgL tkkL tcL tvL tyyL ttL 15 prog_10_method_7_code)) = true := by decide +kernel
set_option maxRecDepth 1000000 in
theorem ck_257 : (cd_257.all (aCk tfL tpL tgL tkkL tcL tvL tyyL ttL 15 prog_10_method_6_code)) = true := by decide +kernel
