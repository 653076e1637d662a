/-! ===== code rows against the class files (by wip/gen/emit_ck.py) ===== -/
set_option maxRecDepth 1000000 in
theorem ck_258 : (cd_258.all (aCk tfL tpL tgL tkkL tcL tvL tyyL ttL 2 prog_12_method_99_code)) = true := by decide +kernel
set_option maxRecDepth 1000000 in
theorem ck_259 : (cd_259.all (aCk tfL tpL tgL tkkL tcL tvL tyyL ttL 3 method_22_code)) = true := by decide +kernel
set_option maxRecDepth 1000000 in
theorem ck_260 : (cd_260.all (aCk tfL tpL tgL tkkL tcL tvL tyyL ttL 0 prog_1_method_23_code)) = true := by decide +kernel
set_option maxRecDepth 1000000 in
theorem ck_261 : (cd_261.all (aCk tfL tpL tgL tkkL tcL tvL tyyL ttL 0 prog_1_method_59_code)) = true := by decide +kernel
set_option maxRecDepth 1000000 in
theorem ck_262 : (cd_262.all (aCk tfL tpL tgL tkkL tcL tvL tyyL ttL 0 prog_1_method_60_code)) = true := by decide +kernel
set_option maxRecDepth 1000000 in
theorem ck_263 : (cd_263.all (aCk tfL tpL tgL tkkL tcL tvL tyyL ttL 2 prog_12_method_100_code)) = true := by decide +kernel
set_option maxRecDepth 1000000 in
theorem ck_264 : (cd_264.all (aCk tfL tpL tgL tkkL tcL tvL tyyL ttL 3 method_23_code)) = true := by decide +kernel
set_option maxRecDepth 1000000 in
theorem ck_265 : (cd_265.all (aCk tfL tpL tgL tkkL tcL tvL tyyL ttL 0 prog_1_method_24_code)) = true := by decide +kernel
set_option maxRecDepth 1000000 in
theorem ck_266 : (cd_266.all (aCk tfL tpL tgL tkkL tcL tvL tyyL ttL 0 prog_1_method_44_code)) = true := by decide +kernel
set_option maxRecDepth 1000000 in
theorem ck_267 : (cd_267.all (aCk tfL tpL tgL tkkL tcL tvL tyyL ttL 6 prog_19_method_49_code)) = true := by decide +kernel
set_option maxRecDepth 1000000 in
theorem ck_268 : (cd_268.all (aCk tfL tpL tgL tkkL tcL tvL tyyL ttL 2 prog_12_method_102_code)) = true := by decide +kernel
set_option maxRecDepth 1000000 in
theorem ck_269 : (cd_269.all (aCk tfL tpL tgL tkkL tcL tvL tyyL ttL 2 prog_12_method_101_code)) = true := by decide +kernel
set_option maxRecDepth 1000000 in
theorem ck_270 : (cd_270.all (aCk tfL tpL tgL tkkL tcL tvL tyyL ttL 3 method_24_code)) = true := by decide +kernel
set_option maxRecDepth 1000000 in
theorem ck_271 : (cd_271.all (aCk tfL tpL tgL tkkL tcL tvL tyyL ttL 0 prog_1_method_25_code)) = true := by decide +kernel
set_option maxRecDepth 1000000 in
theorem ck_272 : (cd_272.all (aCk tfL tpL tgL tkkL tcL tvL tyyL ttL 2 prog_12_method_103_code)) = true := by decide +kernel
set_option maxRecDepth 1000000 in
theorem ck_273 : (cd_273.all (aCk tfL tpL tgL tkkL tcL tvL tyyL ttL 3 method_25_code)) = true := by decide +kernel
set_option maxRecDepth 1000000 in
theorem ck_274 : (cd_274.all (aCk tfL tpL tgL tkkL tcL tvL tyyL ttL 0 prog_1_method_26_code)) = true := by decide +kernel
set_option maxRecDepth 1000000 in
theorem ck_275 : (cd_275.all (aCk tfL tpL tgL tkkL tcL tvL tyyL ttL 0 prog_1_method_61_code)) = true := by decide +kernel
set_option maxRecDepth 1000000 in
theorem ck_276 : (cd_276.all (aCk tfL tpL tgL tkkL tcL tvL tyyL ttL 0 prog_1_method_62_code)) = true := by decide +kernel
set_option maxRecDepth 1000000 in
theorem ck_277 : (cd_277.all (aCk tfL tpL tgL tkkL tcL tvL tyyL ttL 2 prog_12_method_105_code)) = true := by decide +kernel
set_option maxRecDepth 1000000 in
theorem ck_278 : (cd_278.all (aCk tfL tpL tgL tkkL tcL tvL tyyL ttL 2 prog_12_method_104_code)) = true := by decide +kernel
set_option maxRecDepth 1000000 in
theorem ck_279 : (cd_279.all (aCk tfL tpL tgL tkkL tcL tvL tyyL ttL 0 prog_1_method_27_code)) = true := by decide +kernel
set_option maxRecDepth 1000000 in
theorem ck_280 : (cd_280.all (aCk tfL tpL tgL tkkL tcL tvL tyyL ttL 2 prog_12_method_106_code)) = true := by decide +kernel
set_option maxRecDepth 1000000 in
theorem ck_281 : (cd_281.all (aCk tfL tpL tgL tkkL tcL tvL tyyL ttL 3 method_26_code)) = true := by decide +kernel
