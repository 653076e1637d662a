/-! ===== code rows against the class files (by wip/gen/emit_ck.py) ===== -/
set_option maxRecDepth 1000000 in
theorem ck_282 : (cd_282.all (aCk tfL tpL tgL tkkL tcL tvL tyyL ttL 0 prog_1_method_28_code)) = true := by decide +kernel
set_option maxRecDepth 1000000 in
theorem ck_283 : (cd_283.all (aCk tfL tpL tgL tkkL tcL tvL tyyL ttL 2 prog_12_method_107_code)) = true := by decide +kernel
set_option maxRecDepth 1000000 in
theorem ck_284 : (cd_284.all (aCk tfL tpL tgL tkkL tcL tvL tyyL ttL 3 method_27_code)) = true := by decide +kernel
set_option maxRecDepth 1000000 in
theorem ck_285 : (cd_285.all (aCk tfL tpL tgL tkkL tcL tvL tyyL ttL 0 prog_1_method_29_code)) = true := by decide +kernel
set_option maxRecDepth 1000000 in
theorem ck_286 : (cd_286.all (aCk tfL tpL tgL tkkL tcL tvL tyyL ttL 14 prog_2_method_7_code)) = true := by decide +kernel
set_option maxRecDepth 1000000 in
theorem ck_287 : (cd_287.all (aCk tfL tpL tgL tkkL tcL tvL tyyL ttL 2 prog_12_method_63_code)) = true := by decide +kernel
set_option maxRecDepth 1000000 in
theorem ck_288 : (cd_288.all (aCk tfL tpL tgL tkkL tcL tvL tyyL ttL 2 prog_12_method_62_code)) = true := by decide +kernel
set_option maxRecDepth 1000000 in
theorem ck_289 : (cd_289.all (aCk tfL tpL tgL tkkL tcL tvL tyyL ttL 3 method_28_code)) = true := by decide +kernel
set_option maxRecDepth 1000000 in
theorem ck_290 : (cd_290.all (aCk tfL tpL tgL tkkL tcL tvL tyyL ttL 0 prog_1_method_30_code)) = true := by decide +kernel
set_option maxRecDepth 1000000 in
theorem ck_291 : (cd_291.all (aCk tfL tpL tgL tkkL tcL tvL tyyL ttL 0 prog_1_method_63_code)) = true := by decide +kernel
set_option maxRecDepth 1000000 in
theorem ck_292 : (cd_292.all (aCk tfL tpL tgL tkkL tcL tvL tyyL ttL 0 prog_1_method_64_code)) = true := by decide +kernel
set_option maxRecDepth 1000000 in
theorem ck_293 : (cd_293.all (aCk tfL tpL tgL tkkL tcL tvL tyyL ttL 2 prog_12_method_64_code)) = true := by decide +kernel
set_option maxRecDepth 1000000 in
theorem ck_294 : (cd_294.all (aCk tfL tpL tgL tkkL tcL tvL tyyL ttL 3 method_29_code)) = true := by decide +kernel
set_option maxRecDepth 1000000 in
theorem ck_295 : (cd_295.all (aCk tfL tpL tgL tkkL tcL tvL tyyL ttL 0 prog_1_method_31_code)) = true := by decide +kernel
set_option maxRecDepth 1000000 in
theorem ck_296 : (cd_296.all (aCk tfL tpL tgL tkkL tcL tvL tyyL ttL 0 prog_1_method_65_code)) = true := by decide +kernel
set_option maxRecDepth 1000000 in
theorem ck_297 : (cd_297.all (aCk tfL tpL tgL tkkL tcL tvL tyyL ttL 0 prog_1_method_66_code)) = true := by decide +kernel
set_option maxRecDepth 1000000 in
theorem ck_298 : (cd_298.all (aCk tfL tpL tgL tkkL tcL tvL tyyL ttL 0 prog_1_method_67_code)) = true := by decide +kernel
set_option maxRecDepth 1000000 in
theorem ck_299 : (cd_299.all (aCk tfL tpL tgL tkkL tcL tvL tyyL ttL 2 prog_12_method_108_code)) = true := by decide +kernel
set_option maxRecDepth 1000000 in
theorem ck_300 : (cd_300.all (aCk tfL tpL tgL tkkL tcL tvL tyyL ttL 3 method_30_code)) = true := by decide +kernel
set_option maxRecDepth 1000000 in
theorem ck_301 : (cd_301.all (aCk tfL tpL tgL tkkL tcL tvL tyyL ttL 0 prog_1_method_32_code)) = true := by decide +kernel
set_option maxRecDepth 1000000 in
theorem ck_302 : (cd_302.all (aCk tfL tpL tgL tkkL tcL tvL tyyL ttL 0 prog_1_method_70_code)) = true := by decide +kernel
set_option maxRecDepth 1000000 in
theorem ck_303 : (cd_303.all (aCk tfL tpL tgL tkkL tcL tvL tyyL ttL 0 prog_1_method_71_code)) = true := by decide +kernel
set_option maxRecDepth 1000000 in
theorem ck_304 : (cd_304.all (aCk tfL tpL tgL tkkL tcL tvL tyyL ttL 0 prog_1_method_68_code)) = true := by decide +kernel
set_option maxRecDepth 1000000 in
theorem ck_305 : (cd_305.all (aCk tfL tpL tgL tkkL tcL tvL tyyL ttL 0 prog_1_method_69_code)) = true := by decide +kernel
set_option maxRecDepth 1000000 in
theorem ck_306 : (cd_306.all (aCk tfL tpL tgL tkkL tcL tvL tyyL ttL 2 prog_12_method_109_code)) = true := by decide +kernel
set_option maxRecDepth 1000000 in
theorem ck_307 : (cd_307.all (aCk tfL tpL tgL tkkL tcL tvL tyyL ttL 0 prog_1_method_33_code)) = true := by decide +kernel
set_option maxRecDepth 1000000 in
theorem ck_308 : (cd_308.all (aCk tfL tpL tgL tkkL tcL tvL tyyL ttL 12 prog_7_method_8_code)) = true := by decide +kernel
set_option maxRecDepth 1000000 in
theorem ck_309 : (cd_309.all (aCk tfL tpL tgL tkkL tcL tvL tyyL ttL 2 prog_12_method_110_code)) = true := by decide +kernel
set_option maxRecDepth 1000000 in
theorem ck_310 : (cd_310.all (aCk tfL tpL tgL tkkL tcL tvL tyyL ttL 0 prog_1_method_34_code)) = true := by decide +kernel
set_option maxRecDepth 1000000 in
theorem ck_311 : (cd_311.all (aCk tfL tpL tgL tkkL tcL tvL tyyL ttL 2 prog_12_method_111_code)) = true := by decide +kernel
