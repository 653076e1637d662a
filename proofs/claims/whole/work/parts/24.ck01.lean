/-! ===== code rows against the class files (by wip/gen/emit_ck.py) ===== -/
set_option maxRecDepth 1000000 in
theorem ck_51 : (cd_51.all (aCk tfL tpL tgL tkkL tcL tvL tyyL ttL 10 prog_5_method_6_code)) = true := by decide +kernel
set_option maxRecDepth 1000000 in
theorem ck_52 : (cd_52.all (aCk tfL tpL tgL tkkL tcL tvL tyyL ttL 10 prog_5_method_9_code)) = true := by decide +kernel
set_option maxRecDepth 1000000 in
theorem ck_53 : (cd_53.all (aCk tfL tpL tgL tkkL tcL tvL tyyL ttL 10 prog_5_method_7_code)) = true := by decide +kernel
set_option maxRecDepth 1000000 in
theorem ck_54 : (cd_54.all (aCk tfL tpL tgL tkkL tcL tvL tyyL ttL 1 prog_9_method_12_code)) = true := by decide +kernel
set_option maxRecDepth 1000000 in
theorem ck_55 : (cd_55.all (aCk tfL tpL tgL tkkL tcL tvL tyyL ttL 1 prog_9_method_21_code)) = true := by decide +kernel
set_option maxRecDepth 1000000 in
theorem ck_56 : (cd_56.all (aCk tfL tpL tgL tkkL tcL tvL tyyL ttL 8 prog_3_method_9_code)) = true := by decide +kernel
set_option maxRecDepth 1000000 in
theorem ck_57 : (cd_57.all (aCk tfL tpL tgL tkkL tcL tvL tyyL ttL 0 prog_1_method_39_code)) = true := by decide +kernel
set_option maxRecDepth 1000000 in
theorem ck_58 : (cd_58.all (aCk tfL tpL tgL tkkL tcL tvL tyyL ttL 0 prog_1_method_38_code)) = true := by decide +kernel
set_option maxRecDepth 1000000 in
theorem ck_59 : (cd_59.all (aCk tfL tpL tgL tkkL tcL tvL tyyL ttL 8 prog_3_method_3_code)) = true := by decide +kernel
set_option maxRecDepth 1000000 in
theorem ck_60 : (cd_60.all (aCk tfL tpL tgL tkkL tcL tvL tyyL ttL 2 prog_12_method_39_code)) = true := by decide +kernel
set_option maxRecDepth 1000000 in
theorem ck_61 : (cd_61.all (aCk tfL tpL tgL tkkL tcL tvL tyyL ttL 2 prog_12_method_38_code)) = true := by decide +kernel
set_option maxRecDepth 1000000 in
theorem ck_62 : (cd_62.all (aCk tfL tpL tgL tkkL tcL tvL tyyL ttL 2 prog_12_method_3_code)) = true := by decide +kernel
set_option maxRecDepth 1000000 in
theorem ck_63 : (cd_63.all (aCk tfL tpL tgL tkkL tcL tvL tyyL ttL 2 prog_12_method_11_code)) = true := by decide +kernel
set_option maxRecDepth 1000000 in
theorem ck_64 : (cd_64.all (aCk tfL tpL tgL tkkL tcL tvL tyyL ttL 2 prog_12_method_8_code)) = true := by decide +kernel
set_option maxRecDepth 1000000 in
theorem ck_65 : (cd_65.all (aCk tfL tpL tgL tkkL tcL tvL tyyL ttL 2 prog_12_method_9_code)) = true := by decide +kernel
set_option maxRecDepth 1000000 in
theorem ck_66 : (cd_66.all (aCk tfL tpL tgL tkkL tcL tvL tyyL ttL 2 prog_12_method_10_code)) = true := by decide +kernel
set_option maxRecDepth 1000000 in
theorem ck_67 : (cd_67.all (aCk tfL tpL tgL tkkL tcL tvL tyyL ttL 2 prog_12_method_16_code)) = true := by decide +kernel
set_option maxRecDepth 1000000 in
theorem ck_68 : (cd_68.all (aCk tfL tpL tgL tkkL tcL tvL tyyL ttL 2 prog_12_method_28_code)) = true := by decide +kernel
set_option maxRecDepth 1000000 in
theorem ck_69 : (cd_69.all (aCk tfL tpL tgL tkkL tcL tvL tyyL ttL 2 prog_12_method_14_code)) = true := by decide +kernel
set_option maxRecDepth 1000000 in
theorem ck_70 : (cd_70.all (aCk tfL tpL tgL tkkL tcL tvL tyyL ttL 2 prog_12_method_13_code)) = true := by decide +kernel
set_option maxRecDepth 1000000 in
theorem ck_71 : (cd_71.all (aCk tfL tpL tgL tkkL tcL tvL tyyL ttL 2 prog_12_method_12_code)) = true := by decide +kernel
set_option maxRecDepth 1000000 in
theorem ck_72 : (cd_72.all (aCk tfL tpL tgL tkkL tcL tvL tyyL ttL 2 prog_12_method_23_code)) = true := by decide +kernel
set_option maxRecDepth 1000000 in
theorem ck_73 : (cd_73.all (aCk tfL tpL tgL tkkL tcL tvL tyyL ttL 2 prog_12_method_15_code)) = true := by decide +kernel
set_option maxRecDepth 1000000 in
theorem ck_74 : (cd_74.all (aCk tfL tpL tgL tkkL tcL tvL tyyL ttL 2 prog_12_method_20_code)) = true := by decide +kernel
set_option maxRecDepth 1000000 in
theorem ck_75 : (cd_75.all (aCk tfL tpL tgL tkkL tcL tvL tyyL ttL 2 prog_12_method_18_code)) = true := by decide +kernel
set_option maxRecDepth 1000000 in
theorem ck_76 : (cd_76.all (aCk tfL tpL tgL tkkL tcL tvL tyyL ttL 2 prog_12_method_19_code)) = true := by decide +kernel
set_option maxRecDepth 1000000 in
theorem ck_77 : (cd_77.all (aCk tfL tpL tgL tkkL tcL tvL tyyL ttL 2 prog_12_method_21_code)) = true := by decide +kernel
