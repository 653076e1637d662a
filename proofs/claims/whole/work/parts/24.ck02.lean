/-! ===== code rows against the class files (by wip/gen/emit_ck.py) ===== -/
set_option maxRecDepth 1000000 in
theorem ck_78 : (cd_78.all (aCk tfL tpL tgL tkkL tcL tvL tyyL ttL 2 prog_12_method_24_code)) = true := by decide +kernel
set_option maxRecDepth 1000000 in
theorem ck_79 : (cd_79.all (aCk tfL tpL tgL tkkL tcL tvL tyyL ttL 2 prog_12_method_22_code)) = true := by decide +kernel
set_option maxRecDepth 1000000 in
theorem ck_80 : (cd_80.all (aCk tfL tpL tgL tkkL tcL tvL tyyL ttL 2 prog_12_method_25_code)) = true := by decide +kernel
set_option maxRecDepth 1000000 in
theorem ck_81 : (cd_81.all (aCk tfL tpL tgL tkkL tcL tvL tyyL ttL 2 prog_12_method_26_code)) = true := by decide +kernel
set_option maxRecDepth 1000000 in
theorem ck_82 : (cd_82.all (aCk tfL tpL tgL tkkL tcL tvL tyyL ttL 2 prog_12_method_27_code)) = true := by decide +kernel
set_option maxRecDepth 1000000 in
theorem ck_83 : (cd_83.all (aCk tfL tpL tgL tkkL tcL tvL tyyL ttL 2 prog_12_method_36_code)) = true := by decide +kernel
set_option maxRecDepth 1000000 in
theorem ck_84 : (cd_84.all (aCk tfL tpL tgL tkkL tcL tvL tyyL ttL 2 prog_12_method_34_code)) = true := by decide +kernel
set_option maxRecDepth 1000000 in
theorem ck_85 : (cd_85.all (aCk tfL tpL tgL tkkL tcL tvL tyyL ttL 2 prog_12_method_17_code)) = true := by decide +kernel
set_option maxRecDepth 1000000 in
theorem ck_86 : (cd_86.all (aCk tfL tpL tgL tkkL tcL tvL tyyL ttL 2 prog_12_method_35_code)) = true := by decide +kernel
set_option maxRecDepth 1000000 in
theorem ck_87 : (cd_87.all (aCk tfL tpL tgL tkkL tcL tvL tyyL ttL 2 prog_12_method_32_code)) = true := by decide +kernel
set_option maxRecDepth 1000000 in
theorem ck_88 : (cd_88.all (aCk tfL tpL tgL tkkL tcL tvL tyyL ttL 2 prog_12_method_33_code)) = true := by decide +kernel
set_option maxRecDepth 1000000 in
theorem ck_89 : (cd_89.all (aCk tfL tpL tgL tkkL tcL tvL tyyL ttL 2 prog_12_method_29_code)) = true := by decide +kernel
set_option maxRecDepth 1000000 in
theorem ck_90 : (cd_90.all (aCk tfL tpL tgL tkkL tcL tvL tyyL ttL 2 prog_12_method_31_code)) = true := by decide +kernel
set_option maxRecDepth 1000000 in
theorem ck_91 : (cd_91.all (aCk tfL tpL tgL tkkL tcL tvL tyyL ttL 2 prog_12_method_30_code)) = true := by decide +kernel
set_option maxRecDepth 1000000 in
theorem ck_92 : (cd_92.all (aCk tfL tpL tgL tkkL tcL tvL tyyL ttL 2 prog_12_method_37_code)) = true := by decide +kernel
set_option maxRecDepth 1000000 in
theorem ck_93 : (cd_93.all (aCk tfL tpL tgL tkkL tcL tvL tyyL ttL 2 prog_12_method_2_code)) = true := by decide +kernel
set_option maxRecDepth 1000000 in
theorem ck_94 : (cd_94.all (aCk tfL tpL tgL tkkL tcL tvL tyyL ttL 3 method_4_code)) = true := by decide +kernel
set_option maxRecDepth 1000000 in
theorem ck_95 : (cd_95.all (aCk tfL tpL tgL tkkL tcL tvL tyyL ttL 0 prog_1_method_4_code)) = true := by decide +kernel
set_option maxRecDepth 1000000 in
theorem ck_96 : (cd_96.all (aCk tfL tpL tgL tkkL tcL tvL tyyL ttL 11 prog_6_method_2_code)) = true := by decide +kernel
set_option maxRecDepth 1000000 in
theorem ck_97 : (cd_97.all (aCk tfL tpL tgL tkkL tcL tvL tyyL ttL 11 prog_6_method_3_code)) = true := by decide +kernel
set_option maxRecDepth 1000000 in
theorem ck_98 : (cd_98.all (aCk tfL tpL tgL tkkL tcL tvL tyyL ttL 8 prog_3_method_4_code)) = true := by decide +kernel
set_option maxRecDepth 1000000 in
theorem ck_99 : (cd_99.all (aCk tfL tpL tgL tkkL tcL tvL tyyL ttL 1 prog_9_method_20_code)) = true := by decide +kernel
set_option maxRecDepth 1000000 in
theorem ck_100 : (cd_100.all (aCk tfL tpL tgL tkkL tcL tvL tyyL ttL 12 prog_7_method_7_code)) = true := by decide +kernel
set_option maxRecDepth 1000000 in
theorem ck_101 : (cd_101.all (aCk tfL tpL tgL tkkL tcL tvL tyyL ttL 12 prog_7_method_6_code)) = true := by decide +kernel
set_option maxRecDepth 1000000 in
theorem ck_102 : (cd_102.all (aCk tfL tpL tgL tkkL tcL tvL tyyL ttL 11 prog_6_method_4_code)) = true := by decide +kernel
set_option maxRecDepth 1000000 in
theorem ck_103 : (cd_103.all (aCk tfL tpL tgL tkkL tcL tvL tyyL ttL 8 prog_3_method_5_code)) = true := by decide +kernel
set_option maxRecDepth 1000000 in
theorem ck_104 : (cd_104.all (aCk tfL tpL tgL tkkL tcL tvL tyyL ttL 12 prog_7_method_3_code)) = true := by decide +kernel
set_option maxRecDepth 1000000 in
theorem ck_105 : (cd_105.all (aCk tfL tpL tgL tkkL tcL tvL tyyL ttL 1 prog_9_method_19_code)) = true := by decide +kernel
set_option maxRecDepth 1000000 in
theorem ck_106 : (cd_106.all (aCk tfL tpL tgL tkkL tcL tvL tyyL ttL 2 prog_12_method_43_code)) = true := by decide +kernel
