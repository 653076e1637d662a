/-! ===== code rows against the class files (by wip/gen/emit_ck.py) ===== -/
set_option maxRecDepth 1000000 in
theorem ck_0 : (cd_0.all (aCk tfL tpL tgL tkkL tcL tvL tyyL ttL 0 prog_1_method_2_code)) = true := by decide +kernel
set_option maxRecDepth 1000000 in
theorem ck_1 : (cd_1.all (aCk tfL tpL tgL tkkL tcL tvL tyyL ttL 1 prog_9_method_2_code)) = true := by decide +kernel
set_option maxRecDepth 1000000 in
theorem ck_2 : (cd_2.all (aCk tfL tpL tgL tkkL tcL tvL tyyL ttL 2 prog_12_method_6_code)) = true := by decide +kernel
set_option maxRecDepth 1000000 in
theorem ck_3 : (cd_3.all (aCk tfL tpL tgL tkkL tcL tvL tyyL ttL 2 prog_12_method_7_code)) = true := by decide +kernel
set_option maxRecDepth 1000000 in
theorem ck_4 : (cd_4.all (aCk tfL tpL tgL tkkL tcL tvL tyyL ttL 3 method_3_code)) = true := by decide +kernel
set_option maxRecDepth 1000000 in
theorem ck_5 : (cd_5.all (aCk tfL tpL tgL tkkL tcL tvL tyyL ttL 0 prog_1_method_3_code)) = true := by decide +kernel
set_option maxRecDepth 1000000 in
theorem ck_6 : (cd_6.all (aCk tfL tpL tgL tkkL tcL tvL tyyL ttL 0 prog_1_method_36_code)) = true := by decide +kernel
set_option maxRecDepth 1000000 in
theorem ck_7 : (cd_7.all (aCk tfL tpL tgL tkkL tcL tvL tyyL ttL 1 prog_9_method_3_code)) = true := by decide +kernel
set_option maxRecDepth 1000000 in
theorem ck_8 : (cd_8.all (aCk tfL tpL tgL tkkL tcL tvL tyyL ttL 1 prog_9_method_5_code)) = true := by decide +kernel
set_option maxRecDepth 1000000 in
theorem ck_9 : (cd_9.all (aCk tfL tpL tgL tkkL tcL tvL tyyL ttL 1 prog_9_method_8_code)) = true := by decide +kernel
set_option maxRecDepth 1000000 in
theorem ck_10 : (cd_10.all (aCk tfL tpL tgL tkkL tcL tvL tyyL ttL 1 prog_9_method_6_code)) = true := by decide +kernel
set_option maxRecDepth 1000000 in
theorem ck_11 : (cd_11.all (aCk tfL tpL tgL tkkL tcL tvL tyyL ttL 1 prog_9_method_7_code)) = true := by decide +kernel
set_option maxRecDepth 1000000 in
theorem ck_12 : (cd_12.all (aCk tfL tpL tgL tkkL tcL tvL tyyL ttL 4 prog_21_method_79_code)) = true := by decide +kernel
set_option maxRecDepth 1000000 in
theorem ck_13 : (cd_13.all (aCk tfL tpL tgL tkkL tcL tvL tyyL ttL 4 prog_21_method_80_code)) = true := by decide +kernel
set_option maxRecDepth 1000000 in
theorem ck_14 : (cd_14.all (aCk tfL tpL tgL tkkL tcL tvL tyyL ttL 4 prog_21_method_154_code)) = true := by decide +kernel
set_option maxRecDepth 1000000 in
theorem ck_15 : (cd_15.all (aCk tfL tpL tgL tkkL tcL tvL tyyL ttL 4 prog_21_method_54_code)) = true := by decide +kernel
set_option maxRecDepth 1000000 in
theorem ck_16 : (cd_16.all (aCk tfL tpL tgL tkkL tcL tvL tyyL ttL 4 prog_21_method_152_code)) = true := by decide +kernel
set_option maxRecDepth 1000000 in
theorem ck_17 : (cd_17.all (aCk tfL tpL tgL tkkL tcL tvL tyyL ttL 5 prog_22_method_22_code)) = true := by decide +kernel
set_option maxRecDepth 1000000 in
theorem ck_18 : (cd_18.all (aCk tfL tpL tgL tkkL tcL tvL tyyL ttL 5 prog_22_method_4_code)) = true := by decide +kernel
set_option maxRecDepth 1000000 in
theorem ck_19 : (cd_19.all (aCk tfL tpL tgL tkkL tcL tvL tyyL ttL 6 prog_19_method_65_code)) = true := by decide +kernel
set_option maxRecDepth 1000000 in
theorem ck_20 : (cd_20.all (aCk tfL tpL tgL tkkL tcL tvL tyyL ttL 6 prog_19_method_69_code)) = true := by decide +kernel
set_option maxRecDepth 1000000 in
theorem ck_21 : (cd_21.all (aCk tfL tpL tgL tkkL tcL tvL tyyL ttL 5 prog_22_method_23_code)) = true := by decide +kernel
set_option maxRecDepth 1000000 in
theorem ck_22 : (cd_22.all (aCk tfL tpL tgL tkkL tcL tvL tyyL ttL 7 prog_4_method_2_code)) = true := by decide +kernel
set_option maxRecDepth 1000000 in
theorem ck_23 : (cd_23.all (aCk tfL tpL tgL tkkL tcL tvL tyyL ttL 8 prog_3_method_2_code)) = true := by decide +kernel
set_option maxRecDepth 1000000 in
theorem ck_24 : (cd_24.all (aCk tfL tpL tgL tkkL tcL tvL tyyL ttL 0 prog_1_method_42_code)) = true := by decide +kernel
set_option maxRecDepth 1000000 in
theorem ck_25 : (cd_25.all (aCk tfL tpL tgL tkkL tcL tvL tyyL ttL 1 prog_9_method_9_code)) = true := by decide +kernel
set_option maxRecDepth 1000000 in
theorem ck_26 : (cd_26.all (aCk tfL tpL tgL tkkL tcL tvL tyyL ttL 4 prog_21_method_56_code)) = true := by decide +kernel
set_option maxRecDepth 1000000 in
theorem ck_27 : (cd_27.all (aCk tfL tpL tgL tkkL tcL tvL tyyL ttL 5 prog_22_method_2_code)) = true := by decide +kernel
set_option maxRecDepth 1000000 in
theorem ck_28 : (cd_28.all (aCk tfL tpL tgL tkkL tcL tvL tyyL ttL 4 prog_21_method_155_code)) = true := by decide +kernel
set_option maxRecDepth 1000000 in
theorem ck_29 : (cd_29.all (aCk tfL tpL tgL tkkL tcL tvL tyyL ttL 9 prog_29_method_11_code)) = true := by decide +kernel
set_option maxRecDepth 1000000 in
theorem ck_30 : (cd_30.all (aCk tfL tpL tgL tkkL tcL tvL tyyL ttL 1 prog_9_method_4_code)) = true := by decide +kernel
set_option maxRecDepth 1000000 in
theorem ck_31 : (cd_31.all (aCk tfL tpL tgL tkkL tcL tvL tyyL ttL 8 prog_3_method_6_code)) = true := by decide +kernel
set_option maxRecDepth 1000000 in
theorem ck_32 : (cd_32.all (aCk tfL tpL tgL tkkL tcL tvL tyyL ttL 0 prog_1_method_41_code)) = true := by decide +kernel
set_option maxRecDepth 1000000 in
theorem ck_33 : (cd_33.all (aCk tfL tpL tgL tkkL tcL tvL tyyL ttL 7 prog_4_method_3_code)) = true := by decide +kernel
set_option maxRecDepth 1000000 in
theorem ck_34 : (cd_34.all (aCk tfL tpL tgL tkkL tcL tvL tyyL ttL 1 prog_9_method_17_code)) = true := by decide +kernel
set_option maxRecDepth 1000000 in
theorem ck_35 : (cd_35.all (aCk tfL tpL tgL tkkL tcL tvL tyyL ttL 1 prog_9_method_13_code)) = true := by decide +kernel
set_option maxRecDepth 1000000 in
theorem ck_36 : (cd_36.all (aCk tfL tpL tgL tkkL tcL tvL tyyL ttL 1 prog_9_method_16_code)) = true := by decide +kernel
set_option maxRecDepth 1000000 in
theorem ck_37 : (cd_37.all (aCk tfL tpL tgL tkkL tcL tvL tyyL ttL 8 prog_3_method_8_code)) = true := by decide +kernel
set_option maxRecDepth 1000000 in
theorem ck_38 : (cd_38.all (aCk tfL tpL tgL tkkL tcL tvL tyyL ttL 1 prog_9_method_18_code)) = true := by decide +kernel
set_option maxRecDepth 1000000 in
theorem ck_39 : (cd_39.all (aCk tfL tpL tgL tkkL tcL tvL tyyL ttL 1 prog_9_method_15_code)) = true := by decide +kernel
set_option maxRecDepth 1000000 in
theorem ck_40 : (cd_40.all (aCk tfL tpL tgL tkkL tcL tvL tyyL ttL 7 prog_4_method_4_code)) = true := by decide +kernel
set_option maxRecDepth 1000000 in
theorem ck_41 : (cd_41.all (aCk tfL tpL tgL tkkL tcL tvL tyyL ttL 1 prog_9_method_14_code)) = true := by decide +kernel
set_option maxRecDepth 1000000 in
theorem ck_42 : (cd_42.all (aCk tfL tpL tgL tkkL tcL tvL tyyL ttL 7 prog_4_method_5_code)) = true := by decide +kernel
set_option maxRecDepth 1000000 in
theorem ck_43 : (cd_43.all (aCk tfL tpL tgL tkkL tcL tvL tyyL ttL 10 prog_5_method_2_code)) = true := by decide +kernel
set_option maxRecDepth 1000000 in
theorem ck_44 : (cd_44.all (aCk tfL tpL tgL tkkL tcL tvL tyyL ttL 10 prog_5_method_3_code)) = true := by decide +kernel
set_option maxRecDepth 1000000 in
theorem ck_45 : (cd_45.all (aCk tfL tpL tgL tkkL tcL tvL tyyL ttL 1 prog_9_method_11_code)) = true := by decide +kernel
set_option maxRecDepth 1000000 in
theorem ck_46 : (cd_46.all (aCk tfL tpL tgL tkkL tcL tvL tyyL ttL 10 prog_5_method_4_code)) = true := by decide +kernel
set_option maxRecDepth 1000000 in
theorem ck_47 : (cd_47.all (aCk tfL tpL tgL tkkL tcL tvL tyyL ttL 10 prog_5_method_8_code)) = true := by decide +kernel
set_option maxRecDepth 1000000 in
theorem ck_48 : (cd_48.all (aCk tfL tpL tgL tkkL tcL tvL tyyL ttL 1 prog_9_method_10_code)) = true := by decide +kernel
set_option maxRecDepth 1000000 in
theorem ck_49 : (cd_49.all (aCk tfL tpL tgL tkkL tcL tvL tyyL ttL 10 prog_5_method_5_code)) = true := by decide +kernel
set_option maxRecDepth 1000000 in
theorem ck_50 : (cd_50.all (aCk tfL tpL tgL tkkL tcL tvL tyyL ttL 8 prog_3_method_11_code)) = true := by decide +kernel
