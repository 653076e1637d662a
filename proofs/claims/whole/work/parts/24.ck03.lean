/-! ===== code rows against the class files (by wip/gen/emit_ck.py) ===== -/
set_option maxRecDepth 1000000 in
theorem ck_107 : (cd_107.all (aCk tfL tpL tgL tkkL tcL tvL tyyL ttL 2 prog_12_method_42_code)) = true := by decide +kernel
set_option maxRecDepth 1000000 in
theorem ck_108 : (cd_108.all (aCk tfL tpL tgL tkkL tcL tvL tyyL ttL 2 prog_12_method_40_code)) = true := by decide +kernel
set_option maxRecDepth 1000000 in
theorem ck_109 : (cd_109.all (aCk tfL tpL tgL tkkL tcL tvL tyyL ttL 2 prog_12_method_41_code)) = true := by decide +kernel
set_option maxRecDepth 1000000 in
theorem ck_110 : (cd_110.all (aCk tfL tpL tgL tkkL tcL tvL tyyL ttL 0 prog_1_method_5_code)) = true := by decide +kernel
set_option maxRecDepth 1000000 in
theorem ck_111 : (cd_111.all (aCk tfL tpL tgL tkkL tcL tvL tyyL ttL 2 prog_12_method_44_code)) = true := by decide +kernel
set_option maxRecDepth 1000000 in
theorem ck_112 : (cd_112.all (aCk tfL tpL tgL tkkL tcL tvL tyyL ttL 3 method_5_code)) = true := by decide +kernel
set_option maxRecDepth 1000000 in
theorem ck_113 : (cd_113.all (aCk tfL tpL tgL tkkL tcL tvL tyyL ttL 0 prog_1_method_6_code)) = true := by decide +kernel
set_option maxRecDepth 1000000 in
theorem ck_114 : (cd_114.all (aCk tfL tpL tgL tkkL tcL tvL tyyL ttL 0 prog_1_method_35_code)) = true := by decide +kernel
set_option maxRecDepth 1000000 in
theorem ck_115 : (cd_115.all (aCk tfL tpL tgL tkkL tcL tvL tyyL ttL 13 prog_8_method_2_code)) = true := by decide +kernel
set_option maxRecDepth 1000000 in
theorem ck_116 : (cd_116.all (aCk tfL tpL tgL tkkL tcL tvL tyyL ttL 13 prog_8_method_8_code)) = true := by decide +kernel
set_option maxRecDepth 1000000 in
theorem ck_117 : (cd_117.all (aCk tfL tpL tgL tkkL tcL tvL tyyL ttL 12 prog_7_method_5_code)) = true := by decide +kernel
set_option maxRecDepth 1000000 in
theorem ck_118 : (cd_118.all (aCk tfL tpL tgL tkkL tcL tvL tyyL ttL 8 prog_3_method_10_code)) = true := by decide +kernel
set_option maxRecDepth 1000000 in
theorem ck_119 : (cd_119.all (aCk tfL tpL tgL tkkL tcL tvL tyyL ttL 8 prog_3_method_7_code)) = true := by decide +kernel
set_option maxRecDepth 1000000 in
theorem ck_120 : (cd_120.all (aCk tfL tpL tgL tkkL tcL tvL tyyL ttL 13 prog_8_method_9_code)) = true := by decide +kernel
set_option maxRecDepth 1000000 in
theorem ck_121 : (cd_121.all (aCk tfL tpL tgL tkkL tcL tvL tyyL ttL 13 prog_8_method_5_code)) = true := by decide +kernel
set_option maxRecDepth 1000000 in
theorem ck_122 : (cd_122.all (aCk tfL tpL tgL tkkL tcL tvL tyyL ttL 13 prog_8_method_6_code)) = true := by decide +kernel
set_option maxRecDepth 1000000 in
theorem ck_123 : (cd_123.all (aCk tfL tpL tgL tkkL tcL tvL tyyL ttL 13 prog_8_method_10_code)) = true := by decide +kernel
set_option maxRecDepth 1000000 in
theorem ck_124 : (cd_124.all (aCk tfL tpL tgL tkkL tcL tvL tyyL ttL 13 prog_8_method_11_code)) = true := by decide +kernel
set_option maxRecDepth 1000000 in
theorem ck_125 : (cd_125.all (aCk tfL tpL tgL tkkL tcL tvL tyyL ttL 8 prog_3_method_13_code)) = true := by decide +kernel
set_option maxRecDepth 1000000 in
theorem ck_126 : (cd_126.all (aCk tfL tpL tgL tkkL tcL tvL tyyL ttL 8 prog_3_method_12_code)) = true := by decide +kernel
set_option maxRecDepth 1000000 in
theorem ck_127 : (cd_127.all (aCk tfL tpL tgL tkkL tcL tvL tyyL ttL 13 prog_8_method_12_code)) = true := by decide +kernel
set_option maxRecDepth 1000000 in
theorem ck_128 : (cd_128.all (aCk tfL tpL tgL tkkL tcL tvL tyyL ttL 13 prog_8_method_7_code)) = true := by decide +kernel
set_option maxRecDepth 1000000 in
theorem ck_129 : (cd_129.all (aCk tfL tpL tgL tkkL tcL tvL tyyL ttL 2 prog_12_method_87_code)) = true := by decide +kernel
set_option maxRecDepth 1000000 in
theorem ck_130 : (cd_130.all (aCk tfL tpL tgL tkkL tcL tvL tyyL ttL 2 prog_12_method_4_code)) = true := by decide +kernel
set_option maxRecDepth 1000000 in
theorem ck_131 : (cd_131.all (aCk tfL tpL tgL tkkL tcL tvL tyyL ttL 2 prog_12_method_83_code)) = true := by decide +kernel
set_option maxRecDepth 1000000 in
theorem ck_132 : (cd_132.all (aCk tfL tpL tgL tkkL tcL tvL tyyL ttL 2 prog_12_method_78_code)) = true := by decide +kernel
set_option maxRecDepth 1000000 in
theorem ck_133 : (cd_133.all (aCk tfL tpL tgL tkkL tcL tvL tyyL ttL 2 prog_12_method_77_code)) = true := by decide +kernel
set_option maxRecDepth 1000000 in
theorem ck_134 : (cd_134.all (aCk tfL tpL tgL tkkL tcL tvL tyyL ttL 2 prog_12_method_75_code)) = true := by decide +kernel
set_option maxRecDepth 1000000 in
theorem ck_135 : (cd_135.all (aCk tfL tpL tgL tkkL tcL tvL tyyL ttL 2 prog_12_method_73_code)) = true := by decide +kernel
set_option maxRecDepth 1000000 in
theorem ck_136 : (cd_136.all (aCk tfL tpL tgL tkkL tcL tvL tyyL ttL 2 prog_12_method_76_code)) = true := by decide +kernel
set_option maxRecDepth 1000000 in
theorem ck_137 : (cd_137.all (aCk tfL tpL tgL tkkL tcL tvL tyyL ttL 2 prog_12_method_74_code)) = true := by decide +kernel
set_option maxRecDepth 1000000 in
theorem ck_138 : (cd_138.all (aCk tfL tpL tgL tkkL tcL tvL tyyL ttL 3 method_6_code)) = true := by decide +kernel
set_option maxRecDepth 1000000 in
theorem ck_139 : (cd_139.all (aCk tfL tpL tgL tkkL tcL tvL tyyL ttL 0 prog_1_method_7_code)) = true := by decide +kernel
set_option maxRecDepth 1000000 in
theorem ck_140 : (cd_140.all (aCk tfL tpL tgL tkkL tcL tvL tyyL ttL 2 prog_12_method_88_code)) = true := by decide +kernel
set_option maxRecDepth 1000000 in
theorem ck_141 : (cd_141.all (aCk tfL tpL tgL tkkL tcL tvL tyyL ttL 3 method_7_code)) = true := by decide +kernel
set_option maxRecDepth 1000000 in
theorem ck_142 : (cd_142.all (aCk tfL tpL tgL tkkL tcL tvL tyyL ttL 0 prog_1_method_8_code)) = true := by decide +kernel
