/-! ===== the law and its wrappers at this claim's tables (by wip/gen/emit_wrap.py) ===== -/
set_option maxRecDepth 1000000 in
theorem ckl_66 : lCk 66 = true := by decide +kernel
set_option maxRecDepth 1000000 in
theorem ckl_67 : lCk 67 = true := by decide +kernel
set_option maxRecDepth 1000000 in
theorem ckl_68 : lCk 68 = true := by decide +kernel
set_option maxRecDepth 1000000 in
theorem ckl_69 : lCk 69 = true := by decide +kernel
set_option maxRecDepth 1000000 in
theorem ckl_70 : lCk 70 = true := by decide +kernel
