/-! ===== the law and its wrappers at this claim's tables (by wip/gen/emit_wrap.py) ===== -/
set_option maxRecDepth 1000000 in
theorem ckl_22 : lCk 22 = true := by decide +kernel
set_option maxRecDepth 1000000 in
theorem ckl_23 : lCk 23 = true := by decide +kernel
set_option maxRecDepth 1000000 in
theorem ckl_24 : lCk 24 = true := by decide +kernel
set_option maxRecDepth 1000000 in
theorem ckl_25 : lCk 25 = true := by decide +kernel
set_option maxRecDepth 1000000 in
theorem ckl_26 : lCk 26 = true := by decide +kernel
set_option maxRecDepth 1000000 in
theorem ckl_27 : lCk 27 = true := by decide +kernel
set_option maxRecDepth 1000000 in
theorem ckl_28 : lCk 28 = true := by decide +kernel
set_option maxRecDepth 1000000 in
theorem ckl_29 : lCk 29 = true := by decide +kernel
set_option maxRecDepth 1000000 in
theorem ckl_30 : lCk 30 = true := by decide +kernel
set_option maxRecDepth 1000000 in
theorem ckl_31 : lCk 31 = true := by decide +kernel
set_option maxRecDepth 1000000 in
theorem ckl_32 : lCk 32 = true := by decide +kernel
set_option maxRecDepth 1000000 in
theorem ckl_33 : lCk 33 = true := by decide +kernel
set_option maxRecDepth 1000000 in
theorem ckl_34 : lCk 34 = true := by decide +kernel
set_option maxRecDepth 1000000 in
theorem ckl_35 : lCk 35 = true := by decide +kernel
set_option maxRecDepth 1000000 in
theorem ckl_36 : lCk 36 = true := by decide +kernel
set_option maxRecDepth 1000000 in
theorem ckl_37 : lCk 37 = true := by decide +kernel
set_option maxRecDepth 1000000 in
theorem ckl_38 : lCk 38 = true := by decide +kernel
set_option maxRecDepth 1000000 in
theorem ckl_39 : lCk 39 = true := by decide +kernel
set_option maxRecDepth 1000000 in
theorem ckl_40 : lCk 40 = true := by decide +kernel
set_option maxRecDepth 1000000 in
theorem ckl_41 : lCk 41 = true := by decide +kernel
set_option maxRecDepth 1000000 in
theorem ckl_42 : lCk 42 = true := by decide +kernel
set_option maxRecDepth 1000000 in
theorem ckl_43 : lCk 43 = true := by decide +kernel
