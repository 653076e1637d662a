/-! ===== the law and its wrappers at this claim's tables (by wip/gen/emit_wrap.py) ===== -/
set_option maxRecDepth 1000000 in
theorem ckl_44 : lCk 44 = true := by decide +kernel
set_option maxRecDepth 1000000 in
theorem ckl_45 : lCk 45 = true := by decide +kernel
set_option maxRecDepth 1000000 in
theorem ckl_46 : lCk 46 = true := by decide +kernel
set_option maxRecDepth 1000000 in
theorem ckl_47 : lCk 47 = true := by decide +kernel
set_option maxRecDepth 1000000 in
theorem ckl_48 : lCk 48 = true := by decide +kernel
set_option maxRecDepth 1000000 in
theorem ckl_49 : lCk 49 = true := by decide +kernel
set_option maxRecDepth 1000000 in
theorem ckl_50 : lCk 50 = true := by decide +kernel
set_option maxRecDepth 1000000 in
theorem ckl_51 : lCk 51 = true := by decide +kernel
set_option maxRecDepth 1000000 in
theorem ckl_52 : lCk 52 = true := by decide +kernel
set_option maxRecDepth 1000000 in
theorem ckl_53 : lCk 53 = true := by decide +kernel
set_option maxRecDepth 1000000 in
theorem ckl_54 : lCk 54 = true := by decide +kernel
set_option maxRecDepth 1000000 in
theorem ckl_55 : lCk 55 = true := by decide +kernel
set_option maxRecDepth 1000000 in
theorem ckl_56 : lCk 56 = true := by decide +kernel
set_option maxRecDepth 1000000 in
theorem ckl_57 : lCk 57 = true := by decide +kernel
set_option maxRecDepth 1000000 in
theorem ckl_58 : lCk 58 = true := by decide +kernel
set_option maxRecDepth 1000000 in
theorem ckl_59 : lCk 59 = true := by decide +kernel
set_option maxRecDepth 1000000 in
theorem ckl_60 : lCk 60 = true := by decide +kernel
set_option maxRecDepth 1000000 in
theorem ckl_61 : lCk 61 = true := by decide +kernel
set_option maxRecDepth 1000000 in
theorem ckl_62 : lCk 62 = true := by decide +kernel
set_option maxRecDepth 1000000 in
theorem ckl_63 : lCk 63 = true := by decide +kernel
set_option maxRecDepth 1000000 in
theorem ckl_64 : lCk 64 = true := by decide +kernel
set_option maxRecDepth 1000000 in
theorem ckl_65 : lCk 65 = true := by decide +kernel
