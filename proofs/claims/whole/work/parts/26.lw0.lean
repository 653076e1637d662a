/-! ===== the law and its wrappers at this claim's tables (by wip/gen/emit_wrap.py) ===== -/
def lCk (j : Nat) : Bool := (List.range' (20 * j) 20).all fun i => match cd_law[i]? with
  | some q => aCk tfL tpL tgL tkkL twL tvL tyyL ttL 3 code q
  | none => true
set_option maxRecDepth 1000000 in
theorem ckl_0 : lCk 0 = true := by decide +kernel
set_option maxRecDepth 1000000 in
theorem ckl_1 : lCk 1 = true := by decide +kernel
set_option maxRecDepth 1000000 in
theorem ckl_2 : lCk 2 = true := by decide +kernel
set_option maxRecDepth 1000000 in
theorem ckl_3 : lCk 3 = true := by decide +kernel
set_option maxRecDepth 1000000 in
theorem ckl_4 : lCk 4 = true := by decide +kernel
set_option maxRecDepth 1000000 in
theorem ckl_5 : lCk 5 = true := by decide +kernel
set_option maxRecDepth 1000000 in
theorem ckl_6 : lCk 6 = true := by decide +kernel
set_option maxRecDepth 1000000 in
theorem ckl_7 : lCk 7 = true := by decide +kernel
set_option maxRecDepth 1000000 in
theorem ckl_8 : lCk 8 = true := by decide +kernel
set_option maxRecDepth 1000000 in
theorem ckl_9 : lCk 9 = true := by decide +kernel
set_option maxRecDepth 1000000 in
theorem ckl_10 : lCk 10 = true := by decide +kernel
set_option maxRecDepth 1000000 in
theorem ckl_11 : lCk 11 = true := by decide +kernel
set_option maxRecDepth 1000000 in
theorem ckl_12 : lCk 12 = true := by decide +kernel
set_option maxRecDepth 1000000 in
theorem ckl_13 : lCk 13 = true := by decide +kernel
set_option maxRecDepth 1000000 in
theorem ckl_14 : lCk 14 = true := by decide +kernel
set_option maxRecDepth 1000000 in
theorem ckl_15 : lCk 15 = true := by decide +kernel
set_option maxRecDepth 1000000 in
theorem ckl_16 : lCk 16 = true := by decide +kernel
set_option maxRecDepth 1000000 in
theorem ckl_17 : lCk 17 = true := by decide +kernel
set_option maxRecDepth 1000000 in
theorem ckl_18 : lCk 18 = true := by decide +kernel
set_option maxRecDepth 1000000 in
theorem ckl_19 : lCk 19 = true := by decide +kernel
set_option maxRecDepth 1000000 in
theorem ckl_20 : lCk 20 = true := by decide +kernel
set_option maxRecDepth 1000000 in
theorem ckl_21 : lCk 21 = true := by decide +kernel
