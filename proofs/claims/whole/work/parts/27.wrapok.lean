/-! ===== the law and its wrappers at this claim's tables (by wip/gen/emit_wrap.py) ===== -/
theorem lCk_all : ∀ j, j < 71 → lCk j = true := fun j hj => match j, hj with
  | 0, _ => ckl_0
  | 1, _ => ckl_1
  | 2, _ => ckl_2
  | 3, _ => ckl_3
  | 4, _ => ckl_4
  | 5, _ => ckl_5
  | 6, _ => ckl_6
  | 7, _ => ckl_7
  | 8, _ => ckl_8
  | 9, _ => ckl_9
  | 10, _ => ckl_10
  | 11, _ => ckl_11
  | 12, _ => ckl_12
  | 13, _ => ckl_13
  | 14, _ => ckl_14
  | 15, _ => ckl_15
  | 16, _ => ckl_16
  | 17, _ => ckl_17
  | 18, _ => ckl_18
  | 19, _ => ckl_19
  | 20, _ => ckl_20
  | 21, _ => ckl_21
  | 22, _ => ckl_22
  | 23, _ => ckl_23
  | 24, _ => ckl_24
  | 25, _ => ckl_25
  | 26, _ => ckl_26
  | 27, _ => ckl_27
  | 28, _ => ckl_28
  | 29, _ => ckl_29
  | 30, _ => ckl_30
  | 31, _ => ckl_31
  | 32, _ => ckl_32
  | 33, _ => ckl_33
  | 34, _ => ckl_34
  | 35, _ => ckl_35
  | 36, _ => ckl_36
  | 37, _ => ckl_37
  | 38, _ => ckl_38
  | 39, _ => ckl_39
  | 40, _ => ckl_40
  | 41, _ => ckl_41
  | 42, _ => ckl_42
  | 43, _ => ckl_43
  | 44, _ => ckl_44
  | 45, _ => ckl_45
  | 46, _ => ckl_46
  | 47, _ => ckl_47
  | 48, _ => ckl_48
  | 49, _ => ckl_49
  | 50, _ => ckl_50
  | 51, _ => ckl_51
  | 52, _ => ckl_52
  | 53, _ => ckl_53
  | 54, _ => ckl_54
  | 55, _ => ckl_55
  | 56, _ => ckl_56
  | 57, _ => ckl_57
  | 58, _ => ckl_58
  | 59, _ => ckl_59
  | 60, _ => ckl_60
  | 61, _ => ckl_61
  | 62, _ => ckl_62
  | 63, _ => ckl_63
  | 64, _ => ckl_64
  | 65, _ => ckl_65
  | 66, _ => ckl_66
  | 67, _ => ckl_67
  | 68, _ => ckl_68
  | 69, _ => ckl_69
  | 70, _ => ckl_70
  | j + 71, h => absurd h (by omega)
set_option maxRecDepth 100000 in
theorem cd_law_len : cd_law.length = 1413 := by decide +kernel
theorem ck_law : (cd_law.all (aCk tfL tpL tgL tkkL twL tvL tyyL ttL 3 code)) = true := by
  rw [List.all_eq_true]
  intro q hq
  obtain ⟨i, hi⟩ := List.getElem?_of_mem hq
  have hlt := (List.getElem?_eq_some_iff.mp hi).1
  rw [cd_law_len] at hlt
  have h := List.all_eq_true.mp (lCk_all (i / 20) (by omega)) i (List.mem_range'_1.mpr (by omega))
  rw [hi] at h
  exact h
def thh (i : Nat) : List (Nat × Nat × Nat × Nat) := match aLook i [(4, [(0, 9, 12, 13)]), (94, [(0, 9, 12, 13)]), (112, [(0, 9, 12, 21)]), (138, [(0, 10, 13, 21)]), (141, [(0, 10, 13, 21)]), (144, [(0, 10, 13, 21)]), (147, [(0, 16, 19, 21)]), (150, [(0, 10, 13, 13)]), (155, [(0, 14, 17, 21), (0, 14, 21, 13)]), (173, [(0, 14, 17, 21)]), (182, [(0, 14, 17, 21)]), (192, [(0, 10, 13, 21)]), (196, [(0, 19, 22, 21)]), (206, [(0, 10, 13, 21)]), (210, [(0, 10, 13, 21)]), (218, [(0, 9, 12, 21)]), (230, [(0, 10, 13, 21)]), (243, [(0, 9, 12, 21)]), (247, [(0, 14, 17, 21)]), (259, [(0, 9, 12, 21)]), (264, [(0, 9, 12, 21), (0, 9, 15, 13)]), (270, [(0, 9, 12, 21), (0, 9, 15, 13)]), (273, [(0, 9, 12, 21)]), (281, [(0, 12, 15, 13)]), (284, [(0, 14, 17, 21), (0, 14, 21, 13)]), (289, [(0, 14, 17, 21)]), (294, [(0, 12, 15, 21)]), (300, [(0, 9, 12, 21)])] with
  | some h => h
  | none => []
abbrev tnc : String × String := ("java/lang/IllegalArgumentException", "java/util/NoSuchElementException")
set_option maxRecDepth 100000 in
theorem tcs_0 : Cond.castable (txn 0) (txn 0) ∈ tcst := by decide +kernel
set_option maxRecDepth 100000 in
theorem tcs_1 : Cond.castable (txn 1) (txn 1) ∈ tcst := by decide +kernel
set_option maxRecDepth 100000 in
theorem tw_4 : aWok tfL tpL tgL tkkL tcL tvL tyyL ttL tmi tmt tyv tcb tow tcn txn thh tnc tcst tWS (3, 112, 4) :=
  ⟨M_4, _, rfl, rfl, by decide +kernel, rfl, fun z hz => List.all_eq_true.mp ck_4 z hz, List.forall_mem_cons.mpr ⟨⟨[], ⟨0, 9, 12, 13⟩, [], rfl, fun _ h => (List.not_mem_nil h).elim, by decide, by decide, wm 508 rfl rfl, tcs_1, Or.inl ⟨3, by decide +kernel, by decide, rfl⟩, [0, 1, 2, 3], rfl, by decide⟩, fun _ h => (List.not_mem_nil h).elim⟩, wm 505 rfl rfl, wm 506 rfl rfl, wm 507 rfl rfl, wm 104 rfl rfl, by decide +kernel, by decide +kernel, by decide +kernel, by decide⟩
set_option maxRecDepth 100000 in
theorem tw_94 : aWok tfL tpL tgL tkkL tcL tvL tyyL ttL tmi tmt tyv tcb tow tcn txn thh tnc tcst tWS (3, 122, 94) :=
  ⟨M_94, _, rfl, rfl, by decide +kernel, rfl, fun z hz => List.all_eq_true.mp ck_94 z hz, List.forall_mem_cons.mpr ⟨⟨[], ⟨0, 9, 12, 13⟩, [], rfl, fun _ h => (List.not_mem_nil h).elim, by decide, by decide, wm 508 rfl rfl, tcs_1, Or.inl ⟨3, by decide +kernel, by decide, rfl⟩, [0, 1, 2, 3], rfl, by decide⟩, fun _ h => (List.not_mem_nil h).elim⟩, wm 867 rfl rfl, wm 868 rfl rfl, wm 869 rfl rfl, wm 104 rfl rfl, by decide +kernel, by decide +kernel, by decide +kernel, by decide⟩
set_option maxRecDepth 100000 in
theorem tw_112 : aWok tfL tpL tgL tkkL tcL tvL tyyL ttL tmi tmt tyv tcb tow tcn txn thh tnc tcst tWS (3, 129, 112) :=
  ⟨M_112, _, rfl, rfl, by decide +kernel, rfl, fun z hz => List.all_eq_true.mp ck_112 z hz, List.forall_mem_cons.mpr ⟨⟨[], ⟨0, 9, 12, 21⟩, [], rfl, fun _ h => (List.not_mem_nil h).elim, by decide, by decide, wm 928 rfl rfl, tcs_0, Or.inl ⟨3, by decide +kernel, by decide, rfl⟩, [0, 1, 2, 3], rfl, by decide⟩, fun _ h => (List.not_mem_nil h).elim⟩, wm 925 rfl rfl, wm 926 rfl rfl, wm 927 rfl rfl, wm 104 rfl rfl, by decide +kernel, by decide +kernel, by decide +kernel, by decide⟩
set_option maxRecDepth 100000 in
theorem tw_138 : aWok tfL tpL tgL tkkL tcL tvL tyyL ttL tmi tmt tyv tcb tow tcn txn thh tnc tcst tWS (3, 132, 138) :=
  ⟨M_138, _, rfl, rfl, by decide +kernel, rfl, fun z hz => List.all_eq_true.mp ck_138 z hz, List.forall_mem_cons.mpr ⟨⟨[], ⟨0, 10, 13, 21⟩, [], rfl, fun _ h => (List.not_mem_nil h).elim, by decide, by decide, wm 928 rfl rfl, tcs_0, Or.inr ⟨4, by decide +kernel, by decide, rfl⟩, [0, 1, 2, 3, 4], rfl, by decide⟩, fun _ h => (List.not_mem_nil h).elim⟩, wm 1008 rfl rfl, wm 1009 rfl rfl, wm 1010 rfl rfl, wm 104 rfl rfl, by decide +kernel, by decide +kernel, by decide +kernel, by decide⟩
set_option maxRecDepth 100000 in
theorem tw_141 : aWok tfL tpL tgL tkkL tcL tvL tyyL ttL tmi tmt tyv tcb tow tcn txn thh tnc tcst tWS (3, 136, 141) :=
  ⟨M_141, _, rfl, rfl, by decide +kernel, rfl, fun z hz => List.all_eq_true.mp ck_141 z hz, List.forall_mem_cons.mpr ⟨⟨[], ⟨0, 10, 13, 21⟩, [], rfl, fun _ h => (List.not_mem_nil h).elim, by decide, by decide, wm 928 rfl rfl, tcs_0, Or.inr ⟨4, by decide +kernel, by decide, rfl⟩, [0, 1, 2, 3, 4], rfl, by decide⟩, fun _ h => (List.not_mem_nil h).elim⟩, wm 1018 rfl rfl, wm 1019 rfl rfl, wm 1020 rfl rfl, wm 104 rfl rfl, by decide +kernel, by decide +kernel, by decide +kernel, by decide⟩
set_option maxRecDepth 100000 in
theorem tw_144 : aWok tfL tpL tgL tkkL tcL tvL tyyL ttL tmi tmt tyv tcb tow tcn txn thh tnc tcst tWS (3, 139, 144) :=
  ⟨M_144, _, rfl, rfl, by decide +kernel, rfl, fun z hz => List.all_eq_true.mp ck_144 z hz, List.forall_mem_cons.mpr ⟨⟨[], ⟨0, 10, 13, 21⟩, [], rfl, fun _ h => (List.not_mem_nil h).elim, by decide, by decide, wm 928 rfl rfl, tcs_0, Or.inr ⟨4, by decide +kernel, by decide, rfl⟩, [0, 1, 2, 3, 4], rfl, by decide⟩, fun _ h => (List.not_mem_nil h).elim⟩, wm 1025 rfl rfl, wm 1026 rfl rfl, wm 1027 rfl rfl, wm 104 rfl rfl, by decide +kernel, by decide +kernel, by decide +kernel, by decide⟩
set_option maxRecDepth 100000 in
theorem tw_147 : aWok tfL tpL tgL tkkL tcL tvL tyyL ttL tmi tmt tyv tcb tow tcn txn thh tnc tcst tWS (3, 142, 147) :=
  ⟨M_147, _, rfl, rfl, by decide +kernel, rfl, fun z hz => List.all_eq_true.mp ck_147 z hz, List.forall_mem_cons.mpr ⟨⟨[], ⟨0, 16, 19, 21⟩, [], rfl, fun _ h => (List.not_mem_nil h).elim, by decide, by decide, wm 928 rfl rfl, tcs_0, Or.inl ⟨3, by decide +kernel, by decide, rfl⟩, [0, 1, 2, 3], rfl, by decide⟩, fun _ h => (List.not_mem_nil h).elim⟩, wm 1032 rfl rfl, wm 1033 rfl rfl, wm 1034 rfl rfl, wm 104 rfl rfl, by decide +kernel, by decide +kernel, by decide +kernel, by decide⟩
set_option maxRecDepth 100000 in
theorem tw_150 : aWok tfL tpL tgL tkkL tcL tvL tyyL ttL tmi tmt tyv tcb tow tcn txn thh tnc tcst tWS (3, 145, 150) :=
  ⟨M_150, _, rfl, rfl, by decide +kernel, rfl, fun z hz => List.all_eq_true.mp ck_150 z hz, List.forall_mem_cons.mpr ⟨⟨[], ⟨0, 10, 13, 13⟩, [], rfl, fun _ h => (List.not_mem_nil h).elim, by decide, by decide, wm 508 rfl rfl, tcs_1, Or.inr ⟨4, by decide +kernel, by decide, rfl⟩, [0, 1, 2, 3, 4], rfl, by decide⟩, fun _ h => (List.not_mem_nil h).elim⟩, wm 1040 rfl rfl, wm 1041 rfl rfl, wm 1042 rfl rfl, wm 104 rfl rfl, by decide +kernel, by decide +kernel, by decide +kernel, by decide⟩
set_option maxRecDepth 100000 in
theorem tw_155 : aWok tfL tpL tgL tkkL tcL tvL tyyL ttL tmi tmt tyv tcb tow tcn txn thh tnc tcst tWS (3, 148, 155) :=
  ⟨M_155, _, rfl, rfl, by decide +kernel, rfl, fun z hz => List.all_eq_true.mp ck_155 z hz, List.forall_mem_cons.mpr ⟨⟨[], ⟨0, 14, 17, 21⟩, [⟨0, 14, 21, 13⟩], rfl, fun _ h => (List.not_mem_nil h).elim, by decide, by decide, wm 928 rfl rfl, tcs_0, Or.inr ⟨6, by decide +kernel, by decide, rfl⟩, [0, 1, 2, 3, 4, 5, 6], rfl, by decide⟩, List.forall_mem_cons.mpr ⟨⟨[⟨0, 14, 17, 21⟩], ⟨0, 14, 21, 13⟩, [], rfl, List.forall_mem_cons.mpr ⟨Or.inr ⟨by decide, "java/util/NoSuchElementException", wm 928 rfl rfl, rfl⟩, fun _ h => (List.not_mem_nil h).elim⟩, by decide, by decide, wm 508 rfl rfl, tcs_1, Or.inr ⟨6, by decide +kernel, by decide, rfl⟩, [0, 1, 2, 3, 4, 5, 6], rfl, by decide⟩, fun _ h => (List.not_mem_nil h).elim⟩⟩, wm 1048 rfl rfl, wm 1049 rfl rfl, wm 1050 rfl rfl, wm 104 rfl rfl, by decide +kernel, by decide +kernel, by decide +kernel, by decide⟩
set_option maxRecDepth 100000 in
theorem tw_173 : aWok tfL tpL tgL tkkL tcL tvL tyyL ttL tmi tmt tyv tcb tow tcn txn thh tnc tcst tWS (3, 152, 173) :=
  ⟨M_173, _, rfl, rfl, by decide +kernel, rfl, fun z hz => List.all_eq_true.mp ck_173 z hz, List.forall_mem_cons.mpr ⟨⟨[], ⟨0, 14, 17, 21⟩, [], rfl, fun _ h => (List.not_mem_nil h).elim, by decide, by decide, wm 928 rfl rfl, tcs_0, Or.inr ⟨6, by decide +kernel, by decide, rfl⟩, [0, 1, 2, 3, 4, 5, 6], rfl, by decide⟩, fun _ h => (List.not_mem_nil h).elim⟩, wm 1060 rfl rfl, wm 1061 rfl rfl, wm 1062 rfl rfl, wm 104 rfl rfl, by decide +kernel, by decide +kernel, by decide +kernel, by decide⟩
set_option maxRecDepth 100000 in
theorem tw_182 : aWok tfL tpL tgL tkkL tcL tvL tyyL ttL tmi tmt tyv tcb tow tcn txn thh tnc tcst tWS (3, 155, 182) :=
  ⟨M_182, _, rfl, rfl, by decide +kernel, rfl, fun z hz => List.all_eq_true.mp ck_182 z hz, List.forall_mem_cons.mpr ⟨⟨[], ⟨0, 14, 17, 21⟩, [], rfl, fun _ h => (List.not_mem_nil h).elim, by decide, by decide, wm 928 rfl rfl, tcs_0, Or.inr ⟨6, by decide +kernel, by decide, rfl⟩, [0, 1, 2, 3, 4, 5, 6], rfl, by decide⟩, fun _ h => (List.not_mem_nil h).elim⟩, wm 1072 rfl rfl, wm 1073 rfl rfl, wm 1074 rfl rfl, wm 104 rfl rfl, by decide +kernel, by decide +kernel, by decide +kernel, by decide⟩
set_option maxRecDepth 100000 in
theorem tw_192 : aWok tfL tpL tgL tkkL tcL tvL tyyL ttL tmi tmt tyv tcb tow tcn txn thh tnc tcst tWS (3, 158, 192) :=
  ⟨M_192, _, rfl, rfl, by decide +kernel, rfl, fun z hz => List.all_eq_true.mp ck_192 z hz, List.forall_mem_cons.mpr ⟨⟨[], ⟨0, 10, 13, 21⟩, [], rfl, fun _ h => (List.not_mem_nil h).elim, by decide, by decide, wm 928 rfl rfl, tcs_0, Or.inr ⟨4, by decide +kernel, by decide, rfl⟩, [0, 1, 2, 3, 4], rfl, by decide⟩, fun _ h => (List.not_mem_nil h).elim⟩, wm 1097 rfl rfl, wm 1098 rfl rfl, wm 1099 rfl rfl, wm 104 rfl rfl, by decide +kernel, by decide +kernel, by decide +kernel, by decide⟩
set_option maxRecDepth 100000 in
theorem tw_196 : aWok tfL tpL tgL tkkL tcL tvL tyyL ttL tmi tmt tyv tcb tow tcn txn thh tnc tcst tWS (3, 161, 196) :=
  ⟨M_196, _, rfl, rfl, by decide +kernel, rfl, fun z hz => List.all_eq_true.mp ck_196 z hz, List.forall_mem_cons.mpr ⟨⟨[], ⟨0, 19, 22, 21⟩, [], rfl, fun _ h => (List.not_mem_nil h).elim, by decide, by decide, wm 928 rfl rfl, tcs_0, Or.inr ⟨5, by decide +kernel, by decide, rfl⟩, [0, 1, 2, 3, 4, 5], rfl, by decide⟩, fun _ h => (List.not_mem_nil h).elim⟩, wm 1105 rfl rfl, wm 1106 rfl rfl, wm 1107 rfl rfl, wm 104 rfl rfl, by decide +kernel, by decide +kernel, by decide +kernel, by decide⟩
set_option maxRecDepth 100000 in
theorem tw_206 : aWok tfL tpL tgL tkkL tcL tvL tyyL ttL tmi tmt tyv tcb tow tcn txn thh tnc tcst tWS (3, 165, 206) :=
  ⟨M_206, _, rfl, rfl, by decide +kernel, rfl, fun z hz => List.all_eq_true.mp ck_206 z hz, List.forall_mem_cons.mpr ⟨⟨[], ⟨0, 10, 13, 21⟩, [], rfl, fun _ h => (List.not_mem_nil h).elim, by decide, by decide, wm 928 rfl rfl, tcs_0, Or.inr ⟨4, by decide +kernel, by decide, rfl⟩, [0, 1, 2, 3, 4], rfl, by decide⟩, fun _ h => (List.not_mem_nil h).elim⟩, wm 1123 rfl rfl, wm 1124 rfl rfl, wm 1125 rfl rfl, wm 104 rfl rfl, by decide +kernel, by decide +kernel, by decide +kernel, by decide⟩
set_option maxRecDepth 100000 in
theorem tw_210 : aWok tfL tpL tgL tkkL tcL tvL tyyL ttL tmi tmt tyv tcb tow tcn txn thh tnc tcst tWS (3, 168, 210) :=
  ⟨M_210, _, rfl, rfl, by decide +kernel, rfl, fun z hz => List.all_eq_true.mp ck_210 z hz, List.forall_mem_cons.mpr ⟨⟨[], ⟨0, 10, 13, 21⟩, [], rfl, fun _ h => (List.not_mem_nil h).elim, by decide, by decide, wm 928 rfl rfl, tcs_0, Or.inr ⟨4, by decide +kernel, by decide, rfl⟩, [0, 1, 2, 3, 4], rfl, by decide⟩, fun _ h => (List.not_mem_nil h).elim⟩, wm 1137 rfl rfl, wm 1138 rfl rfl, wm 1139 rfl rfl, wm 104 rfl rfl, by decide +kernel, by decide +kernel, by decide +kernel, by decide⟩
set_option maxRecDepth 100000 in
theorem tw_218 : aWok tfL tpL tgL tkkL tcL tvL tyyL ttL tmi tmt tyv tcb tow tcn txn thh tnc tcst tWS (3, 171, 218) :=
  ⟨M_218, _, rfl, rfl, by decide +kernel, rfl, fun z hz => List.all_eq_true.mp ck_218 z hz, List.forall_mem_cons.mpr ⟨⟨[], ⟨0, 9, 12, 21⟩, [], rfl, fun _ h => (List.not_mem_nil h).elim, by decide, by decide, wm 928 rfl rfl, tcs_0, Or.inl ⟨3, by decide +kernel, by decide, rfl⟩, [0, 1, 2, 3], rfl, by decide⟩, fun _ h => (List.not_mem_nil h).elim⟩, wm 1156 rfl rfl, wm 1157 rfl rfl, wm 1158 rfl rfl, wm 104 rfl rfl, by decide +kernel, by decide +kernel, by decide +kernel, by decide⟩
set_option maxRecDepth 100000 in
theorem tw_230 : aWok tfL tpL tgL tkkL tcL tvL tyyL ttL tmi tmt tyv tcb tow tcn txn thh tnc tcst tWS (3, 174, 230) :=
  ⟨M_230, _, rfl, rfl, by decide +kernel, rfl, fun z hz => List.all_eq_true.mp ck_230 z hz, List.forall_mem_cons.mpr ⟨⟨[], ⟨0, 10, 13, 21⟩, [], rfl, fun _ h => (List.not_mem_nil h).elim, by decide, by decide, wm 928 rfl rfl, tcs_0, Or.inr ⟨4, by decide +kernel, by decide, rfl⟩, [0, 1, 2, 3, 4], rfl, by decide⟩, fun _ h => (List.not_mem_nil h).elim⟩, wm 1183 rfl rfl, wm 1184 rfl rfl, wm 1185 rfl rfl, wm 104 rfl rfl, by decide +kernel, by decide +kernel, by decide +kernel, by decide⟩
set_option maxRecDepth 100000 in
theorem tw_243 : aWok tfL tpL tgL tkkL tcL tvL tyyL ttL tmi tmt tyv tcb tow tcn txn thh tnc tcst tWS (3, 177, 243) :=
  ⟨M_243, _, rfl, rfl, by decide +kernel, rfl, fun z hz => List.all_eq_true.mp ck_243 z hz, List.forall_mem_cons.mpr ⟨⟨[], ⟨0, 9, 12, 21⟩, [], rfl, fun _ h => (List.not_mem_nil h).elim, by decide, by decide, wm 928 rfl rfl, tcs_0, Or.inl ⟨3, by decide +kernel, by decide, rfl⟩, [0, 1, 2, 3], rfl, by decide⟩, fun _ h => (List.not_mem_nil h).elim⟩, wm 1209 rfl rfl, wm 1210 rfl rfl, wm 1211 rfl rfl, wm 104 rfl rfl, by decide +kernel, by decide +kernel, by decide +kernel, by decide⟩
set_option maxRecDepth 100000 in
theorem tw_247 : aWok tfL tpL tgL tkkL tcL tvL tyyL ttL tmi tmt tyv tcb tow tcn txn thh tnc tcst tWS (3, 180, 247) :=
  ⟨M_247, _, rfl, rfl, by decide +kernel, rfl, fun z hz => List.all_eq_true.mp ck_247 z hz, List.forall_mem_cons.mpr ⟨⟨[], ⟨0, 14, 17, 21⟩, [], rfl, fun _ h => (List.not_mem_nil h).elim, by decide, by decide, wm 928 rfl rfl, tcs_0, Or.inr ⟨6, by decide +kernel, by decide, rfl⟩, [0, 1, 2, 3, 4, 5, 6], rfl, by decide⟩, fun _ h => (List.not_mem_nil h).elim⟩, wm 1220 rfl rfl, wm 1221 rfl rfl, wm 1222 rfl rfl, wm 104 rfl rfl, by decide +kernel, by decide +kernel, by decide +kernel, by decide⟩
set_option maxRecDepth 100000 in
theorem tw_259 : aWok tfL tpL tgL tkkL tcL tvL tyyL ttL tmi tmt tyv tcb tow tcn txn thh tnc tcst tWS (3, 183, 259) :=
  ⟨M_259, _, rfl, rfl, by decide +kernel, rfl, fun z hz => List.all_eq_true.mp ck_259 z hz, List.forall_mem_cons.mpr ⟨⟨[], ⟨0, 9, 12, 21⟩, [], rfl, fun _ h => (List.not_mem_nil h).elim, by decide, by decide, wm 928 rfl rfl, tcs_0, Or.inl ⟨3, by decide +kernel, by decide, rfl⟩, [0, 1, 2, 3], rfl, by decide⟩, fun _ h => (List.not_mem_nil h).elim⟩, wm 1264 rfl rfl, wm 1265 rfl rfl, wm 1266 rfl rfl, wm 104 rfl rfl, by decide +kernel, by decide +kernel, by decide +kernel, by decide⟩
set_option maxRecDepth 100000 in
theorem tw_264 : aWok tfL tpL tgL tkkL tcL tvL tyyL ttL tmi tmt tyv tcb tow tcn txn thh tnc tcst tWS (3, 186, 264) :=
  ⟨M_264, _, rfl, rfl, by decide +kernel, rfl, fun z hz => List.all_eq_true.mp ck_264 z hz, List.forall_mem_cons.mpr ⟨⟨[], ⟨0, 9, 12, 21⟩, [⟨0, 9, 15, 13⟩], rfl, fun _ h => (List.not_mem_nil h).elim, by decide, by decide, wm 928 rfl rfl, tcs_0, Or.inl ⟨3, by decide +kernel, by decide, rfl⟩, [0, 1, 2, 3], rfl, by decide⟩, List.forall_mem_cons.mpr ⟨⟨[⟨0, 9, 12, 21⟩], ⟨0, 9, 15, 13⟩, [], rfl, List.forall_mem_cons.mpr ⟨Or.inr ⟨by decide, "java/util/NoSuchElementException", wm 928 rfl rfl, rfl⟩, fun _ h => (List.not_mem_nil h).elim⟩, by decide, by decide, wm 508 rfl rfl, tcs_1, Or.inl ⟨3, by decide +kernel, by decide, rfl⟩, [0, 1, 2, 3], rfl, by decide⟩, fun _ h => (List.not_mem_nil h).elim⟩⟩, wm 1279 rfl rfl, wm 1280 rfl rfl, wm 1281 rfl rfl, wm 104 rfl rfl, by decide +kernel, by decide +kernel, by decide +kernel, by decide⟩
set_option maxRecDepth 100000 in
theorem tw_270 : aWok tfL tpL tgL tkkL tcL tvL tyyL ttL tmi tmt tyv tcb tow tcn txn thh tnc tcst tWS (3, 189, 270) :=
  ⟨M_270, _, rfl, rfl, by decide +kernel, rfl, fun z hz => List.all_eq_true.mp ck_270 z hz, List.forall_mem_cons.mpr ⟨⟨[], ⟨0, 9, 12, 21⟩, [⟨0, 9, 15, 13⟩], rfl, fun _ h => (List.not_mem_nil h).elim, by decide, by decide, wm 928 rfl rfl, tcs_0, Or.inl ⟨3, by decide +kernel, by decide, rfl⟩, [0, 1, 2, 3], rfl, by decide⟩, List.forall_mem_cons.mpr ⟨⟨[⟨0, 9, 12, 21⟩], ⟨0, 9, 15, 13⟩, [], rfl, List.forall_mem_cons.mpr ⟨Or.inr ⟨by decide, "java/util/NoSuchElementException", wm 928 rfl rfl, rfl⟩, fun _ h => (List.not_mem_nil h).elim⟩, by decide, by decide, wm 508 rfl rfl, tcs_1, Or.inl ⟨3, by decide +kernel, by decide, rfl⟩, [0, 1, 2, 3], rfl, by decide⟩, fun _ h => (List.not_mem_nil h).elim⟩⟩, wm 1292 rfl rfl, wm 1293 rfl rfl, wm 1294 rfl rfl, wm 104 rfl rfl, by decide +kernel, by decide +kernel, by decide +kernel, by decide⟩
set_option maxRecDepth 100000 in
theorem tw_273 : aWok tfL tpL tgL tkkL tcL tvL tyyL ttL tmi tmt tyv tcb tow tcn txn thh tnc tcst tWS (3, 192, 273) :=
  ⟨M_273, _, rfl, rfl, by decide +kernel, rfl, fun z hz => List.all_eq_true.mp ck_273 z hz, List.forall_mem_cons.mpr ⟨⟨[], ⟨0, 9, 12, 21⟩, [], rfl, fun _ h => (List.not_mem_nil h).elim, by decide, by decide, wm 928 rfl rfl, tcs_0, Or.inl ⟨3, by decide +kernel, by decide, rfl⟩, [0, 1, 2, 3], rfl, by decide⟩, fun _ h => (List.not_mem_nil h).elim⟩, wm 1299 rfl rfl, wm 1300 rfl rfl, wm 1301 rfl rfl, wm 104 rfl rfl, by decide +kernel, by decide +kernel, by decide +kernel, by decide⟩
set_option maxRecDepth 100000 in
theorem tw_281 : aWok tfL tpL tgL tkkL tcL tvL tyyL ttL tmi tmt tyv tcb tow tcn txn thh tnc tcst tWS (3, 199, 281) :=
  ⟨M_281, _, rfl, rfl, by decide +kernel, rfl, fun z hz => List.all_eq_true.mp ck_281 z hz, List.forall_mem_cons.mpr ⟨⟨[], ⟨0, 12, 15, 13⟩, [], rfl, fun _ h => (List.not_mem_nil h).elim, by decide, by decide, wm 508 rfl rfl, tcs_1, Or.inr ⟨5, by decide +kernel, by decide, rfl⟩, [0, 1, 2, 3, 4, 5], rfl, by decide⟩, fun _ h => (List.not_mem_nil h).elim⟩, wm 1306 rfl rfl, wm 1307 rfl rfl, wm 1308 rfl rfl, wm 104 rfl rfl, by decide +kernel, by decide +kernel, by decide +kernel, by decide⟩
set_option maxRecDepth 100000 in
theorem tw_284 : aWok tfL tpL tgL tkkL tcL tvL tyyL ttL tmi tmt tyv tcb tow tcn txn thh tnc tcst tWS (3, 202, 284) :=
  ⟨M_284, _, rfl, rfl, by decide +kernel, rfl, fun z hz => List.all_eq_true.mp ck_284 z hz, List.forall_mem_cons.mpr ⟨⟨[], ⟨0, 14, 17, 21⟩, [⟨0, 14, 21, 13⟩], rfl, fun _ h => (List.not_mem_nil h).elim, by decide, by decide, wm 928 rfl rfl, tcs_0, Or.inr ⟨6, by decide +kernel, by decide, rfl⟩, [0, 1, 2, 3, 4, 5, 6], rfl, by decide⟩, List.forall_mem_cons.mpr ⟨⟨[⟨0, 14, 17, 21⟩], ⟨0, 14, 21, 13⟩, [], rfl, List.forall_mem_cons.mpr ⟨Or.inr ⟨by decide, "java/util/NoSuchElementException", wm 928 rfl rfl, rfl⟩, fun _ h => (List.not_mem_nil h).elim⟩, by decide, by decide, wm 508 rfl rfl, tcs_1, Or.inr ⟨6, by decide +kernel, by decide, rfl⟩, [0, 1, 2, 3, 4, 5, 6], rfl, by decide⟩, fun _ h => (List.not_mem_nil h).elim⟩⟩, wm 1313 rfl rfl, wm 1314 rfl rfl, wm 1315 rfl rfl, wm 104 rfl rfl, by decide +kernel, by decide +kernel, by decide +kernel, by decide⟩
set_option maxRecDepth 100000 in
theorem tw_289 : aWok tfL tpL tgL tkkL tcL tvL tyyL ttL tmi tmt tyv tcb tow tcn txn thh tnc tcst tWS (3, 205, 289) :=
  ⟨M_289, _, rfl, rfl, by decide +kernel, rfl, fun z hz => List.all_eq_true.mp ck_289 z hz, List.forall_mem_cons.mpr ⟨⟨[], ⟨0, 14, 17, 21⟩, [], rfl, fun _ h => (List.not_mem_nil h).elim, by decide, by decide, wm 928 rfl rfl, tcs_0, Or.inr ⟨6, by decide +kernel, by decide, rfl⟩, [0, 1, 2, 3, 4, 5, 6], rfl, by decide⟩, fun _ h => (List.not_mem_nil h).elim⟩, wm 1327 rfl rfl, wm 1328 rfl rfl, wm 1329 rfl rfl, wm 104 rfl rfl, by decide +kernel, by decide +kernel, by decide +kernel, by decide⟩
set_option maxRecDepth 100000 in
theorem tw_294 : aWok tfL tpL tgL tkkL tcL tvL tyyL ttL tmi tmt tyv tcb tow tcn txn thh tnc tcst tWS (3, 208, 294) :=
  ⟨M_294, _, rfl, rfl, by decide +kernel, rfl, fun z hz => List.all_eq_true.mp ck_294 z hz, List.forall_mem_cons.mpr ⟨⟨[], ⟨0, 12, 15, 21⟩, [], rfl, fun _ h => (List.not_mem_nil h).elim, by decide, by decide, wm 928 rfl rfl, tcs_0, Or.inr ⟨5, by decide +kernel, by decide, rfl⟩, [0, 1, 2, 3, 4, 5], rfl, by decide⟩, fun _ h => (List.not_mem_nil h).elim⟩, wm 1343 rfl rfl, wm 1344 rfl rfl, wm 1345 rfl rfl, wm 104 rfl rfl, by decide +kernel, by decide +kernel, by decide +kernel, by decide⟩
set_option maxRecDepth 100000 in
theorem tw_300 : aWok tfL tpL tgL tkkL tcL tvL tyyL ttL tmi tmt tyv tcb tow tcn txn thh tnc tcst tWS (3, 211, 300) :=
  ⟨M_300, _, rfl, rfl, by decide +kernel, rfl, fun z hz => List.all_eq_true.mp ck_300 z hz, List.forall_mem_cons.mpr ⟨⟨[], ⟨0, 9, 12, 21⟩, [], rfl, fun _ h => (List.not_mem_nil h).elim, by decide, by decide, wm 928 rfl rfl, tcs_0, Or.inl ⟨3, by decide +kernel, by decide, rfl⟩, [0, 1, 2, 3], rfl, by decide⟩, fun _ h => (List.not_mem_nil h).elim⟩, wm 1364 rfl rfl, wm 1365 rfl rfl, wm 1366 rfl rfl, wm 104 rfl rfl, by decide +kernel, by decide +kernel, by decide +kernel, by decide⟩
theorem twL_ok : ∀ q ∈ twL, aWok tfL tpL tgL tkkL tcL tvL tyyL ttL tmi tmt tyv tcb tow tcn txn thh tnc tcst tWS q := List.forall_mem_cons.mpr ⟨tw_4, List.forall_mem_cons.mpr ⟨tw_94, List.forall_mem_cons.mpr ⟨tw_112, List.forall_mem_cons.mpr ⟨tw_138, List.forall_mem_cons.mpr ⟨tw_141, List.forall_mem_cons.mpr ⟨tw_144, List.forall_mem_cons.mpr ⟨tw_147, List.forall_mem_cons.mpr ⟨tw_150, List.forall_mem_cons.mpr ⟨tw_155, List.forall_mem_cons.mpr ⟨tw_173, List.forall_mem_cons.mpr ⟨tw_182, List.forall_mem_cons.mpr ⟨tw_192, List.forall_mem_cons.mpr ⟨tw_196, List.forall_mem_cons.mpr ⟨tw_206, List.forall_mem_cons.mpr ⟨tw_210, List.forall_mem_cons.mpr ⟨tw_218, List.forall_mem_cons.mpr ⟨tw_230, List.forall_mem_cons.mpr ⟨tw_243, List.forall_mem_cons.mpr ⟨tw_247, List.forall_mem_cons.mpr ⟨tw_259, List.forall_mem_cons.mpr ⟨tw_264, List.forall_mem_cons.mpr ⟨tw_270, List.forall_mem_cons.mpr ⟨tw_273, List.forall_mem_cons.mpr ⟨tw_281, List.forall_mem_cons.mpr ⟨tw_284, List.forall_mem_cons.mpr ⟨tw_289, List.forall_mem_cons.mpr ⟨tw_294, List.forall_mem_cons.mpr ⟨tw_300, fun _ h => (List.not_mem_nil h).elim⟩⟩⟩⟩⟩⟩⟩⟩⟩⟩⟩⟩⟩⟩⟩⟩⟩⟩⟩⟩⟩⟩⟩⟩⟩⟩⟩⟩
theorem tvN_ck : (tvL.all fun q => match tmt q.2.2 with
  | some M => M.2.2.2.2.isNone
  | none => true) = true := by decide +kernel
theorem tvN_ok : ∀ q ∈ tvL, ∀ M', tmt q.2.2 = some M' → M'.2.2.2.2 = none := by
  intro q hq M' hM
  have h := List.all_eq_true.mp tvN_ck q hq
  rw [hM] at h
  exact Option.isNone_iff_eq_none.mp h
theorem ttN_ok : ∀ q ∈ ttL, q.1 ≠ 3 := by decide
