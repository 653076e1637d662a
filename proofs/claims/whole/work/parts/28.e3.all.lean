/-! ===== object 33, and all ===== -/
set_option maxRecDepth 100000 in
theorem kA_33 {dA : Nat → ClassId} {ad : Nat → Nat} {b L : Nat} {l : List Nat} {xs : Nat → Int32} : (kWs dA ad tHs)[33]? = (aWs 64 dA (kAd2 ad b l) (tkd L xs) tS0)[33]? := sorry
theorem kAll {dA : Nat → ClassId} {ad : Nat → Nat} {b L : Nat} {l : List Nat} {xs : Nat → Int32} : kWs dA ad tHs = aWs 64 dA (kAd2 ad b l) (tkd L xs) tS0 := by
  apply List.ext_getElem?
  intro i
  match i with
  | 0 => exact kA_0
  | 1 => exact kA_1
  | 2 => exact kA_2
  | 3 => exact kA_3
  | 4 => exact kA_4
  | 5 => exact kA_5
  | 6 => exact kA_6
  | 7 => exact kA_7
  | 8 => exact kA_8
  | 9 => exact kA_9
  | 10 => exact kA_10
  | 11 => exact kA_11
  | 12 => exact kA_12
  | 13 => exact kA_13
  | 14 => exact kA_14
  | 15 => exact kA_15
  | 16 => exact kA_16
  | 17 => exact kA_17
  | 18 => exact kA_18
  | 19 => exact kA_19
  | 20 => exact kA_20
  | 21 => exact kA_21
  | 22 => exact kA_22
  | 23 => exact kA_23
  | 24 => exact kA_24
  | 25 => exact kA_25
  | 26 => exact kA_26
  | 27 => exact kA_27
  | 28 => exact kA_28
  | 29 => exact kA_29
  | 30 => exact kA_30
  | 31 => exact kA_31
  | 32 => exact kA_32
  | 33 => exact kA_33
  | 34 => exact kA_34
  | 35 => exact kA_35
  | 36 => exact kA_36
  | 37 => exact kA_37
  | 38 => exact kA_38
  | 39 => exact kA_39
  | 40 => exact kA_40
  | 41 => exact kA_41
  | 42 => exact kA_42
  | 43 => exact kA_43
  | 44 => exact kA_44
  | 45 => exact kA_45
  | 46 => exact kA_46
  | 47 => exact kA_47
  | 48 => exact kA_48
  | 49 => exact kA_49
  | 50 => exact kA_50
  | 51 => exact kA_51
  | 52 => exact kA_52
  | 53 => exact kA_53
  | 54 => exact kA_54
  | 55 => exact kA_55
  | 56 => exact kA_56
  | 57 => exact kA_57
  | 58 => exact kA_58
  | 59 => exact kA_59
  | 60 => exact kA_60
  | 61 => exact kA_61
  | 62 => exact kA_62
  | 63 => exact kA_63
  | i + 64 =>
    rw [List.getElem?_eq_none (by rw [show (kWs dA ad tHs).length = 64 from (List.length_mapIdx).trans rfl]; exact Nat.le_add_left 64 i), List.getElem?_eq_none (by rw [show (aWs 64 dA (kAd2 ad b l) (tkd L xs) tS0).length = 64 from aWs_len]; exact Nat.le_add_left 64 i)]
