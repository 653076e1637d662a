/-! ===== object 33, and all ===== -/
def kv33 : List Value := [.int 0, .int 0, .int 0, .int 0, .int 0, .int 0, .ref 34, .ref 35, .ref 36, .ref 37, .ref 38, .ref 39, .int 0, .ref 40, .ref 41, .int 0, .int 0, .int (-1), .int 0, .int 0, .int 0, .int 0, .int 0, .int 0, .int 0, .long 0, .int 0, .int 0, .int 0, .int 0, .int 0, .int 0, .int 0, .int 0, .ref 42, .ref 43, .ref 44, .ref 45, .ref 46, .ref 47, .ref 48, .ref 49, .ref 50, .ref 51, .ref 52, .ref 53, .ref 54, .ref 55, .int 0, .int 0, .ref 56, .ref 57, .ref 58, .ref 59, .int (-1), .ref 60, .ref 61, .ref 62]
def kf33 : List (Nat ⊕ Nat) := [.inr 0, .inr 0, .inr 0, .inr 0, .inr 0, .inr 0, .inl 34, .inl 35, .inl 36, .inl 37, .inl 38, .inl 39, .inr 0, .inl 40, .inl 41, .inr 0, .inr 0, .inr 0, .inr 0, .inr 0, .inr 0, .inr 0, .inr 0, .inr 0, .inr 0, .inr 1, .inr 0, .inr 0, .inr 0, .inr 0, .inr 0, .inr 0, .inr 0, .inr 0, .inl 42, .inl 43, .inl 44, .inl 45, .inl 46, .inl 47, .inl 48, .inl 49, .inl 50, .inl 51, .inl 52, .inl 53, .inl 54, .inl 55, .inr 0, .inr 0, .inl 56, .inl 57, .inl 58, .inl 59, .inr 0, .inl 60, .inl 61, .inl 62]
set_option maxRecDepth 100000 in
theorem kT33 : tHs[33]? = some (.inr (8, kv33)) := rfl
theorem kS33 (k : Nat) : tS0.1 33 k = match kv33[k]? with
  | some (.int x) => x
  | _ => 0 := by
  show (match tHs[33]? with
    | some (.inr (_, vs)) => match vs[k]? with
      | some (.int x) => x
      | _ => 0
    | _ => (0 : Int32)) = _
  rw [kT33]
set_option maxRecDepth 100000 in
theorem kD33 {L : Nat} {xs : Nat → Int32} : tkd L xs 33 = .inr (.inl (8, kf33)) := rfl
set_option maxHeartbeats 40000000 in
set_option maxRecDepth 100000 in
theorem kV33 {ad : Nat → Nat} {b z : Nat} {l : List Nat} : kv33.map (aVm ad) = kf33.mapIdx (aFv (kAd2 ad b l z) tS0 33) := by
  apply List.ext_getElem?
  intro k
  rw [List.getElem?_map, List.getElem?_mapIdx]
  have hk := kS33 k
  match k, hk with
  | 0, hk => exact congrArg some (congrArg Value.int hk.symm)
  | 1, hk => exact congrArg some (congrArg Value.int hk.symm)
  | 2, hk => exact congrArg some (congrArg Value.int hk.symm)
  | 3, hk => exact congrArg some (congrArg Value.int hk.symm)
  | 4, hk => exact congrArg some (congrArg Value.int hk.symm)
  | 5, hk => exact congrArg some (congrArg Value.int hk.symm)
  | 6, _ => rfl
  | 7, _ => rfl
  | 8, _ => rfl
  | 9, _ => rfl
  | 10, _ => rfl
  | 11, _ => rfl
  | 12, hk => exact congrArg some (congrArg Value.int hk.symm)
  | 13, _ => rfl
  | 14, _ => rfl
  | 15, hk => exact congrArg some (congrArg Value.int hk.symm)
  | 16, hk => exact congrArg some (congrArg Value.int hk.symm)
  | 17, hk => exact congrArg some (congrArg Value.int hk.symm)
  | 18, hk => exact congrArg some (congrArg Value.int hk.symm)
  | 19, hk => exact congrArg some (congrArg Value.int hk.symm)
  | 20, hk => exact congrArg some (congrArg Value.int hk.symm)
  | 21, hk => exact congrArg some (congrArg Value.int hk.symm)
  | 22, hk => exact congrArg some (congrArg Value.int hk.symm)
  | 23, hk => exact congrArg some (congrArg Value.int hk.symm)
  | 24, hk => exact congrArg some (congrArg Value.int hk.symm)
  | 25, _ => rfl
  | 26, hk => exact congrArg some (congrArg Value.int hk.symm)
  | 27, hk => exact congrArg some (congrArg Value.int hk.symm)
  | 28, hk => exact congrArg some (congrArg Value.int hk.symm)
  | 29, hk => exact congrArg some (congrArg Value.int hk.symm)
  | 30, hk => exact congrArg some (congrArg Value.int hk.symm)
  | 31, hk => exact congrArg some (congrArg Value.int hk.symm)
  | 32, hk => exact congrArg some (congrArg Value.int hk.symm)
  | 33, hk => exact congrArg some (congrArg Value.int hk.symm)
  | 34, _ => rfl
  | 35, _ => rfl
  | 36, _ => rfl
  | 37, _ => rfl
  | 38, _ => rfl
  | 39, _ => rfl
  | 40, _ => rfl
  | 41, _ => rfl
  | 42, _ => rfl
  | 43, _ => rfl
  | 44, _ => rfl
  | 45, _ => rfl
  | 46, _ => rfl
  | 47, _ => rfl
  | 48, hk => exact congrArg some (congrArg Value.int hk.symm)
  | 49, hk => exact congrArg some (congrArg Value.int hk.symm)
  | 50, _ => rfl
  | 51, _ => rfl
  | 52, _ => rfl
  | 53, _ => rfl
  | 54, hk => exact congrArg some (congrArg Value.int hk.symm)
  | 55, _ => rfl
  | 56, _ => rfl
  | 57, _ => rfl
  | k + 58, _ =>
    rw [List.getElem?_eq_none (l := kv33) (Nat.le_add_left 58 k), List.getElem?_eq_none (l := kf33) (Nat.le_add_left 58 k)]
    rfl
theorem kA_33 {dA : Nat → ClassId} {ad : Nat → Nat} {b L z : Nat} {l : List Nat} {xs : Nat → Int32} : (kWs dA ad tHs)[33]? = (aWs 64 dA (kAd2 ad b l z) (tkd L xs) tS0)[33]? := by
  rw [kWs_get kT33, aWs_get (by decide)]
  unfold aEl
  rw [kD33]
  show some (ad 33, Sum.inr (8, kv33.map (aVm ad))) = some (kAd2 ad b l z 33, Sum.inr (8, kf33.mapIdx (aFv (kAd2 ad b l z) tS0 33)))
  rw [kV33 (b := b) (l := l) (z := z)]
  rfl
theorem kAll {dA : Nat → ClassId} {ad : Nat → Nat} {b L z : Nat} {l : List Nat} {xs : Nat → Int32} : kWs dA ad tHs = aWs 64 dA (kAd2 ad b l z) (tkd L xs) tS0 := by
  apply List.ext_getElem?
  intro i
  match i with
  | 0 => exact kA_0
  | 1 => exact kA_1
  | 2 => exact kA_2
  | 3 => exact kA_3
  | 4 => exact kA_4
  | 5 => exact kA_5
  | 6 => exact kA_6
  | 7 => exact kA_7
  | 8 => exact kA_8
  | 9 => exact kA_9
  | 10 => exact kA_10
  | 11 => exact kA_11
  | 12 => exact kA_12
  | 13 => exact kA_13
  | 14 => exact kA_14
  | 15 => exact kA_15
  | 16 => exact kA_16
  | 17 => exact kA_17
  | 18 => exact kA_18
  | 19 => exact kA_19
  | 20 => exact kA_20
  | 21 => exact kA_21
  | 22 => exact kA_22
  | 23 => exact kA_23
  | 24 => exact kA_24
  | 25 => exact kA_25
  | 26 => exact kA_26
  | 27 => exact kA_27
  | 28 => exact kA_28
  | 29 => exact kA_29
  | 30 => exact kA_30
  | 31 => exact kA_31
  | 32 => exact kA_32
  | 33 => exact kA_33
  | 34 => exact kA_34
  | 35 => exact kA_35
  | 36 => exact kA_36
  | 37 => exact kA_37
  | 38 => exact kA_38
  | 39 => exact kA_39
  | 40 => exact kA_40
  | 41 => exact kA_41
  | 42 => exact kA_42
  | 43 => exact kA_43
  | 44 => exact kA_44
  | 45 => exact kA_45
  | 46 => exact kA_46
  | 47 => exact kA_47
  | 48 => exact kA_48
  | 49 => exact kA_49
  | 50 => exact kA_50
  | 51 => exact kA_51
  | 52 => exact kA_52
  | 53 => exact kA_53
  | 54 => exact kA_54
  | 55 => exact kA_55
  | 56 => exact kA_56
  | 57 => exact kA_57
  | 58 => exact kA_58
  | 59 => exact kA_59
  | 60 => exact kA_60
  | 61 => exact kA_61
  | 62 => exact kA_62
  | 63 => exact kA_63
  | i + 64 =>
    rw [List.getElem?_eq_none (by rw [show (kWs dA ad tHs).length = 64 from (List.length_mapIdx).trans rfl]; exact Nat.le_add_left 64 i), List.getElem?_eq_none (by rw [show (aWs 64 dA (kAd2 ad b l z) (tkd L xs) tS0).length = 64 from aWs_len]; exact Nat.le_add_left 64 i)]
