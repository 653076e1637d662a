/-! ===== the abstract heap at the start is the world that the constructors made ===== -/
theorem aWs_len {N : Nat} {dA : Nat → ClassId} {ad : Nat → Nat} {kd : Nat → aKd} {σ : aH} : (aWs N dA ad kd σ).length = N := by simp [aWs]
set_option maxHeartbeats 4000000 in
set_option maxRecDepth 100000 in
theorem kA_0 {dA : Nat → ClassId} {ad : Nat → Nat} {b L z : Nat} {l : List Nat} {xs : Nat → Int32} : (kWs dA ad tHs)[0]? = (aWs 64 dA (kAd2 ad b l z) (tkd L xs) tS0)[0]? := Eq.trans (kWs_get (i := 0) rfl) (Eq.trans (b := some (kAd2 ad b l z 0, aEl dA (kAd2 ad b l z) (tkd L xs) tS0 0)) rfl (aWs_get (by decide)).symm)
set_option maxHeartbeats 4000000 in
set_option maxRecDepth 100000 in
theorem kA_1 {dA : Nat → ClassId} {ad : Nat → Nat} {b L z : Nat} {l : List Nat} {xs : Nat → Int32} : (kWs dA ad tHs)[1]? = (aWs 64 dA (kAd2 ad b l z) (tkd L xs) tS0)[1]? := Eq.trans (kWs_get (i := 1) rfl) (Eq.trans (b := some (kAd2 ad b l z 1, aEl dA (kAd2 ad b l z) (tkd L xs) tS0 1)) rfl (aWs_get (by decide)).symm)
set_option maxHeartbeats 4000000 in
set_option maxRecDepth 100000 in
theorem kA_2 {dA : Nat → ClassId} {ad : Nat → Nat} {b L z : Nat} {l : List Nat} {xs : Nat → Int32} : (kWs dA ad tHs)[2]? = (aWs 64 dA (kAd2 ad b l z) (tkd L xs) tS0)[2]? := Eq.trans (kWs_get (i := 2) rfl) (Eq.trans (b := some (kAd2 ad b l z 2, aEl dA (kAd2 ad b l z) (tkd L xs) tS0 2)) rfl (aWs_get (by decide)).symm)
set_option maxHeartbeats 4000000 in
set_option maxRecDepth 100000 in
theorem kA_3 {dA : Nat → ClassId} {ad : Nat → Nat} {b L z : Nat} {l : List Nat} {xs : Nat → Int32} : (kWs dA ad tHs)[3]? = (aWs 64 dA (kAd2 ad b l z) (tkd L xs) tS0)[3]? := Eq.trans (kWs_get (i := 3) rfl) (Eq.trans (b := some (kAd2 ad b l z 3, aEl dA (kAd2 ad b l z) (tkd L xs) tS0 3)) rfl (aWs_get (by decide)).symm)
set_option maxHeartbeats 4000000 in
set_option maxRecDepth 100000 in
theorem kA_4 {dA : Nat → ClassId} {ad : Nat → Nat} {b L z : Nat} {l : List Nat} {xs : Nat → Int32} : (kWs dA ad tHs)[4]? = (aWs 64 dA (kAd2 ad b l z) (tkd L xs) tS0)[4]? := Eq.trans (kWs_get (i := 4) rfl) (Eq.trans (b := some (kAd2 ad b l z 4, aEl dA (kAd2 ad b l z) (tkd L xs) tS0 4)) rfl (aWs_get (by decide)).symm)
set_option maxHeartbeats 4000000 in
set_option maxRecDepth 100000 in
theorem kA_5 {dA : Nat → ClassId} {ad : Nat → Nat} {b L z : Nat} {l : List Nat} {xs : Nat → Int32} : (kWs dA ad tHs)[5]? = (aWs 64 dA (kAd2 ad b l z) (tkd L xs) tS0)[5]? := Eq.trans (kWs_get (i := 5) rfl) (Eq.trans (b := some (kAd2 ad b l z 5, aEl dA (kAd2 ad b l z) (tkd L xs) tS0 5)) rfl (aWs_get (by decide)).symm)
set_option maxHeartbeats 4000000 in
set_option maxRecDepth 100000 in
theorem kA_6 {dA : Nat → ClassId} {ad : Nat → Nat} {b L z : Nat} {l : List Nat} {xs : Nat → Int32} : (kWs dA ad tHs)[6]? = (aWs 64 dA (kAd2 ad b l z) (tkd L xs) tS0)[6]? := Eq.trans (kWs_get (i := 6) rfl) (Eq.trans (b := some (kAd2 ad b l z 6, aEl dA (kAd2 ad b l z) (tkd L xs) tS0 6)) rfl (aWs_get (by decide)).symm)
set_option maxHeartbeats 4000000 in
set_option maxRecDepth 100000 in
theorem kA_7 {dA : Nat → ClassId} {ad : Nat → Nat} {b L z : Nat} {l : List Nat} {xs : Nat → Int32} : (kWs dA ad tHs)[7]? = (aWs 64 dA (kAd2 ad b l z) (tkd L xs) tS0)[7]? := Eq.trans (kWs_get (i := 7) rfl) (Eq.trans (b := some (kAd2 ad b l z 7, aEl dA (kAd2 ad b l z) (tkd L xs) tS0 7)) rfl (aWs_get (by decide)).symm)
set_option maxHeartbeats 4000000 in
set_option maxRecDepth 100000 in
theorem kA_8 {dA : Nat → ClassId} {ad : Nat → Nat} {b L z : Nat} {l : List Nat} {xs : Nat → Int32} : (kWs dA ad tHs)[8]? = (aWs 64 dA (kAd2 ad b l z) (tkd L xs) tS0)[8]? := Eq.trans (kWs_get (i := 8) rfl) (Eq.trans (b := some (kAd2 ad b l z 8, aEl dA (kAd2 ad b l z) (tkd L xs) tS0 8)) rfl (aWs_get (by decide)).symm)
set_option maxHeartbeats 4000000 in
set_option maxRecDepth 100000 in
theorem kA_9 {dA : Nat → ClassId} {ad : Nat → Nat} {b L z : Nat} {l : List Nat} {xs : Nat → Int32} : (kWs dA ad tHs)[9]? = (aWs 64 dA (kAd2 ad b l z) (tkd L xs) tS0)[9]? := Eq.trans (kWs_get (i := 9) rfl) (Eq.trans (b := some (kAd2 ad b l z 9, aEl dA (kAd2 ad b l z) (tkd L xs) tS0 9)) rfl (aWs_get (by decide)).symm)
set_option maxHeartbeats 4000000 in
set_option maxRecDepth 100000 in
theorem kA_10 {dA : Nat → ClassId} {ad : Nat → Nat} {b L z : Nat} {l : List Nat} {xs : Nat → Int32} : (kWs dA ad tHs)[10]? = (aWs 64 dA (kAd2 ad b l z) (tkd L xs) tS0)[10]? := Eq.trans (kWs_get (i := 10) rfl) (Eq.trans (b := some (kAd2 ad b l z 10, aEl dA (kAd2 ad b l z) (tkd L xs) tS0 10)) rfl (aWs_get (by decide)).symm)
set_option maxHeartbeats 4000000 in
set_option maxRecDepth 100000 in
theorem kA_11 {dA : Nat → ClassId} {ad : Nat → Nat} {b L z : Nat} {l : List Nat} {xs : Nat → Int32} : (kWs dA ad tHs)[11]? = (aWs 64 dA (kAd2 ad b l z) (tkd L xs) tS0)[11]? := Eq.trans (kWs_get (i := 11) rfl) (Eq.trans (b := some (kAd2 ad b l z 11, aEl dA (kAd2 ad b l z) (tkd L xs) tS0 11)) rfl (aWs_get (by decide)).symm)
set_option maxHeartbeats 4000000 in
set_option maxRecDepth 100000 in
theorem kA_12 {dA : Nat → ClassId} {ad : Nat → Nat} {b L z : Nat} {l : List Nat} {xs : Nat → Int32} : (kWs dA ad tHs)[12]? = (aWs 64 dA (kAd2 ad b l z) (tkd L xs) tS0)[12]? := Eq.trans (kWs_get (i := 12) rfl) (Eq.trans (b := some (kAd2 ad b l z 12, aEl dA (kAd2 ad b l z) (tkd L xs) tS0 12)) rfl (aWs_get (by decide)).symm)
set_option maxHeartbeats 4000000 in
set_option maxRecDepth 100000 in
theorem kA_13 {dA : Nat → ClassId} {ad : Nat → Nat} {b L z : Nat} {l : List Nat} {xs : Nat → Int32} : (kWs dA ad tHs)[13]? = (aWs 64 dA (kAd2 ad b l z) (tkd L xs) tS0)[13]? := Eq.trans (kWs_get (i := 13) rfl) (Eq.trans (b := some (kAd2 ad b l z 13, aEl dA (kAd2 ad b l z) (tkd L xs) tS0 13)) rfl (aWs_get (by decide)).symm)
set_option maxHeartbeats 4000000 in
set_option maxRecDepth 100000 in
theorem kA_14 {dA : Nat → ClassId} {ad : Nat → Nat} {b L z : Nat} {l : List Nat} {xs : Nat → Int32} : (kWs dA ad tHs)[14]? = (aWs 64 dA (kAd2 ad b l z) (tkd L xs) tS0)[14]? := Eq.trans (kWs_get (i := 14) rfl) (Eq.trans (b := some (kAd2 ad b l z 14, aEl dA (kAd2 ad b l z) (tkd L xs) tS0 14)) rfl (aWs_get (by decide)).symm)
set_option maxHeartbeats 4000000 in
set_option maxRecDepth 100000 in
theorem kA_15 {dA : Nat → ClassId} {ad : Nat → Nat} {b L z : Nat} {l : List Nat} {xs : Nat → Int32} : (kWs dA ad tHs)[15]? = (aWs 64 dA (kAd2 ad b l z) (tkd L xs) tS0)[15]? := Eq.trans (kWs_get (i := 15) rfl) (Eq.trans (b := some (kAd2 ad b l z 15, aEl dA (kAd2 ad b l z) (tkd L xs) tS0 15)) rfl (aWs_get (by decide)).symm)
set_option maxHeartbeats 4000000 in
set_option maxRecDepth 100000 in
theorem kA_16 {dA : Nat → ClassId} {ad : Nat → Nat} {b L z : Nat} {l : List Nat} {xs : Nat → Int32} : (kWs dA ad tHs)[16]? = (aWs 64 dA (kAd2 ad b l z) (tkd L xs) tS0)[16]? := Eq.trans (kWs_get (i := 16) rfl) (Eq.trans (b := some (kAd2 ad b l z 16, aEl dA (kAd2 ad b l z) (tkd L xs) tS0 16)) rfl (aWs_get (by decide)).symm)
set_option maxHeartbeats 4000000 in
set_option maxRecDepth 100000 in
theorem kA_17 {dA : Nat → ClassId} {ad : Nat → Nat} {b L z : Nat} {l : List Nat} {xs : Nat → Int32} : (kWs dA ad tHs)[17]? = (aWs 64 dA (kAd2 ad b l z) (tkd L xs) tS0)[17]? := Eq.trans (kWs_get (i := 17) rfl) (Eq.trans (b := some (kAd2 ad b l z 17, aEl dA (kAd2 ad b l z) (tkd L xs) tS0 17)) rfl (aWs_get (by decide)).symm)
set_option maxHeartbeats 4000000 in
set_option maxRecDepth 100000 in
theorem kA_18 {dA : Nat → ClassId} {ad : Nat → Nat} {b L z : Nat} {l : List Nat} {xs : Nat → Int32} : (kWs dA ad tHs)[18]? = (aWs 64 dA (kAd2 ad b l z) (tkd L xs) tS0)[18]? := Eq.trans (kWs_get (i := 18) rfl) (Eq.trans (b := some (kAd2 ad b l z 18, aEl dA (kAd2 ad b l z) (tkd L xs) tS0 18)) rfl (aWs_get (by decide)).symm)
set_option maxHeartbeats 4000000 in
set_option maxRecDepth 100000 in
theorem kA_19 {dA : Nat → ClassId} {ad : Nat → Nat} {b L z : Nat} {l : List Nat} {xs : Nat → Int32} : (kWs dA ad tHs)[19]? = (aWs 64 dA (kAd2 ad b l z) (tkd L xs) tS0)[19]? := Eq.trans (kWs_get (i := 19) rfl) (Eq.trans (b := some (kAd2 ad b l z 19, aEl dA (kAd2 ad b l z) (tkd L xs) tS0 19)) rfl (aWs_get (by decide)).symm)
set_option maxHeartbeats 4000000 in
set_option maxRecDepth 100000 in
theorem kA_20 {dA : Nat → ClassId} {ad : Nat → Nat} {b L z : Nat} {l : List Nat} {xs : Nat → Int32} : (kWs dA ad tHs)[20]? = (aWs 64 dA (kAd2 ad b l z) (tkd L xs) tS0)[20]? := Eq.trans (kWs_get (i := 20) rfl) (Eq.trans (b := some (kAd2 ad b l z 20, aEl dA (kAd2 ad b l z) (tkd L xs) tS0 20)) rfl (aWs_get (by decide)).symm)
set_option maxHeartbeats 4000000 in
set_option maxRecDepth 100000 in
theorem kA_21 {dA : Nat → ClassId} {ad : Nat → Nat} {b L z : Nat} {l : List Nat} {xs : Nat → Int32} : (kWs dA ad tHs)[21]? = (aWs 64 dA (kAd2 ad b l z) (tkd L xs) tS0)[21]? := Eq.trans (kWs_get (i := 21) rfl) (Eq.trans (b := some (kAd2 ad b l z 21, aEl dA (kAd2 ad b l z) (tkd L xs) tS0 21)) rfl (aWs_get (by decide)).symm)
set_option maxHeartbeats 4000000 in
set_option maxRecDepth 100000 in
theorem kA_22 {dA : Nat → ClassId} {ad : Nat → Nat} {b L z : Nat} {l : List Nat} {xs : Nat → Int32} : (kWs dA ad tHs)[22]? = (aWs 64 dA (kAd2 ad b l z) (tkd L xs) tS0)[22]? := Eq.trans (kWs_get (i := 22) rfl) (Eq.trans (b := some (kAd2 ad b l z 22, aEl dA (kAd2 ad b l z) (tkd L xs) tS0 22)) rfl (aWs_get (by decide)).symm)
set_option maxHeartbeats 4000000 in
set_option maxRecDepth 100000 in
theorem kA_23 {dA : Nat → ClassId} {ad : Nat → Nat} {b L z : Nat} {l : List Nat} {xs : Nat → Int32} : (kWs dA ad tHs)[23]? = (aWs 64 dA (kAd2 ad b l z) (tkd L xs) tS0)[23]? := Eq.trans (kWs_get (i := 23) rfl) (Eq.trans (b := some (kAd2 ad b l z 23, aEl dA (kAd2 ad b l z) (tkd L xs) tS0 23)) rfl (aWs_get (by decide)).symm)
set_option maxHeartbeats 4000000 in
set_option maxRecDepth 100000 in
theorem kA_24 {dA : Nat → ClassId} {ad : Nat → Nat} {b L z : Nat} {l : List Nat} {xs : Nat → Int32} : (kWs dA ad tHs)[24]? = (aWs 64 dA (kAd2 ad b l z) (tkd L xs) tS0)[24]? := Eq.trans (kWs_get (i := 24) rfl) (Eq.trans (b := some (kAd2 ad b l z 24, aEl dA (kAd2 ad b l z) (tkd L xs) tS0 24)) rfl (aWs_get (by decide)).symm)
set_option maxHeartbeats 4000000 in
set_option maxRecDepth 100000 in
theorem kA_25 {dA : Nat → ClassId} {ad : Nat → Nat} {b L z : Nat} {l : List Nat} {xs : Nat → Int32} : (kWs dA ad tHs)[25]? = (aWs 64 dA (kAd2 ad b l z) (tkd L xs) tS0)[25]? := Eq.trans (kWs_get (i := 25) rfl) (Eq.trans (b := some (kAd2 ad b l z 25, aEl dA (kAd2 ad b l z) (tkd L xs) tS0 25)) rfl (aWs_get (by decide)).symm)
set_option maxHeartbeats 4000000 in
set_option maxRecDepth 100000 in
theorem kA_26 {dA : Nat → ClassId} {ad : Nat → Nat} {b L z : Nat} {l : List Nat} {xs : Nat → Int32} : (kWs dA ad tHs)[26]? = (aWs 64 dA (kAd2 ad b l z) (tkd L xs) tS0)[26]? := Eq.trans (kWs_get (i := 26) rfl) (Eq.trans (b := some (kAd2 ad b l z 26, aEl dA (kAd2 ad b l z) (tkd L xs) tS0 26)) rfl (aWs_get (by decide)).symm)
set_option maxHeartbeats 4000000 in
set_option maxRecDepth 100000 in
theorem kA_27 {dA : Nat → ClassId} {ad : Nat → Nat} {b L z : Nat} {l : List Nat} {xs : Nat → Int32} : (kWs dA ad tHs)[27]? = (aWs 64 dA (kAd2 ad b l z) (tkd L xs) tS0)[27]? := Eq.trans (kWs_get (i := 27) rfl) (Eq.trans (b := some (kAd2 ad b l z 27, aEl dA (kAd2 ad b l z) (tkd L xs) tS0 27)) rfl (aWs_get (by decide)).symm)
set_option maxHeartbeats 4000000 in
set_option maxRecDepth 100000 in
theorem kA_28 {dA : Nat → ClassId} {ad : Nat → Nat} {b L z : Nat} {l : List Nat} {xs : Nat → Int32} : (kWs dA ad tHs)[28]? = (aWs 64 dA (kAd2 ad b l z) (tkd L xs) tS0)[28]? := Eq.trans (kWs_get (i := 28) rfl) (Eq.trans (b := some (kAd2 ad b l z 28, aEl dA (kAd2 ad b l z) (tkd L xs) tS0 28)) rfl (aWs_get (by decide)).symm)
set_option maxHeartbeats 4000000 in
set_option maxRecDepth 100000 in
theorem kA_29 {dA : Nat → ClassId} {ad : Nat → Nat} {b L z : Nat} {l : List Nat} {xs : Nat → Int32} : (kWs dA ad tHs)[29]? = (aWs 64 dA (kAd2 ad b l z) (tkd L xs) tS0)[29]? := Eq.trans (kWs_get (i := 29) rfl) (Eq.trans (b := some (kAd2 ad b l z 29, aEl dA (kAd2 ad b l z) (tkd L xs) tS0 29)) rfl (aWs_get (by decide)).symm)
set_option maxHeartbeats 4000000 in
set_option maxRecDepth 100000 in
theorem kA_30 {dA : Nat → ClassId} {ad : Nat → Nat} {b L z : Nat} {l : List Nat} {xs : Nat → Int32} : (kWs dA ad tHs)[30]? = (aWs 64 dA (kAd2 ad b l z) (tkd L xs) tS0)[30]? := Eq.trans (kWs_get (i := 30) rfl) (Eq.trans (b := some (kAd2 ad b l z 30, aEl dA (kAd2 ad b l z) (tkd L xs) tS0 30)) rfl (aWs_get (by decide)).symm)
set_option maxHeartbeats 4000000 in
set_option maxRecDepth 100000 in
theorem kA_31 {dA : Nat → ClassId} {ad : Nat → Nat} {b L z : Nat} {l : List Nat} {xs : Nat → Int32} : (kWs dA ad tHs)[31]? = (aWs 64 dA (kAd2 ad b l z) (tkd L xs) tS0)[31]? := Eq.trans (kWs_get (i := 31) rfl) (Eq.trans (b := some (kAd2 ad b l z 31, aEl dA (kAd2 ad b l z) (tkd L xs) tS0 31)) rfl (aWs_get (by decide)).symm)
set_option maxHeartbeats 4000000 in
set_option maxRecDepth 100000 in
theorem kA_32 {dA : Nat → ClassId} {ad : Nat → Nat} {b L z : Nat} {l : List Nat} {xs : Nat → Int32} : (kWs dA ad tHs)[32]? = (aWs 64 dA (kAd2 ad b l z) (tkd L xs) tS0)[32]? := Eq.trans (kWs_get (i := 32) rfl) (Eq.trans (b := some (kAd2 ad b l z 32, aEl dA (kAd2 ad b l z) (tkd L xs) tS0 32)) rfl (aWs_get (by decide)).symm)
set_option maxHeartbeats 4000000 in
set_option maxRecDepth 100000 in
theorem kA_34 {dA : Nat → ClassId} {ad : Nat → Nat} {b L z : Nat} {l : List Nat} {xs : Nat → Int32} : (kWs dA ad tHs)[34]? = (aWs 64 dA (kAd2 ad b l z) (tkd L xs) tS0)[34]? := Eq.trans (kWs_get (i := 34) rfl) (Eq.trans (b := some (kAd2 ad b l z 34, aEl dA (kAd2 ad b l z) (tkd L xs) tS0 34)) rfl (aWs_get (by decide)).symm)
set_option maxHeartbeats 4000000 in
set_option maxRecDepth 100000 in
theorem kA_35 {dA : Nat → ClassId} {ad : Nat → Nat} {b L z : Nat} {l : List Nat} {xs : Nat → Int32} : (kWs dA ad tHs)[35]? = (aWs 64 dA (kAd2 ad b l z) (tkd L xs) tS0)[35]? := Eq.trans (kWs_get (i := 35) rfl) (Eq.trans (b := some (kAd2 ad b l z 35, aEl dA (kAd2 ad b l z) (tkd L xs) tS0 35)) rfl (aWs_get (by decide)).symm)
set_option maxHeartbeats 4000000 in
set_option maxRecDepth 100000 in
theorem kA_36 {dA : Nat → ClassId} {ad : Nat → Nat} {b L z : Nat} {l : List Nat} {xs : Nat → Int32} : (kWs dA ad tHs)[36]? = (aWs 64 dA (kAd2 ad b l z) (tkd L xs) tS0)[36]? := Eq.trans (kWs_get (i := 36) rfl) (Eq.trans (b := some (kAd2 ad b l z 36, aEl dA (kAd2 ad b l z) (tkd L xs) tS0 36)) rfl (aWs_get (by decide)).symm)
set_option maxHeartbeats 4000000 in
set_option maxRecDepth 100000 in
theorem kA_37 {dA : Nat → ClassId} {ad : Nat → Nat} {b L z : Nat} {l : List Nat} {xs : Nat → Int32} : (kWs dA ad tHs)[37]? = (aWs 64 dA (kAd2 ad b l z) (tkd L xs) tS0)[37]? := Eq.trans (kWs_get (i := 37) rfl) (Eq.trans (b := some (kAd2 ad b l z 37, aEl dA (kAd2 ad b l z) (tkd L xs) tS0 37)) rfl (aWs_get (by decide)).symm)
set_option maxHeartbeats 4000000 in
set_option maxRecDepth 100000 in
theorem kA_38 {dA : Nat → ClassId} {ad : Nat → Nat} {b L z : Nat} {l : List Nat} {xs : Nat → Int32} : (kWs dA ad tHs)[38]? = (aWs 64 dA (kAd2 ad b l z) (tkd L xs) tS0)[38]? := Eq.trans (kWs_get (i := 38) rfl) (Eq.trans (b := some (kAd2 ad b l z 38, aEl dA (kAd2 ad b l z) (tkd L xs) tS0 38)) rfl (aWs_get (by decide)).symm)
set_option maxHeartbeats 4000000 in
set_option maxRecDepth 100000 in
theorem kA_39 {dA : Nat → ClassId} {ad : Nat → Nat} {b L z : Nat} {l : List Nat} {xs : Nat → Int32} : (kWs dA ad tHs)[39]? = (aWs 64 dA (kAd2 ad b l z) (tkd L xs) tS0)[39]? := Eq.trans (kWs_get (i := 39) rfl) (Eq.trans (b := some (kAd2 ad b l z 39, aEl dA (kAd2 ad b l z) (tkd L xs) tS0 39)) rfl (aWs_get (by decide)).symm)
set_option maxHeartbeats 4000000 in
set_option maxRecDepth 100000 in
theorem kA_40 {dA : Nat → ClassId} {ad : Nat → Nat} {b L z : Nat} {l : List Nat} {xs : Nat → Int32} : (kWs dA ad tHs)[40]? = (aWs 64 dA (kAd2 ad b l z) (tkd L xs) tS0)[40]? := Eq.trans (kWs_get (i := 40) rfl) (Eq.trans (b := some (kAd2 ad b l z 40, aEl dA (kAd2 ad b l z) (tkd L xs) tS0 40)) rfl (aWs_get (by decide)).symm)
set_option maxHeartbeats 4000000 in
set_option maxRecDepth 100000 in
theorem kA_41 {dA : Nat → ClassId} {ad : Nat → Nat} {b L z : Nat} {l : List Nat} {xs : Nat → Int32} : (kWs dA ad tHs)[41]? = (aWs 64 dA (kAd2 ad b l z) (tkd L xs) tS0)[41]? := Eq.trans (kWs_get (i := 41) rfl) (Eq.trans (b := some (kAd2 ad b l z 41, aEl dA (kAd2 ad b l z) (tkd L xs) tS0 41)) rfl (aWs_get (by decide)).symm)
set_option maxHeartbeats 4000000 in
set_option maxRecDepth 100000 in
theorem kA_42 {dA : Nat → ClassId} {ad : Nat → Nat} {b L z : Nat} {l : List Nat} {xs : Nat → Int32} : (kWs dA ad tHs)[42]? = (aWs 64 dA (kAd2 ad b l z) (tkd L xs) tS0)[42]? := Eq.trans (kWs_get (i := 42) rfl) (Eq.trans (b := some (kAd2 ad b l z 42, aEl dA (kAd2 ad b l z) (tkd L xs) tS0 42)) rfl (aWs_get (by decide)).symm)
set_option maxHeartbeats 4000000 in
set_option maxRecDepth 100000 in
theorem kA_43 {dA : Nat → ClassId} {ad : Nat → Nat} {b L z : Nat} {l : List Nat} {xs : Nat → Int32} : (kWs dA ad tHs)[43]? = (aWs 64 dA (kAd2 ad b l z) (tkd L xs) tS0)[43]? := Eq.trans (kWs_get (i := 43) rfl) (Eq.trans (b := some (kAd2 ad b l z 43, aEl dA (kAd2 ad b l z) (tkd L xs) tS0 43)) rfl (aWs_get (by decide)).symm)
set_option maxHeartbeats 4000000 in
set_option maxRecDepth 100000 in
theorem kA_44 {dA : Nat → ClassId} {ad : Nat → Nat} {b L z : Nat} {l : List Nat} {xs : Nat → Int32} : (kWs dA ad tHs)[44]? = (aWs 64 dA (kAd2 ad b l z) (tkd L xs) tS0)[44]? := Eq.trans (kWs_get (i := 44) rfl) (Eq.trans (b := some (kAd2 ad b l z 44, aEl dA (kAd2 ad b l z) (tkd L xs) tS0 44)) rfl (aWs_get (by decide)).symm)
set_option maxHeartbeats 4000000 in
set_option maxRecDepth 100000 in
theorem kA_45 {dA : Nat → ClassId} {ad : Nat → Nat} {b L z : Nat} {l : List Nat} {xs : Nat → Int32} : (kWs dA ad tHs)[45]? = (aWs 64 dA (kAd2 ad b l z) (tkd L xs) tS0)[45]? := Eq.trans (kWs_get (i := 45) rfl) (Eq.trans (b := some (kAd2 ad b l z 45, aEl dA (kAd2 ad b l z) (tkd L xs) tS0 45)) rfl (aWs_get (by decide)).symm)
set_option maxHeartbeats 4000000 in
set_option maxRecDepth 100000 in
theorem kA_46 {dA : Nat → ClassId} {ad : Nat → Nat} {b L z : Nat} {l : List Nat} {xs : Nat → Int32} : (kWs dA ad tHs)[46]? = (aWs 64 dA (kAd2 ad b l z) (tkd L xs) tS0)[46]? := Eq.trans (kWs_get (i := 46) rfl) (Eq.trans (b := some (kAd2 ad b l z 46, aEl dA (kAd2 ad b l z) (tkd L xs) tS0 46)) rfl (aWs_get (by decide)).symm)
set_option maxHeartbeats 4000000 in
set_option maxRecDepth 100000 in
theorem kA_47 {dA : Nat → ClassId} {ad : Nat → Nat} {b L z : Nat} {l : List Nat} {xs : Nat → Int32} : (kWs dA ad tHs)[47]? = (aWs 64 dA (kAd2 ad b l z) (tkd L xs) tS0)[47]? := Eq.trans (kWs_get (i := 47) rfl) (Eq.trans (b := some (kAd2 ad b l z 47, aEl dA (kAd2 ad b l z) (tkd L xs) tS0 47)) rfl (aWs_get (by decide)).symm)
set_option maxHeartbeats 4000000 in
set_option maxRecDepth 100000 in
theorem kA_48 {dA : Nat → ClassId} {ad : Nat → Nat} {b L z : Nat} {l : List Nat} {xs : Nat → Int32} : (kWs dA ad tHs)[48]? = (aWs 64 dA (kAd2 ad b l z) (tkd L xs) tS0)[48]? := Eq.trans (kWs_get (i := 48) rfl) (Eq.trans (b := some (kAd2 ad b l z 48, aEl dA (kAd2 ad b l z) (tkd L xs) tS0 48)) rfl (aWs_get (by decide)).symm)
set_option maxHeartbeats 4000000 in
set_option maxRecDepth 100000 in
theorem kA_49 {dA : Nat → ClassId} {ad : Nat → Nat} {b L z : Nat} {l : List Nat} {xs : Nat → Int32} : (kWs dA ad tHs)[49]? = (aWs 64 dA (kAd2 ad b l z) (tkd L xs) tS0)[49]? := Eq.trans (kWs_get (i := 49) rfl) (Eq.trans (b := some (kAd2 ad b l z 49, aEl dA (kAd2 ad b l z) (tkd L xs) tS0 49)) rfl (aWs_get (by decide)).symm)
set_option maxHeartbeats 4000000 in
set_option maxRecDepth 100000 in
theorem kA_50 {dA : Nat → ClassId} {ad : Nat → Nat} {b L z : Nat} {l : List Nat} {xs : Nat → Int32} : (kWs dA ad tHs)[50]? = (aWs 64 dA (kAd2 ad b l z) (tkd L xs) tS0)[50]? := Eq.trans (kWs_get (i := 50) rfl) (Eq.trans (b := some (kAd2 ad b l z 50, aEl dA (kAd2 ad b l z) (tkd L xs) tS0 50)) rfl (aWs_get (by decide)).symm)
set_option maxHeartbeats 4000000 in
set_option maxRecDepth 100000 in
theorem kA_51 {dA : Nat → ClassId} {ad : Nat → Nat} {b L z : Nat} {l : List Nat} {xs : Nat → Int32} : (kWs dA ad tHs)[51]? = (aWs 64 dA (kAd2 ad b l z) (tkd L xs) tS0)[51]? := Eq.trans (kWs_get (i := 51) rfl) (Eq.trans (b := some (kAd2 ad b l z 51, aEl dA (kAd2 ad b l z) (tkd L xs) tS0 51)) rfl (aWs_get (by decide)).symm)
set_option maxHeartbeats 4000000 in
set_option maxRecDepth 100000 in
theorem kA_52 {dA : Nat → ClassId} {ad : Nat → Nat} {b L z : Nat} {l : List Nat} {xs : Nat → Int32} : (kWs dA ad tHs)[52]? = (aWs 64 dA (kAd2 ad b l z) (tkd L xs) tS0)[52]? := Eq.trans (kWs_get (i := 52) rfl) (Eq.trans (b := some (kAd2 ad b l z 52, aEl dA (kAd2 ad b l z) (tkd L xs) tS0 52)) rfl (aWs_get (by decide)).symm)
set_option maxHeartbeats 4000000 in
set_option maxRecDepth 100000 in
theorem kA_53 {dA : Nat → ClassId} {ad : Nat → Nat} {b L z : Nat} {l : List Nat} {xs : Nat → Int32} : (kWs dA ad tHs)[53]? = (aWs 64 dA (kAd2 ad b l z) (tkd L xs) tS0)[53]? := Eq.trans (kWs_get (i := 53) rfl) (Eq.trans (b := some (kAd2 ad b l z 53, aEl dA (kAd2 ad b l z) (tkd L xs) tS0 53)) rfl (aWs_get (by decide)).symm)
set_option maxHeartbeats 4000000 in
set_option maxRecDepth 100000 in
theorem kA_54 {dA : Nat → ClassId} {ad : Nat → Nat} {b L z : Nat} {l : List Nat} {xs : Nat → Int32} : (kWs dA ad tHs)[54]? = (aWs 64 dA (kAd2 ad b l z) (tkd L xs) tS0)[54]? := Eq.trans (kWs_get (i := 54) rfl) (Eq.trans (b := some (kAd2 ad b l z 54, aEl dA (kAd2 ad b l z) (tkd L xs) tS0 54)) rfl (aWs_get (by decide)).symm)
set_option maxHeartbeats 4000000 in
set_option maxRecDepth 100000 in
theorem kA_55 {dA : Nat → ClassId} {ad : Nat → Nat} {b L z : Nat} {l : List Nat} {xs : Nat → Int32} : (kWs dA ad tHs)[55]? = (aWs 64 dA (kAd2 ad b l z) (tkd L xs) tS0)[55]? := Eq.trans (kWs_get (i := 55) rfl) (Eq.trans (b := some (kAd2 ad b l z 55, aEl dA (kAd2 ad b l z) (tkd L xs) tS0 55)) rfl (aWs_get (by decide)).symm)
set_option maxHeartbeats 4000000 in
set_option maxRecDepth 100000 in
theorem kA_56 {dA : Nat → ClassId} {ad : Nat → Nat} {b L z : Nat} {l : List Nat} {xs : Nat → Int32} : (kWs dA ad tHs)[56]? = (aWs 64 dA (kAd2 ad b l z) (tkd L xs) tS0)[56]? := Eq.trans (kWs_get (i := 56) rfl) (Eq.trans (b := some (kAd2 ad b l z 56, aEl dA (kAd2 ad b l z) (tkd L xs) tS0 56)) rfl (aWs_get (by decide)).symm)
set_option maxHeartbeats 4000000 in
set_option maxRecDepth 100000 in
theorem kA_57 {dA : Nat → ClassId} {ad : Nat → Nat} {b L z : Nat} {l : List Nat} {xs : Nat → Int32} : (kWs dA ad tHs)[57]? = (aWs 64 dA (kAd2 ad b l z) (tkd L xs) tS0)[57]? := Eq.trans (kWs_get (i := 57) rfl) (Eq.trans (b := some (kAd2 ad b l z 57, aEl dA (kAd2 ad b l z) (tkd L xs) tS0 57)) rfl (aWs_get (by decide)).symm)
set_option maxHeartbeats 4000000 in
set_option maxRecDepth 100000 in
theorem kA_58 {dA : Nat → ClassId} {ad : Nat → Nat} {b L z : Nat} {l : List Nat} {xs : Nat → Int32} : (kWs dA ad tHs)[58]? = (aWs 64 dA (kAd2 ad b l z) (tkd L xs) tS0)[58]? := Eq.trans (kWs_get (i := 58) rfl) (Eq.trans (b := some (kAd2 ad b l z 58, aEl dA (kAd2 ad b l z) (tkd L xs) tS0 58)) rfl (aWs_get (by decide)).symm)
set_option maxHeartbeats 4000000 in
set_option maxRecDepth 100000 in
theorem kA_59 {dA : Nat → ClassId} {ad : Nat → Nat} {b L z : Nat} {l : List Nat} {xs : Nat → Int32} : (kWs dA ad tHs)[59]? = (aWs 64 dA (kAd2 ad b l z) (tkd L xs) tS0)[59]? := Eq.trans (kWs_get (i := 59) rfl) (Eq.trans (b := some (kAd2 ad b l z 59, aEl dA (kAd2 ad b l z) (tkd L xs) tS0 59)) rfl (aWs_get (by decide)).symm)
set_option maxHeartbeats 4000000 in
set_option maxRecDepth 100000 in
theorem kA_60 {dA : Nat → ClassId} {ad : Nat → Nat} {b L z : Nat} {l : List Nat} {xs : Nat → Int32} : (kWs dA ad tHs)[60]? = (aWs 64 dA (kAd2 ad b l z) (tkd L xs) tS0)[60]? := Eq.trans (kWs_get (i := 60) rfl) (Eq.trans (b := some (kAd2 ad b l z 60, aEl dA (kAd2 ad b l z) (tkd L xs) tS0 60)) rfl (aWs_get (by decide)).symm)
set_option maxHeartbeats 4000000 in
set_option maxRecDepth 100000 in
theorem kA_61 {dA : Nat → ClassId} {ad : Nat → Nat} {b L z : Nat} {l : List Nat} {xs : Nat → Int32} : (kWs dA ad tHs)[61]? = (aWs 64 dA (kAd2 ad b l z) (tkd L xs) tS0)[61]? := Eq.trans (kWs_get (i := 61) rfl) (Eq.trans (b := some (kAd2 ad b l z 61, aEl dA (kAd2 ad b l z) (tkd L xs) tS0 61)) rfl (aWs_get (by decide)).symm)
set_option maxHeartbeats 4000000 in
set_option maxRecDepth 100000 in
theorem kA_62 {dA : Nat → ClassId} {ad : Nat → Nat} {b L z : Nat} {l : List Nat} {xs : Nat → Int32} : (kWs dA ad tHs)[62]? = (aWs 64 dA (kAd2 ad b l z) (tkd L xs) tS0)[62]? := Eq.trans (kWs_get (i := 62) rfl) (Eq.trans (b := some (kAd2 ad b l z 62, aEl dA (kAd2 ad b l z) (tkd L xs) tS0 62)) rfl (aWs_get (by decide)).symm)
set_option maxHeartbeats 4000000 in
set_option maxRecDepth 100000 in
theorem kA_63 {dA : Nat → ClassId} {ad : Nat → Nat} {b L z : Nat} {l : List Nat} {xs : Nat → Int32} : (kWs dA ad tHs)[63]? = (aWs 64 dA (kAd2 ad b l z) (tkd L xs) tS0)[63]? := Eq.trans (kWs_get (i := 63) rfl) (Eq.trans (b := some (kAd2 ad b l z 63, aEl dA (kAd2 ad b l z) (tkd L xs) tS0 63)) rfl (aWs_get (by decide)).symm)
