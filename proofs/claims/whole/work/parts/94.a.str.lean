/-! ===== the class's constant strings (by wip/gen/emit_str.py) ===== -/
def cvOk (y : Int32) : Prop := ((y &&& 255).toUInt32 % 65536).toInt32 = y ∧ narrow .char (.int y) = .int y
theorem cv_all : ∀ k : Fin 128, ((Int32.ofNat k.val &&& 255).toUInt32 % 65536).toInt32 = Int32.ofNat k.val ∧ (Int32.ofNat k.val).toUInt32.toUInt16.toUInt32.toInt32 = Int32.ofNat k.val := by decide
theorem cv_of {y : Int32} {k : Nat} (hk : k < 128) (e : y = Int32.ofNat k) : cvOk y := by
  obtain ⟨a, b⟩ := cv_all ⟨k, hk⟩
  subst e
  exact ⟨a, congrArg Value.int b⟩
section PStr
variable {G : Nat × (Nat → Int32)}
/-- a constant string: its length, its letters -/
def StrOk (G : Nat × (Nat → Int32)) (r : Nat) (S : List Int32) : Prop := (∀ d σ, Rn G (d + 2) 15 [.ref r] σ = oI (Int32.ofNat S.length) σ) ∧ (∀ d σ j, j < S.length → Rn G (d + 4) 26 [.ref r, .int (Int32.ofNat j)] σ = oI (S.getD j 0) σ) ∧ (∀ f : Option (aRs × aH), aGd (tkd G.1 G.2) (some 20) [.ref r] f = f) ∧ (∀ (x : Int32) (f : Option (aRs × aH)), aGd (tkd G.1 G.2) (some 20) [.ref r, .int x] f = f) ∧ S.length < 100
theorem s_lat1 {r n j : Nat} {g : Nat → Int32} {d : Nat} {σ : aH} (hr : tkd G.1 G.2 r = .inr (.inr (.inl (1, n, g)))) (hn : n < 100) (hj : j < n) (hg : cvOk (g j)) : Rn G (d + 3) 27 [.ref r, .int (Int32.ofNat j)] σ = oI (g j) σ := by
  obtain ⟨a, b⟩ := hg
  rw [e_StringLatin1_charAt]
  unfold aLen aArB
  rw [hr]
  show aCV (Rn G (d + 2) 28 [.int (Int32.ofNat j), .int (Int32.ofNat n)] σ) (fun σ2 => aIx (Int32.ofNat j) n fun j3 => aNar .char (((((g j3) &&& 255)).toUInt32 % 65536).toInt32) (oI ((((g j3) &&& 255)).toUInt32 % 65536).toInt32 σ2)) = _
  rw [e_String_checkIndex, e_Preconditions_checkIndex, if_neg (pN_n0 (by omega)), if_pos (pGo' hj (by omega)), pCI, pCV, pIx hj (by omega), a]
  unfold aNar
  exact if_pos b
def st_70 : List Int32 := [112, 101, 114, 115, 111, 110, 32, 115, 105, 116, 116, 105, 110, 103, 32, 108, 97, 119, 32, 108, 105, 110, 101, 32, 111, 102, 102]
theorem sl_70 : ∀ j : Fin 27, Int32.ofNat ((st_70.getD j.val 0).toNatClampNeg) = st_70.getD j.val 0 ∧ (st_70.getD j.val 0).toNatClampNeg < 128 := by decide
theorem so_70 : StrOk G 70 st_70 := by
  refine ⟨fun d σ => ?_, fun d σ j hj => ?_, fun f => rfl, fun x f => rfl, by decide⟩
  · rw [e_String_length_70, e_String_coder_70, if_neg (by decide), pCI]
    rfl
  · have hj' : j < 27 := hj
    obtain ⟨a, b⟩ := sl_70 ⟨j, hj'⟩
    have e := s_lat1 (G := G) (r := 71) (n := 27) (j := j) (g := fun k => st_70.getD k 0) (d := d) (σ := σ) rfl (by decide) hj' (cv_of b a.symm)
    rw [e_String_charAt_70, e_String_isLatin1_70, if_neg (by decide), if_pos rfl, pCI, if_neg (by decide), e, pCI]
    exact if_pos (cv_of b a.symm).2
def st_72 : List Int32 := [102, 101, 108, 116, 32, 115, 97, 105, 100]
theorem sl_72 : ∀ j : Fin 9, Int32.ofNat ((st_72.getD j.val 0).toNatClampNeg) = st_72.getD j.val 0 ∧ (st_72.getD j.val 0).toNatClampNeg < 128 := by decide
theorem so_72 : StrOk G 72 st_72 := by
  refine ⟨fun d σ => ?_, fun d σ j hj => ?_, fun f => rfl, fun x f => rfl, by decide⟩
  · rw [e_String_length_72, e_String_coder_72, if_neg (by decide), pCI]
    rfl
  · have hj' : j < 9 := hj
    obtain ⟨a, b⟩ := sl_72 ⟨j, hj'⟩
    have e := s_lat1 (G := G) (r := 73) (n := 9) (j := j) (g := fun k => st_72.getD k 0) (d := d) (σ := σ) rfl (by decide) hj' (cv_of b a.symm)
    rw [e_String_charAt_72, e_String_isLatin1_72, if_neg (by decide), if_pos rfl, pCI, if_neg (by decide), e, pCI]
    exact if_pos (cv_of b a.symm).2
def st_74 : List Int32 := [115, 105, 103, 104, 116]
theorem sl_74 : ∀ j : Fin 5, Int32.ofNat ((st_74.getD j.val 0).toNatClampNeg) = st_74.getD j.val 0 ∧ (st_74.getD j.val 0).toNatClampNeg < 128 := by decide
theorem so_74 : StrOk G 74 st_74 := by
  refine ⟨fun d σ => ?_, fun d σ j hj => ?_, fun f => rfl, fun x f => rfl, by decide⟩
  · rw [e_String_length_74, e_String_coder_74, if_neg (by decide), pCI]
    rfl
  · have hj' : j < 5 := hj
    obtain ⟨a, b⟩ := sl_74 ⟨j, hj'⟩
    have e := s_lat1 (G := G) (r := 75) (n := 5) (j := j) (g := fun k => st_74.getD k 0) (d := d) (σ := σ) rfl (by decide) hj' (cv_of b a.symm)
    rw [e_String_charAt_74, e_String_isLatin1_74, if_neg (by decide), if_pos rfl, pCI, if_neg (by decide), e, pCI]
    exact if_pos (cv_of b a.symm).2
def st_76 : List Int32 := [106, 111, 105, 110, 116]
theorem sl_76 : ∀ j : Fin 5, Int32.ofNat ((st_76.getD j.val 0).toNatClampNeg) = st_76.getD j.val 0 ∧ (st_76.getD j.val 0).toNatClampNeg < 128 := by decide
theorem so_76 : StrOk G 76 st_76 := by
  refine ⟨fun d σ => ?_, fun d σ j hj => ?_, fun f => rfl, fun x f => rfl, by decide⟩
  · rw [e_String_length_76, e_String_coder_76, if_neg (by decide), pCI]
    rfl
  · have hj' : j < 5 := hj
    obtain ⟨a, b⟩ := sl_76 ⟨j, hj'⟩
    have e := s_lat1 (G := G) (r := 77) (n := 5) (j := j) (g := fun k => st_76.getD k 0) (d := d) (σ := σ) rfl (by decide) hj' (cv_of b a.symm)
    rw [e_String_charAt_76, e_String_isLatin1_76, if_neg (by decide), if_pos rfl, pCI, if_neg (by decide), e, pCI]
    exact if_pos (cv_of b a.symm).2
def st_78 : List Int32 := [116, 111, 117, 99, 104]
theorem sl_78 : ∀ j : Fin 5, Int32.ofNat ((st_78.getD j.val 0).toNatClampNeg) = st_78.getD j.val 0 ∧ (st_78.getD j.val 0).toNatClampNeg < 128 := by decide
theorem so_78 : StrOk G 78 st_78 := by
  refine ⟨fun d σ => ?_, fun d σ j hj => ?_, fun f => rfl, fun x f => rfl, by decide⟩
  · rw [e_String_length_78, e_String_coder_78, if_neg (by decide), pCI]
    rfl
  · have hj' : j < 5 := hj
    obtain ⟨a, b⟩ := sl_78 ⟨j, hj'⟩
    have e := s_lat1 (G := G) (r := 79) (n := 5) (j := j) (g := fun k => st_78.getD k 0) (d := d) (σ := σ) rfl (by decide) hj' (cv_of b a.symm)
    rw [e_String_charAt_78, e_String_isLatin1_78, if_neg (by decide), if_pos rfl, pCI, if_neg (by decide), e, pCI]
    exact if_pos (cv_of b a.symm).2
def st_80 : List Int32 := [108, 101, 97, 110, 115]
theorem sl_80 : ∀ j : Fin 5, Int32.ofNat ((st_80.getD j.val 0).toNatClampNeg) = st_80.getD j.val 0 ∧ (st_80.getD j.val 0).toNatClampNeg < 128 := by decide
theorem so_80 : StrOk G 80 st_80 := by
  refine ⟨fun d σ => ?_, fun d σ j hj => ?_, fun f => rfl, fun x f => rfl, by decide⟩
  · rw [e_String_length_80, e_String_coder_80, if_neg (by decide), pCI]
    rfl
  · have hj' : j < 5 := hj
    obtain ⟨a, b⟩ := sl_80 ⟨j, hj'⟩
    have e := s_lat1 (G := G) (r := 81) (n := 5) (j := j) (g := fun k => st_80.getD k 0) (d := d) (σ := σ) rfl (by decide) hj' (cv_of b a.symm)
    rw [e_String_charAt_80, e_String_isLatin1_80, if_neg (by decide), if_pos rfl, pCI, if_neg (by decide), e, pCI]
    exact if_pos (cv_of b a.symm).2
def st_82 : List Int32 := [121, 101, 115]
theorem sl_82 : ∀ j : Fin 3, Int32.ofNat ((st_82.getD j.val 0).toNatClampNeg) = st_82.getD j.val 0 ∧ (st_82.getD j.val 0).toNatClampNeg < 128 := by decide
theorem so_82 : StrOk G 82 st_82 := by
  refine ⟨fun d σ => ?_, fun d σ j hj => ?_, fun f => rfl, fun x f => rfl, by decide⟩
  · rw [e_String_length_82, e_String_coder_82, if_neg (by decide), pCI]
    rfl
  · have hj' : j < 3 := hj
    obtain ⟨a, b⟩ := sl_82 ⟨j, hj'⟩
    have e := s_lat1 (G := G) (r := 83) (n := 3) (j := j) (g := fun k => st_82.getD k 0) (d := d) (σ := σ) rfl (by decide) hj' (cv_of b a.symm)
    rw [e_String_charAt_82, e_String_isLatin1_82, if_neg (by decide), if_pos rfl, pCI, if_neg (by decide), e, pCI]
    exact if_pos (cv_of b a.symm).2
def st_84 : List Int32 := [119, 105, 115, 104]
theorem sl_84 : ∀ j : Fin 4, Int32.ofNat ((st_84.getD j.val 0).toNatClampNeg) = st_84.getD j.val 0 ∧ (st_84.getD j.val 0).toNatClampNeg < 128 := by decide
theorem so_84 : StrOk G 84 st_84 := by
  refine ⟨fun d σ => ?_, fun d σ j hj => ?_, fun f => rfl, fun x f => rfl, by decide⟩
  · rw [e_String_length_84, e_String_coder_84, if_neg (by decide), pCI]
    rfl
  · have hj' : j < 4 := hj
    obtain ⟨a, b⟩ := sl_84 ⟨j, hj'⟩
    have e := s_lat1 (G := G) (r := 85) (n := 4) (j := j) (g := fun k => st_84.getD k 0) (d := d) (σ := σ) rfl (by decide) hj' (cv_of b a.symm)
    rw [e_String_charAt_84, e_String_isLatin1_84, if_neg (by decide), if_pos rfl, pCI, if_neg (by decide), e, pCI]
    exact if_pos (cv_of b a.symm).2
def st_86 : List Int32 := [102, 97, 114]
theorem sl_86 : ∀ j : Fin 3, Int32.ofNat ((st_86.getD j.val 0).toNatClampNeg) = st_86.getD j.val 0 ∧ (st_86.getD j.val 0).toNatClampNeg < 128 := by decide
theorem so_86 : StrOk G 86 st_86 := by
  refine ⟨fun d σ => ?_, fun d σ j hj => ?_, fun f => rfl, fun x f => rfl, by decide⟩
  · rw [e_String_length_86, e_String_coder_86, if_neg (by decide), pCI]
    rfl
  · have hj' : j < 3 := hj
    obtain ⟨a, b⟩ := sl_86 ⟨j, hj'⟩
    have e := s_lat1 (G := G) (r := 87) (n := 3) (j := j) (g := fun k => st_86.getD k 0) (d := d) (σ := σ) rfl (by decide) hj' (cv_of b a.symm)
    rw [e_String_charAt_86, e_String_isLatin1_86, if_neg (by decide), if_pos rfl, pCI, if_neg (by decide), e, pCI]
    exact if_pos (cv_of b a.symm).2
def st_88 : List Int32 := [108, 97, 116, 101]
theorem sl_88 : ∀ j : Fin 4, Int32.ofNat ((st_88.getD j.val 0).toNatClampNeg) = st_88.getD j.val 0 ∧ (st_88.getD j.val 0).toNatClampNeg < 128 := by decide
theorem so_88 : StrOk G 88 st_88 := by
  refine ⟨fun d σ => ?_, fun d σ j hj => ?_, fun f => rfl, fun x f => rfl, by decide⟩
  · rw [e_String_length_88, e_String_coder_88, if_neg (by decide), pCI]
    rfl
  · have hj' : j < 4 := hj
    obtain ⟨a, b⟩ := sl_88 ⟨j, hj'⟩
    have e := s_lat1 (G := G) (r := 89) (n := 4) (j := j) (g := fun k => st_88.getD k 0) (d := d) (σ := σ) rfl (by decide) hj' (cv_of b a.symm)
    rw [e_String_charAt_88, e_String_isLatin1_88, if_neg (by decide), if_pos rfl, pCI, if_neg (by decide), e, pCI]
    exact if_pos (cv_of b a.symm).2
def st_90 : List Int32 := [116, 117, 114, 110, 101, 100, 32, 97, 115, 105, 100, 101]
theorem sl_90 : ∀ j : Fin 12, Int32.ofNat ((st_90.getD j.val 0).toNatClampNeg) = st_90.getD j.val 0 ∧ (st_90.getD j.val 0).toNatClampNeg < 128 := by decide
theorem so_90 : StrOk G 90 st_90 := by
  refine ⟨fun d σ => ?_, fun d σ j hj => ?_, fun f => rfl, fun x f => rfl, by decide⟩
  · rw [e_String_length_90, e_String_coder_90, if_neg (by decide), pCI]
    rfl
  · have hj' : j < 12 := hj
    obtain ⟨a, b⟩ := sl_90 ⟨j, hj'⟩
    have e := s_lat1 (G := G) (r := 91) (n := 12) (j := j) (g := fun k => st_90.getD k 0) (d := d) (σ := σ) rfl (by decide) hj' (cv_of b a.symm)
    rw [e_String_charAt_90, e_String_isLatin1_90, if_neg (by decide), if_pos rfl, pCI, if_neg (by decide), e, pCI]
    exact if_pos (cv_of b a.symm).2
def st_92 : List Int32 := [115, 116, 105, 99, 107, 32, 116, 111, 112]
theorem sl_92 : ∀ j : Fin 9, Int32.ofNat ((st_92.getD j.val 0).toNatClampNeg) = st_92.getD j.val 0 ∧ (st_92.getD j.val 0).toNatClampNeg < 128 := by decide
theorem so_92 : StrOk G 92 st_92 := by
  refine ⟨fun d σ => ?_, fun d σ j hj => ?_, fun f => rfl, fun x f => rfl, by decide⟩
  · rw [e_String_length_92, e_String_coder_92, if_neg (by decide), pCI]
    rfl
  · have hj' : j < 9 := hj
    obtain ⟨a, b⟩ := sl_92 ⟨j, hj'⟩
    have e := s_lat1 (G := G) (r := 93) (n := 9) (j := j) (g := fun k => st_92.getD k 0) (d := d) (σ := σ) rfl (by decide) hj' (cv_of b a.symm)
    rw [e_String_charAt_92, e_String_isLatin1_92, if_neg (by decide), if_pos rfl, pCI, if_neg (by decide), e, pCI]
    exact if_pos (cv_of b a.symm).2
def st_94 : List Int32 := [116, 111, 108, 100]
theorem sl_94 : ∀ j : Fin 4, Int32.ofNat ((st_94.getD j.val 0).toNatClampNeg) = st_94.getD j.val 0 ∧ (st_94.getD j.val 0).toNatClampNeg < 128 := by decide
theorem so_94 : StrOk G 94 st_94 := by
  refine ⟨fun d σ => ?_, fun d σ j hj => ?_, fun f => rfl, fun x f => rfl, by decide⟩
  · rw [e_String_length_94, e_String_coder_94, if_neg (by decide), pCI]
    rfl
  · have hj' : j < 4 := hj
    obtain ⟨a, b⟩ := sl_94 ⟨j, hj'⟩
    have e := s_lat1 (G := G) (r := 95) (n := 4) (j := j) (g := fun k => st_94.getD k 0) (d := d) (σ := σ) rfl (by decide) hj' (cv_of b a.symm)
    rw [e_String_charAt_94, e_String_isLatin1_94, if_neg (by decide), if_pos rfl, pCI, if_neg (by decide), e, pCI]
    exact if_pos (cv_of b a.symm).2
def st_96 : List Int32 := [115, 116, 114, 111, 107, 101, 115]
theorem sl_96 : ∀ j : Fin 7, Int32.ofNat ((st_96.getD j.val 0).toNatClampNeg) = st_96.getD j.val 0 ∧ (st_96.getD j.val 0).toNatClampNeg < 128 := by decide
theorem so_96 : StrOk G 96 st_96 := by
  refine ⟨fun d σ => ?_, fun d σ j hj => ?_, fun f => rfl, fun x f => rfl, by decide⟩
  · rw [e_String_length_96, e_String_coder_96, if_neg (by decide), pCI]
    rfl
  · have hj' : j < 7 := hj
    obtain ⟨a, b⟩ := sl_96 ⟨j, hj'⟩
    have e := s_lat1 (G := G) (r := 97) (n := 7) (j := j) (g := fun k => st_96.getD k 0) (d := d) (σ := σ) rfl (by decide) hj' (cv_of b a.symm)
    rw [e_String_charAt_96, e_String_isLatin1_96, if_neg (by decide), if_pos rfl, pCI, if_neg (by decide), e, pCI]
    exact if_pos (cv_of b a.symm).2
def st_98 : List Int32 := [115, 112, 97, 110, 115, 32, 111, 100, 100, 115, 32, 119, 105, 115, 104]
theorem sl_98 : ∀ j : Fin 15, Int32.ofNat ((st_98.getD j.val 0).toNatClampNeg) = st_98.getD j.val 0 ∧ (st_98.getD j.val 0).toNatClampNeg < 128 := by decide
theorem so_98 : StrOk G 98 st_98 := by
  refine ⟨fun d σ => ?_, fun d σ j hj => ?_, fun f => rfl, fun x f => rfl, by decide⟩
  · rw [e_String_length_98, e_String_coder_98, if_neg (by decide), pCI]
    rfl
  · have hj' : j < 15 := hj
    obtain ⟨a, b⟩ := sl_98 ⟨j, hj'⟩
    have e := s_lat1 (G := G) (r := 99) (n := 15) (j := j) (g := fun k => st_98.getD k 0) (d := d) (σ := σ) rfl (by decide) hj' (cv_of b a.symm)
    rw [e_String_charAt_98, e_String_isLatin1_98, if_neg (by decide), if_pos rfl, pCI, if_neg (by decide), e, pCI]
    exact if_pos (cv_of b a.symm).2
def st_100 : List Int32 := [116, 119, 111]
theorem sl_100 : ∀ j : Fin 3, Int32.ofNat ((st_100.getD j.val 0).toNatClampNeg) = st_100.getD j.val 0 ∧ (st_100.getD j.val 0).toNatClampNeg < 128 := by decide
theorem so_100 : StrOk G 100 st_100 := by
  refine ⟨fun d σ => ?_, fun d σ j hj => ?_, fun f => rfl, fun x f => rfl, by decide⟩
  · rw [e_String_length_100, e_String_coder_100, if_neg (by decide), pCI]
    rfl
  · have hj' : j < 3 := hj
    obtain ⟨a, b⟩ := sl_100 ⟨j, hj'⟩
    have e := s_lat1 (G := G) (r := 101) (n := 3) (j := j) (g := fun k => st_100.getD k 0) (d := d) (σ := σ) rfl (by decide) hj' (cv_of b a.symm)
    rw [e_String_charAt_100, e_String_isLatin1_100, if_neg (by decide), if_pos rfl, pCI, if_neg (by decide), e, pCI]
    exact if_pos (cv_of b a.symm).2
def st_102 : List Int32 := [115, 112, 114, 101, 97, 100]
theorem sl_102 : ∀ j : Fin 6, Int32.ofNat ((st_102.getD j.val 0).toNatClampNeg) = st_102.getD j.val 0 ∧ (st_102.getD j.val 0).toNatClampNeg < 128 := by decide
theorem so_102 : StrOk G 102 st_102 := by
  refine ⟨fun d σ => ?_, fun d σ j hj => ?_, fun f => rfl, fun x f => rfl, by decide⟩
  · rw [e_String_length_102, e_String_coder_102, if_neg (by decide), pCI]
    rfl
  · have hj' : j < 6 := hj
    obtain ⟨a, b⟩ := sl_102 ⟨j, hj'⟩
    have e := s_lat1 (G := G) (r := 103) (n := 6) (j := j) (g := fun k => st_102.getD k 0) (d := d) (σ := σ) rfl (by decide) hj' (cv_of b a.symm)
    rw [e_String_charAt_102, e_String_isLatin1_102, if_neg (by decide), if_pos rfl, pCI, if_neg (by decide), e, pCI]
    exact if_pos (cv_of b a.symm).2
def st_104 : List Int32 := [116, 117, 114, 110]
theorem sl_104 : ∀ j : Fin 4, Int32.ofNat ((st_104.getD j.val 0).toNatClampNeg) = st_104.getD j.val 0 ∧ (st_104.getD j.val 0).toNatClampNeg < 128 := by decide
theorem so_104 : StrOk G 104 st_104 := by
  refine ⟨fun d σ => ?_, fun d σ j hj => ?_, fun f => rfl, fun x f => rfl, by decide⟩
  · rw [e_String_length_104, e_String_coder_104, if_neg (by decide), pCI]
    rfl
  · have hj' : j < 4 := hj
    obtain ⟨a, b⟩ := sl_104 ⟨j, hj'⟩
    have e := s_lat1 (G := G) (r := 105) (n := 4) (j := j) (g := fun k => st_104.getD k 0) (d := d) (σ := σ) rfl (by decide) hj' (cv_of b a.symm)
    rw [e_String_charAt_104, e_String_isLatin1_104, if_neg (by decide), if_pos rfl, pCI, if_neg (by decide), e, pCI]
    exact if_pos (cv_of b a.symm).2
def st_106 : List Int32 := [115, 104, 97, 112, 101]
theorem sl_106 : ∀ j : Fin 5, Int32.ofNat ((st_106.getD j.val 0).toNatClampNeg) = st_106.getD j.val 0 ∧ (st_106.getD j.val 0).toNatClampNeg < 128 := by decide
theorem so_106 : StrOk G 106 st_106 := by
  refine ⟨fun d σ => ?_, fun d σ j hj => ?_, fun f => rfl, fun x f => rfl, by decide⟩
  · rw [e_String_length_106, e_String_coder_106, if_neg (by decide), pCI]
    rfl
  · have hj' : j < 5 := hj
    obtain ⟨a, b⟩ := sl_106 ⟨j, hj'⟩
    have e := s_lat1 (G := G) (r := 107) (n := 5) (j := j) (g := fun k => st_106.getD k 0) (d := d) (σ := σ) rfl (by decide) hj' (cv_of b a.symm)
    rw [e_String_charAt_106, e_String_isLatin1_106, if_neg (by decide), if_pos rfl, pCI, if_neg (by decide), e, pCI]
    exact if_pos (cv_of b a.symm).2
def st_108 : List Int32 := [110, 111, 116]
theorem sl_108 : ∀ j : Fin 3, Int32.ofNat ((st_108.getD j.val 0).toNatClampNeg) = st_108.getD j.val 0 ∧ (st_108.getD j.val 0).toNatClampNeg < 128 := by decide
theorem so_108 : StrOk G 108 st_108 := by
  refine ⟨fun d σ => ?_, fun d σ j hj => ?_, fun f => rfl, fun x f => rfl, by decide⟩
  · rw [e_String_length_108, e_String_coder_108, if_neg (by decide), pCI]
    rfl
  · have hj' : j < 3 := hj
    obtain ⟨a, b⟩ := sl_108 ⟨j, hj'⟩
    have e := s_lat1 (G := G) (r := 109) (n := 3) (j := j) (g := fun k => st_108.getD k 0) (d := d) (σ := σ) rfl (by decide) hj' (cv_of b a.symm)
    rw [e_String_charAt_108, e_String_isLatin1_108, if_neg (by decide), if_pos rfl, pCI, if_neg (by decide), e, pCI]
    exact if_pos (cv_of b a.symm).2
def st_110 : List Int32 := [102, 101, 108, 116, 32, 115, 97, 105, 100, 32, 115, 104, 111, 119, 110, 32, 115, 116, 97, 114, 116, 32, 115, 108, 111, 119, 32, 102, 97, 114, 32, 108, 97, 116, 101, 32, 119, 97, 121, 32, 116, 104, 105, 110, 103, 32, 116, 111, 108, 100, 32, 115, 116, 114, 111, 107, 101, 115, 32, 119, 104, 111]
theorem sl_110 : ∀ j : Fin 62, Int32.ofNat ((st_110.getD j.val 0).toNatClampNeg) = st_110.getD j.val 0 ∧ (st_110.getD j.val 0).toNatClampNeg < 128 := by decide
theorem so_110 : StrOk G 110 st_110 := by
  refine ⟨fun d σ => ?_, fun d σ j hj => ?_, fun f => rfl, fun x f => rfl, by decide⟩
  · rw [e_String_length_110, e_String_coder_110, if_neg (by decide), pCI]
    rfl
  · have hj' : j < 62 := hj
    obtain ⟨a, b⟩ := sl_110 ⟨j, hj'⟩
    have e := s_lat1 (G := G) (r := 111) (n := 62) (j := j) (g := fun k => st_110.getD k 0) (d := d) (σ := σ) rfl (by decide) hj' (cv_of b a.symm)
    rw [e_String_charAt_110, e_String_isLatin1_110, if_neg (by decide), if_pos rfl, pCI, if_neg (by decide), e, pCI]
    exact if_pos (cv_of b a.symm).2
def st_112 : List Int32 := [60, 61, 43, 45, 42, 47]
theorem sl_112 : ∀ j : Fin 6, Int32.ofNat ((st_112.getD j.val 0).toNatClampNeg) = st_112.getD j.val 0 ∧ (st_112.getD j.val 0).toNatClampNeg < 128 := by decide
theorem so_112 : StrOk G 112 st_112 := by
  refine ⟨fun d σ => ?_, fun d σ j hj => ?_, fun f => rfl, fun x f => rfl, by decide⟩
  · rw [e_String_length_112, e_String_coder_112, if_neg (by decide), pCI]
    rfl
  · have hj' : j < 6 := hj
    obtain ⟨a, b⟩ := sl_112 ⟨j, hj'⟩
    have e := s_lat1 (G := G) (r := 113) (n := 6) (j := j) (g := fun k => st_112.getD k 0) (d := d) (σ := σ) rfl (by decide) hj' (cv_of b a.symm)
    rw [e_String_charAt_112, e_String_isLatin1_112, if_neg (by decide), if_pos rfl, pCI, if_neg (by decide), e, pCI]
    exact if_pos (cv_of b a.symm).2
def st_114 : List Int32 := [111, 114, 32, 97, 110, 100]
theorem sl_114 : ∀ j : Fin 6, Int32.ofNat ((st_114.getD j.val 0).toNatClampNeg) = st_114.getD j.val 0 ∧ (st_114.getD j.val 0).toNatClampNeg < 128 := by decide
theorem so_114 : StrOk G 114 st_114 := by
  refine ⟨fun d σ => ?_, fun d σ j hj => ?_, fun f => rfl, fun x f => rfl, by decide⟩
  · rw [e_String_length_114, e_String_coder_114, if_neg (by decide), pCI]
    rfl
  · have hj' : j < 6 := hj
    obtain ⟨a, b⟩ := sl_114 ⟨j, hj'⟩
    have e := s_lat1 (G := G) (r := 115) (n := 6) (j := j) (g := fun k => st_114.getD k 0) (d := d) (σ := σ) rfl (by decide) hj' (cv_of b a.symm)
    rw [e_String_charAt_114, e_String_isLatin1_114, if_neg (by decide), if_pos rfl, pCI, if_neg (by decide), e, pCI]
    exact if_pos (cv_of b a.symm).2
def st_116 : List Int32 := [115, 104, 101, 101, 116]
theorem sl_116 : ∀ j : Fin 5, Int32.ofNat ((st_116.getD j.val 0).toNatClampNeg) = st_116.getD j.val 0 ∧ (st_116.getD j.val 0).toNatClampNeg < 128 := by decide
theorem so_116 : StrOk G 116 st_116 := by
  refine ⟨fun d σ => ?_, fun d σ j hj => ?_, fun f => rfl, fun x f => rfl, by decide⟩
  · rw [e_String_length_116, e_String_coder_116, if_neg (by decide), pCI]
    rfl
  · have hj' : j < 5 := hj
    obtain ⟨a, b⟩ := sl_116 ⟨j, hj'⟩
    have e := s_lat1 (G := G) (r := 117) (n := 5) (j := j) (g := fun k => st_116.getD k 0) (d := d) (σ := σ) rfl (by decide) hj' (cv_of b a.symm)
    rw [e_String_charAt_116, e_String_isLatin1_116, if_neg (by decide), if_pos rfl, pCI, if_neg (by decide), e, pCI]
    exact if_pos (cv_of b a.symm).2
def st_118 : List Int32 := [115, 104, 111, 119, 110]
theorem sl_118 : ∀ j : Fin 5, Int32.ofNat ((st_118.getD j.val 0).toNatClampNeg) = st_118.getD j.val 0 ∧ (st_118.getD j.val 0).toNatClampNeg < 128 := by decide
theorem so_118 : StrOk G 118 st_118 := by
  refine ⟨fun d σ => ?_, fun d σ j hj => ?_, fun f => rfl, fun x f => rfl, by decide⟩
  · rw [e_String_length_118, e_String_coder_118, if_neg (by decide), pCI]
    rfl
  · have hj' : j < 5 := hj
    obtain ⟨a, b⟩ := sl_118 ⟨j, hj'⟩
    have e := s_lat1 (G := G) (r := 119) (n := 5) (j := j) (g := fun k => st_118.getD k 0) (d := d) (σ := σ) rfl (by decide) hj' (cv_of b a.symm)
    rw [e_String_charAt_118, e_String_isLatin1_118, if_neg (by decide), if_pos rfl, pCI, if_neg (by decide), e, pCI]
    exact if_pos (cv_of b a.symm).2
def st_120 : List Int32 := [115, 116, 97, 114, 116]
theorem sl_120 : ∀ j : Fin 5, Int32.ofNat ((st_120.getD j.val 0).toNatClampNeg) = st_120.getD j.val 0 ∧ (st_120.getD j.val 0).toNatClampNeg < 128 := by decide
theorem so_120 : StrOk G 120 st_120 := by
  refine ⟨fun d σ => ?_, fun d σ j hj => ?_, fun f => rfl, fun x f => rfl, by decide⟩
  · rw [e_String_length_120, e_String_coder_120, if_neg (by decide), pCI]
    rfl
  · have hj' : j < 5 := hj
    obtain ⟨a, b⟩ := sl_120 ⟨j, hj'⟩
    have e := s_lat1 (G := G) (r := 121) (n := 5) (j := j) (g := fun k => st_120.getD k 0) (d := d) (σ := σ) rfl (by decide) hj' (cv_of b a.symm)
    rw [e_String_charAt_120, e_String_isLatin1_120, if_neg (by decide), if_pos rfl, pCI, if_neg (by decide), e, pCI]
    exact if_pos (cv_of b a.symm).2
def st_122 : List Int32 := [115, 108, 111, 119]
theorem sl_122 : ∀ j : Fin 4, Int32.ofNat ((st_122.getD j.val 0).toNatClampNeg) = st_122.getD j.val 0 ∧ (st_122.getD j.val 0).toNatClampNeg < 128 := by decide
theorem so_122 : StrOk G 122 st_122 := by
  refine ⟨fun d σ => ?_, fun d σ j hj => ?_, fun f => rfl, fun x f => rfl, by decide⟩
  · rw [e_String_length_122, e_String_coder_122, if_neg (by decide), pCI]
    rfl
  · have hj' : j < 4 := hj
    obtain ⟨a, b⟩ := sl_122 ⟨j, hj'⟩
    have e := s_lat1 (G := G) (r := 123) (n := 4) (j := j) (g := fun k => st_122.getD k 0) (d := d) (σ := σ) rfl (by decide) hj' (cv_of b a.symm)
    rw [e_String_charAt_122, e_String_isLatin1_122, if_neg (by decide), if_pos rfl, pCI, if_neg (by decide), e, pCI]
    exact if_pos (cv_of b a.symm).2
def st_124 : List Int32 := [99, 111, 108, 100]
theorem sl_124 : ∀ j : Fin 4, Int32.ofNat ((st_124.getD j.val 0).toNatClampNeg) = st_124.getD j.val 0 ∧ (st_124.getD j.val 0).toNatClampNeg < 128 := by decide
theorem so_124 : StrOk G 124 st_124 := by
  refine ⟨fun d σ => ?_, fun d σ j hj => ?_, fun f => rfl, fun x f => rfl, by decide⟩
  · rw [e_String_length_124, e_String_coder_124, if_neg (by decide), pCI]
    rfl
  · have hj' : j < 4 := hj
    obtain ⟨a, b⟩ := sl_124 ⟨j, hj'⟩
    have e := s_lat1 (G := G) (r := 125) (n := 4) (j := j) (g := fun k => st_124.getD k 0) (d := d) (σ := σ) rfl (by decide) hj' (cv_of b a.symm)
    rw [e_String_charAt_124, e_String_isLatin1_124, if_neg (by decide), if_pos rfl, pCI, if_neg (by decide), e, pCI]
    exact if_pos (cv_of b a.symm).2
def st_126 : List Int32 := [59, 40, 41, 43, 45, 42, 47, 60, 61]
theorem sl_126 : ∀ j : Fin 9, Int32.ofNat ((st_126.getD j.val 0).toNatClampNeg) = st_126.getD j.val 0 ∧ (st_126.getD j.val 0).toNatClampNeg < 128 := by decide
theorem so_126 : StrOk G 126 st_126 := by
  refine ⟨fun d σ => ?_, fun d σ j hj => ?_, fun f => rfl, fun x f => rfl, by decide⟩
  · rw [e_String_length_126, e_String_coder_126, if_neg (by decide), pCI]
    rfl
  · have hj' : j < 9 := hj
    obtain ⟨a, b⟩ := sl_126 ⟨j, hj'⟩
    have e := s_lat1 (G := G) (r := 127) (n := 9) (j := j) (g := fun k => st_126.getD k 0) (d := d) (σ := σ) rfl (by decide) hj' (cv_of b a.symm)
    rw [e_String_charAt_126, e_String_isLatin1_126, if_neg (by decide), if_pos rfl, pCI, if_neg (by decide), e, pCI]
    exact if_pos (cv_of b a.symm).2
def st_128 : List Int32 := [108, 101, 115, 115]
theorem sl_128 : ∀ j : Fin 4, Int32.ofNat ((st_128.getD j.val 0).toNatClampNeg) = st_128.getD j.val 0 ∧ (st_128.getD j.val 0).toNatClampNeg < 128 := by decide
theorem so_128 : StrOk G 128 st_128 := by
  refine ⟨fun d σ => ?_, fun d σ j hj => ?_, fun f => rfl, fun x f => rfl, by decide⟩
  · rw [e_String_length_128, e_String_coder_128, if_neg (by decide), pCI]
    rfl
  · have hj' : j < 4 := hj
    obtain ⟨a, b⟩ := sl_128 ⟨j, hj'⟩
    have e := s_lat1 (G := G) (r := 129) (n := 4) (j := j) (g := fun k => st_128.getD k 0) (d := d) (σ := σ) rfl (by decide) hj' (cv_of b a.symm)
    rw [e_String_charAt_128, e_String_isLatin1_128, if_neg (by decide), if_pos rfl, pCI, if_neg (by decide), e, pCI]
    exact if_pos (cv_of b a.symm).2
end PStr
