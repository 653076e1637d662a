/-! ===== the methods between their cut points, as equations (by wip/gen/emit_eqs.py) ===== -/
set_option maxRecDepth 100000 in
set_option maxHeartbeats 4000000 in
theorem e_Rh_House_has (G : Nat × (Nat → Int32)) (d : Nat) (x1 : Int32) (x2 : Int32) (σ : aH) : Rn G (d + 1) 103 [.ref 3, .int x1, .int x2] σ = if x2 < 0 then some (.inl (some (.int (0 : Int32))), σ) else aCI (Rn G d 32 [.ref 4, .int x1] σ) fun v2 σ1 => if v2 ≤ x2 then some (.inl (some (.int (0 : Int32))), σ1) else some (.inl (some (.int (1 : Int32))), σ1) :=
  (aUn_eq (tkd G.1 G.2) tmi (aRun (tkd G.1 G.2) tmi tmt d) M_103 [] 17 (0, [some (.ref 3), some (.int x1), some (.int x2)], [], σ)).trans rfl
set_option maxRecDepth 100000 in
set_option maxHeartbeats 4000000 in
theorem e_Rh_Sieve_saysYes (G : Nat × (Nat → Int32)) (d : Nat) (x1 : Int32) (σ : aH) : Rn G (d + 1) 128 [.ref 17, .int x1] σ = aCI (Rn G d 32 [.ref 21, .int x1] σ) fun v2 σ1 => if v2 ≤ 0 then some (.inl (some (.int (0 : Int32))), σ1) else some (.inl (some (.int (1 : Int32))), σ1) :=
  (aUn_eq (tkd G.1 G.2) tmi (aRun (tkd G.1 G.2) tmi tmt d) M_128 [] 14 (0, [some (.ref 17), some (.int x1)], [], σ)).trans rfl
set_option maxRecDepth 100000 in
set_option maxHeartbeats 4000000 in
theorem e_Rh_House_told (G : Nat × (Nat → Int32)) (d : Nat) (x1 : Int32) (x2 : Int32) (x3 : Int32) (σ : aH) : Rn G (d + 1) 119 [.ref 3, .int x1, .int x2, .int x3] σ = aCI (Rn G d 32 [.ref 64, .int x1] σ) fun v2 σ1 => aCI (Rn G d 32 [.ref 66, .int x1] σ1) fun v4 σ3 => aCI (Rn G d 32 [.ref 5, .int ((v2 + (x2 * v4)) + x3)] σ3) fun v6 σ5 => some (.inl (some (.int v6)), σ5) :=
  (aUn_eq (tkd G.1 G.2) tmi (aRun (tkd G.1 G.2) tmi tmt d) M_119 [] 20 (0, [some (.ref 3), some (.int x1), some (.int x2), some (.int x3)], [], σ)).trans rfl
set_option maxRecDepth 100000 in
set_option maxHeartbeats 4000000 in
theorem e_Md_saysYes (G : Nat × (Nat → Int32)) (d : Nat) (x1 : Int32) (σ : aH) : Rn G (d + 1) 137 [.ref 33, .int x1] σ = Lq G d M_137 (4, [some (.ref 33), some (.int x1), some (.int (0 : Int32)), some (.int (0 : Int32))], [], σ) :=
  (aUn_eq (tkd G.1 G.2) tmi (aRun (tkd G.1 G.2) tmi tmt d) M_137 [4] 40 (0, [some (.ref 33), some (.int x1), none, none], [], σ)).trans rfl
set_option maxRecDepth 100000 in
set_option maxHeartbeats 4000000 in
theorem c_Md_saysYes_4 (G : Nat × (Nat → Int32)) (d : Nat) (x1 : Int32) (x2 : Int32) (x3 : Int32) (σ : aH) : Lq G d M_137 (4, [some (.ref 33), some (.int x1), some (.int x2), some (.int x3)], [], σ) = if (σ.1 33 12) ≤ x3 then if x2 ≤ 0 then some (.inl (some (.int (0 : Int32))), σ) else some (.inl (some (.int (1 : Int32))), σ) else aIx ((((17 : Int32) * x3) + (15 : Int32))) 1020 fun j1 => if ((σ).1 40 j1) = x1 then aCI (Rn G d 135 [.ref 33, .int x3, .int (1 : Int32)] σ) fun v3 σ2 => Lq G d M_137 (4, [some (.ref 33), some (.int x1), some (.int (x2 + v3)), some (.int (x3 + (1 : Int32)))], [], σ2) else Lq G d M_137 (4, [some (.ref 33), some (.int x1), some (.int (x2 + (0 : Int32))), some (.int (x3 + (1 : Int32)))], [], σ) :=
  (aUn_eq (tkd G.1 G.2) tmi (aRun (tkd G.1 G.2) tmi tmt d) M_137 [4] 40 (4, [some (.ref 33), some (.int x1), some (.int x2), some (.int x3)], [], σ)).trans rfl
set_option maxRecDepth 100000 in
set_option maxHeartbeats 4000000 in
theorem e_Rh_House_lineIsSaid (G : Nat × (Nat → Int32)) (d : Nat) (x1 : Int32) (σ : aH) : Rn G (d + 1) 118 [.ref 3, .int x1] σ = aCI (Rn G d 103 [.ref 3, .int (3 : Int32), .int x1] σ) fun v2 σ1 => if v2 = 0 then some (.inl (some (.int (0 : Int32))), σ1) else aCI (Rn G d 119 [.ref 3, .int (3 : Int32), .int x1, .int (0 : Int32)] σ1) fun v4 σ3 => if v4 = (1 : Int32) then some (.inl (some (.int (1 : Int32))), σ3) else some (.inl (some (.int (0 : Int32))), σ3) :=
  (aUn_eq (tkd G.1 G.2) tmi (aRun (tkd G.1 G.2) tmi tmt d) M_118 [] 21 (0, [some (.ref 3), some (.int x1)], [], σ)).trans rfl
set_option maxRecDepth 100000 in
set_option maxHeartbeats 4000000 in
theorem e_Rh_weightOf (G : Nat × (Nat → Int32)) (d : Nat) (x0 : Int32) (x1 : Int32) (σ : aH) : Rn G (d + 1) 152 [.int x0, .int x1] σ = if (lg_cmp (((x1).toInt64 * (x1).toInt64) + ((x0).toInt64 * (x0).toInt64)) (0 : Int64)) = 0 then some (.inl (some (.int (0 : Int32))), σ) else aNzL ((((x1).toInt64 * (x1).toInt64) + ((x0).toInt64 * (x0).toInt64))) (some (.inl (some (.int ((((1000000 : Int64) * ((x1).toInt64 * (x1).toInt64)) / (((x1).toInt64 * (x1).toInt64) + ((x0).toInt64 * (x0).toInt64)))).toInt32)), σ)) :=
  (aUn_eq (tkd G.1 G.2) tmi (aRun (tkd G.1 G.2) tmi tmt d) M_152 [] 32 (0, [some (.int x0), some (.int x1), none, none, none, none], [], σ)).trans rfl
set_option maxRecDepth 100000 in
set_option maxHeartbeats 4000000 in
theorem e_Md_weightOf (G : Nat × (Nat → Int32)) (d : Nat) (x0 : Int64) (x1 : Int64) (σ : aH) : Rn G (d + 1) 154 [.long x0, .long x1] σ = aNzL (((x1 * x1) + (x0 * x0))) (some (.inl (some (.int (((((1000000 : Int64) * x1) * x1) / ((x1 * x1) + (x0 * x0)))).toInt32)), σ)) :=
  (aUn_eq (tkd G.1 G.2) tmi (aRun (tkd G.1 G.2) tmi tmt d) M_154 [] 20 (0, [some (.long x0), none, some (.long x1), none], [], σ)).trans rfl
set_option maxRecDepth 100000 in
set_option maxHeartbeats 4000000 in
theorem e_Rh_demandAll (G : Nat × (Nat → Int32)) (d : Nat) (x1 : Int32) (x2 : Int32) (x3 : Int32) (σ : aH) : Rn G (d + 1) 157 [.ref 0, .int x1, .int x2, .int x3] σ = aCI (Rn G d 103 [.ref 3, .int (2 : Int32), .int x1] σ) fun v2 σ1 => if v2 = 0 then aXV (Rn G d 114 [.int (0 : Int32)] σ1) (fun σ3 => some (.inl none, σ3)) (fun k4 σ5 => some (.inr k4, σ5)) else aCI (Rn G d 103 [.ref 3, .int (0 : Int32), .int x2] σ1) fun v7 σ6 => if v7 = 0 then aXV (Rn G d 114 [.int (0 : Int32)] σ6) (fun σ8 => some (.inl none, σ8)) (fun k9 σ10 => some (.inr k9, σ10)) else aCI (Rn G d 103 [.ref 3, .int (1 : Int32), .int x3] σ6) fun v12 σ11 => if v12 = 0 then aXV (Rn G d 114 [.int (0 : Int32)] σ11) (fun σ13 => some (.inl none, σ13)) (fun k14 σ15 => some (.inr k14, σ15)) else aXV (Rn G d 114 [.int (1 : Int32)] σ11) (fun σ16 => some (.inl none, σ16)) (fun k17 σ18 => some (.inr k17, σ18)) :=
  (aUn_eq (tkd G.1 G.2) tmi (aRun (tkd G.1 G.2) tmi tmt d) M_157 [] 28 (0, [some (.ref 0), some (.int x1), some (.int x2), some (.int x3)], [], σ)).trans rfl
set_option maxRecDepth 100000 in
set_option maxHeartbeats 4000000 in
theorem e_Rh_Head_take (G : Nat × (Nat → Int32)) (d : Nat) (x2 : Int32) (x3 : Int32) (x4 : Int32) (σ : aH) : Rn G (d + 1) 158 [.ref 24, .ref 3, .int x2, .int x3, .int x4] σ = aCV (Rn G d 159 [.ref 24, .ref 3, .int x2] σ) fun σ1 => aCV (Rn G d 160 [.ref 24, .ref 3, .int x3] σ1) fun σ2 => aCV (Rn G d 162 [.ref 24, .ref 3, .int x4] σ2) fun σ3 => some (.inl none, σ3) :=
  (aUn_eq (tkd G.1 G.2) tmi (aRun (tkd G.1 G.2) tmi tmt d) M_158 [] 18 (0, [some (.ref 24), some (.ref 3), some (.int x2), some (.int x3), some (.int x4)], [], σ)).trans rfl
set_option maxRecDepth 100000 in
set_option maxHeartbeats 4000000 in
theorem e_Rh_Head_oneBehind (G : Nat × (Nat → Int32)) (d : Nat) (x1 : Int32) (σ : aH) : Rn G (d + 1) 163 [.ref 24, .int x1] σ = aCI (Rn G d 164 [.ref 24] σ) fun v2 σ1 => aCI (Rn G d 152 [.int (σ1.1 24 7), .int (σ1.1 24 2)] σ1) fun v4 σ3 => Lq G d M_163 (20, [some (.ref 24), some (.int x1), some (.int v2), some (.int v4), some (.int (0 : Int32)), none], [], σ3) :=
  (aUn_eq (tkd G.1 G.2) tmi (aRun (tkd G.1 G.2) tmi tmt d) M_163 [20] 38 (0, [some (.ref 24), some (.int x1), none, none, none, none], [], σ)).trans rfl
set_option maxRecDepth 100000 in
set_option maxHeartbeats 4000000 in
theorem c_Rh_Head_oneBehind_20 (G : Nat × (Nat → Int32)) (d : Nat) (x1 : Int32) (x2 : Int32) (x3 : Int32) (x4 : Int32) (σ : aH) : Lq G d M_163 (20, [some (.ref 24), some (.int x1), some (.int x2), some (.int x3), some (.int x4), none], [], σ) = if x1 ≤ x4 then some (.inl (some (.int x2)), σ) else if (σ.1 24 10) = 0 then aCI (Rn G d 165 [.ref 24, .int x2, .int x3] σ) fun v2 σ1 => if v2 = x2 then some (.inl (some (.int x2)), σ1) else Lq G d M_163 (20, [some (.ref 24), some (.int x1), some (.int v2), some (.int x3), some (.int (x4 + (1 : Int32))), none], [], σ1) else some (.inl (some (.int x2)), σ) :=
  (aUn_eq (tkd G.1 G.2) tmi (aRun (tkd G.1 G.2) tmi tmt d) M_163 [20] 38 (20, [some (.ref 24), some (.int x1), some (.int x2), some (.int x3), some (.int x4), none], [], σ)).trans rfl
set_option maxRecDepth 100000 in
set_option maxHeartbeats 4000000 in
theorem e_Md_isHead (G : Nat × (Nat → Int32)) (d : Nat) (x1 : Int32) (x2 : Int32) (x3 : Int32) (σ : aH) : Rn G (d + 1) 167 [.ref 33, .int x1, .int x2, .int x3] σ = if x1 < 0 then aCI (Rn G d 62 [.ref 33, .int (0 : Int32), .int (1 : Int32)] (aSI σ 33 0 (0 : Int32))) fun v2 σ1 => if v2 = 0 then some (.inl (some (.int (0 : Int32))), σ1) else aCV (Rn G d 168 [.ref 33, .int x2, .int x3] σ1) fun σ3 => some (.inl (some (.int (1 : Int32))), σ3) else if (((aSI σ 33 0 (0 : Int32))).1 33 3) ≤ x1 then aCI (Rn G d 62 [.ref 33, .int (0 : Int32), .int (1 : Int32)] (aSI σ 33 0 (0 : Int32))) fun v5 σ4 => if v5 = 0 then some (.inl (some (.int (0 : Int32))), σ4) else aCV (Rn G d 168 [.ref 33, .int x2, .int x3] σ4) fun σ6 => some (.inl (some (.int (1 : Int32))), σ6) else if x2 < 0 then aCI (Rn G d 62 [.ref 33, .int (0 : Int32), .int (1 : Int32)] (aSI σ 33 0 (0 : Int32))) fun v8 σ7 => if v8 = 0 then some (.inl (some (.int (0 : Int32))), σ7) else aCV (Rn G d 168 [.ref 33, .int x2, .int x3] σ7) fun σ9 => some (.inl (some (.int (1 : Int32))), σ9) else if (((aSI σ 33 0 (0 : Int32))).1 33 1) ≤ x2 then aCI (Rn G d 62 [.ref 33, .int (0 : Int32), .int (1 : Int32)] (aSI σ 33 0 (0 : Int32))) fun v11 σ10 => if v11 = 0 then some (.inl (some (.int (0 : Int32))), σ10) else aCV (Rn G d 168 [.ref 33, .int x2, .int x3] σ10) fun σ12 => some (.inl (some (.int (1 : Int32))), σ12) else if x3 < 0 then aCI (Rn G d 62 [.ref 33, .int (0 : Int32), .int (1 : Int32)] (aSI σ 33 0 (0 : Int32))) fun v14 σ13 => if v14 = 0 then some (.inl (some (.int (0 : Int32))), σ13) else aCV (Rn G d 168 [.ref 33, .int x2, .int x3] σ13) fun σ15 => some (.inl (some (.int (1 : Int32))), σ15) else if (((aSI σ 33 0 (0 : Int32))).1 33 2) ≤ x3 then aCI (Rn G d 62 [.ref 33, .int (0 : Int32), .int (1 : Int32)] (aSI σ 33 0 (0 : Int32))) fun v17 σ16 => if v17 = 0 then some (.inl (some (.int (0 : Int32))), σ16) else aCV (Rn G d 168 [.ref 33, .int x2, .int x3] σ16) fun σ18 => some (.inl (some (.int (1 : Int32))), σ18) else aCI (Rn G d 62 [.ref 33, .int (1 : Int32), .int (1 : Int32)] (aSI σ 33 0 (0 : Int32))) fun v20 σ19 => if v20 = 0 then some (.inl (some (.int (0 : Int32))), σ19) else aCV (Rn G d 168 [.ref 33, .int x2, .int x3] σ19) fun σ21 => some (.inl (some (.int (1 : Int32))), σ21) :=
  (aUn_eq (tkd G.1 G.2) tmi (aRun (tkd G.1 G.2) tmi tmt d) M_167 [] 41 (0, [some (.ref 33), some (.int x1), some (.int x2), some (.int x3)], [], σ)).trans rfl
set_option maxRecDepth 100000 in
set_option maxHeartbeats 4000000 in
theorem e_Md_behind (G : Nat × (Nat → Int32)) (d : Nat) (x1 : Int32) (x2 : Int32) (σ : aH) : Rn G (d + 1) 169 [.ref 33, .int x1, .int x2] σ = aCI (Rn G d 170 [.ref 33, .int x1] σ) fun v2 σ1 => Lq G d M_169 (9, [some (.ref 33), some (.int x1), some (.int x2), some (.int v2), some (.int (0 : Int32))], [], σ1) :=
  (aUn_eq (tkd G.1 G.2) tmi (aRun (tkd G.1 G.2) tmi tmt d) M_169 [9] 28 (0, [some (.ref 33), some (.int x1), some (.int x2), none, none], [], σ)).trans rfl
set_option maxRecDepth 100000 in
set_option maxHeartbeats 4000000 in
theorem c_Md_behind_9 (G : Nat × (Nat → Int32)) (d : Nat) (x1 : Int32) (x2 : Int32) (x3 : Int32) (x4 : Int32) (σ : aH) : Lq G d M_169 (9, [some (.ref 33), some (.int x1), some (.int x2), some (.int x3), some (.int x4)], [], σ) = if x2 ≤ x4 then some (.inl (some (.int x3)), σ) else aIx ((4 : Int32)) 6 fun j1 => if ((σ).1 51 j1) = 0 then aCI (Rn G d 172 [.ref 33, .int x1, .int x3] σ) fun v3 σ2 => Lq G d M_169 (9, [some (.ref 33), some (.int x1), some (.int x2), some (.int v3), some (.int (x4 + (1 : Int32)))], [], σ2) else some (.inl (some (.int x3)), σ) :=
  (aUn_eq (tkd G.1 G.2) tmi (aRun (tkd G.1 G.2) tmi tmt d) M_169 [9] 28 (9, [some (.ref 33), some (.int x1), some (.int x2), some (.int x3), some (.int x4)], [], σ)).trans rfl
set_option maxRecDepth 100000 in
set_option maxHeartbeats 4000000 in
theorem e_Rh_Head_comes (G : Nat × (Nat → Int32)) (d : Nat)  (σ : aH) : Rn G (d + 1) 175 [.ref 24] σ = aCI (Rn G d 164 [.ref 24] σ) fun v2 σ1 => aCI (Rn G d 152 [.int (σ1.1 24 7), .int (σ1.1 24 2)] σ1) fun v4 σ3 => Lq G d M_175 (19, [some (.ref 24), some (.int v2), some (.int v4), some (.int (0 : Int32)), none], [], σ3) :=
  (aUn_eq (tkd G.1 G.2) tmi (aRun (tkd G.1 G.2) tmi tmt d) M_175 [19] 46 (0, [some (.ref 24), none, none, none, none], [], σ)).trans rfl
set_option maxRecDepth 100000 in
set_option maxHeartbeats 4000000 in
theorem c_Rh_Head_comes_19 (G : Nat × (Nat → Int32)) (d : Nat) (x1 : Int32) (x2 : Int32) (x3 : Int32) (σ : aH) : Lq G d M_175 (19, [some (.ref 24), some (.int x1), some (.int x2), some (.int x3), none], [], σ) = if (σ.1 24 11) < x3 then some (.inl (some (.int (-1 : Int32))), σ) else if x1 < (500000 : Int32) then if (σ.1 24 10) = 0 then aCI (Rn G d 165 [.ref 24, .int x1, .int x2] σ) fun v2 σ1 => if v2 = x1 then some (.inl (some (.int (-1 : Int32))), σ1) else Lq G d M_175 (19, [some (.ref 24), some (.int v2), some (.int x2), some (.int (x3 + (1 : Int32))), none], [], σ1) else if x1 = x1 then some (.inl (some (.int (-1 : Int32))), σ) else Lq G d M_175 (19, [some (.ref 24), some (.int x1), some (.int x2), some (.int (x3 + (1 : Int32))), none], [], σ) else some (.inl (some (.int x3)), σ) :=
  (aUn_eq (tkd G.1 G.2) tmi (aRun (tkd G.1 G.2) tmi tmt d) M_175 [19] 46 (19, [some (.ref 24), some (.int x1), some (.int x2), some (.int x3), none], [], σ)).trans rfl
set_option maxRecDepth 100000 in
set_option maxHeartbeats 4000000 in
theorem e_Rh_Head_settle (G : Nat × (Nat → Int32)) (d : Nat)  (σ : aH) : Rn G (d + 1) 176 [.ref 24] σ = if (σ.1 24 12) = 0 then some (.inl none, (aSI σ 24 16 (1000000 : Int32))) else if (σ.1 24 12) = (2 : Int32) then some (.inl none, (aSI σ 24 16 ((10000 : Int32) * (σ.1 24 5)))) else aCI (Rn G d 163 [.ref 24, .int (σ.1 24 11)] σ) fun v2 σ1 => some (.inl none, (aSI σ1 24 16 v2)) :=
  (aUn_eq (tkd G.1 G.2) tmi (aRun (tkd G.1 G.2) tmi tmt d) M_176 [] 28 (0, [some (.ref 24)], [], σ)).trans rfl
set_option maxRecDepth 100000 in
set_option maxHeartbeats 4000000 in
theorem e_Rh_Head_drift (G : Nat × (Nat → Int32)) (d : Nat)  (σ : aH) : Rn G (d + 1) 177 [.ref 24] σ = if (σ.1 24 12) = (2 : Int32) then aNz ((100 : Int32)) (some (.inl (some (.int (((σ.1 24 6) * (σ.1 24 5)) / (100 : Int32)))), σ)) else if (lg_cmp ((((σ.1 24 1)).toInt64 * ((σ.1 24 1)).toInt64) + (((σ.1 24 0)).toInt64 * ((σ.1 24 0)).toInt64)) (0 : Int64)) = 0 then some (.inl (some (.int (0 : Int32))), σ) else aNzL ((((((σ.1 24 1)).toInt64 * ((σ.1 24 1)).toInt64) + (((σ.1 24 0)).toInt64 * ((σ.1 24 0)).toInt64)) * (1000000 : Int64))) (some (.inl (some (.int (((((((σ.1 24 6)).toInt64 * ((σ.1 24 1)).toInt64) * ((σ.1 24 1)).toInt64) * ((σ.1 24 16)).toInt64) / (((((σ.1 24 1)).toInt64 * ((σ.1 24 1)).toInt64) + (((σ.1 24 0)).toInt64 * ((σ.1 24 0)).toInt64)) * (1000000 : Int64)))).toInt32)), σ)) :=
  (aUn_eq (tkd G.1 G.2) tmi (aRun (tkd G.1 G.2) tmi tmt d) M_177 [] 60 (0, [some (.ref 24), none, none], [], σ)).trans rfl
set_option maxRecDepth 100000 in
set_option maxHeartbeats 4000000 in
theorem e_Md_heldBy (G : Nat × (Nat → Int32)) (d : Nat) (x1 : Int32) (σ : aH) : Rn G (d + 1) 179 [.ref 33, .int x1] σ = aIx (((5 : Int32) * x1)) 30 fun j1 => if ((σ).1 36 j1) = 0 then some (.inl (some (.int (1000000 : Int32))), σ) else if ((σ).1 36 j1) = (2 : Int32) then aIx ((5 : Int32)) 6 fun j2 => some (.inl (some (.int ((10000 : Int32) * ((σ).1 50 j2)))), σ) else aIx ((5 : Int32)) 6 fun j3 => aCI (Rn G d 169 [.ref 33, .int x1, .int ((σ).1 51 j3)] σ) fun v5 σ4 => some (.inl (some (.int v5)), σ4) :=
  (aUn_eq (tkd G.1 G.2) tmi (aRun (tkd G.1 G.2) tmi tmt d) M_179 [] 34 (0, [some (.ref 33), some (.int x1), none], [], σ)).trans rfl
set_option maxRecDepth 100000 in
set_option maxHeartbeats 4000000 in
theorem e_Md_driftBy (G : Nat × (Nat → Int32)) (d : Nat) (x1 : Int32) (σ : aH) : Rn G (d + 1) 180 [.ref 33, .int x1] σ = aIx (((5 : Int32) * x1)) 30 fun j1 => if ((σ).1 36 j1) = (2 : Int32) then aIx ((0 : Int32)) 6 fun j2 => aIx ((5 : Int32)) 6 fun j3 => aNz ((100 : Int32)) (some (.inl (some (.int ((((σ).1 51 j2) * ((σ).1 50 j3)) / (100 : Int32)))), σ)) else aIx ((1 : Int32)) 6 fun j4 => aIx ((1 : Int32)) 6 fun j5 => aIx ((0 : Int32)) 6 fun j6 => aCI (Rn G d 179 [.ref 33, .int x1] σ) fun v8 σ7 => aIx ((0 : Int32)) 6 fun j9 => aIx ((0 : Int32)) 6 fun j10 => aNzL (((((((σ).1 50 j4)).toInt64 * (((σ).1 50 j5)).toInt64) + ((((σ7).1 50 j9)).toInt64 * (((σ7).1 50 j10)).toInt64)) * (1000000 : Int64))) (some (.inl (some (.int (((((((σ).1 51 j6)).toInt64 * ((((σ).1 50 j4)).toInt64 * (((σ).1 50 j5)).toInt64)) * (v8).toInt64) / ((((((σ).1 50 j4)).toInt64 * (((σ).1 50 j5)).toInt64) + ((((σ7).1 50 j9)).toInt64 * (((σ7).1 50 j10)).toInt64)) * (1000000 : Int64)))).toInt32)), σ7)) :=
  (aUn_eq (tkd G.1 G.2) tmi (aRun (tkd G.1 G.2) tmi tmt d) M_180 [] 67 (0, [some (.ref 33), some (.int x1), none, none], [], σ)).trans rfl
set_option maxRecDepth 100000 in
set_option maxHeartbeats 4000000 in
theorem e_Md_comesBy (G : Nat × (Nat → Int32)) (d : Nat) (x1 : Int32) (σ : aH) : Rn G (d + 1) 181 [.ref 33, .int x1] σ = aCI (Rn G d 170 [.ref 33, .int x1] σ) fun v2 σ1 => Lq G d M_181 (8, [some (.ref 33), some (.int x1), some (.int v2), some (.int (0 : Int32))], [], σ1) :=
  (aUn_eq (tkd G.1 G.2) tmi (aRun (tkd G.1 G.2) tmi tmt d) M_181 [8] 36 (0, [some (.ref 33), some (.int x1), none, none], [], σ)).trans rfl
set_option maxRecDepth 100000 in
set_option maxHeartbeats 4000000 in
theorem c_Md_comesBy_8 (G : Nat × (Nat → Int32)) (d : Nat) (x1 : Int32) (x2 : Int32) (x3 : Int32) (σ : aH) : Lq G d M_181 (8, [some (.ref 33), some (.int x1), some (.int x2), some (.int x3)], [], σ) = aIx ((5 : Int32)) 6 fun j1 => if ((σ).1 51 j1) < x3 then some (.inl (some (.int (-1 : Int32))), σ) else if x2 < (500000 : Int32) then aIx ((4 : Int32)) 6 fun j2 => if ((σ).1 51 j2) = 0 then aCI (Rn G d 172 [.ref 33, .int x1, .int x2] σ) fun v4 σ3 => Lq G d M_181 (8, [some (.ref 33), some (.int x1), some (.int v4), some (.int (x3 + (1 : Int32)))], [], σ3) else Lq G d M_181 (8, [some (.ref 33), some (.int x1), some (.int x2), some (.int (x3 + (1 : Int32)))], [], σ) else some (.inl (some (.int x3)), σ) :=
  (aUn_eq (tkd G.1 G.2) tmi (aRun (tkd G.1 G.2) tmi tmt d) M_181 [8] 36 (8, [some (.ref 33), some (.int x1), some (.int x2), some (.int x3)], [], σ)).trans rfl
set_option maxRecDepth 100000 in
set_option maxHeartbeats 4000000 in
theorem e_Rh_columnOf (G : Nat × (Nat → Int32)) (d : Nat) (x1 : Int32) (x2 : Int32) (σ : aH) : Rn G (d + 1) 184 [.ref 0, .int x1, .int x2] σ = aCI (Rn G d 103 [.ref 3, .int (3 : Int32), .int x1] σ) fun v2 σ1 => if v2 = 0 then if x1 < (20 : Int32) then some (.inl (some (.int (-1 : Int32))), σ1) else if x2 < x1 then some (.inl (some (.int (-1 : Int32))), σ1) else some (.inl (some (.int ((x1 - (20 : Int32)) + (12 : Int32)))), σ1) else some (.inl (some (.int x1)), σ1) :=
  (aUn_eq (tkd G.1 G.2) tmi (aRun (tkd G.1 G.2) tmi tmt d) M_184 [] 27 (0, [some (.ref 0), some (.int x1), some (.int x2)], [], σ)).trans rfl
set_option maxRecDepth 100000 in
set_option maxHeartbeats 4000000 in
theorem e_Rh_Head_foretells (G : Nat × (Nat → Int32)) (d : Nat) (x1 : Int32) (x2 : Int32) (σ : aH) : Rn G (d + 1) 185 [.ref 24, .int x1, .int x2] σ = if x1 = (12 : Int32) then aCI (Rn G d 177 [.ref 24] σ) fun v2 σ1 => some (.inl (some (.int v2)), σ1) else if x1 = (13 : Int32) then aNz ((1000000 : Int32)) (some (.inl (some (.int (((100 : Int32) * (σ.1 24 16)) / (1000000 : Int32)))), σ)) else if x1 = (14 : Int32) then aCI (Rn G d 186 [.ref 24] σ) fun v4 σ3 => some (.inl (some (.int v4)), σ3) else if x2 = 0 then aCI (Rn G d 187 [.ref 24] σ) fun v6 σ5 => some (.inl (some (.int v6)), σ5) else aNz ((100 : Int32)) (some (.inl (some (.int ((((6 : Int32) * (σ.1 24 4)) / (100 : Int32)) - (3 : Int32)))), σ)) :=
  (aUn_eq (tkd G.1 G.2) tmi (aRun (tkd G.1 G.2) tmi tmt d) M_185 [] 34 (0, [some (.ref 24), some (.int x1), some (.int x2)], [], σ)).trans rfl
set_option maxRecDepth 100000 in
set_option maxHeartbeats 4000000 in
theorem e_Md_tellsBy (G : Nat × (Nat → Int32)) (d : Nat) (x1 : Int32) (x2 : Int32) (σ : aH) : Rn G (d + 1) 189 [.ref 33, .int x1, .int x2] σ = if (12 : Int32) ≤ x2 then if x2 = (20 : Int32) then aCI (Rn G d 180 [.ref 33, .int x1] σ) fun v2 σ1 => some (.inl (some (.int v2)), σ1) else if x2 = (21 : Int32) then aCI (Rn G d 179 [.ref 33, .int x1] σ) fun v4 σ3 => aNzL ((1000000 : Int64)) (some (.inl (some (.int ((((100 : Int64) * (v4).toInt64) / (1000000 : Int64))).toInt32)), σ3)) else aCI (Rn G d 191 [.ref 33, .int x1] σ) fun v6 σ5 => some (.inl (some (.int v6)), σ5) else aIx (x2) 12 fun j7 => if ((σ).1 39 j7) = 0 then aCI (Rn G d 190 [.ref 33, .int x1] σ) fun v9 σ8 => some (.inl (some (.int v9)), σ8) else aIx ((4 : Int32)) 6 fun j10 => aNz ((100 : Int32)) (some (.inl (some (.int ((((6 : Int32) * ((σ).1 50 j10)) / (100 : Int32)) - (3 : Int32)))), σ)) :=
  (aUn_eq (tkd G.1 G.2) tmi (aRun (tkd G.1 G.2) tmi tmt d) M_189 [] 52 (0, [some (.ref 33), some (.int x1), some (.int x2)], [], σ)).trans rfl
set_option maxRecDepth 100000 in
set_option maxHeartbeats 4000000 in
theorem e_Rh_Sheets_lay (G : Nat × (Nat → Int32)) (d : Nat) (x1 : Int32) (x2 : Int32) (x3 : Int32) (σ : aH) : Rn G (d + 1) 100 [.ref 13, .int x1, .int x2, .int x3] σ = Lq G d M_100 (3, [some (.ref 13), some (.int x1), some (.int x2), some (.int x3), some (.int (0 : Int32))], [], σ) :=
  (aUn_eq (tkd G.1 G.2) tmi (aRun (tkd G.1 G.2) tmi tmt d) M_100 [3] 33 (0, [some (.ref 13), some (.int x1), some (.int x2), some (.int x3), none], [], σ)).trans rfl
set_option maxRecDepth 100000 in
set_option maxHeartbeats 4000000 in
theorem c_Rh_Sheets_lay_3 (G : Nat × (Nat → Int32)) (d : Nat) (x1 : Int32) (x2 : Int32) (x3 : Int32) (x4 : Int32) (σ : aH) : Lq G d M_100 (3, [some (.ref 13), some (.int x1), some (.int x2), some (.int x3), some (.int x4)], [], σ) = if (15 : Int32) ≤ x4 then aCV (Rn G d 101 [.ref 13, .int x1, .int (15 : Int32), .int (100 : Int32)] σ) fun σ1 => aCV (Rn G d 101 [.ref 13, .int x1, .int (16 : Int32), .int x2] σ1) fun σ2 => aCV (Rn G d 101 [.ref 13, .int x1, .int (17 : Int32), .int x3] σ2) fun σ3 => some (.inl none, σ3) else aCV (Rn G d 101 [.ref 13, .int x1, .int x4, .int (0 : Int32)] σ) fun σ4 => Lq G d M_100 (3, [some (.ref 13), some (.int x1), some (.int x2), some (.int x3), some (.int (x4 + (1 : Int32)))], [], σ4) :=
  (aUn_eq (tkd G.1 G.2) tmi (aRun (tkd G.1 G.2) tmi tmt d) M_100 [3] 33 (3, [some (.ref 13), some (.int x1), some (.int x2), some (.int x3), some (.int x4)], [], σ)).trans rfl
set_option maxRecDepth 100000 in
set_option maxHeartbeats 4000000 in
theorem e_Rh_countRefusal (G : Nat × (Nat → Int32)) (d : Nat) (x1 : Int32) (σ : aH) : Rn G (d + 1) 58 [.ref 0, .int x1] σ = aCI (Rn G d 32 [.ref 27, .int x1] σ) fun v2 σ1 => aCV (Rn G d 24 [.ref 27, .int x1, .int (v2 + (1 : Int32))] σ1) fun σ3 => some (.inl none, σ3) :=
  (aUn_eq (tkd G.1 G.2) tmi (aRun (tkd G.1 G.2) tmi tmt d) M_58 [] 16 (0, [some (.ref 0), some (.int x1)], [], σ)).trans rfl
set_option maxRecDepth 100000 in
set_option maxHeartbeats 4000000 in
theorem e_Md_lays_1 (G : Nat × (Nat → Int32)) (d : Nat) (x1 : Int32) (x2 : Int32) (σ : aH) : Rn G (d + 1) 195 [.ref 33, .int x1, .int x2] σ = Lq G d M_195 (2, [some (.ref 33), some (.int x1), some (.int x2), some (.int (0 : Int32))], [], σ) :=
  (aUn_eq (tkd G.1 G.2) tmi (aRun (tkd G.1 G.2) tmi tmt d) M_195 [2] 65 (0, [some (.ref 33), some (.int x1), some (.int x2), none], [], σ)).trans rfl
set_option maxRecDepth 100000 in
set_option maxHeartbeats 4000000 in
theorem c_Md_lays_1_2 (G : Nat × (Nat → Int32)) (d : Nat) (x1 : Int32) (x2 : Int32) (x3 : Int32) (σ : aH) : Lq G d M_195 (2, [some (.ref 33), some (.int x1), some (.int x2), some (.int x3)], [], σ) = if (17 : Int32) ≤ x3 then aIx ((((17 : Int32) * (σ.1 33 12)) + (15 : Int32))) 1020 fun j1 => aIx ((((17 : Int32) * (((aSI σ 40 j1 x1)).1 33 12)) + (16 : Int32))) 1020 fun j2 => aIx ((((aSI (aSI σ 40 j1 x1) 40 j2 x2)).1 33 12)) 60 fun j3 => aIx ((((aSI (aSI (aSI σ 40 j1 x1) 40 j2 x2) 54 j3 (vp_nar .boolean (0 : Int32)))).1 33 12)) 60 fun j4 => some (.inl (some (.int ((((aSI (aSI (aSI (aSI (aSI σ 40 j1 x1) 40 j2 x2) 54 j3 (vp_nar .boolean (0 : Int32))) 53 j4 (0 : Int32)) 33 12 ((((aSI (aSI (aSI (aSI σ 40 j1 x1) 40 j2 x2) 54 j3 (vp_nar .boolean (0 : Int32))) 53 j4 (0 : Int32))).1 33 12) + (1 : Int32)))).1 33 12) - (1 : Int32)))), (aSI (aSI (aSI (aSI (aSI σ 40 j1 x1) 40 j2 x2) 54 j3 (vp_nar .boolean (0 : Int32))) 53 j4 (0 : Int32)) 33 12 ((((aSI (aSI (aSI (aSI σ 40 j1 x1) 40 j2 x2) 54 j3 (vp_nar .boolean (0 : Int32))) 53 j4 (0 : Int32))).1 33 12) + (1 : Int32)))) else aIx ((((17 : Int32) * (σ.1 33 12)) + x3)) 1020 fun j5 => Lq G d M_195 (2, [some (.ref 33), some (.int x1), some (.int x2), some (.int (x3 + (1 : Int32)))], [], (aSI σ 40 j5 (0 : Int32))) :=
  (aUn_eq (tkd G.1 G.2) tmi (aRun (tkd G.1 G.2) tmi tmt d) M_195 [2] 65 (2, [some (.ref 33), some (.int x1), some (.int x2), some (.int x3)], [], σ)).trans rfl
set_option maxRecDepth 100000 in
set_option maxHeartbeats 4000000 in
theorem e_Rh_Sheets_has (G : Nat × (Nat → Int32)) (d : Nat) (x1 : Int32) (σ : aH) : Rn G (d + 1) 198 [.ref 13, .int x1] σ = if x1 < 0 then some (.inl (some (.int (0 : Int32))), σ) else if (σ.1 13 1) ≤ x1 then some (.inl (some (.int (0 : Int32))), σ) else some (.inl (some (.int (1 : Int32))), σ) :=
  (aUn_eq (tkd G.1 G.2) tmi (aRun (tkd G.1 G.2) tmi tmt d) M_198 [] 15 (0, [some (.ref 13), some (.int x1)], [], σ)).trans rfl
set_option maxRecDepth 100000 in
set_option maxHeartbeats 4000000 in
theorem e_Rh_Sheets_least (G : Nat × (Nat → Int32)) (d : Nat) (x0 : Int32) (σ : aH) : Rn G (d + 1) 199 [.int x0] σ = aCI (Rn G d 32 [.ref 68, .int x0] σ) fun v2 σ1 => some (.inl (some (.int v2)), σ1) :=
  (aUn_eq (tkd G.1 G.2) tmi (aRun (tkd G.1 G.2) tmi tmt d) M_199 [] 9 (0, [some (.int x0)], [], σ)).trans rfl
set_option maxRecDepth 100000 in
set_option maxHeartbeats 4000000 in
theorem e_Rh_Sheets_most (G : Nat × (Nat → Int32)) (d : Nat) (x0 : Int32) (σ : aH) : Rn G (d + 1) 104 [.int x0] σ = aCI (Rn G d 32 [.ref 69, .int x0] σ) fun v2 σ1 => some (.inl (some (.int v2)), σ1) :=
  (aUn_eq (tkd G.1 G.2) tmi (aRun (tkd G.1 G.2) tmi tmt d) M_104 [] 9 (0, [some (.int x0)], [], σ)).trans rfl
set_option maxRecDepth 100000 in
set_option maxHeartbeats 4000000 in
theorem e_Rh_Sheets_set (G : Nat × (Nat → Int32)) (d : Nat) (x1 : Int32) (x2 : Int32) (x3 : Int32) (σ : aH) : Rn G (d + 1) 101 [.ref 13, .int x1, .int x2, .int x3] σ = aCV (Rn G d 24 [.ref 14, .int ((x1 * (18 : Int32)) + x2), .int x3] σ) fun σ1 => some (.inl none, σ1) :=
  (aUn_eq (tkd G.1 G.2) tmi (aRun (tkd G.1 G.2) tmi tmt d) M_101 [] 15 (0, [some (.ref 13), some (.int x1), some (.int x2), some (.int x3)], [], σ)).trans rfl
set_option maxRecDepth 100000 in
set_option maxHeartbeats 4000000 in
theorem e_Md_isSheet (G : Nat × (Nat → Int32)) (d : Nat) (x1 : Int32) (σ : aH) : Rn G (d + 1) 201 [.ref 33, .int x1] σ = if x1 < 0 then aCI (Rn G d 62 [.ref 33, .int (0 : Int32), .int (1 : Int32)] (aSI σ 33 0 (0 : Int32))) fun v2 σ1 => aNar .boolean (v2) (some (.inl (some (.int v2)), σ1)) else if (((aSI σ 33 0 (0 : Int32))).1 33 12) ≤ x1 then aCI (Rn G d 62 [.ref 33, .int (0 : Int32), .int (1 : Int32)] (aSI σ 33 0 (0 : Int32))) fun v4 σ3 => aNar .boolean (v4) (some (.inl (some (.int v4)), σ3)) else aCI (Rn G d 62 [.ref 33, .int (1 : Int32), .int (1 : Int32)] (aSI σ 33 0 (0 : Int32))) fun v6 σ5 => aNar .boolean (v6) (some (.inl (some (.int v6)), σ5)) :=
  (aUn_eq (tkd G.1 G.2) tmi (aRun (tkd G.1 G.2) tmi tmt d) M_201 [] 21 (0, [some (.ref 33), some (.int x1)], [], σ)).trans rfl
set_option maxRecDepth 100000 in
set_option maxHeartbeats 4000000 in
theorem e_Md_isWhat (G : Nat × (Nat → Int32)) (d : Nat) (x1 : Int32) (σ : aH) : Rn G (d + 1) 202 [.ref 33, .int x1] σ = if x1 < 0 then aCI (Rn G d 130 [.int x1, .int (20 : Int32), .int (23 : Int32)] σ) fun v2 σ1 => if v2 = 0 then aCI (Rn G d 62 [.ref 33, .int (0 : Int32), .int (1 : Int32)] σ1) fun v4 σ3 => aNar .boolean (v4) (some (.inl (some (.int v4)), σ3)) else aCI (Rn G d 62 [.ref 33, .int (1 : Int32), .int (1 : Int32)] σ1) fun v6 σ5 => aNar .boolean (v6) (some (.inl (some (.int v6)), σ5)) else if x1 < (σ.1 33 4) then aCI (Rn G d 62 [.ref 33, .int (1 : Int32), .int (1 : Int32)] σ) fun v8 σ7 => aNar .boolean (v8) (some (.inl (some (.int v8)), σ7)) else aCI (Rn G d 130 [.int x1, .int (20 : Int32), .int (23 : Int32)] σ) fun v10 σ9 => if v10 = 0 then aCI (Rn G d 62 [.ref 33, .int (0 : Int32), .int (1 : Int32)] σ9) fun v12 σ11 => aNar .boolean (v12) (some (.inl (some (.int v12)), σ11)) else aCI (Rn G d 62 [.ref 33, .int (1 : Int32), .int (1 : Int32)] σ9) fun v14 σ13 => aNar .boolean (v14) (some (.inl (some (.int v14)), σ13)) :=
  (aUn_eq (tkd G.1 G.2) tmi (aRun (tkd G.1 G.2) tmi tmt d) M_202 [] 23 (0, [some (.ref 33), some (.int x1)], [], σ)).trans rfl
set_option maxRecDepth 100000 in
set_option maxHeartbeats 4000000 in
theorem e_Md_leastOf (G : Nat × (Nat → Int32)) (d : Nat) (x0 : Int32) (σ : aH) : Rn G (d + 1) 203 [.int x0] σ = if (20 : Int32) ≤ x0 then if x0 = (20 : Int32) then some (.inl (some (.int (-999 : Int32))), σ) else if x0 = (23 : Int32) then some (.inl (some (.int (-50 : Int32))), σ) else some (.inl (some (.int (0 : Int32))), σ) else some (.inl (some (.int (-3 : Int32))), σ) :=
  (aUn_eq (tkd G.1 G.2) tmi (aRun (tkd G.1 G.2) tmi tmt d) M_203 [] 22 (0, [some (.int x0)], [], σ)).trans rfl
set_option maxRecDepth 100000 in
set_option maxHeartbeats 4000000 in
theorem e_Md_mostOf (G : Nat × (Nat → Int32)) (d : Nat) (x0 : Int32) (σ : aH) : Rn G (d + 1) 204 [.int x0] σ = if (20 : Int32) ≤ x0 then if x0 = (20 : Int32) then some (.inl (some (.int (999 : Int32))), σ) else if x0 = (21 : Int32) then some (.inl (some (.int (100 : Int32))), σ) else if x0 = (22 : Int32) then some (.inl (some (.int (601 : Int32))), σ) else some (.inl (some (.int (50 : Int32))), σ) else some (.inl (some (.int (3 : Int32))), σ) :=
  (aUn_eq (tkd G.1 G.2) tmi (aRun (tkd G.1 G.2) tmi tmt d) M_204 [] 27 (0, [some (.int x0)], [], σ)).trans rfl
set_option maxRecDepth 100000 in
set_option maxHeartbeats 4000000 in
theorem e_Md_placeOf (G : Nat × (Nat → Int32)) (d : Nat) (x0 : Int32) (σ : aH) : Rn G (d + 1) 205 [.int x0] σ = if (20 : Int32) ≤ x0 then some (.inl (some (.int (x0 - (8 : Int32)))), σ) else some (.inl (some (.int x0)), σ) :=
  (aUn_eq (tkd G.1 G.2) tmi (aRun (tkd G.1 G.2) tmi tmt d) M_205 [] 14 (0, [some (.int x0)], [], σ)).trans rfl
set_option maxRecDepth 100000 in
set_option maxHeartbeats 4000000 in
theorem e_Rh_Sheets_get (G : Nat × (Nat → Int32)) (d : Nat) (x1 : Int32) (x2 : Int32) (σ : aH) : Rn G (d + 1) 117 [.ref 13, .int x1, .int x2] σ = aCI (Rn G d 32 [.ref 14, .int ((x1 * (18 : Int32)) + x2)] σ) fun v2 σ1 => some (.inl (some (.int v2)), σ1) :=
  (aUn_eq (tkd G.1 G.2) tmi (aRun (tkd G.1 G.2) tmi tmt d) M_117 [] 14 (0, [some (.ref 13), some (.int x1), some (.int x2)], [], σ)).trans rfl
set_option maxRecDepth 100000 in
set_option maxHeartbeats 4000000 in
theorem e_Rh_Sieve_feltOf (G : Nat × (Nat → Int32)) (d : Nat) (x1 : Int32) (σ : aH) : Rn G (d + 1) 121 [.ref 17, .int x1] σ = aCI (Rn G d 32 [.ref 19, .int x1] σ) fun v2 σ1 => some (.inl (some (.int v2)), σ1) :=
  (aUn_eq (tkd G.1 G.2) tmi (aRun (tkd G.1 G.2) tmi tmt d) M_121 [] 10 (0, [some (.ref 17), some (.int x1)], [], σ)).trans rfl
set_option maxRecDepth 100000 in
set_option maxHeartbeats 4000000 in
theorem e_Rh_Sieve_saidOf (G : Nat × (Nat → Int32)) (d : Nat) (x1 : Int32) (σ : aH) : Rn G (d + 1) 122 [.ref 17, .int x1] σ = aCI (Rn G d 32 [.ref 20, .int x1] σ) fun v2 σ1 => some (.inl (some (.int v2)), σ1) :=
  (aUn_eq (tkd G.1 G.2) tmi (aRun (tkd G.1 G.2) tmi tmt d) M_122 [] 10 (0, [some (.ref 17), some (.int x1)], [], σ)).trans rfl
set_option maxRecDepth 100000 in
set_option maxHeartbeats 4000000 in
theorem e_Rh_Sieve_offBy (G : Nat × (Nat → Int32)) (d : Nat) (x1 : Int32) (σ : aH) : Rn G (d + 1) 208 [.ref 17, .int x1] σ = aCI (Rn G d 32 [.ref 18, .int x1] σ) fun v2 σ1 => some (.inl (some (.int v2)), σ1) :=
  (aUn_eq (tkd G.1 G.2) tmi (aRun (tkd G.1 G.2) tmi tmt d) M_208 [] 10 (0, [some (.ref 17), some (.int x1)], [], σ)).trans rfl
set_option maxRecDepth 100000 in
set_option maxHeartbeats 4000000 in
theorem e_Md_sum (G : Nat × (Nat → Int32)) (d : Nat) (x1 : Int32) (x2 : Int32) (σ : aH) : Rn G (d + 1) 135 [.ref 33, .int x1, .int x2] σ = Lq G d M_135 (5, [some (.ref 33), some (.int x1), some (.int x2), some (.int (0 : Int32)), some (.int (0 : Int32))], [], σ) :=
  (aUn_eq (tkd G.1 G.2) tmi (aRun (tkd G.1 G.2) tmi tmt d) M_135 [5] 36 (0, [some (.ref 33), some (.int x1), some (.int x2), none, none], [], σ)).trans rfl
set_option maxRecDepth 100000 in
set_option maxHeartbeats 4000000 in
theorem c_Md_sum_5 (G : Nat × (Nat → Int32)) (d : Nat) (x1 : Int32) (x2 : Int32) (x3 : Int32) (x4 : Int32) (σ : aH) : Lq G d M_135 (5, [some (.ref 33), some (.int x1), some (.int x2), some (.int x3), some (.int x4)], [], σ) = if (σ.1 33 4) ≤ x4 then some (.inl (some (.int x3)), σ) else aIx (x4) 12 fun j1 => if ((σ).1 39 j1) = x2 then aIx ((((17 : Int32) * x1) + x4)) 1020 fun j2 => Lq G d M_135 (5, [some (.ref 33), some (.int x1), some (.int x2), some (.int (x3 + ((σ).1 40 j2))), some (.int (x4 + (1 : Int32)))], [], σ) else Lq G d M_135 (5, [some (.ref 33), some (.int x1), some (.int x2), some (.int (x3 + (0 : Int32))), some (.int (x4 + (1 : Int32)))], [], σ) :=
  (aUn_eq (tkd G.1 G.2) tmi (aRun (tkd G.1 G.2) tmi tmt d) M_135 [5] 36 (5, [some (.ref 33), some (.int x1), some (.int x2), some (.int x3), some (.int x4)], [], σ)).trans rfl
set_option maxRecDepth 100000 in
set_option maxHeartbeats 4000000 in
theorem e_Md_offBy (G : Nat × (Nat → Int32)) (d : Nat) (x1 : Int32) (σ : aH) : Rn G (d + 1) 132 [.ref 33, .int x1] σ = Lq G d M_132 (2, [some (.ref 33), some (.int x1), some (.int (0 : Int32))], [], σ) :=
  (aUn_eq (tkd G.1 G.2) tmi (aRun (tkd G.1 G.2) tmi tmt d) M_132 [2] 38 (0, [some (.ref 33), some (.int x1), none], [], σ)).trans rfl
set_option maxRecDepth 100000 in
set_option maxHeartbeats 4000000 in
theorem c_Md_offBy_2 (G : Nat × (Nat → Int32)) (d : Nat) (x1 : Int32) (x2 : Int32) (σ : aH) : Lq G d M_132 (2, [some (.ref 33), some (.int x1), some (.int x2)], [], σ) = if (σ.1 33 5) ≤ x2 then aIx ((((17 : Int32) * x1) + (15 : Int32))) 1020 fun j1 => aCI (Rn G d 137 [.ref 33, .int ((σ).1 40 j1)] σ) fun v3 σ2 => if v3 = 0 then some (.inl (some (.int (-1 : Int32))), σ2) else some (.inl (some (.int (-2 : Int32))), σ2) else aIx (x2) 4 fun j4 => aCI (Rn G d 133 [.ref 33, .int ((σ).1 37 j4), .int x1] σ) fun v6 σ5 => if v6 = 0 then Lq G d M_132 (2, [some (.ref 33), some (.int x1), some (.int (x2 + (1 : Int32)))], [], σ5) else some (.inl (some (.int x2)), σ5) :=
  (aUn_eq (tkd G.1 G.2) tmi (aRun (tkd G.1 G.2) tmi tmt d) M_132 [2] 38 (2, [some (.ref 33), some (.int x1), some (.int x2)], [], σ)).trans rfl
set_option maxRecDepth 100000 in
set_option maxHeartbeats 4000000 in
theorem e_Rh_drawSheet (G : Nat × (Nat → Int32)) (d : Nat) (x1 : Int32) (x2 : Int32) (x3 : Int32) (σ : aH) : Rn G (d + 1) 212 [.ref 0, .int x1, .int x2, .int x3] σ = Lq G d M_212 (6, [some (.ref 0), some (.int x1), some (.int x2), none, some (.int x3), some (.int (0 : Int32)), none, none, none], [], σ) :=
  (aUn_eq (tkd G.1 G.2) tmi (aRun (tkd G.1 G.2) tmi tmt d) M_212 [6] 68 (0, [some (.ref 0), some (.int x1), some (.int x2), some (.int x3), none, none, none, none, none], [], σ)).trans rfl
set_option maxRecDepth 100000 in
set_option maxHeartbeats 4000000 in
theorem c_Rh_drawSheet_6 (G : Nat × (Nat → Int32)) (d : Nat) (x1 : Int32) (x2 : Int32) (x4 : Int32) (x5 : Int32) (σ : aH) : Lq G d M_212 (6, [some (.ref 0), some (.int x1), some (.int x2), none, some (.int x4), some (.int x5), none, none, none], [], σ) = if (14 : Int32) < x5 then some (.inl (some (.int x4)), σ) else if (12 : Int32) ≤ x5 then aCI (Rn G d 213 [.int x5, .int x2] σ) fun v2 σ1 => aCI (Rn G d 214 [.int ((x4 * (1103515245 : Int32)) + (12345 : Int32)), .int ((v2 + v2) + (1 : Int32))] σ1) fun v4 σ3 => aCI (Rn G d 118 [.ref 3, .int x5] σ3) fun v6 σ5 => aCI (Rn G d 185 [.ref 24, .int x5, .int v6] σ5) fun v8 σ7 => aCI (Rn G d 199 [.int x5] σ7) fun v10 σ9 => aCI (Rn G d 104 [.int x5] σ9) fun v12 σ11 => aCI (Rn G d 20 [.int v12, .int (v8 + (v4 - v2))] σ11) fun v14 σ13 => aCI (Rn G d 19 [.int v10, .int v14] σ13) fun v16 σ15 => aCV (Rn G d 101 [.ref 13, .int x1, .int x5, .int v16] σ15) fun σ17 => Lq G d M_212 (6, [some (.ref 0), some (.int x1), some (.int x2), none, some (.int ((x4 * (1103515245 : Int32)) + (12345 : Int32))), some (.int (x5 + (1 : Int32))), none, none, none], [], σ17) else aCI (Rn G d 103 [.ref 3, .int (3 : Int32), .int x5] σ) fun v19 σ18 => if v19 = 0 then Lq G d M_212 (6, [some (.ref 0), some (.int x1), some (.int x2), none, some (.int x4), some (.int (x5 + (1 : Int32))), none, none, none], [], σ18) else aCI (Rn G d 213 [.int x5, .int x2] σ18) fun v21 σ20 => aCI (Rn G d 214 [.int ((x4 * (1103515245 : Int32)) + (12345 : Int32)), .int ((v21 + v21) + (1 : Int32))] σ20) fun v23 σ22 => aCI (Rn G d 118 [.ref 3, .int x5] σ22) fun v25 σ24 => aCI (Rn G d 185 [.ref 24, .int x5, .int v25] σ24) fun v27 σ26 => aCI (Rn G d 199 [.int x5] σ26) fun v29 σ28 => aCI (Rn G d 104 [.int x5] σ28) fun v31 σ30 => aCI (Rn G d 20 [.int v31, .int (v27 + (v23 - v21))] σ30) fun v33 σ32 => aCI (Rn G d 19 [.int v29, .int v33] σ32) fun v35 σ34 => aCV (Rn G d 101 [.ref 13, .int x1, .int x5, .int v35] σ34) fun σ36 => Lq G d M_212 (6, [some (.ref 0), some (.int x1), some (.int x2), none, some (.int ((x4 * (1103515245 : Int32)) + (12345 : Int32))), some (.int (x5 + (1 : Int32))), none, none, none], [], σ36) :=
  (aUn_eq (tkd G.1 G.2) tmi (aRun (tkd G.1 G.2) tmi tmt d) M_212 [6] 68 (6, [some (.ref 0), some (.int x1), some (.int x2), none, some (.int x4), some (.int x5), none, none, none], [], σ)).trans rfl
set_option maxRecDepth 100000 in
set_option maxHeartbeats 4000000 in
theorem e_Md_asks (G : Nat × (Nat → Int32)) (d : Nat) (x1 : Int32) (x2 : Int32) (σ : aH) : Rn G (d + 1) 168 [.ref 33, .int x1, .int x2] σ = Lq G d M_168 (2, [some (.ref 33), some (.int x1), some (.int x2), some (.int (0 : Int32))], [], σ) :=
  (aUn_eq (tkd G.1 G.2) tmi (aRun (tkd G.1 G.2) tmi tmt d) M_168 [2] 37 (0, [some (.ref 33), some (.int x1), some (.int x2), none], [], σ)).trans rfl
set_option maxRecDepth 100000 in
set_option maxHeartbeats 4000000 in
theorem c_Md_asks_2 (G : Nat × (Nat → Int32)) (d : Nat) (x1 : Int32) (x2 : Int32) (x3 : Int32) (σ : aH) : Lq G d M_168 (2, [some (.ref 33), some (.int x1), some (.int x2), some (.int x3)], [], σ) = if (6 : Int32) ≤ x3 then some (.inl none, σ) else aIx ((((6 : Int32) * x1) + x3)) 120 fun j1 => aIx (x3) 6 fun j2 => aIx ((((6 : Int32) * x2) + x3)) 120 fun j3 => aIx (x3) 6 fun j4 => Lq G d M_168 (2, [some (.ref 33), some (.int x1), some (.int x2), some (.int (x3 + (1 : Int32)))], [], (aSI (aSI σ 50 j2 ((σ).1 34 j1)) 51 j4 (((aSI σ 50 j2 ((σ).1 34 j1))).1 35 j3))) :=
  (aUn_eq (tkd G.1 G.2) tmi (aRun (tkd G.1 G.2) tmi tmt d) M_168 [2] 37 (2, [some (.ref 33), some (.int x1), some (.int x2), some (.int x3)], [], σ)).trans rfl
set_option maxRecDepth 100000 in
set_option maxHeartbeats 4000000 in
theorem e_Md_draw (G : Nat × (Nat → Int32)) (d : Nat) (x1 : Int32) (σ : aH) : Rn G (d + 1) 216 [.ref 33, .int x1] σ = aNz (x1) (some (.inl (some (.int ((((((aSI σ 33 48 (((σ.1 33 48) * (1103515245 : Int32)) + (12345 : Int32)))).1 33 48) >>> ((16 : Int32) &&& 31)) &&& (32767 : Int32)) - (((((aSI σ 33 48 (((σ.1 33 48) * (1103515245 : Int32)) + (12345 : Int32)))).1 33 48) >>> ((16 : Int32) &&& 31)) &&& (32767 : Int32)) / x1 * x1))), (aSI σ 33 48 (((σ.1 33 48) * (1103515245 : Int32)) + (12345 : Int32))))) :=
  (aUn_eq (tkd G.1 G.2) tmi (aRun (tkd G.1 G.2) tmi tmt d) M_216 [] 22 (0, [some (.ref 33), some (.int x1)], [], σ)).trans rfl
set_option maxRecDepth 100000 in
set_option maxHeartbeats 4000000 in
theorem e_Md_bound (G : Nat × (Nat → Int32)) (d : Nat) (x0 : Int32) (x1 : Int32) (σ : aH) : Rn G (d + 1) 217 [.int x0, .int x1] σ = aCI (Rn G d 203 [.int x1] σ) fun v2 σ1 => if v2 ≤ x0 then aCI (Rn G d 204 [.int x1] σ1) fun v4 σ3 => if x0 ≤ v4 then some (.inl (some (.int x0)), σ3) else aCI (Rn G d 204 [.int x1] σ3) fun v6 σ5 => some (.inl (some (.int v6)), σ5) else aCI (Rn G d 203 [.int x1] σ1) fun v8 σ7 => some (.inl (some (.int v8)), σ7) :=
  (aUn_eq (tkd G.1 G.2) tmi (aRun (tkd G.1 G.2) tmi tmt d) M_217 [] 21 (0, [some (.int x0), some (.int x1)], [], σ)).trans rfl
set_option maxRecDepth 100000 in
set_option maxHeartbeats 4000000 in
theorem e_Rh_put (G : Nat × (Nat → Int32)) (d : Nat) (r0 : Nat) (x1 : Int32) (x2 : Int32) (σ : aH) : Rn G (d + 1) 24 [.ref r0, .int x1, .int x2] σ = if x1 < 0 then some (.inl none, σ) else aLen (tkd G.1 G.2) r0 fun n1 => if (Int32.ofNat n1) ≤ x1 then some (.inl none, σ) else aArS (tkd G.1 G.2) 0 r0 fun n3 => aIx (x1) n3 fun j2 => some (.inl none, (aSI σ r0 j2 x2)) :=
  (aUn_eq (tkd G.1 G.2) tmi (aRun (tkd G.1 G.2) tmi tmt d) M_24 [] 16 (0, [some (.ref r0), some (.int x1), some (.int x2)], [], σ)).trans rfl
set_option maxRecDepth 100000 in
set_option maxHeartbeats 4000000 in
theorem e_Rh_Sieve_counts (G : Nat × (Nat → Int32)) (d : Nat) (x1 : Int32) (σ : aH) : Rn G (d + 1) 220 [.ref 17, .int x1] σ = aCI (Rn G d 32 [.ref 18, .int x1] σ) fun v2 σ1 => if v2 = (-1 : Int32) then some (.inl (some (.int (1 : Int32))), σ1) else some (.inl (some (.int (0 : Int32))), σ1) :=
  (aUn_eq (tkd G.1 G.2) tmi (aRun (tkd G.1 G.2) tmi tmt d) M_220 [] 15 (0, [some (.ref 17), some (.int x1)], [], σ)).trans rfl
set_option maxRecDepth 100000 in
set_option maxHeartbeats 4000000 in
theorem e_Rh_layByFit (G : Nat × (Nat → Int32)) (d : Nat) (x1 : Int32) (x2 : Int32) (σ : aH) : Rn G (d + 1) 221 [.ref 0, .int x1, .int x2] σ = Lq G d M_221 (5, [some (.ref 0), some (.int x1), some (.int x2), some (.long (0 : Int64)), none, some (.int (0 : Int32))], [], σ) :=
  (aUn_eq (tkd G.1 G.2) tmi (aRun (tkd G.1 G.2) tmi tmt d) M_221 [5, 60] 68 (0, [some (.ref 0), some (.int x1), some (.int x2), none, none, none], [], σ)).trans rfl
set_option maxRecDepth 100000 in
set_option maxHeartbeats 4000000 in
theorem c_Rh_layByFit_5 (G : Nat × (Nat → Int32)) (d : Nat) (x1 : Int32) (x2 : Int32) (x3 : Int64) (x5 : Int32) (σ : aH) : Lq G d M_221 (5, [some (.ref 0), some (.int x1), some (.int x2), some (.long x3), none, some (.int x5)], [], σ) = if x2 ≤ x5 then Lq G d M_221 (60, [some (.ref 0), none, some (.int x2), some (.long x3), none, some (.int (0 : Int32))], [], σ) else aCI (Rn G d 222 [.ref 0, .int x1, .int x5] σ) fun v2 σ1 => aCV (Rn G d 24 [.ref 31, .int x5, .int v2] σ1) fun σ3 => aCI (Rn G d 32 [.ref 30, .int x5] σ3) fun v5 σ4 => aCI (Rn G d 32 [.ref 31, .int x5] σ4) fun v7 σ6 => Lq G d M_221 (5, [some (.ref 0), some (.int x1), some (.int x2), some (.long (x3 + ((v5).toInt64 * (v7).toInt64))), none, some (.int (x5 + (1 : Int32)))], [], σ6) :=
  (aUn_eq (tkd G.1 G.2) tmi (aRun (tkd G.1 G.2) tmi tmt d) M_221 [5, 60] 68 (5, [some (.ref 0), some (.int x1), some (.int x2), some (.long x3), none, some (.int x5)], [], σ)).trans rfl
set_option maxRecDepth 100000 in
set_option maxHeartbeats 4000000 in
theorem c_Rh_layByFit_60 (G : Nat × (Nat → Int32)) (d : Nat) (x2 : Int32) (x3 : Int64) (x5 : Int32) (σ : aH) : Lq G d M_221 (60, [some (.ref 0), none, some (.int x2), some (.long x3), none, some (.int x5)], [], σ) = if x2 ≤ x5 then some (.inl none, σ) else if (lg_cmp x3 (0 : Int64)) ≤ 0 then some (.inl none, σ) else aCI (Rn G d 32 [.ref 30, .int x5] σ) fun v2 σ1 => aCI (Rn G d 32 [.ref 31, .int x5] σ1) fun v4 σ3 => aNzL (x3) (aCV (Rn G d 24 [.ref 30, .int x5, .int (((((v2).toInt64 * (v4).toInt64) * (1000000 : Int64)) / x3)).toInt32] σ3) fun σ5 => Lq G d M_221 (60, [some (.ref 0), none, some (.int x2), some (.long x3), none, some (.int (x5 + (1 : Int32)))], [], σ5)) :=
  (aUn_eq (tkd G.1 G.2) tmi (aRun (tkd G.1 G.2) tmi tmt d) M_221 [5, 60] 68 (60, [some (.ref 0), none, some (.int x2), some (.long x3), none, some (.int x5)], [], σ)).trans rfl
