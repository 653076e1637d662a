/-! ===== the law's wrappers and the law's turn, as equations (by wip/gen/emit_law.py) ===== -/
/-- a run of a wrapper -/
noncomputable def RW (G : Nat × (Nat → Int32)) (mid : Nat) (as : List Value) (σ : aH) : Option (aRs × aH) := aRunW (tkd G.1 G.2) tmi tmt 60 mid as σ
/-- a stretch of the law's turn, over some of its code -/
noncomputable def LT (cd : List (Nat × aEn)) (G : Nat × (Nat → Int32)) (n w : Nat) (st : aSt) : Option (aSt ⊕ (aRs × aH)) := aUgW 23 (tkd G.1 G.2) tmi (aRunW (tkd G.1 G.2) tmi tmt 60) ((some .boolean), 7, cd, [(23, [5, 6])], none) n w st
set_option maxRecDepth 20000 in
theorem w_4 (G : Nat × (Nat → Int32)) (x1 : Int32) (σ : aH) : RW G 4 [.ref 0, .int x1, .ref 63] σ = aXI (Rn G 60 5 [.ref 0, .int x1] σ) (fun v σ1 => some (.inl (some (.int (0 : Int32))), (aSL σ1 63 0 (v).toInt64))) (fun k σ1 => aTh (some [(4, 1, 13)]) 4 k (fun t => aLp (tkd G.1 G.2) tmi (aRun (tkd G.1 G.2) tmi tmt 60) M_4 35 (t, aDead [(13, [0, 1, 2, 3])] t [some (.ref 0), some (.int x1), some (.ref 63), none], [], σ1)) (some (.inr k, σ1))) := rfl
theorem w_4_ok {G : Nat × (Nat → Int32)} {x1 : Int32} {σ σ1 : aH} {v : Int32} (h : Rn G 60 5 [.ref 0, .int x1] σ = oI v σ1) : RW G 4 [.ref 0, .int x1, .ref 63] σ = some (.inl (some (.int (0 : Int32))), (aSL σ1 63 0 (v).toInt64)) := by
  rw [w_4, h, pXI]
set_option maxRecDepth 20000 in
theorem w_4_ex1 {G : Nat × (Nat → Int32)} {x1 : Int32} {σ σ1 : aH} (h : Rn G 60 5 [.ref 0, .int x1] σ = oX 1 σ1) : RW G 4 [.ref 0, .int x1, .ref 63] σ = some (.inl (some (.int (1 : Int32))), σ1) := by
  rw [w_4, h, pXIt]
  rfl
set_option maxRecDepth 20000 in
theorem w_94 (G : Nat × (Nat → Int32)) (x1 : Int32) (σ : aH) : RW G 94 [.ref 0, .int x1, .ref 63] σ = aXI (Rn G 60 95 [.ref 0, .int x1] σ) (fun v σ1 => some (.inl (some (.int (0 : Int32))), (aSL σ1 63 0 (v).toInt64))) (fun k σ1 => aTh (some [(4, 1, 13)]) 4 k (fun t => aLp (tkd G.1 G.2) tmi (aRun (tkd G.1 G.2) tmi tmt 60) M_94 35 (t, aDead [(13, [0, 1, 2, 3])] t [some (.ref 0), some (.int x1), some (.ref 63), none], [], σ1)) (some (.inr k, σ1))) := rfl
theorem w_94_ok {G : Nat × (Nat → Int32)} {x1 : Int32} {σ σ1 : aH} {v : Int32} (h : Rn G 60 95 [.ref 0, .int x1] σ = oI v σ1) : RW G 94 [.ref 0, .int x1, .ref 63] σ = some (.inl (some (.int (0 : Int32))), (aSL σ1 63 0 (v).toInt64)) := by
  rw [w_94, h, pXI]
set_option maxRecDepth 20000 in
theorem w_94_ex1 {G : Nat × (Nat → Int32)} {x1 : Int32} {σ σ1 : aH} (h : Rn G 60 95 [.ref 0, .int x1] σ = oX 1 σ1) : RW G 94 [.ref 0, .int x1, .ref 63] σ = some (.inl (some (.int (1 : Int32))), σ1) := by
  rw [w_94, h, pXIt]
  rfl
set_option maxRecDepth 20000 in
theorem w_112 (G : Nat × (Nat → Int32)) (x1 : Int32) (σ : aH) : RW G 112 [.ref 0, .int x1, .ref 63] σ = aXI (Rn G 60 113 [.ref 0, .int x1] σ) (fun v σ1 => some (.inl (some (.int (0 : Int32))), (aSL σ1 63 0 (v).toInt64))) (fun k σ1 => aTh (some [(4, 0, 13)]) 4 k (fun t => aLp (tkd G.1 G.2) tmi (aRun (tkd G.1 G.2) tmi tmt 60) M_112 35 (t, aDead [(13, [0, 1, 2, 3])] t [some (.ref 0), some (.int x1), some (.ref 63), none], [], σ1)) (some (.inr k, σ1))) := rfl
theorem w_112_ok {G : Nat × (Nat → Int32)} {x1 : Int32} {σ σ1 : aH} {v : Int32} (h : Rn G 60 113 [.ref 0, .int x1] σ = oI v σ1) : RW G 112 [.ref 0, .int x1, .ref 63] σ = some (.inl (some (.int (0 : Int32))), (aSL σ1 63 0 (v).toInt64)) := by
  rw [w_112, h, pXI]
set_option maxRecDepth 20000 in
theorem w_112_ex0 {G : Nat × (Nat → Int32)} {x1 : Int32} {σ σ1 : aH} (h : Rn G 60 113 [.ref 0, .int x1] σ = oX 0 σ1) : RW G 112 [.ref 0, .int x1, .ref 63] σ = some (.inl (some (.int (1 : Int32))), σ1) := by
  rw [w_112, h, pXIt]
  rfl
set_option maxRecDepth 20000 in
theorem w_138 (G : Nat × (Nat → Int32)) (x1 x2 : Int32) (σ : aH) : RW G 138 [.ref 0, .int x1, .int x2, .ref 63] σ = aXI (Rn G 60 139 [.ref 0, .int x1, .int x2] σ) (fun v σ1 => some (.inl (some (.int (0 : Int32))), (aSL σ1 63 0 (v).toInt64))) (fun k σ1 => aTh (some [(5, 0, 15)]) 5 k (fun t => aLp (tkd G.1 G.2) tmi (aRun (tkd G.1 G.2) tmi tmt 60) M_138 34 (t, aDead [(15, [0, 1, 2, 3, 4])] t [some (.ref 0), some (.int x1), some (.int x2), some (.ref 63), none], [], σ1)) (some (.inr k, σ1))) := rfl
theorem w_138_ok {G : Nat × (Nat → Int32)} {x1 x2 : Int32} {σ σ1 : aH} {v : Int32} (h : Rn G 60 139 [.ref 0, .int x1, .int x2] σ = oI v σ1) : RW G 138 [.ref 0, .int x1, .int x2, .ref 63] σ = some (.inl (some (.int (0 : Int32))), (aSL σ1 63 0 (v).toInt64)) := by
  rw [w_138, h, pXI]
set_option maxRecDepth 20000 in
theorem w_138_ex0 {G : Nat × (Nat → Int32)} {x1 x2 : Int32} {σ σ1 : aH} (h : Rn G 60 139 [.ref 0, .int x1, .int x2] σ = oX 0 σ1) : RW G 138 [.ref 0, .int x1, .int x2, .ref 63] σ = some (.inl (some (.int (1 : Int32))), σ1) := by
  rw [w_138, h, pXIt]
  rfl
set_option maxRecDepth 20000 in
theorem w_141 (G : Nat × (Nat → Int32)) (x1 x2 : Int32) (σ : aH) : RW G 141 [.ref 0, .int x1, .int x2, .ref 63] σ = aXI (Rn G 60 142 [.ref 0, .int x1, .int x2] σ) (fun v σ1 => some (.inl (some (.int (0 : Int32))), (aSL σ1 63 0 (v).toInt64))) (fun k σ1 => aTh (some [(5, 0, 15)]) 5 k (fun t => aLp (tkd G.1 G.2) tmi (aRun (tkd G.1 G.2) tmi tmt 60) M_141 34 (t, aDead [(15, [0, 1, 2, 3, 4])] t [some (.ref 0), some (.int x1), some (.int x2), some (.ref 63), none], [], σ1)) (some (.inr k, σ1))) := rfl
theorem w_141_ok {G : Nat × (Nat → Int32)} {x1 x2 : Int32} {σ σ1 : aH} {v : Int32} (h : Rn G 60 142 [.ref 0, .int x1, .int x2] σ = oI v σ1) : RW G 141 [.ref 0, .int x1, .int x2, .ref 63] σ = some (.inl (some (.int (0 : Int32))), (aSL σ1 63 0 (v).toInt64)) := by
  rw [w_141, h, pXI]
set_option maxRecDepth 20000 in
theorem w_141_ex0 {G : Nat × (Nat → Int32)} {x1 x2 : Int32} {σ σ1 : aH} (h : Rn G 60 142 [.ref 0, .int x1, .int x2] σ = oX 0 σ1) : RW G 141 [.ref 0, .int x1, .int x2, .ref 63] σ = some (.inl (some (.int (1 : Int32))), σ1) := by
  rw [w_141, h, pXIt]
  rfl
set_option maxRecDepth 20000 in
theorem w_144 (G : Nat × (Nat → Int32)) (x1 x2 : Int32) (σ : aH) : RW G 144 [.ref 0, .int x1, .int x2, .ref 63] σ = aXI (Rn G 60 145 [.ref 0, .int x1, .int x2] σ) (fun v σ1 => some (.inl (some (.int (0 : Int32))), (aSL σ1 63 0 (v).toInt64))) (fun k σ1 => aTh (some [(5, 0, 15)]) 5 k (fun t => aLp (tkd G.1 G.2) tmi (aRun (tkd G.1 G.2) tmi tmt 60) M_144 34 (t, aDead [(15, [0, 1, 2, 3, 4])] t [some (.ref 0), some (.int x1), some (.int x2), some (.ref 63), none], [], σ1)) (some (.inr k, σ1))) := rfl
theorem w_144_ok {G : Nat × (Nat → Int32)} {x1 x2 : Int32} {σ σ1 : aH} {v : Int32} (h : Rn G 60 145 [.ref 0, .int x1, .int x2] σ = oI v σ1) : RW G 144 [.ref 0, .int x1, .int x2, .ref 63] σ = some (.inl (some (.int (0 : Int32))), (aSL σ1 63 0 (v).toInt64)) := by
  rw [w_144, h, pXI]
set_option maxRecDepth 20000 in
theorem w_144_ex0 {G : Nat × (Nat → Int32)} {x1 x2 : Int32} {σ σ1 : aH} (h : Rn G 60 145 [.ref 0, .int x1, .int x2] σ = oX 0 σ1) : RW G 144 [.ref 0, .int x1, .int x2, .ref 63] σ = some (.inl (some (.int (1 : Int32))), σ1) := by
  rw [w_144, h, pXIt]
  rfl
set_option maxRecDepth 20000 in
theorem w_147 (G : Nat × (Nat → Int32)) (x1 : Int32) (σ : aH) : RW G 147 [.ref 0, .int x1, .ref 63] σ = aXI (Rn G 60 148 [.ref 0, .int x1] σ) (fun v σ1 => if v = 0 then some (.inl (some (.int (0 : Int32))), (aSL σ1 63 0 (0 : Int64))) else some (.inl (some (.int (0 : Int32))), (aSL σ1 63 0 (1 : Int64)))) (fun k σ1 => aTh (some [(4, 0, 20)]) 4 k (fun t => aLp (tkd G.1 G.2) tmi (aRun (tkd G.1 G.2) tmi tmt 60) M_147 35 (t, aDead [(20, [0, 1, 2, 3])] t [some (.ref 0), some (.int x1), some (.ref 63), none], [], σ1)) (some (.inr k, σ1))) := rfl
theorem w_147_ok {G : Nat × (Nat → Int32)} {x1 : Int32} {σ σ1 : aH} {v : Int32} (h : Rn G 60 148 [.ref 0, .int x1] σ = oI v σ1) : RW G 147 [.ref 0, .int x1, .ref 63] σ = if v = 0 then some (.inl (some (.int (0 : Int32))), (aSL σ1 63 0 (0 : Int64))) else some (.inl (some (.int (0 : Int32))), (aSL σ1 63 0 (1 : Int64))) := by
  rw [w_147, h, pXI]
set_option maxRecDepth 20000 in
theorem w_147_ex0 {G : Nat × (Nat → Int32)} {x1 : Int32} {σ σ1 : aH} (h : Rn G 60 148 [.ref 0, .int x1] σ = oX 0 σ1) : RW G 147 [.ref 0, .int x1, .ref 63] σ = some (.inl (some (.int (1 : Int32))), σ1) := by
  rw [w_147, h, pXIt]
  rfl
set_option maxRecDepth 20000 in
theorem w_150 (G : Nat × (Nat → Int32)) (x1 x2 : Int32) (σ : aH) : RW G 150 [.ref 0, .int x1, .int x2, .ref 63] σ = aXI (Rn G 60 151 [.ref 0, .int x1, .int x2] σ) (fun v σ1 => some (.inl (some (.int (0 : Int32))), (aSL σ1 63 0 (v).toInt64))) (fun k σ1 => aTh (some [(5, 1, 15)]) 5 k (fun t => aLp (tkd G.1 G.2) tmi (aRun (tkd G.1 G.2) tmi tmt 60) M_150 34 (t, aDead [(15, [0, 1, 2, 3, 4])] t [some (.ref 0), some (.int x1), some (.int x2), some (.ref 63), none], [], σ1)) (some (.inr k, σ1))) := rfl
theorem w_150_ok {G : Nat × (Nat → Int32)} {x1 x2 : Int32} {σ σ1 : aH} {v : Int32} (h : Rn G 60 151 [.ref 0, .int x1, .int x2] σ = oI v σ1) : RW G 150 [.ref 0, .int x1, .int x2, .ref 63] σ = some (.inl (some (.int (0 : Int32))), (aSL σ1 63 0 (v).toInt64)) := by
  rw [w_150, h, pXI]
set_option maxRecDepth 20000 in
theorem w_150_ex1 {G : Nat × (Nat → Int32)} {x1 x2 : Int32} {σ σ1 : aH} (h : Rn G 60 151 [.ref 0, .int x1, .int x2] σ = oX 1 σ1) : RW G 150 [.ref 0, .int x1, .int x2, .ref 63] σ = some (.inl (some (.int (1 : Int32))), σ1) := by
  rw [w_150, h, pXIt]
  rfl
set_option maxRecDepth 20000 in
theorem w_155 (G : Nat × (Nat → Int32)) (x1 x2 x3 x4 : Int32) (σ : aH) : RW G 155 [.ref 0, .int x1, .int x2, .int x3, .int x4, .ref 63] σ = aXI (Rn G 60 156 [.ref 0, .int x1, .int x2, .int x3, .int x4] σ) (fun v σ1 => some (.inl (some (.int (0 : Int32))), (aSL σ1 63 0 (v).toInt64))) (fun k σ1 => aTh (some [(9, 0, 19), (9, 1, 23)]) 9 k (fun t => aLp (tkd G.1 G.2) tmi (aRun (tkd G.1 G.2) tmi tmt 60) M_155 32 (t, aDead [(19, [0, 1, 2, 3, 4, 5, 6]), (23, [0, 1, 2, 3, 4, 5, 6])] t [some (.ref 0), some (.int x1), some (.int x2), some (.int x3), some (.int x4), some (.ref 63), none], [], σ1)) (some (.inr k, σ1))) := rfl
theorem w_155_ok {G : Nat × (Nat → Int32)} {x1 x2 x3 x4 : Int32} {σ σ1 : aH} {v : Int32} (h : Rn G 60 156 [.ref 0, .int x1, .int x2, .int x3, .int x4] σ = oI v σ1) : RW G 155 [.ref 0, .int x1, .int x2, .int x3, .int x4, .ref 63] σ = some (.inl (some (.int (0 : Int32))), (aSL σ1 63 0 (v).toInt64)) := by
  rw [w_155, h, pXI]
set_option maxRecDepth 20000 in
theorem w_155_ex0 {G : Nat × (Nat → Int32)} {x1 x2 x3 x4 : Int32} {σ σ1 : aH} (h : Rn G 60 156 [.ref 0, .int x1, .int x2, .int x3, .int x4] σ = oX 0 σ1) : RW G 155 [.ref 0, .int x1, .int x2, .int x3, .int x4, .ref 63] σ = some (.inl (some (.int (1 : Int32))), σ1) := by
  rw [w_155, h, pXIt]
  rfl
set_option maxRecDepth 20000 in
theorem w_155_ex1 {G : Nat × (Nat → Int32)} {x1 x2 x3 x4 : Int32} {σ σ1 : aH} (h : Rn G 60 156 [.ref 0, .int x1, .int x2, .int x3, .int x4] σ = oX 1 σ1) : RW G 155 [.ref 0, .int x1, .int x2, .int x3, .int x4, .ref 63] σ = some (.inl (some (.int (2 : Int32))), σ1) := by
  rw [w_155, h, pXIt]
  rfl
set_option maxRecDepth 20000 in
theorem w_173 (G : Nat × (Nat → Int32)) (x1 x2 x3 x4 : Int32) (σ : aH) : RW G 173 [.ref 0, .int x1, .int x2, .int x3, .int x4, .ref 63] σ = aXI (Rn G 60 174 [.ref 0, .int x1, .int x2, .int x3, .int x4] σ) (fun v σ1 => some (.inl (some (.int (0 : Int32))), (aSL σ1 63 0 (v).toInt64))) (fun k σ1 => aTh (some [(9, 0, 19)]) 9 k (fun t => aLp (tkd G.1 G.2) tmi (aRun (tkd G.1 G.2) tmi tmt 60) M_173 32 (t, aDead [(19, [0, 1, 2, 3, 4, 5, 6])] t [some (.ref 0), some (.int x1), some (.int x2), some (.int x3), some (.int x4), some (.ref 63), none], [], σ1)) (some (.inr k, σ1))) := rfl
theorem w_173_ok {G : Nat × (Nat → Int32)} {x1 x2 x3 x4 : Int32} {σ σ1 : aH} {v : Int32} (h : Rn G 60 174 [.ref 0, .int x1, .int x2, .int x3, .int x4] σ = oI v σ1) : RW G 173 [.ref 0, .int x1, .int x2, .int x3, .int x4, .ref 63] σ = some (.inl (some (.int (0 : Int32))), (aSL σ1 63 0 (v).toInt64)) := by
  rw [w_173, h, pXI]
set_option maxRecDepth 20000 in
theorem w_173_ex0 {G : Nat × (Nat → Int32)} {x1 x2 x3 x4 : Int32} {σ σ1 : aH} (h : Rn G 60 174 [.ref 0, .int x1, .int x2, .int x3, .int x4] σ = oX 0 σ1) : RW G 173 [.ref 0, .int x1, .int x2, .int x3, .int x4, .ref 63] σ = some (.inl (some (.int (1 : Int32))), σ1) := by
  rw [w_173, h, pXIt]
  rfl
set_option maxRecDepth 20000 in
theorem w_182 (G : Nat × (Nat → Int32)) (x1 x2 x3 x4 : Int32) (σ : aH) : RW G 182 [.ref 0, .int x1, .int x2, .int x3, .int x4, .ref 63] σ = aXI (Rn G 60 183 [.ref 0, .int x1, .int x2, .int x3, .int x4] σ) (fun v σ1 => some (.inl (some (.int (0 : Int32))), (aSL σ1 63 0 (v).toInt64))) (fun k σ1 => aTh (some [(9, 0, 19)]) 9 k (fun t => aLp (tkd G.1 G.2) tmi (aRun (tkd G.1 G.2) tmi tmt 60) M_182 32 (t, aDead [(19, [0, 1, 2, 3, 4, 5, 6])] t [some (.ref 0), some (.int x1), some (.int x2), some (.int x3), some (.int x4), some (.ref 63), none], [], σ1)) (some (.inr k, σ1))) := rfl
theorem w_182_ok {G : Nat × (Nat → Int32)} {x1 x2 x3 x4 : Int32} {σ σ1 : aH} {v : Int32} (h : Rn G 60 183 [.ref 0, .int x1, .int x2, .int x3, .int x4] σ = oI v σ1) : RW G 182 [.ref 0, .int x1, .int x2, .int x3, .int x4, .ref 63] σ = some (.inl (some (.int (0 : Int32))), (aSL σ1 63 0 (v).toInt64)) := by
  rw [w_182, h, pXI]
set_option maxRecDepth 20000 in
theorem w_182_ex0 {G : Nat × (Nat → Int32)} {x1 x2 x3 x4 : Int32} {σ σ1 : aH} (h : Rn G 60 183 [.ref 0, .int x1, .int x2, .int x3, .int x4] σ = oX 0 σ1) : RW G 182 [.ref 0, .int x1, .int x2, .int x3, .int x4, .ref 63] σ = some (.inl (some (.int (1 : Int32))), σ1) := by
  rw [w_182, h, pXIt]
  rfl
set_option maxRecDepth 20000 in
theorem w_192 (G : Nat × (Nat → Int32)) (x1 x2 : Int32) (σ : aH) : RW G 192 [.ref 0, .int x1, .int x2, .ref 63] σ = aXI (Rn G 60 193 [.ref 0, .int x1, .int x2] σ) (fun v σ1 => some (.inl (some (.int (0 : Int32))), (aSL σ1 63 0 (v).toInt64))) (fun k σ1 => aTh (some [(5, 0, 15)]) 5 k (fun t => aLp (tkd G.1 G.2) tmi (aRun (tkd G.1 G.2) tmi tmt 60) M_192 34 (t, aDead [(15, [0, 1, 2, 3, 4])] t [some (.ref 0), some (.int x1), some (.int x2), some (.ref 63), none], [], σ1)) (some (.inr k, σ1))) := rfl
theorem w_192_ok {G : Nat × (Nat → Int32)} {x1 x2 : Int32} {σ σ1 : aH} {v : Int32} (h : Rn G 60 193 [.ref 0, .int x1, .int x2] σ = oI v σ1) : RW G 192 [.ref 0, .int x1, .int x2, .ref 63] σ = some (.inl (some (.int (0 : Int32))), (aSL σ1 63 0 (v).toInt64)) := by
  rw [w_192, h, pXI]
set_option maxRecDepth 20000 in
theorem w_192_ex0 {G : Nat × (Nat → Int32)} {x1 x2 : Int32} {σ σ1 : aH} (h : Rn G 60 193 [.ref 0, .int x1, .int x2] σ = oX 0 σ1) : RW G 192 [.ref 0, .int x1, .int x2, .ref 63] σ = some (.inl (some (.int (1 : Int32))), σ1) := by
  rw [w_192, h, pXIt]
  rfl
set_option maxRecDepth 20000 in
theorem w_196 (G : Nat × (Nat → Int32)) (x1 x2 x3 : Int32) (σ : aH) : RW G 196 [.ref 0, .int x1, .int x2, .int x3, .ref 63] σ = aXI (Rn G 60 197 [.ref 0, .int x1, .int x2, .int x3] σ) (fun v σ1 => if v = 0 then some (.inl (some (.int (0 : Int32))), (aSL σ1 63 0 (0 : Int64))) else some (.inl (some (.int (0 : Int32))), (aSL σ1 63 0 (1 : Int64)))) (fun k σ1 => aTh (some [(7, 0, 24)]) 7 k (fun t => aLp (tkd G.1 G.2) tmi (aRun (tkd G.1 G.2) tmi tmt 60) M_196 33 (t, aDead [(24, [0, 1, 2, 3, 4, 5])] t [some (.ref 0), some (.int x1), some (.int x2), some (.int x3), some (.ref 63), none], [], σ1)) (some (.inr k, σ1))) := rfl
theorem w_196_ok {G : Nat × (Nat → Int32)} {x1 x2 x3 : Int32} {σ σ1 : aH} {v : Int32} (h : Rn G 60 197 [.ref 0, .int x1, .int x2, .int x3] σ = oI v σ1) : RW G 196 [.ref 0, .int x1, .int x2, .int x3, .ref 63] σ = if v = 0 then some (.inl (some (.int (0 : Int32))), (aSL σ1 63 0 (0 : Int64))) else some (.inl (some (.int (0 : Int32))), (aSL σ1 63 0 (1 : Int64))) := by
  rw [w_196, h, pXI]
set_option maxRecDepth 20000 in
theorem w_196_ex0 {G : Nat × (Nat → Int32)} {x1 x2 x3 : Int32} {σ σ1 : aH} (h : Rn G 60 197 [.ref 0, .int x1, .int x2, .int x3] σ = oX 0 σ1) : RW G 196 [.ref 0, .int x1, .int x2, .int x3, .ref 63] σ = some (.inl (some (.int (1 : Int32))), σ1) := by
  rw [w_196, h, pXIt]
  rfl
set_option maxRecDepth 20000 in
theorem w_206 (G : Nat × (Nat → Int32)) (x1 x2 : Int32) (σ : aH) : RW G 206 [.ref 0, .int x1, .int x2, .ref 63] σ = aXI (Rn G 60 207 [.ref 0, .int x1, .int x2] σ) (fun v σ1 => some (.inl (some (.int (0 : Int32))), (aSL σ1 63 0 (v).toInt64))) (fun k σ1 => aTh (some [(5, 0, 15)]) 5 k (fun t => aLp (tkd G.1 G.2) tmi (aRun (tkd G.1 G.2) tmi tmt 60) M_206 34 (t, aDead [(15, [0, 1, 2, 3, 4])] t [some (.ref 0), some (.int x1), some (.int x2), some (.ref 63), none], [], σ1)) (some (.inr k, σ1))) := rfl
theorem w_206_ok {G : Nat × (Nat → Int32)} {x1 x2 : Int32} {σ σ1 : aH} {v : Int32} (h : Rn G 60 207 [.ref 0, .int x1, .int x2] σ = oI v σ1) : RW G 206 [.ref 0, .int x1, .int x2, .ref 63] σ = some (.inl (some (.int (0 : Int32))), (aSL σ1 63 0 (v).toInt64)) := by
  rw [w_206, h, pXI]
set_option maxRecDepth 20000 in
theorem w_206_ex0 {G : Nat × (Nat → Int32)} {x1 x2 : Int32} {σ σ1 : aH} (h : Rn G 60 207 [.ref 0, .int x1, .int x2] σ = oX 0 σ1) : RW G 206 [.ref 0, .int x1, .int x2, .ref 63] σ = some (.inl (some (.int (1 : Int32))), σ1) := by
  rw [w_206, h, pXIt]
  rfl
set_option maxRecDepth 20000 in
theorem w_210 (G : Nat × (Nat → Int32)) (x1 x2 : Int32) (σ : aH) : RW G 210 [.ref 0, .int x1, .int x2, .ref 63] σ = aXI (Rn G 60 211 [.ref 0, .int x1, .int x2] σ) (fun v σ1 => some (.inl (some (.int (0 : Int32))), (aSL σ1 63 0 (v).toInt64))) (fun k σ1 => aTh (some [(5, 0, 15)]) 5 k (fun t => aLp (tkd G.1 G.2) tmi (aRun (tkd G.1 G.2) tmi tmt 60) M_210 34 (t, aDead [(15, [0, 1, 2, 3, 4])] t [some (.ref 0), some (.int x1), some (.int x2), some (.ref 63), none], [], σ1)) (some (.inr k, σ1))) := rfl
theorem w_210_ok {G : Nat × (Nat → Int32)} {x1 x2 : Int32} {σ σ1 : aH} {v : Int32} (h : Rn G 60 211 [.ref 0, .int x1, .int x2] σ = oI v σ1) : RW G 210 [.ref 0, .int x1, .int x2, .ref 63] σ = some (.inl (some (.int (0 : Int32))), (aSL σ1 63 0 (v).toInt64)) := by
  rw [w_210, h, pXI]
set_option maxRecDepth 20000 in
theorem w_210_ex0 {G : Nat × (Nat → Int32)} {x1 x2 : Int32} {σ σ1 : aH} (h : Rn G 60 211 [.ref 0, .int x1, .int x2] σ = oX 0 σ1) : RW G 210 [.ref 0, .int x1, .int x2, .ref 63] σ = some (.inl (some (.int (1 : Int32))), σ1) := by
  rw [w_210, h, pXIt]
  rfl
set_option maxRecDepth 20000 in
theorem w_218 (G : Nat × (Nat → Int32)) (x1 : Int32) (σ : aH) : RW G 218 [.ref 0, .int x1, .ref 63] σ = aXI (Rn G 60 219 [.ref 0, .int x1] σ) (fun v σ1 => some (.inl (some (.int (0 : Int32))), (aSL σ1 63 0 (v).toInt64))) (fun k σ1 => aTh (some [(4, 0, 13)]) 4 k (fun t => aLp (tkd G.1 G.2) tmi (aRun (tkd G.1 G.2) tmi tmt 60) M_218 35 (t, aDead [(13, [0, 1, 2, 3])] t [some (.ref 0), some (.int x1), some (.ref 63), none], [], σ1)) (some (.inr k, σ1))) := rfl
theorem w_218_ok {G : Nat × (Nat → Int32)} {x1 : Int32} {σ σ1 : aH} {v : Int32} (h : Rn G 60 219 [.ref 0, .int x1] σ = oI v σ1) : RW G 218 [.ref 0, .int x1, .ref 63] σ = some (.inl (some (.int (0 : Int32))), (aSL σ1 63 0 (v).toInt64)) := by
  rw [w_218, h, pXI]
set_option maxRecDepth 20000 in
theorem w_218_ex0 {G : Nat × (Nat → Int32)} {x1 : Int32} {σ σ1 : aH} (h : Rn G 60 219 [.ref 0, .int x1] σ = oX 0 σ1) : RW G 218 [.ref 0, .int x1, .ref 63] σ = some (.inl (some (.int (1 : Int32))), σ1) := by
  rw [w_218, h, pXIt]
  rfl
set_option maxRecDepth 20000 in
theorem w_230 (G : Nat × (Nat → Int32)) (x1 x2 : Int32) (σ : aH) : RW G 230 [.ref 0, .int x1, .int x2, .ref 63] σ = aXI (Rn G 60 231 [.ref 0, .int x1, .int x2] σ) (fun v σ1 => some (.inl (some (.int (0 : Int32))), (aSL σ1 63 0 (v).toInt64))) (fun k σ1 => aTh (some [(5, 0, 15)]) 5 k (fun t => aLp (tkd G.1 G.2) tmi (aRun (tkd G.1 G.2) tmi tmt 60) M_230 34 (t, aDead [(15, [0, 1, 2, 3, 4])] t [some (.ref 0), some (.int x1), some (.int x2), some (.ref 63), none], [], σ1)) (some (.inr k, σ1))) := rfl
theorem w_230_ok {G : Nat × (Nat → Int32)} {x1 x2 : Int32} {σ σ1 : aH} {v : Int32} (h : Rn G 60 231 [.ref 0, .int x1, .int x2] σ = oI v σ1) : RW G 230 [.ref 0, .int x1, .int x2, .ref 63] σ = some (.inl (some (.int (0 : Int32))), (aSL σ1 63 0 (v).toInt64)) := by
  rw [w_230, h, pXI]
set_option maxRecDepth 20000 in
theorem w_230_ex0 {G : Nat × (Nat → Int32)} {x1 x2 : Int32} {σ σ1 : aH} (h : Rn G 60 231 [.ref 0, .int x1, .int x2] σ = oX 0 σ1) : RW G 230 [.ref 0, .int x1, .int x2, .ref 63] σ = some (.inl (some (.int (1 : Int32))), σ1) := by
  rw [w_230, h, pXIt]
  rfl
set_option maxRecDepth 20000 in
theorem w_243 (G : Nat × (Nat → Int32)) (x1 : Int32) (σ : aH) : RW G 243 [.ref 0, .int x1, .ref 63] σ = aXI (Rn G 60 244 [.ref 0, .int x1] σ) (fun v σ1 => some (.inl (some (.int (0 : Int32))), (aSL σ1 63 0 (v).toInt64))) (fun k σ1 => aTh (some [(4, 0, 13)]) 4 k (fun t => aLp (tkd G.1 G.2) tmi (aRun (tkd G.1 G.2) tmi tmt 60) M_243 35 (t, aDead [(13, [0, 1, 2, 3])] t [some (.ref 0), some (.int x1), some (.ref 63), none], [], σ1)) (some (.inr k, σ1))) := rfl
theorem w_243_ok {G : Nat × (Nat → Int32)} {x1 : Int32} {σ σ1 : aH} {v : Int32} (h : Rn G 60 244 [.ref 0, .int x1] σ = oI v σ1) : RW G 243 [.ref 0, .int x1, .ref 63] σ = some (.inl (some (.int (0 : Int32))), (aSL σ1 63 0 (v).toInt64)) := by
  rw [w_243, h, pXI]
set_option maxRecDepth 20000 in
theorem w_243_ex0 {G : Nat × (Nat → Int32)} {x1 : Int32} {σ σ1 : aH} (h : Rn G 60 244 [.ref 0, .int x1] σ = oX 0 σ1) : RW G 243 [.ref 0, .int x1, .ref 63] σ = some (.inl (some (.int (1 : Int32))), σ1) := by
  rw [w_243, h, pXIt]
  rfl
set_option maxRecDepth 20000 in
theorem w_247 (G : Nat × (Nat → Int32)) (x1 x2 x3 x4 : Int32) (σ : aH) : RW G 247 [.ref 0, .int x1, .int x2, .int x3, .int x4, .ref 63] σ = aXI (Rn G 60 248 [.ref 0, .int x1, .int x2, .int x3, .int x4] σ) (fun v σ1 => some (.inl (some (.int (0 : Int32))), (aSL σ1 63 0 (v).toInt64))) (fun k σ1 => aTh (some [(9, 0, 19)]) 9 k (fun t => aLp (tkd G.1 G.2) tmi (aRun (tkd G.1 G.2) tmi tmt 60) M_247 32 (t, aDead [(19, [0, 1, 2, 3, 4, 5, 6])] t [some (.ref 0), some (.int x1), some (.int x2), some (.int x3), some (.int x4), some (.ref 63), none], [], σ1)) (some (.inr k, σ1))) := rfl
theorem w_247_ok {G : Nat × (Nat → Int32)} {x1 x2 x3 x4 : Int32} {σ σ1 : aH} {v : Int32} (h : Rn G 60 248 [.ref 0, .int x1, .int x2, .int x3, .int x4] σ = oI v σ1) : RW G 247 [.ref 0, .int x1, .int x2, .int x3, .int x4, .ref 63] σ = some (.inl (some (.int (0 : Int32))), (aSL σ1 63 0 (v).toInt64)) := by
  rw [w_247, h, pXI]
set_option maxRecDepth 20000 in
theorem w_247_ex0 {G : Nat × (Nat → Int32)} {x1 x2 x3 x4 : Int32} {σ σ1 : aH} (h : Rn G 60 248 [.ref 0, .int x1, .int x2, .int x3, .int x4] σ = oX 0 σ1) : RW G 247 [.ref 0, .int x1, .int x2, .int x3, .int x4, .ref 63] σ = some (.inl (some (.int (1 : Int32))), σ1) := by
  rw [w_247, h, pXIt]
  rfl
set_option maxRecDepth 20000 in
theorem w_259 (G : Nat × (Nat → Int32)) (x1 : Int32) (σ : aH) : RW G 259 [.ref 0, .int x1, .ref 63] σ = aXI (Rn G 60 260 [.ref 0, .int x1] σ) (fun v σ1 => some (.inl (some (.int (0 : Int32))), (aSL σ1 63 0 (v).toInt64))) (fun k σ1 => aTh (some [(4, 0, 13)]) 4 k (fun t => aLp (tkd G.1 G.2) tmi (aRun (tkd G.1 G.2) tmi tmt 60) M_259 35 (t, aDead [(13, [0, 1, 2, 3])] t [some (.ref 0), some (.int x1), some (.ref 63), none], [], σ1)) (some (.inr k, σ1))) := rfl
theorem w_259_ok {G : Nat × (Nat → Int32)} {x1 : Int32} {σ σ1 : aH} {v : Int32} (h : Rn G 60 260 [.ref 0, .int x1] σ = oI v σ1) : RW G 259 [.ref 0, .int x1, .ref 63] σ = some (.inl (some (.int (0 : Int32))), (aSL σ1 63 0 (v).toInt64)) := by
  rw [w_259, h, pXI]
set_option maxRecDepth 20000 in
theorem w_259_ex0 {G : Nat × (Nat → Int32)} {x1 : Int32} {σ σ1 : aH} (h : Rn G 60 260 [.ref 0, .int x1] σ = oX 0 σ1) : RW G 259 [.ref 0, .int x1, .ref 63] σ = some (.inl (some (.int (1 : Int32))), σ1) := by
  rw [w_259, h, pXIt]
  rfl
set_option maxRecDepth 20000 in
theorem w_264 (G : Nat × (Nat → Int32)) (x1 : Int32) (σ : aH) : RW G 264 [.ref 0, .int x1, .ref 63] σ = aXI (Rn G 60 265 [.ref 0, .int x1] σ) (fun v σ1 => some (.inl (some (.int (0 : Int32))), (aSL σ1 63 0 (v).toInt64))) (fun k σ1 => aTh (some [(4, 0, 13), (4, 1, 16)]) 4 k (fun t => aLp (tkd G.1 G.2) tmi (aRun (tkd G.1 G.2) tmi tmt 60) M_264 35 (t, aDead [(13, [0, 1, 2, 3]), (16, [0, 1, 2, 3])] t [some (.ref 0), some (.int x1), some (.ref 63), none], [], σ1)) (some (.inr k, σ1))) := rfl
theorem w_264_ok {G : Nat × (Nat → Int32)} {x1 : Int32} {σ σ1 : aH} {v : Int32} (h : Rn G 60 265 [.ref 0, .int x1] σ = oI v σ1) : RW G 264 [.ref 0, .int x1, .ref 63] σ = some (.inl (some (.int (0 : Int32))), (aSL σ1 63 0 (v).toInt64)) := by
  rw [w_264, h, pXI]
set_option maxRecDepth 20000 in
theorem w_264_ex0 {G : Nat × (Nat → Int32)} {x1 : Int32} {σ σ1 : aH} (h : Rn G 60 265 [.ref 0, .int x1] σ = oX 0 σ1) : RW G 264 [.ref 0, .int x1, .ref 63] σ = some (.inl (some (.int (1 : Int32))), σ1) := by
  rw [w_264, h, pXIt]
  rfl
set_option maxRecDepth 20000 in
theorem w_264_ex1 {G : Nat × (Nat → Int32)} {x1 : Int32} {σ σ1 : aH} (h : Rn G 60 265 [.ref 0, .int x1] σ = oX 1 σ1) : RW G 264 [.ref 0, .int x1, .ref 63] σ = some (.inl (some (.int (2 : Int32))), σ1) := by
  rw [w_264, h, pXIt]
  rfl
set_option maxRecDepth 20000 in
theorem w_270 (G : Nat × (Nat → Int32)) (x1 : Int32) (σ : aH) : RW G 270 [.ref 0, .int x1, .ref 63] σ = aXI (Rn G 60 271 [.ref 0, .int x1] σ) (fun v σ1 => some (.inl (some (.int (0 : Int32))), (aSL σ1 63 0 (v).toInt64))) (fun k σ1 => aTh (some [(4, 0, 13), (4, 1, 16)]) 4 k (fun t => aLp (tkd G.1 G.2) tmi (aRun (tkd G.1 G.2) tmi tmt 60) M_270 35 (t, aDead [(13, [0, 1, 2, 3]), (16, [0, 1, 2, 3])] t [some (.ref 0), some (.int x1), some (.ref 63), none], [], σ1)) (some (.inr k, σ1))) := rfl
theorem w_270_ok {G : Nat × (Nat → Int32)} {x1 : Int32} {σ σ1 : aH} {v : Int32} (h : Rn G 60 271 [.ref 0, .int x1] σ = oI v σ1) : RW G 270 [.ref 0, .int x1, .ref 63] σ = some (.inl (some (.int (0 : Int32))), (aSL σ1 63 0 (v).toInt64)) := by
  rw [w_270, h, pXI]
set_option maxRecDepth 20000 in
theorem w_270_ex0 {G : Nat × (Nat → Int32)} {x1 : Int32} {σ σ1 : aH} (h : Rn G 60 271 [.ref 0, .int x1] σ = oX 0 σ1) : RW G 270 [.ref 0, .int x1, .ref 63] σ = some (.inl (some (.int (1 : Int32))), σ1) := by
  rw [w_270, h, pXIt]
  rfl
set_option maxRecDepth 20000 in
theorem w_270_ex1 {G : Nat × (Nat → Int32)} {x1 : Int32} {σ σ1 : aH} (h : Rn G 60 271 [.ref 0, .int x1] σ = oX 1 σ1) : RW G 270 [.ref 0, .int x1, .ref 63] σ = some (.inl (some (.int (2 : Int32))), σ1) := by
  rw [w_270, h, pXIt]
  rfl
set_option maxRecDepth 20000 in
theorem w_273 (G : Nat × (Nat → Int32)) (x1 : Int32) (σ : aH) : RW G 273 [.ref 0, .int x1, .ref 63] σ = aXI (Rn G 60 274 [.ref 0, .int x1] σ) (fun v σ1 => some (.inl (some (.int (0 : Int32))), (aSL σ1 63 0 (v).toInt64))) (fun k σ1 => aTh (some [(4, 0, 13)]) 4 k (fun t => aLp (tkd G.1 G.2) tmi (aRun (tkd G.1 G.2) tmi tmt 60) M_273 35 (t, aDead [(13, [0, 1, 2, 3])] t [some (.ref 0), some (.int x1), some (.ref 63), none], [], σ1)) (some (.inr k, σ1))) := rfl
theorem w_273_ok {G : Nat × (Nat → Int32)} {x1 : Int32} {σ σ1 : aH} {v : Int32} (h : Rn G 60 274 [.ref 0, .int x1] σ = oI v σ1) : RW G 273 [.ref 0, .int x1, .ref 63] σ = some (.inl (some (.int (0 : Int32))), (aSL σ1 63 0 (v).toInt64)) := by
  rw [w_273, h, pXI]
set_option maxRecDepth 20000 in
theorem w_273_ex0 {G : Nat × (Nat → Int32)} {x1 : Int32} {σ σ1 : aH} (h : Rn G 60 274 [.ref 0, .int x1] σ = oX 0 σ1) : RW G 273 [.ref 0, .int x1, .ref 63] σ = some (.inl (some (.int (1 : Int32))), σ1) := by
  rw [w_273, h, pXIt]
  rfl
set_option maxRecDepth 20000 in
theorem w_281 (G : Nat × (Nat → Int32)) (x1 x2 x3 : Int32) (σ : aH) : RW G 281 [.ref 0, .int x1, .int x2, .int x3, .ref 63] σ = aXI (Rn G 60 282 [.ref 0, .int x1, .int x2, .int x3] σ) (fun v σ1 => some (.inl (some (.int (0 : Int32))), (aSL σ1 63 0 (v).toInt64))) (fun k σ1 => aTh (some [(7, 1, 17)]) 7 k (fun t => aLp (tkd G.1 G.2) tmi (aRun (tkd G.1 G.2) tmi tmt 60) M_281 33 (t, aDead [(17, [0, 1, 2, 3, 4, 5])] t [some (.ref 0), some (.int x1), some (.int x2), some (.int x3), some (.ref 63), none], [], σ1)) (some (.inr k, σ1))) := rfl
theorem w_281_ok {G : Nat × (Nat → Int32)} {x1 x2 x3 : Int32} {σ σ1 : aH} {v : Int32} (h : Rn G 60 282 [.ref 0, .int x1, .int x2, .int x3] σ = oI v σ1) : RW G 281 [.ref 0, .int x1, .int x2, .int x3, .ref 63] σ = some (.inl (some (.int (0 : Int32))), (aSL σ1 63 0 (v).toInt64)) := by
  rw [w_281, h, pXI]
set_option maxRecDepth 20000 in
theorem w_281_ex1 {G : Nat × (Nat → Int32)} {x1 x2 x3 : Int32} {σ σ1 : aH} (h : Rn G 60 282 [.ref 0, .int x1, .int x2, .int x3] σ = oX 1 σ1) : RW G 281 [.ref 0, .int x1, .int x2, .int x3, .ref 63] σ = some (.inl (some (.int (1 : Int32))), σ1) := by
  rw [w_281, h, pXIt]
  rfl
set_option maxRecDepth 20000 in
theorem w_284 (G : Nat × (Nat → Int32)) (x1 x2 x3 x4 : Int32) (σ : aH) : RW G 284 [.ref 0, .int x1, .int x2, .int x3, .int x4, .ref 63] σ = aXI (Rn G 60 285 [.ref 0, .int x1, .int x2, .int x3, .int x4] σ) (fun v σ1 => some (.inl (some (.int (0 : Int32))), (aSL σ1 63 0 (v).toInt64))) (fun k σ1 => aTh (some [(9, 0, 19), (9, 1, 23)]) 9 k (fun t => aLp (tkd G.1 G.2) tmi (aRun (tkd G.1 G.2) tmi tmt 60) M_284 32 (t, aDead [(19, [0, 1, 2, 3, 4, 5, 6]), (23, [0, 1, 2, 3, 4, 5, 6])] t [some (.ref 0), some (.int x1), some (.int x2), some (.int x3), some (.int x4), some (.ref 63), none], [], σ1)) (some (.inr k, σ1))) := rfl
theorem w_284_ok {G : Nat × (Nat → Int32)} {x1 x2 x3 x4 : Int32} {σ σ1 : aH} {v : Int32} (h : Rn G 60 285 [.ref 0, .int x1, .int x2, .int x3, .int x4] σ = oI v σ1) : RW G 284 [.ref 0, .int x1, .int x2, .int x3, .int x4, .ref 63] σ = some (.inl (some (.int (0 : Int32))), (aSL σ1 63 0 (v).toInt64)) := by
  rw [w_284, h, pXI]
set_option maxRecDepth 20000 in
theorem w_284_ex0 {G : Nat × (Nat → Int32)} {x1 x2 x3 x4 : Int32} {σ σ1 : aH} (h : Rn G 60 285 [.ref 0, .int x1, .int x2, .int x3, .int x4] σ = oX 0 σ1) : RW G 284 [.ref 0, .int x1, .int x2, .int x3, .int x4, .ref 63] σ = some (.inl (some (.int (1 : Int32))), σ1) := by
  rw [w_284, h, pXIt]
  rfl
set_option maxRecDepth 20000 in
theorem w_284_ex1 {G : Nat × (Nat → Int32)} {x1 x2 x3 x4 : Int32} {σ σ1 : aH} (h : Rn G 60 285 [.ref 0, .int x1, .int x2, .int x3, .int x4] σ = oX 1 σ1) : RW G 284 [.ref 0, .int x1, .int x2, .int x3, .int x4, .ref 63] σ = some (.inl (some (.int (2 : Int32))), σ1) := by
  rw [w_284, h, pXIt]
  rfl
set_option maxRecDepth 20000 in
theorem w_289 (G : Nat × (Nat → Int32)) (x1 x2 x3 x4 : Int32) (σ : aH) : RW G 289 [.ref 0, .int x1, .int x2, .int x3, .int x4, .ref 63] σ = aXI (Rn G 60 290 [.ref 0, .int x1, .int x2, .int x3, .int x4] σ) (fun v σ1 => some (.inl (some (.int (0 : Int32))), (aSL σ1 63 0 (v).toInt64))) (fun k σ1 => aTh (some [(9, 0, 19)]) 9 k (fun t => aLp (tkd G.1 G.2) tmi (aRun (tkd G.1 G.2) tmi tmt 60) M_289 32 (t, aDead [(19, [0, 1, 2, 3, 4, 5, 6])] t [some (.ref 0), some (.int x1), some (.int x2), some (.int x3), some (.int x4), some (.ref 63), none], [], σ1)) (some (.inr k, σ1))) := rfl
theorem w_289_ok {G : Nat × (Nat → Int32)} {x1 x2 x3 x4 : Int32} {σ σ1 : aH} {v : Int32} (h : Rn G 60 290 [.ref 0, .int x1, .int x2, .int x3, .int x4] σ = oI v σ1) : RW G 289 [.ref 0, .int x1, .int x2, .int x3, .int x4, .ref 63] σ = some (.inl (some (.int (0 : Int32))), (aSL σ1 63 0 (v).toInt64)) := by
  rw [w_289, h, pXI]
set_option maxRecDepth 20000 in
theorem w_289_ex0 {G : Nat × (Nat → Int32)} {x1 x2 x3 x4 : Int32} {σ σ1 : aH} (h : Rn G 60 290 [.ref 0, .int x1, .int x2, .int x3, .int x4] σ = oX 0 σ1) : RW G 289 [.ref 0, .int x1, .int x2, .int x3, .int x4, .ref 63] σ = some (.inl (some (.int (1 : Int32))), σ1) := by
  rw [w_289, h, pXIt]
  rfl
set_option maxRecDepth 20000 in
theorem w_294 (G : Nat × (Nat → Int32)) (x1 x2 x3 : Int32) (σ : aH) : RW G 294 [.ref 0, .int x1, .int x2, .int x3, .ref 63] σ = aXI (Rn G 60 295 [.ref 0, .int x1, .int x2, .int x3] σ) (fun v σ1 => some (.inl (some (.int (0 : Int32))), (aSL σ1 63 0 (v).toInt64))) (fun k σ1 => aTh (some [(7, 0, 17)]) 7 k (fun t => aLp (tkd G.1 G.2) tmi (aRun (tkd G.1 G.2) tmi tmt 60) M_294 33 (t, aDead [(17, [0, 1, 2, 3, 4, 5])] t [some (.ref 0), some (.int x1), some (.int x2), some (.int x3), some (.ref 63), none], [], σ1)) (some (.inr k, σ1))) := rfl
theorem w_294_ok {G : Nat × (Nat → Int32)} {x1 x2 x3 : Int32} {σ σ1 : aH} {v : Int32} (h : Rn G 60 295 [.ref 0, .int x1, .int x2, .int x3] σ = oI v σ1) : RW G 294 [.ref 0, .int x1, .int x2, .int x3, .ref 63] σ = some (.inl (some (.int (0 : Int32))), (aSL σ1 63 0 (v).toInt64)) := by
  rw [w_294, h, pXI]
set_option maxRecDepth 20000 in
theorem w_294_ex0 {G : Nat × (Nat → Int32)} {x1 x2 x3 : Int32} {σ σ1 : aH} (h : Rn G 60 295 [.ref 0, .int x1, .int x2, .int x3] σ = oX 0 σ1) : RW G 294 [.ref 0, .int x1, .int x2, .int x3, .ref 63] σ = some (.inl (some (.int (1 : Int32))), σ1) := by
  rw [w_294, h, pXIt]
  rfl
set_option maxRecDepth 20000 in
theorem w_300 (G : Nat × (Nat → Int32)) (x1 : Int32) (σ : aH) : RW G 300 [.ref 0, .int x1, .ref 63] σ = aXI (Rn G 60 301 [.ref 0, .int x1] σ) (fun v σ1 => some (.inl (some (.int (0 : Int32))), (aSL σ1 63 0 (v).toInt64))) (fun k σ1 => aTh (some [(4, 0, 13)]) 4 k (fun t => aLp (tkd G.1 G.2) tmi (aRun (tkd G.1 G.2) tmi tmt 60) M_300 35 (t, aDead [(13, [0, 1, 2, 3])] t [some (.ref 0), some (.int x1), some (.ref 63), none], [], σ1)) (some (.inr k, σ1))) := rfl
theorem w_300_ok {G : Nat × (Nat → Int32)} {x1 : Int32} {σ σ1 : aH} {v : Int32} (h : Rn G 60 301 [.ref 0, .int x1] σ = oI v σ1) : RW G 300 [.ref 0, .int x1, .ref 63] σ = some (.inl (some (.int (0 : Int32))), (aSL σ1 63 0 (v).toInt64)) := by
  rw [w_300, h, pXI]
set_option maxRecDepth 20000 in
theorem w_300_ex0 {G : Nat × (Nat → Int32)} {x1 : Int32} {σ σ1 : aH} (h : Rn G 60 301 [.ref 0, .int x1] σ = oX 0 σ1) : RW G 300 [.ref 0, .int x1, .ref 63] σ = some (.inl (some (.int (1 : Int32))), σ1) := by
  rw [w_300, h, pXIt]
  rfl
