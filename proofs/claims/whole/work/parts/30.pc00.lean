/-! ===== the methods in pieces, as equations (by wip/gen/emit_eqs2.py) ===== -/
set_option maxRecDepth 20000 in
theorem q_0_0 (G : Nat × (Nat → Int32)) (d : Nat) (x1 : Int32) (x2 : Int32) (x3 : Int32) (x4 : Int32) (x5 : Int32) (σ : aH) : Lq G d M_0 (0, [some (.ref 0), some (.int x1), some (.int x2), some (.int x3), some (.int x4), some (.int x5)], [], σ) = Lq G d M_0 (13, [some (.ref 0), some (.int x1), some (.int x2), some (.int x3), some (.int x4), some (.int x5)], [.int (700 : Int32), .int ((σ.1 1 1) + (20 : Int32))], σ) :=
  (aUn_eq (tkd G.1 G.2) tmi (aRun (tkd G.1 G.2) tmi tmt d) M_0 [] 6 (0, [some (.ref 0), some (.int x1), some (.int x2), some (.int x3), some (.int x4), some (.int x5)], [], σ)).trans rfl
set_option maxRecDepth 20000 in
theorem q_0_1 (G : Nat × (Nat → Int32)) (d : Nat) (x1 : Int32) (x2 : Int32) (x3 : Int32) (x4 : Int32) (x5 : Int32) (s0 : Int32) (s1 : Int32) (σ : aH) : Lq G d M_0 (13, [some (.ref 0), some (.int x1), some (.int x2), some (.int x3), some (.int x4), some (.int x5)], [.int s0, .int s1], σ) = if s1 ≤ s0 then Lq G d M_0 (18, [some (.ref 0), some (.int x1), some (.int x2), some (.int x3), some (.int x4), some (.int x5)], [], σ) else Lq G d M_0 (16, [some (.ref 0), some (.int x1), some (.int x2), some (.int x3), some (.int x4), some (.int x5)], [], σ) :=
  (aUn_eq (tkd G.1 G.2) tmi (aRun (tkd G.1 G.2) tmi tmt d) M_0 [] 1 (13, [some (.ref 0), some (.int x1), some (.int x2), some (.int x3), some (.int x4), some (.int x5)], [.int s0, .int s1], σ)).trans rfl
set_option maxRecDepth 20000 in
theorem q_0_2 (G : Nat × (Nat → Int32)) (d : Nat) (x1 : Int32) (x2 : Int32) (x3 : Int32) (x4 : Int32) (x5 : Int32) (σ : aH) : Lq G d M_0 (18, [some (.ref 0), some (.int x1), some (.int x2), some (.int x3), some (.int x4), some (.int x5)], [], σ) = Lq G d M_0 (23, [some (.ref 0), some (.int x1), some (.int x2), some (.int x3), some (.int x4), some (.int x5)], [.int x1, .ref 1], σ) :=
  (aUn_eq (tkd G.1 G.2) tmi (aRun (tkd G.1 G.2) tmi tmt d) M_0 [] 3 (18, [some (.ref 0), some (.int x1), some (.int x2), some (.int x3), some (.int x4), some (.int x5)], [], σ)).trans rfl
set_option maxRecDepth 20000 in
theorem q_0_3 (G : Nat × (Nat → Int32)) (d : Nat) (x1 : Int32) (x2 : Int32) (x3 : Int32) (x4 : Int32) (x5 : Int32) (s0 : Int32) (σ : aH) : Lq G d M_0 (23, [some (.ref 0), some (.int x1), some (.int x2), some (.int x3), some (.int x4), some (.int x5)], [.int s0, .ref 1], σ) = aCV (Rn G d 1 [.ref 1, .int s0] σ) fun σ1 => Lq G d M_0 (26, [some (.ref 0), some (.int x1), some (.int x2), some (.int x3), some (.int x4), some (.int x5)], [], σ1) :=
  (aUn_eq (tkd G.1 G.2) tmi (aRun (tkd G.1 G.2) tmi tmt d) M_0 [] 1 (23, [some (.ref 0), some (.int x1), some (.int x2), some (.int x3), some (.int x4), some (.int x5)], [.int s0, .ref 1], σ)).trans rfl
set_option maxRecDepth 20000 in
theorem q_0_4 (G : Nat × (Nat → Int32)) (d : Nat) (x1 : Int32) (x2 : Int32) (x3 : Int32) (x4 : Int32) (x5 : Int32) (σ : aH) : Lq G d M_0 (26, [some (.ref 0), some (.int x1), some (.int x2), some (.int x3), some (.int x4), some (.int x5)], [], σ) = Lq G d M_0 (31, [some (.ref 0), some (.int x1), some (.int x2), some (.int x3), some (.int x4), some (.int x5)], [.int x2, .ref 1], σ) :=
  (aUn_eq (tkd G.1 G.2) tmi (aRun (tkd G.1 G.2) tmi tmt d) M_0 [] 3 (26, [some (.ref 0), some (.int x1), some (.int x2), some (.int x3), some (.int x4), some (.int x5)], [], σ)).trans rfl
set_option maxRecDepth 20000 in
theorem q_0_5 (G : Nat × (Nat → Int32)) (d : Nat) (x1 : Int32) (x2 : Int32) (x3 : Int32) (x4 : Int32) (x5 : Int32) (s0 : Int32) (σ : aH) : Lq G d M_0 (31, [some (.ref 0), some (.int x1), some (.int x2), some (.int x3), some (.int x4), some (.int x5)], [.int s0, .ref 1], σ) = aCV (Rn G d 1 [.ref 1, .int s0] σ) fun σ1 => Lq G d M_0 (34, [some (.ref 0), some (.int x1), some (.int x2), some (.int x3), some (.int x4), some (.int x5)], [], σ1) :=
  (aUn_eq (tkd G.1 G.2) tmi (aRun (tkd G.1 G.2) tmi tmt d) M_0 [] 1 (31, [some (.ref 0), some (.int x1), some (.int x2), some (.int x3), some (.int x4), some (.int x5)], [.int s0, .ref 1], σ)).trans rfl
set_option maxRecDepth 20000 in
theorem q_0_6 (G : Nat × (Nat → Int32)) (d : Nat) (x1 : Int32) (x2 : Int32) (x3 : Int32) (x4 : Int32) (x5 : Int32) (σ : aH) : Lq G d M_0 (34, [some (.ref 0), some (.int x1), some (.int x2), some (.int x3), some (.int x4), some (.int x5)], [], σ) = Lq G d M_0 (39, [some (.ref 0), some (.int x1), some (.int x2), some (.int x3), some (.int x4), some (.int x5)], [.int x3, .ref 1], σ) :=
  (aUn_eq (tkd G.1 G.2) tmi (aRun (tkd G.1 G.2) tmi tmt d) M_0 [] 3 (34, [some (.ref 0), some (.int x1), some (.int x2), some (.int x3), some (.int x4), some (.int x5)], [], σ)).trans rfl
set_option maxRecDepth 20000 in
theorem q_0_7 (G : Nat × (Nat → Int32)) (d : Nat) (x1 : Int32) (x2 : Int32) (x3 : Int32) (x4 : Int32) (x5 : Int32) (s0 : Int32) (σ : aH) : Lq G d M_0 (39, [some (.ref 0), some (.int x1), some (.int x2), some (.int x3), some (.int x4), some (.int x5)], [.int s0, .ref 1], σ) = aCV (Rn G d 1 [.ref 1, .int s0] σ) fun σ1 => Lq G d M_0 (42, [some (.ref 0), some (.int x1), some (.int x2), some (.int x3), some (.int x4), some (.int x5)], [], σ1) :=
  (aUn_eq (tkd G.1 G.2) tmi (aRun (tkd G.1 G.2) tmi tmt d) M_0 [] 1 (39, [some (.ref 0), some (.int x1), some (.int x2), some (.int x3), some (.int x4), some (.int x5)], [.int s0, .ref 1], σ)).trans rfl
set_option maxRecDepth 20000 in
theorem q_0_8 (G : Nat × (Nat → Int32)) (d : Nat) (x1 : Int32) (x2 : Int32) (x3 : Int32) (x4 : Int32) (x5 : Int32) (σ : aH) : Lq G d M_0 (42, [some (.ref 0), some (.int x1), some (.int x2), some (.int x3), some (.int x4), some (.int x5)], [], σ) = Lq G d M_0 (48, [some (.ref 0), some (.int x1), some (.int x2), some (.int x3), some (.int x4), some (.int x5)], [.int x4, .ref 1], σ) :=
  (aUn_eq (tkd G.1 G.2) tmi (aRun (tkd G.1 G.2) tmi tmt d) M_0 [] 3 (42, [some (.ref 0), some (.int x1), some (.int x2), some (.int x3), some (.int x4), some (.int x5)], [], σ)).trans rfl
set_option maxRecDepth 20000 in
theorem q_0_9 (G : Nat × (Nat → Int32)) (d : Nat) (x1 : Int32) (x2 : Int32) (x3 : Int32) (x4 : Int32) (x5 : Int32) (s0 : Int32) (σ : aH) : Lq G d M_0 (48, [some (.ref 0), some (.int x1), some (.int x2), some (.int x3), some (.int x4), some (.int x5)], [.int s0, .ref 1], σ) = aCV (Rn G d 1 [.ref 1, .int s0] σ) fun σ1 => Lq G d M_0 (51, [some (.ref 0), some (.int x1), some (.int x2), some (.int x3), some (.int x4), some (.int x5)], [], σ1) :=
  (aUn_eq (tkd G.1 G.2) tmi (aRun (tkd G.1 G.2) tmi tmt d) M_0 [] 1 (48, [some (.ref 0), some (.int x1), some (.int x2), some (.int x3), some (.int x4), some (.int x5)], [.int s0, .ref 1], σ)).trans rfl
set_option maxRecDepth 20000 in
theorem q_0_10 (G : Nat × (Nat → Int32)) (d : Nat) (x1 : Int32) (x2 : Int32) (x3 : Int32) (x4 : Int32) (x5 : Int32) (σ : aH) : Lq G d M_0 (51, [some (.ref 0), some (.int x1), some (.int x2), some (.int x3), some (.int x4), some (.int x5)], [], σ) = Lq G d M_0 (57, [some (.ref 0), some (.int x1), some (.int x2), some (.int x3), some (.int x4), some (.int x5)], [.int x5, .ref 1], σ) :=
  (aUn_eq (tkd G.1 G.2) tmi (aRun (tkd G.1 G.2) tmi tmt d) M_0 [] 3 (51, [some (.ref 0), some (.int x1), some (.int x2), some (.int x3), some (.int x4), some (.int x5)], [], σ)).trans rfl
set_option maxRecDepth 20000 in
theorem q_0_11 (G : Nat × (Nat → Int32)) (d : Nat) (x1 : Int32) (x2 : Int32) (x3 : Int32) (x4 : Int32) (x5 : Int32) (s0 : Int32) (σ : aH) : Lq G d M_0 (57, [some (.ref 0), some (.int x1), some (.int x2), some (.int x3), some (.int x4), some (.int x5)], [.int s0, .ref 1], σ) = aCV (Rn G d 1 [.ref 1, .int s0] σ) fun σ1 => Lq G d M_0 (60, [some (.ref 0), some (.int x1), some (.int x2), some (.int x3), some (.int x4), some (.int x5)], [], σ1) :=
  (aUn_eq (tkd G.1 G.2) tmi (aRun (tkd G.1 G.2) tmi tmt d) M_0 [] 1 (57, [some (.ref 0), some (.int x1), some (.int x2), some (.int x3), some (.int x4), some (.int x5)], [.int s0, .ref 1], σ)).trans rfl
set_option maxRecDepth 20000 in
theorem q_0_12 (G : Nat × (Nat → Int32)) (d : Nat) (x1 : Int32) (x2 : Int32) (x3 : Int32) (x4 : Int32) (x5 : Int32) (σ : aH) : Lq G d M_0 (60, [some (.ref 0), some (.int x1), some (.int x2), some (.int x3), some (.int x4), some (.int x5)], [], σ) = Lq G d M_0 (67, [some (.ref 0), some (.int x1), some (.int x2), some (.int x3), some (.int x4), some (.int x5)], [.int (σ.1 1 1)], σ) :=
  (aUn_eq (tkd G.1 G.2) tmi (aRun (tkd G.1 G.2) tmi tmt d) M_0 [] 3 (60, [some (.ref 0), some (.int x1), some (.int x2), some (.int x3), some (.int x4), some (.int x5)], [], σ)).trans rfl
set_option maxRecDepth 20000 in
theorem q_0_13 (G : Nat × (Nat → Int32)) (d : Nat) (x1 : Int32) (x2 : Int32) (x3 : Int32) (x4 : Int32) (x5 : Int32) (s0 : Int32) (σ : aH) : Lq G d M_0 (67, [some (.ref 0), some (.int x1), some (.int x2), some (.int x3), some (.int x4), some (.int x5)], [.int s0], σ) = some (.inl (some (.int s0)), σ) :=
  (aUn_eq (tkd G.1 G.2) tmi (aRun (tkd G.1 G.2) tmi tmt d) M_0 [] 1 (67, [some (.ref 0), some (.int x1), some (.int x2), some (.int x3), some (.int x4), some (.int x5)], [.int s0], σ)).trans rfl
set_option maxRecDepth 20000 in
theorem q_0_14 (G : Nat × (Nat → Int32)) (d : Nat) (x1 : Int32) (x2 : Int32) (x3 : Int32) (x4 : Int32) (x5 : Int32) (σ : aH) : Lq G d M_0 (16, [some (.ref 0), some (.int x1), some (.int x2), some (.int x3), some (.int x4), some (.int x5)], [], σ) = Lq G d M_0 (17, [some (.ref 0), some (.int x1), some (.int x2), some (.int x3), some (.int x4), some (.int x5)], [.int (-1 : Int32)], σ) :=
  (aUn_eq (tkd G.1 G.2) tmi (aRun (tkd G.1 G.2) tmi tmt d) M_0 [] 1 (16, [some (.ref 0), some (.int x1), some (.int x2), some (.int x3), some (.int x4), some (.int x5)], [], σ)).trans rfl
set_option maxRecDepth 20000 in
theorem q_0_15 (G : Nat × (Nat → Int32)) (d : Nat) (x1 : Int32) (x2 : Int32) (x3 : Int32) (x4 : Int32) (x5 : Int32) (s0 : Int32) (σ : aH) : Lq G d M_0 (17, [some (.ref 0), some (.int x1), some (.int x2), some (.int x3), some (.int x4), some (.int x5)], [.int s0], σ) = some (.inl (some (.int s0)), σ) :=
  (aUn_eq (tkd G.1 G.2) tmi (aRun (tkd G.1 G.2) tmi tmt d) M_0 [] 1 (17, [some (.ref 0), some (.int x1), some (.int x2), some (.int x3), some (.int x4), some (.int x5)], [.int s0], σ)).trans rfl
set_option maxRecDepth 20000 in
theorem q_2_16 (G : Nat × (Nat → Int32)) (d : Nat) (x1 : Int32) (x2 : Int32) (x3 : Int32) (x4 : Int32) (x5 : Int32) (σ : aH) : Lq G d M_2 (0, [some (.ref 33), some (.int x1), some (.int x2), some (.int x3), some (.int x4), some (.int x5)], [], σ) = Lq G d M_2 (15, [some (.ref 33), some (.int x1), some (.int x2), some (.int x3), some (.int x4), some (.int x5)], [.int (700 : Int32), .int ((σ.1 33 15) + (20 : Int32))], (aSI σ 33 0 (0 : Int32))) :=
  (aUn_eq (tkd G.1 G.2) tmi (aRun (tkd G.1 G.2) tmi tmt d) M_2 [] 8 (0, [some (.ref 33), some (.int x1), some (.int x2), some (.int x3), some (.int x4), some (.int x5)], [], σ)).trans rfl
set_option maxRecDepth 20000 in
theorem q_2_17 (G : Nat × (Nat → Int32)) (d : Nat) (x1 : Int32) (x2 : Int32) (x3 : Int32) (x4 : Int32) (x5 : Int32) (s0 : Int32) (s1 : Int32) (σ : aH) : Lq G d M_2 (15, [some (.ref 33), some (.int x1), some (.int x2), some (.int x3), some (.int x4), some (.int x5)], [.int s0, .int s1], σ) = if s1 ≤ s0 then Lq G d M_2 (20, [some (.ref 33), some (.int x1), some (.int x2), some (.int x3), some (.int x4), some (.int x5)], [], σ) else Lq G d M_2 (18, [some (.ref 33), some (.int x1), some (.int x2), some (.int x3), some (.int x4), some (.int x5)], [], σ) :=
  (aUn_eq (tkd G.1 G.2) tmi (aRun (tkd G.1 G.2) tmi tmt d) M_2 [] 1 (15, [some (.ref 33), some (.int x1), some (.int x2), some (.int x3), some (.int x4), some (.int x5)], [.int s0, .int s1], σ)).trans rfl
set_option maxRecDepth 20000 in
theorem q_2_18 (G : Nat × (Nat → Int32)) (d : Nat) (x1 : Int32) (x2 : Int32) (x3 : Int32) (x4 : Int32) (x5 : Int32) (σ : aH) : Lq G d M_2 (20, [some (.ref 33), some (.int x1), some (.int x2), some (.int x3), some (.int x4), some (.int x5)], [], σ) = Lq G d M_2 (22, [some (.ref 33), some (.int x1), some (.int x2), some (.int x3), some (.int x4), some (.int x5)], [.int x1, .ref 33], σ) :=
  (aUn_eq (tkd G.1 G.2) tmi (aRun (tkd G.1 G.2) tmi tmt d) M_2 [] 2 (20, [some (.ref 33), some (.int x1), some (.int x2), some (.int x3), some (.int x4), some (.int x5)], [], σ)).trans rfl
set_option maxRecDepth 20000 in
theorem q_2_19 (G : Nat × (Nat → Int32)) (d : Nat) (x1 : Int32) (x2 : Int32) (x3 : Int32) (x4 : Int32) (x5 : Int32) (s0 : Int32) (σ : aH) : Lq G d M_2 (22, [some (.ref 33), some (.int x1), some (.int x2), some (.int x3), some (.int x4), some (.int x5)], [.int s0, .ref 33], σ) = aCV (Rn G d 3 [.ref 33, .int s0] σ) fun σ1 => Lq G d M_2 (25, [some (.ref 33), some (.int x1), some (.int x2), some (.int x3), some (.int x4), some (.int x5)], [], σ1) :=
  (aUn_eq (tkd G.1 G.2) tmi (aRun (tkd G.1 G.2) tmi tmt d) M_2 [] 1 (22, [some (.ref 33), some (.int x1), some (.int x2), some (.int x3), some (.int x4), some (.int x5)], [.int s0, .ref 33], σ)).trans rfl
set_option maxRecDepth 20000 in
theorem q_2_20 (G : Nat × (Nat → Int32)) (d : Nat) (x1 : Int32) (x2 : Int32) (x3 : Int32) (x4 : Int32) (x5 : Int32) (σ : aH) : Lq G d M_2 (25, [some (.ref 33), some (.int x1), some (.int x2), some (.int x3), some (.int x4), some (.int x5)], [], σ) = Lq G d M_2 (27, [some (.ref 33), some (.int x1), some (.int x2), some (.int x3), some (.int x4), some (.int x5)], [.int x2, .ref 33], σ) :=
  (aUn_eq (tkd G.1 G.2) tmi (aRun (tkd G.1 G.2) tmi tmt d) M_2 [] 2 (25, [some (.ref 33), some (.int x1), some (.int x2), some (.int x3), some (.int x4), some (.int x5)], [], σ)).trans rfl
set_option maxRecDepth 20000 in
theorem q_2_21 (G : Nat × (Nat → Int32)) (d : Nat) (x1 : Int32) (x2 : Int32) (x3 : Int32) (x4 : Int32) (x5 : Int32) (s0 : Int32) (σ : aH) : Lq G d M_2 (27, [some (.ref 33), some (.int x1), some (.int x2), some (.int x3), some (.int x4), some (.int x5)], [.int s0, .ref 33], σ) = aCV (Rn G d 3 [.ref 33, .int s0] σ) fun σ1 => Lq G d M_2 (30, [some (.ref 33), some (.int x1), some (.int x2), some (.int x3), some (.int x4), some (.int x5)], [], σ1) :=
  (aUn_eq (tkd G.1 G.2) tmi (aRun (tkd G.1 G.2) tmi tmt d) M_2 [] 1 (27, [some (.ref 33), some (.int x1), some (.int x2), some (.int x3), some (.int x4), some (.int x5)], [.int s0, .ref 33], σ)).trans rfl
set_option maxRecDepth 20000 in
theorem q_2_22 (G : Nat × (Nat → Int32)) (d : Nat) (x1 : Int32) (x2 : Int32) (x3 : Int32) (x4 : Int32) (x5 : Int32) (σ : aH) : Lq G d M_2 (30, [some (.ref 33), some (.int x1), some (.int x2), some (.int x3), some (.int x4), some (.int x5)], [], σ) = Lq G d M_2 (32, [some (.ref 33), some (.int x1), some (.int x2), some (.int x3), some (.int x4), some (.int x5)], [.int x3, .ref 33], σ) :=
  (aUn_eq (tkd G.1 G.2) tmi (aRun (tkd G.1 G.2) tmi tmt d) M_2 [] 2 (30, [some (.ref 33), some (.int x1), some (.int x2), some (.int x3), some (.int x4), some (.int x5)], [], σ)).trans rfl
set_option maxRecDepth 20000 in
theorem q_2_23 (G : Nat × (Nat → Int32)) (d : Nat) (x1 : Int32) (x2 : Int32) (x3 : Int32) (x4 : Int32) (x5 : Int32) (s0 : Int32) (σ : aH) : Lq G d M_2 (32, [some (.ref 33), some (.int x1), some (.int x2), some (.int x3), some (.int x4), some (.int x5)], [.int s0, .ref 33], σ) = aCV (Rn G d 3 [.ref 33, .int s0] σ) fun σ1 => Lq G d M_2 (35, [some (.ref 33), some (.int x1), some (.int x2), some (.int x3), some (.int x4), some (.int x5)], [], σ1) :=
  (aUn_eq (tkd G.1 G.2) tmi (aRun (tkd G.1 G.2) tmi tmt d) M_2 [] 1 (32, [some (.ref 33), some (.int x1), some (.int x2), some (.int x3), some (.int x4), some (.int x5)], [.int s0, .ref 33], σ)).trans rfl
set_option maxRecDepth 20000 in
theorem q_2_24 (G : Nat × (Nat → Int32)) (d : Nat) (x1 : Int32) (x2 : Int32) (x3 : Int32) (x4 : Int32) (x5 : Int32) (σ : aH) : Lq G d M_2 (35, [some (.ref 33), some (.int x1), some (.int x2), some (.int x3), some (.int x4), some (.int x5)], [], σ) = Lq G d M_2 (38, [some (.ref 33), some (.int x1), some (.int x2), some (.int x3), some (.int x4), some (.int x5)], [.int x4, .ref 33], σ) :=
  (aUn_eq (tkd G.1 G.2) tmi (aRun (tkd G.1 G.2) tmi tmt d) M_2 [] 2 (35, [some (.ref 33), some (.int x1), some (.int x2), some (.int x3), some (.int x4), some (.int x5)], [], σ)).trans rfl
set_option maxRecDepth 20000 in
theorem q_2_25 (G : Nat × (Nat → Int32)) (d : Nat) (x1 : Int32) (x2 : Int32) (x3 : Int32) (x4 : Int32) (x5 : Int32) (s0 : Int32) (σ : aH) : Lq G d M_2 (38, [some (.ref 33), some (.int x1), some (.int x2), some (.int x3), some (.int x4), some (.int x5)], [.int s0, .ref 33], σ) = aCV (Rn G d 3 [.ref 33, .int s0] σ) fun σ1 => Lq G d M_2 (41, [some (.ref 33), some (.int x1), some (.int x2), some (.int x3), some (.int x4), some (.int x5)], [], σ1) :=
  (aUn_eq (tkd G.1 G.2) tmi (aRun (tkd G.1 G.2) tmi tmt d) M_2 [] 1 (38, [some (.ref 33), some (.int x1), some (.int x2), some (.int x3), some (.int x4), some (.int x5)], [.int s0, .ref 33], σ)).trans rfl
set_option maxRecDepth 20000 in
theorem q_2_26 (G : Nat × (Nat → Int32)) (d : Nat) (x1 : Int32) (x2 : Int32) (x3 : Int32) (x4 : Int32) (x5 : Int32) (σ : aH) : Lq G d M_2 (41, [some (.ref 33), some (.int x1), some (.int x2), some (.int x3), some (.int x4), some (.int x5)], [], σ) = Lq G d M_2 (44, [some (.ref 33), some (.int x1), some (.int x2), some (.int x3), some (.int x4), some (.int x5)], [.int x5, .ref 33], σ) :=
  (aUn_eq (tkd G.1 G.2) tmi (aRun (tkd G.1 G.2) tmi tmt d) M_2 [] 2 (41, [some (.ref 33), some (.int x1), some (.int x2), some (.int x3), some (.int x4), some (.int x5)], [], σ)).trans rfl
set_option maxRecDepth 20000 in
theorem q_2_27 (G : Nat × (Nat → Int32)) (d : Nat) (x1 : Int32) (x2 : Int32) (x3 : Int32) (x4 : Int32) (x5 : Int32) (s0 : Int32) (σ : aH) : Lq G d M_2 (44, [some (.ref 33), some (.int x1), some (.int x2), some (.int x3), some (.int x4), some (.int x5)], [.int s0, .ref 33], σ) = aCV (Rn G d 3 [.ref 33, .int s0] σ) fun σ1 => Lq G d M_2 (47, [some (.ref 33), some (.int x1), some (.int x2), some (.int x3), some (.int x4), some (.int x5)], [], σ1) :=
  (aUn_eq (tkd G.1 G.2) tmi (aRun (tkd G.1 G.2) tmi tmt d) M_2 [] 1 (44, [some (.ref 33), some (.int x1), some (.int x2), some (.int x3), some (.int x4), some (.int x5)], [.int s0, .ref 33], σ)).trans rfl
set_option maxRecDepth 20000 in
theorem q_2_28 (G : Nat × (Nat → Int32)) (d : Nat) (x1 : Int32) (x2 : Int32) (x3 : Int32) (x4 : Int32) (x5 : Int32) (σ : aH) : Lq G d M_2 (47, [some (.ref 33), some (.int x1), some (.int x2), some (.int x3), some (.int x4), some (.int x5)], [], σ) = Lq G d M_2 (51, [some (.ref 33), some (.int x1), some (.int x2), some (.int x3), some (.int x4), some (.int x5)], [.int (σ.1 33 15)], σ) :=
  (aUn_eq (tkd G.1 G.2) tmi (aRun (tkd G.1 G.2) tmi tmt d) M_2 [] 2 (47, [some (.ref 33), some (.int x1), some (.int x2), some (.int x3), some (.int x4), some (.int x5)], [], σ)).trans rfl
set_option maxRecDepth 20000 in
theorem q_2_29 (G : Nat × (Nat → Int32)) (d : Nat) (x1 : Int32) (x2 : Int32) (x3 : Int32) (x4 : Int32) (x5 : Int32) (s0 : Int32) (σ : aH) : Lq G d M_2 (51, [some (.ref 33), some (.int x1), some (.int x2), some (.int x3), some (.int x4), some (.int x5)], [.int s0], σ) = some (.inl (some (.int s0)), σ) :=
  (aUn_eq (tkd G.1 G.2) tmi (aRun (tkd G.1 G.2) tmi tmt d) M_2 [] 1 (51, [some (.ref 33), some (.int x1), some (.int x2), some (.int x3), some (.int x4), some (.int x5)], [.int s0], σ)).trans rfl
set_option maxRecDepth 20000 in
theorem q_2_30 (G : Nat × (Nat → Int32)) (d : Nat) (x1 : Int32) (x2 : Int32) (x3 : Int32) (x4 : Int32) (x5 : Int32) (σ : aH) : Lq G d M_2 (18, [some (.ref 33), some (.int x1), some (.int x2), some (.int x3), some (.int x4), some (.int x5)], [], σ) = Lq G d M_2 (19, [some (.ref 33), some (.int x1), some (.int x2), some (.int x3), some (.int x4), some (.int x5)], [.int (-1 : Int32)], σ) :=
  (aUn_eq (tkd G.1 G.2) tmi (aRun (tkd G.1 G.2) tmi tmt d) M_2 [] 1 (18, [some (.ref 33), some (.int x1), some (.int x2), some (.int x3), some (.int x4), some (.int x5)], [], σ)).trans rfl
set_option maxRecDepth 20000 in
theorem q_2_31 (G : Nat × (Nat → Int32)) (d : Nat) (x1 : Int32) (x2 : Int32) (x3 : Int32) (x4 : Int32) (x5 : Int32) (s0 : Int32) (σ : aH) : Lq G d M_2 (19, [some (.ref 33), some (.int x1), some (.int x2), some (.int x3), some (.int x4), some (.int x5)], [.int s0], σ) = some (.inl (some (.int s0)), σ) :=
  (aUn_eq (tkd G.1 G.2) tmi (aRun (tkd G.1 G.2) tmi tmt d) M_2 [] 1 (19, [some (.ref 33), some (.int x1), some (.int x2), some (.int x3), some (.int x4), some (.int x5)], [.int s0], σ)).trans rfl
set_option maxRecDepth 20000 in
theorem q_5_32 (G : Nat × (Nat → Int32)) (d : Nat) (x1 : Int32) (σ : aH) : Lq G d M_5 (0, [some (.ref 0), some (.int x1)], [], σ) = Lq G d M_5 (1, [some (.ref 0), some (.int x1)], [.int x1], σ) :=
  (aUn_eq (tkd G.1 G.2) tmi (aRun (tkd G.1 G.2) tmi tmt d) M_5 [] 1 (0, [some (.ref 0), some (.int x1)], [], σ)).trans rfl
set_option maxRecDepth 20000 in
theorem q_5_33 (G : Nat × (Nat → Int32)) (d : Nat) (x1 : Int32) (s0 : Int32) (σ : aH) : Lq G d M_5 (1, [some (.ref 0), some (.int x1)], [.int s0], σ) = if s0 < 0 then Lq G d M_5 (19, [some (.ref 0), some (.int x1)], [], σ) else Lq G d M_5 (4, [some (.ref 0), some (.int x1)], [], σ) :=
  (aUn_eq (tkd G.1 G.2) tmi (aRun (tkd G.1 G.2) tmi tmt d) M_5 [] 1 (1, [some (.ref 0), some (.int x1)], [.int s0], σ)).trans rfl
set_option maxRecDepth 20000 in
theorem q_5_34 (G : Nat × (Nat → Int32)) (d : Nat) (x1 : Int32) (σ : aH) : Lq G d M_5 (19, [some (.ref 0), some (.int x1)], [], σ) = Lq G d M_5 (20, [some (.ref 0), some (.int x1)], [.int (0 : Int32)], σ) :=
  (aUn_eq (tkd G.1 G.2) tmi (aRun (tkd G.1 G.2) tmi tmt d) M_5 [] 1 (19, [some (.ref 0), some (.int x1)], [], σ)).trans rfl
set_option maxRecDepth 20000 in
theorem q_5_35 (G : Nat × (Nat → Int32)) (d : Nat) (x1 : Int32) (s0 : Int32) (σ : aH) : Lq G d M_5 (20, [some (.ref 0), some (.int x1)], [.int s0], σ) = aXV (Rn G d 6 [.int s0] σ) (fun σ1 => Lq G d M_5 (23, [some (.ref 0), some (.int x1)], [], σ1)) (fun k2 σ3 => some (.inr k2, σ3)) :=
  (aUn_eq (tkd G.1 G.2) tmi (aRun (tkd G.1 G.2) tmi tmt d) M_5 [] 1 (20, [some (.ref 0), some (.int x1)], [.int s0], σ)).trans rfl
set_option maxRecDepth 20000 in
theorem q_5_36 (G : Nat × (Nat → Int32)) (d : Nat) (x1 : Int32) (σ : aH) : Lq G d M_5 (23, [some (.ref 0), some (.int x1)], [], σ) = Lq G d M_5 (28, [some (.ref 0), some (.int x1)], [.int x1, .ref 1], σ) :=
  (aUn_eq (tkd G.1 G.2) tmi (aRun (tkd G.1 G.2) tmi tmt d) M_5 [] 3 (23, [some (.ref 0), some (.int x1)], [], σ)).trans rfl
set_option maxRecDepth 20000 in
theorem q_5_37 (G : Nat × (Nat → Int32)) (d : Nat) (x1 : Int32) (s0 : Int32) (σ : aH) : Lq G d M_5 (28, [some (.ref 0), some (.int x1)], [.int s0, .ref 1], σ) = aCV (Rn G d 7 [.ref 1, .int s0] σ) fun σ1 => Lq G d M_5 (31, [some (.ref 0), some (.int x1)], [], σ1) :=
  (aUn_eq (tkd G.1 G.2) tmi (aRun (tkd G.1 G.2) tmi tmt d) M_5 [] 1 (28, [some (.ref 0), some (.int x1)], [.int s0, .ref 1], σ)).trans rfl
set_option maxRecDepth 20000 in
theorem q_5_38 (G : Nat × (Nat → Int32)) (d : Nat) (x1 : Int32) (σ : aH) : Lq G d M_5 (31, [some (.ref 0), some (.int x1)], [], σ) = Lq G d M_5 (43, [some (.ref 0), some (.int x1)], [.ref 11, .ref 7, .ref 1], σ) :=
  (aUn_eq (tkd G.1 G.2) tmi (aRun (tkd G.1 G.2) tmi tmt d) M_5 [] 6 (31, [some (.ref 0), some (.int x1)], [], σ)).trans rfl
set_option maxRecDepth 20000 in
theorem q_5_39 (G : Nat × (Nat → Int32)) (d : Nat) (x1 : Int32) (σ : aH) : Lq G d M_5 (43, [some (.ref 0), some (.int x1)], [.ref 11, .ref 7, .ref 1], σ) = aCV (Rn G d 22 [.ref 1, .ref 7, .ref 11] σ) fun σ1 => Lq G d M_5 (46, [some (.ref 0), some (.int x1)], [], σ1) :=
  (aUn_eq (tkd G.1 G.2) tmi (aRun (tkd G.1 G.2) tmi tmt d) M_5 [] 1 (43, [some (.ref 0), some (.int x1)], [.ref 11, .ref 7, .ref 1], σ)).trans rfl
set_option maxRecDepth 20000 in
theorem q_5_40 (G : Nat × (Nat → Int32)) (d : Nat) (x1 : Int32) (σ : aH) : Lq G d M_5 (46, [some (.ref 0), some (.int x1)], [], σ) = Lq G d M_5 (47, [some (.ref 0), some (.int x1)], [.ref 0], σ) :=
  (aUn_eq (tkd G.1 G.2) tmi (aRun (tkd G.1 G.2) tmi tmt d) M_5 [] 1 (46, [some (.ref 0), some (.int x1)], [], σ)).trans rfl
set_option maxRecDepth 20000 in
theorem q_5_41 (G : Nat × (Nat → Int32)) (d : Nat) (x1 : Int32) (σ : aH) : Lq G d M_5 (47, [some (.ref 0), some (.int x1)], [.ref 0], σ) = aCV (Rn G d 57 [.ref 0] σ) fun σ1 => Lq G d M_5 (50, [some (.ref 0), some (.int x1)], [], σ1) :=
  (aUn_eq (tkd G.1 G.2) tmi (aRun (tkd G.1 G.2) tmi tmt d) M_5 [] 1 (47, [some (.ref 0), some (.int x1)], [.ref 0], σ)).trans rfl
set_option maxRecDepth 20000 in
theorem q_5_42 (G : Nat × (Nat → Int32)) (d : Nat) (x1 : Int32) (σ : aH) : Lq G d M_5 (50, [some (.ref 0), some (.int x1)], [], σ) = Lq G d M_5 (57, [some (.ref 0), some (.int x1)], [.int (σ.1 1 2)], σ) :=
  (aUn_eq (tkd G.1 G.2) tmi (aRun (tkd G.1 G.2) tmi tmt d) M_5 [] 3 (50, [some (.ref 0), some (.int x1)], [], σ)).trans rfl
set_option maxRecDepth 20000 in
theorem q_5_43 (G : Nat × (Nat → Int32)) (d : Nat) (x1 : Int32) (s0 : Int32) (σ : aH) : Lq G d M_5 (57, [some (.ref 0), some (.int x1)], [.int s0], σ) = if s0 = 0 then Lq G d M_5 (60, [some (.ref 0), some (.int x1)], [], σ) else Lq G d M_5 (84, [some (.ref 0), some (.int x1)], [], σ) :=
  (aUn_eq (tkd G.1 G.2) tmi (aRun (tkd G.1 G.2) tmi tmt d) M_5 [] 1 (57, [some (.ref 0), some (.int x1)], [.int s0], σ)).trans rfl
set_option maxRecDepth 20000 in
theorem q_5_44 (G : Nat × (Nat → Int32)) (d : Nat) (x1 : Int32) (σ : aH) : Lq G d M_5 (60, [some (.ref 0), some (.int x1)], [], σ) = Lq G d M_5 (68, [some (.ref 0), some (.int x1)], [.ref 7, .ref 3], σ) :=
  (aUn_eq (tkd G.1 G.2) tmi (aRun (tkd G.1 G.2) tmi tmt d) M_5 [] 4 (60, [some (.ref 0), some (.int x1)], [], σ)).trans rfl
set_option maxRecDepth 20000 in
theorem q_5_45 (G : Nat × (Nat → Int32)) (d : Nat) (x1 : Int32) (σ : aH) : Lq G d M_5 (68, [some (.ref 0), some (.int x1)], [.ref 7, .ref 3], σ) = aCV (Rn G d 59 [.ref 3, .ref 7] σ) fun σ1 => Lq G d M_5 (71, [some (.ref 0), some (.int x1)], [], σ1) :=
  (aUn_eq (tkd G.1 G.2) tmi (aRun (tkd G.1 G.2) tmi tmt d) M_5 [] 1 (68, [some (.ref 0), some (.int x1)], [.ref 7, .ref 3], σ)).trans rfl
set_option maxRecDepth 20000 in
theorem q_5_46 (G : Nat × (Nat → Int32)) (d : Nat) (x1 : Int32) (σ : aH) : Lq G d M_5 (71, [some (.ref 0), some (.int x1)], [], σ) = Lq G d M_5 (91, [some (.ref 0), some (.int x1)], [.int (σ.1 1 2)], (aSI (aSI σ 13 1 (0 : Int32)) 0 15 (0 : Int32))) :=
  (aUn_eq (tkd G.1 G.2) tmi (aRun (tkd G.1 G.2) tmi tmt d) M_5 [] 10 (71, [some (.ref 0), some (.int x1)], [], σ)).trans rfl
set_option maxRecDepth 20000 in
theorem q_5_47 (G : Nat × (Nat → Int32)) (d : Nat) (x1 : Int32) (s0 : Int32) (σ : aH) : Lq G d M_5 (91, [some (.ref 0), some (.int x1)], [.int s0], σ) = some (.inl (some (.int s0)), σ) :=
  (aUn_eq (tkd G.1 G.2) tmi (aRun (tkd G.1 G.2) tmi tmt d) M_5 [] 1 (91, [some (.ref 0), some (.int x1)], [.int s0], σ)).trans rfl
set_option maxRecDepth 20000 in
theorem q_5_48 (G : Nat × (Nat → Int32)) (d : Nat) (x1 : Int32) (σ : aH) : Lq G d M_5 (84, [some (.ref 0), some (.int x1)], [], σ) = Lq G d M_5 (91, [some (.ref 0), some (.int x1)], [.int (σ.1 1 2)], σ) :=
  (aUn_eq (tkd G.1 G.2) tmi (aRun (tkd G.1 G.2) tmi tmt d) M_5 [] 3 (84, [some (.ref 0), some (.int x1)], [], σ)).trans rfl
set_option maxRecDepth 20000 in
theorem q_5_49 (G : Nat × (Nat → Int32)) (d : Nat) (x1 : Int32) (σ : aH) : Lq G d M_5 (4, [some (.ref 0), some (.int x1)], [], σ) = Lq G d M_5 (12, [some (.ref 0), some (.int x1)], [.int (σ.1 1 1), .int x1], σ) :=
  (aUn_eq (tkd G.1 G.2) tmi (aRun (tkd G.1 G.2) tmi tmt d) M_5 [] 4 (4, [some (.ref 0), some (.int x1)], [], σ)).trans rfl
set_option maxRecDepth 20000 in
theorem q_5_50 (G : Nat × (Nat → Int32)) (d : Nat) (x1 : Int32) (s0 : Int32) (s1 : Int32) (σ : aH) : Lq G d M_5 (12, [some (.ref 0), some (.int x1)], [.int s0, .int s1], σ) = if s0 < s1 then Lq G d M_5 (19, [some (.ref 0), some (.int x1)], [], σ) else Lq G d M_5 (15, [some (.ref 0), some (.int x1)], [], σ) :=
  (aUn_eq (tkd G.1 G.2) tmi (aRun (tkd G.1 G.2) tmi tmt d) M_5 [] 1 (12, [some (.ref 0), some (.int x1)], [.int s0, .int s1], σ)).trans rfl
set_option maxRecDepth 20000 in
theorem q_5_51 (G : Nat × (Nat → Int32)) (d : Nat) (x1 : Int32) (σ : aH) : Lq G d M_5 (15, [some (.ref 0), some (.int x1)], [], σ) = Lq G d M_5 (20, [some (.ref 0), some (.int x1)], [.int (1 : Int32)], σ) :=
  (aUn_eq (tkd G.1 G.2) tmi (aRun (tkd G.1 G.2) tmi tmt d) M_5 [] 2 (15, [some (.ref 0), some (.int x1)], [], σ)).trans rfl
set_option maxRecDepth 20000 in
theorem q_60_52 (G : Nat × (Nat → Int32)) (d : Nat) (x1 : Int32) (σ : aH) : Lq G d M_60 (0, [some (.ref 33), some (.int x1), none], [], σ) = Lq G d M_60 (2, [some (.ref 33), some (.int x1), none], [.int x1, .ref 33], σ) :=
  (aUn_eq (tkd G.1 G.2) tmi (aRun (tkd G.1 G.2) tmi tmt d) M_60 [] 2 (0, [some (.ref 33), some (.int x1), none], [], σ)).trans rfl
set_option maxRecDepth 20000 in
theorem q_60_53 (G : Nat × (Nat → Int32)) (d : Nat) (x1 : Int32) (s0 : Int32) (σ : aH) : Lq G d M_60 (2, [some (.ref 33), some (.int x1), none], [.int s0, .ref 33], σ) = aCI (Rn G d 61 [.ref 33, .int s0] σ) fun v2 σ1 => Lq G d M_60 (5, [some (.ref 33), some (.int x1), none], [.int v2], σ1) :=
  (aUn_eq (tkd G.1 G.2) tmi (aRun (tkd G.1 G.2) tmi tmt d) M_60 [] 1 (2, [some (.ref 33), some (.int x1), none], [.int s0, .ref 33], σ)).trans rfl
set_option maxRecDepth 20000 in
theorem q_60_54 (G : Nat × (Nat → Int32)) (d : Nat) (x1 : Int32) (s0 : Int32) (σ : aH) : Lq G d M_60 (5, [some (.ref 33), some (.int x1), none], [.int s0], σ) = if s0 = 0 then Lq G d M_60 (8, [some (.ref 33), some (.int x1), none], [], σ) else Lq G d M_60 (10, [some (.ref 33), some (.int x1), none], [], σ) :=
  (aUn_eq (tkd G.1 G.2) tmi (aRun (tkd G.1 G.2) tmi tmt d) M_60 [] 1 (5, [some (.ref 33), some (.int x1), none], [.int s0], σ)).trans rfl
set_option maxRecDepth 20000 in
theorem q_60_55 (G : Nat × (Nat → Int32)) (d : Nat) (x1 : Int32) (σ : aH) : Lq G d M_60 (8, [some (.ref 33), some (.int x1), none], [], σ) = Lq G d M_60 (9, [some (.ref 33), some (.int x1), none], [.int (0 : Int32)], σ) :=
  (aUn_eq (tkd G.1 G.2) tmi (aRun (tkd G.1 G.2) tmi tmt d) M_60 [] 1 (8, [some (.ref 33), some (.int x1), none], [], σ)).trans rfl
set_option maxRecDepth 20000 in
theorem q_60_56 (G : Nat × (Nat → Int32)) (d : Nat) (x1 : Int32) (s0 : Int32) (σ : aH) : Lq G d M_60 (9, [some (.ref 33), some (.int x1), none], [.int s0], σ) = some (.inl (some (.int s0)), σ) :=
  (aUn_eq (tkd G.1 G.2) tmi (aRun (tkd G.1 G.2) tmi tmt d) M_60 [] 1 (9, [some (.ref 33), some (.int x1), none], [.int s0], σ)).trans rfl
set_option maxRecDepth 20000 in
theorem q_60_57 (G : Nat × (Nat → Int32)) (d : Nat) (x1 : Int32) (σ : aH) : Lq G d M_60 (10, [some (.ref 33), some (.int x1), none], [], σ) = Lq G d M_60 (30, [some (.ref 33), some (.int x1), none], [], (aSI (aSI (aSI (aSI σ 33 26 (0 : Int32)) 33 27 (0 : Int32)) 33 28 (0 : Int32)) 33 29 (0 : Int32))) :=
  (aUn_eq (tkd G.1 G.2) tmi (aRun (tkd G.1 G.2) tmi tmt d) M_60 [] 12 (10, [some (.ref 33), some (.int x1), none], [], σ)).trans rfl
set_option maxRecDepth 20000 in
theorem q_60_58 (G : Nat × (Nat → Int32)) (d : Nat) (x1 : Int32) (σ : aH) : Lq G d M_60 (30, [some (.ref 33), some (.int x1), none], [], σ) = Lq G d M_60 (41, [some (.ref 33), some (.int x1), none], [.ref 33], (aSI (aSI σ 33 30 (0 : Int32)) 33 31 (0 : Int32))) :=
  (aUn_eq (tkd G.1 G.2) tmi (aRun (tkd G.1 G.2) tmi tmt d) M_60 [] 7 (30, [some (.ref 33), some (.int x1), none], [], σ)).trans rfl
set_option maxRecDepth 20000 in
theorem q_60_59 (G : Nat × (Nat → Int32)) (d : Nat) (x1 : Int32) (σ : aH) : Lq G d M_60 (41, [some (.ref 33), some (.int x1), none], [.ref 33], σ) = aCV (Rn G d 63 [.ref 33] σ) fun σ1 => Lq G d M_60 (44, [some (.ref 33), none, none], [], σ1) :=
  (aUn_eq (tkd G.1 G.2) tmi (aRun (tkd G.1 G.2) tmi tmt d) M_60 [] 1 (41, [some (.ref 33), some (.int x1), none], [.ref 33], σ)).trans rfl
set_option maxRecDepth 20000 in
theorem q_60_60 (G : Nat × (Nat → Int32)) (d : Nat)  (σ : aH) : Lq G d M_60 (44, [some (.ref 33), none, none], [], σ) = Lq G d M_60 (45, [some (.ref 33), none, none], [.ref 33], σ) :=
  (aUn_eq (tkd G.1 G.2) tmi (aRun (tkd G.1 G.2) tmi tmt d) M_60 [] 1 (44, [some (.ref 33), none, none], [], σ)).trans rfl
set_option maxRecDepth 20000 in
theorem q_60_61 (G : Nat × (Nat → Int32)) (d : Nat)  (σ : aH) : Lq G d M_60 (45, [some (.ref 33), none, none], [.ref 33], σ) = aCI (Rn G d 67 [.ref 33] σ) fun v2 σ1 => Lq G d M_60 (48, [some (.ref 33), none, none], [.int v2], σ1) :=
  (aUn_eq (tkd G.1 G.2) tmi (aRun (tkd G.1 G.2) tmi tmt d) M_60 [] 1 (45, [some (.ref 33), none, none], [.ref 33], σ)).trans rfl
set_option maxRecDepth 20000 in
theorem q_60_62 (G : Nat × (Nat → Int32)) (d : Nat) (s0 : Int32) (σ : aH) : Lq G d M_60 (48, [some (.ref 33), none, none], [.int s0], σ) = if s0 = 0 then Lq G d M_60 (65, [some (.ref 33), none, none], [], σ) else Lq G d M_60 (51, [some (.ref 33), none, none], [], σ) :=
  (aUn_eq (tkd G.1 G.2) tmi (aRun (tkd G.1 G.2) tmi tmt d) M_60 [] 1 (48, [some (.ref 33), none, none], [.int s0], σ)).trans rfl
set_option maxRecDepth 20000 in
theorem q_60_63 (G : Nat × (Nat → Int32)) (d : Nat)  (σ : aH) : Lq G d M_60 (65, [some (.ref 33), none, none], [], σ) = Lq G d M_60 (66, [some (.ref 33), none, none], [.ref 33], σ) :=
  (aUn_eq (tkd G.1 G.2) tmi (aRun (tkd G.1 G.2) tmi tmt d) M_60 [] 1 (65, [some (.ref 33), none, none], [], σ)).trans rfl
set_option maxRecDepth 20000 in
theorem q_60_64 (G : Nat × (Nat → Int32)) (d : Nat)  (σ : aH) : Lq G d M_60 (66, [some (.ref 33), none, none], [.ref 33], σ) = aCI (Rn G d 67 [.ref 33] σ) fun v2 σ1 => Lq G d M_60 (69, [some (.ref 33), none, none], [.int v2], σ1) :=
  (aUn_eq (tkd G.1 G.2) tmi (aRun (tkd G.1 G.2) tmi tmt d) M_60 [] 1 (66, [some (.ref 33), none, none], [.ref 33], σ)).trans rfl
set_option maxRecDepth 20000 in
theorem q_60_65 (G : Nat × (Nat → Int32)) (d : Nat) (s0 : Int32) (σ : aH) : Lq G d M_60 (69, [some (.ref 33), none, none], [.int s0], σ) = if s0 = 0 then Lq G d M_60 (72, [some (.ref 33), none, none], [], σ) else Lq G d M_60 (87, [some (.ref 33), none, none], [], σ) :=
  (aUn_eq (tkd G.1 G.2) tmi (aRun (tkd G.1 G.2) tmi tmt d) M_60 [] 1 (69, [some (.ref 33), none, none], [.int s0], σ)).trans rfl
set_option maxRecDepth 20000 in
theorem q_60_66 (G : Nat × (Nat → Int32)) (d : Nat)  (σ : aH) : Lq G d M_60 (72, [some (.ref 33), none, none], [], σ) = Lq G d M_60 (86, [some (.ref 33), none, none], [.int (σ.1 33 16)], (aSI σ 52 0 ((σ.1 52 0) + (1 : Int32)))) :=
  (aUn_eq (tkd G.1 G.2) tmi (aRun (tkd G.1 G.2) tmi tmt d) M_60 [] 10 (72, [some (.ref 33), none, none], [], σ)).trans rfl
set_option maxRecDepth 20000 in
theorem q_60_67 (G : Nat × (Nat → Int32)) (d : Nat) (s0 : Int32) (σ : aH) : Lq G d M_60 (86, [some (.ref 33), none, none], [.int s0], σ) = some (.inl (some (.int s0)), σ) :=
  (aUn_eq (tkd G.1 G.2) tmi (aRun (tkd G.1 G.2) tmi tmt d) M_60 [] 1 (86, [some (.ref 33), none, none], [.int s0], σ)).trans rfl
set_option maxRecDepth 20000 in
theorem q_60_68 (G : Nat × (Nat → Int32)) (d : Nat)  (σ : aH) : Lq G d M_60 (87, [some (.ref 33), none, none], [], σ) = Lq G d M_60 (111, [some (.ref 33), none, none], [], (aSI (aSI (aSI σ 33 1 (σ.1 33 26)) 33 2 (σ.1 33 27)) 33 3 (σ.1 33 28))) :=
  (aUn_eq (tkd G.1 G.2) tmi (aRun (tkd G.1 G.2) tmi tmt d) M_60 [] 12 (87, [some (.ref 33), none, none], [], σ)).trans rfl
set_option maxRecDepth 20000 in
theorem q_60_69 (G : Nat × (Nat → Int32)) (d : Nat)  (σ : aH) : Lq G d M_60 (111, [some (.ref 33), none, none], [], σ) = Lq G d M_60 (136, [some (.ref 33), none, none], [.ref 34, .ref 42, .ref 33], (aSI (aSI σ 33 4 (σ.1 33 29)) 33 5 (σ.1 33 30))) :=
  (aUn_eq (tkd G.1 G.2) tmi (aRun (tkd G.1 G.2) tmi tmt d) M_60 [] 13 (111, [some (.ref 33), none, none], [], σ)).trans rfl
set_option maxRecDepth 20000 in
theorem q_60_70 (G : Nat × (Nat → Int32)) (d : Nat)  (σ : aH) : Lq G d M_60 (136, [some (.ref 33), none, none], [.ref 34, .ref 42, .ref 33], σ) = aCV (Rn G d 92 [.ref 33, .ref 42, .ref 34] σ) fun σ1 => Lq G d M_60 (139, [some (.ref 33), none, none], [], σ1) :=
  (aUn_eq (tkd G.1 G.2) tmi (aRun (tkd G.1 G.2) tmi tmt d) M_60 [] 1 (136, [some (.ref 33), none, none], [.ref 34, .ref 42, .ref 33], σ)).trans rfl
set_option maxRecDepth 20000 in
theorem q_60_71 (G : Nat × (Nat → Int32)) (d : Nat)  (σ : aH) : Lq G d M_60 (139, [some (.ref 33), none, none], [], σ) = Lq G d M_60 (148, [some (.ref 33), none, none], [.ref 35, .ref 43, .ref 33], σ) :=
  (aUn_eq (tkd G.1 G.2) tmi (aRun (tkd G.1 G.2) tmi tmt d) M_60 [] 5 (139, [some (.ref 33), none, none], [], σ)).trans rfl
set_option maxRecDepth 20000 in
theorem q_60_72 (G : Nat × (Nat → Int32)) (d : Nat)  (σ : aH) : Lq G d M_60 (148, [some (.ref 33), none, none], [.ref 35, .ref 43, .ref 33], σ) = aCV (Rn G d 92 [.ref 33, .ref 43, .ref 35] σ) fun σ1 => Lq G d M_60 (151, [some (.ref 33), none, none], [], σ1) :=
  (aUn_eq (tkd G.1 G.2) tmi (aRun (tkd G.1 G.2) tmi tmt d) M_60 [] 1 (148, [some (.ref 33), none, none], [.ref 35, .ref 43, .ref 33], σ)).trans rfl
set_option maxRecDepth 20000 in
theorem q_60_73 (G : Nat × (Nat → Int32)) (d : Nat)  (σ : aH) : Lq G d M_60 (151, [some (.ref 33), none, none], [], σ) = Lq G d M_60 (160, [some (.ref 33), none, none], [.ref 36, .ref 44, .ref 33], σ) :=
  (aUn_eq (tkd G.1 G.2) tmi (aRun (tkd G.1 G.2) tmi tmt d) M_60 [] 5 (151, [some (.ref 33), none, none], [], σ)).trans rfl
set_option maxRecDepth 20000 in
theorem q_60_74 (G : Nat × (Nat → Int32)) (d : Nat)  (σ : aH) : Lq G d M_60 (160, [some (.ref 33), none, none], [.ref 36, .ref 44, .ref 33], σ) = aCV (Rn G d 92 [.ref 33, .ref 44, .ref 36] σ) fun σ1 => Lq G d M_60 (163, [some (.ref 33), none, none], [], σ1) :=
  (aUn_eq (tkd G.1 G.2) tmi (aRun (tkd G.1 G.2) tmi tmt d) M_60 [] 1 (160, [some (.ref 33), none, none], [.ref 36, .ref 44, .ref 33], σ)).trans rfl
set_option maxRecDepth 20000 in
theorem q_60_75 (G : Nat × (Nat → Int32)) (d : Nat)  (σ : aH) : Lq G d M_60 (163, [some (.ref 33), none, none], [], σ) = Lq G d M_60 (172, [some (.ref 33), none, none], [.ref 37, .ref 45, .ref 33], σ) :=
  (aUn_eq (tkd G.1 G.2) tmi (aRun (tkd G.1 G.2) tmi tmt d) M_60 [] 5 (163, [some (.ref 33), none, none], [], σ)).trans rfl
set_option maxRecDepth 20000 in
theorem q_60_76 (G : Nat × (Nat → Int32)) (d : Nat)  (σ : aH) : Lq G d M_60 (172, [some (.ref 33), none, none], [.ref 37, .ref 45, .ref 33], σ) = aCV (Rn G d 92 [.ref 33, .ref 45, .ref 37] σ) fun σ1 => Lq G d M_60 (175, [some (.ref 33), none, none], [], σ1) :=
  (aUn_eq (tkd G.1 G.2) tmi (aRun (tkd G.1 G.2) tmi tmt d) M_60 [] 1 (172, [some (.ref 33), none, none], [.ref 37, .ref 45, .ref 33], σ)).trans rfl
set_option maxRecDepth 20000 in
theorem q_60_77 (G : Nat × (Nat → Int32)) (d : Nat)  (σ : aH) : Lq G d M_60 (175, [some (.ref 33), none, none], [], σ) = Lq G d M_60 (184, [some (.ref 33), none, none], [.ref 38, .ref 46, .ref 33], σ) :=
  (aUn_eq (tkd G.1 G.2) tmi (aRun (tkd G.1 G.2) tmi tmt d) M_60 [] 5 (175, [some (.ref 33), none, none], [], σ)).trans rfl
set_option maxRecDepth 20000 in
theorem q_60_78 (G : Nat × (Nat → Int32)) (d : Nat)  (σ : aH) : Lq G d M_60 (184, [some (.ref 33), none, none], [.ref 38, .ref 46, .ref 33], σ) = aCV (Rn G d 92 [.ref 33, .ref 46, .ref 38] σ) fun σ1 => Lq G d M_60 (187, [some (.ref 33), none, none], [], σ1) :=
  (aUn_eq (tkd G.1 G.2) tmi (aRun (tkd G.1 G.2) tmi tmt d) M_60 [] 1 (184, [some (.ref 33), none, none], [.ref 38, .ref 46, .ref 33], σ)).trans rfl
set_option maxRecDepth 20000 in
theorem q_60_79 (G : Nat × (Nat → Int32)) (d : Nat)  (σ : aH) : Lq G d M_60 (187, [some (.ref 33), none, none], [], σ) = Lq G d M_60 (189, [some (.ref 33), none, some (.int (0 : Int32))], [], σ) :=
  (aUn_eq (tkd G.1 G.2) tmi (aRun (tkd G.1 G.2) tmi tmt d) M_60 [] 2 (187, [some (.ref 33), none, none], [], σ)).trans rfl
set_option maxRecDepth 20000 in
theorem q_60_80 (G : Nat × (Nat → Int32)) (d : Nat)  (σ : aH) : Lq G d M_60 (51, [some (.ref 33), none, none], [], σ) = Lq G d M_60 (55, [some (.ref 33), none, none], [.int (σ.1 33 20)], σ) :=
  (aUn_eq (tkd G.1 G.2) tmi (aRun (tkd G.1 G.2) tmi tmt d) M_60 [] 2 (51, [some (.ref 33), none, none], [], σ)).trans rfl
set_option maxRecDepth 20000 in
theorem q_60_81 (G : Nat × (Nat → Int32)) (d : Nat) (s0 : Int32) (σ : aH) : Lq G d M_60 (55, [some (.ref 33), none, none], [.int s0], σ) = if s0 = 0 then Lq G d M_60 (65, [some (.ref 33), none, none], [], σ) else Lq G d M_60 (58, [some (.ref 33), none, none], [], σ) :=
  (aUn_eq (tkd G.1 G.2) tmi (aRun (tkd G.1 G.2) tmi tmt d) M_60 [] 1 (55, [some (.ref 33), none, none], [.int s0], σ)).trans rfl
set_option maxRecDepth 20000 in
theorem q_60_82 (G : Nat × (Nat → Int32)) (d : Nat)  (σ : aH) : Lq G d M_60 (58, [some (.ref 33), none, none], [], σ) = Lq G d M_60 (59, [some (.ref 33), none, none], [.ref 33], σ) :=
  (aUn_eq (tkd G.1 G.2) tmi (aRun (tkd G.1 G.2) tmi tmt d) M_60 [] 1 (58, [some (.ref 33), none, none], [], σ)).trans rfl
set_option maxRecDepth 20000 in
theorem q_60_83 (G : Nat × (Nat → Int32)) (d : Nat)  (σ : aH) : Lq G d M_60 (59, [some (.ref 33), none, none], [.ref 33], σ) = aCV (Rn G d 68 [.ref 33] σ) fun σ1 => Lq G d M_60 (62, [some (.ref 33), none, none], [], σ1) :=
  (aUn_eq (tkd G.1 G.2) tmi (aRun (tkd G.1 G.2) tmi tmt d) M_60 [] 1 (59, [some (.ref 33), none, none], [.ref 33], σ)).trans rfl
set_option maxRecDepth 20000 in
theorem q_60_84 (G : Nat × (Nat → Int32)) (d : Nat)  (σ : aH) : Lq G d M_60 (62, [some (.ref 33), none, none], [], σ) = Lq G d M_60 (44, [some (.ref 33), none, none], [], σ) :=
  (aUn_eq (tkd G.1 G.2) tmi (aRun (tkd G.1 G.2) tmi tmt d) M_60 [] 1 (62, [some (.ref 33), none, none], [], σ)).trans rfl
set_option maxRecDepth 20000 in
theorem q_60_85 (G : Nat × (Nat → Int32)) (d : Nat) (x2 : Int32) (σ : aH) : Lq G d M_60 (189, [some (.ref 33), none, some (.int x2)], [], σ) = Lq G d M_60 (192, [some (.ref 33), none, some (.int x2)], [.int (12 : Int32), .int x2], σ) :=
  (aUn_eq (tkd G.1 G.2) tmi (aRun (tkd G.1 G.2) tmi tmt d) M_60 [] 2 (189, [some (.ref 33), none, some (.int x2)], [], σ)).trans rfl
set_option maxRecDepth 20000 in
theorem q_60_86 (G : Nat × (Nat → Int32)) (d : Nat) (x2 : Int32) (s0 : Int32) (s1 : Int32) (σ : aH) : Lq G d M_60 (192, [some (.ref 33), none, some (.int x2)], [.int s0, .int s1], σ) = if s0 ≤ s1 then Lq G d M_60 (213, [some (.ref 33), none, some (.int x2)], [], σ) else Lq G d M_60 (195, [some (.ref 33), none, some (.int x2)], [], σ) :=
  (aUn_eq (tkd G.1 G.2) tmi (aRun (tkd G.1 G.2) tmi tmt d) M_60 [] 1 (192, [some (.ref 33), none, some (.int x2)], [.int s0, .int s1], σ)).trans rfl
set_option maxRecDepth 20000 in
theorem q_60_87 (G : Nat × (Nat → Int32)) (d : Nat) (x2 : Int32) (σ : aH) : Lq G d M_60 (213, [some (.ref 33), none, some (.int x2)], [], σ) = Lq G d M_60 (224, [some (.ref 33), none, some (.int x2)], [.int (0 : Int32)], (aSI (aSI σ 33 12 (0 : Int32)) 33 54 (-1 : Int32))) :=
  (aUn_eq (tkd G.1 G.2) tmi (aRun (tkd G.1 G.2) tmi tmt d) M_60 [] 7 (213, [some (.ref 33), none, some (.int x2)], [], σ)).trans rfl
set_option maxRecDepth 20000 in
theorem q_60_88 (G : Nat × (Nat → Int32)) (d : Nat) (x2 : Int32) (s0 : Int32) (σ : aH) : Lq G d M_60 (224, [some (.ref 33), none, some (.int x2)], [.int s0], σ) = some (.inl (some (.int s0)), σ) :=
  (aUn_eq (tkd G.1 G.2) tmi (aRun (tkd G.1 G.2) tmi tmt d) M_60 [] 1 (224, [some (.ref 33), none, some (.int x2)], [.int s0], σ)).trans rfl
set_option maxRecDepth 20000 in
theorem q_60_89 (G : Nat × (Nat → Int32)) (d : Nat) (x2 : Int32) (σ : aH) : Lq G d M_60 (195, [some (.ref 33), none, some (.int x2)], [], σ) = Lq G d M_60 (205, [some (.ref 33), none, some (.int x2)], [.int x2, .ref 48, .int x2, .ref 39], σ) :=
  (aUn_eq (tkd G.1 G.2) tmi (aRun (tkd G.1 G.2) tmi tmt d) M_60 [] 6 (195, [some (.ref 33), none, some (.int x2)], [], σ)).trans rfl
set_option maxRecDepth 20000 in
theorem q_60_90 (G : Nat × (Nat → Int32)) (d : Nat) (x2 : Int32) (s0 : Int32) (s2 : Int32) (σ : aH) : Lq G d M_60 (205, [some (.ref 33), none, some (.int x2)], [.int s0, .ref 48, .int s2, .ref 39], σ) = aIx (s0) 12 fun j1 => Lq G d M_60 (206, [some (.ref 33), none, some (.int x2)], [.int (σ.1 48 j1), .int s2, .ref 39], σ) :=
  (aUn_eq (tkd G.1 G.2) tmi (aRun (tkd G.1 G.2) tmi tmt d) M_60 [] 1 (205, [some (.ref 33), none, some (.int x2)], [.int s0, .ref 48, .int s2, .ref 39], σ)).trans rfl
set_option maxRecDepth 20000 in
theorem q_60_91 (G : Nat × (Nat → Int32)) (d : Nat) (x2 : Int32) (s0 : Int32) (s1 : Int32) (σ : aH) : Lq G d M_60 (206, [some (.ref 33), none, some (.int x2)], [.int s0, .int s1, .ref 39], σ) = aIx (s1) 12 fun j1 => Lq G d M_60 (207, [some (.ref 33), none, some (.int x2)], [], (aSI σ 39 j1 (vp_nar .boolean s0))) :=
  (aUn_eq (tkd G.1 G.2) tmi (aRun (tkd G.1 G.2) tmi tmt d) M_60 [] 1 (206, [some (.ref 33), none, some (.int x2)], [.int s0, .int s1, .ref 39], σ)).trans rfl
set_option maxRecDepth 20000 in
theorem q_60_92 (G : Nat × (Nat → Int32)) (d : Nat) (x2 : Int32) (σ : aH) : Lq G d M_60 (207, [some (.ref 33), none, some (.int x2)], [], σ) = Lq G d M_60 (189, [some (.ref 33), none, some (.int (x2 + (1 : Int32)))], [], σ) :=
  (aUn_eq (tkd G.1 G.2) tmi (aRun (tkd G.1 G.2) tmi tmt d) M_60 [] 2 (207, [some (.ref 33), none, some (.int x2)], [], σ)).trans rfl
set_option maxRecDepth 20000 in
theorem q_93_93 (G : Nat × (Nat → Int32)) (d : Nat)  (σ : aH) : Lq G d M_93 (0, [some (.ref 33)], [], σ) = Lq G d M_93 (4, [some (.ref 33)], [.int (σ.1 33 0)], σ) :=
  (aUn_eq (tkd G.1 G.2) tmi (aRun (tkd G.1 G.2) tmi tmt d) M_93 [] 2 (0, [some (.ref 33)], [], σ)).trans rfl
set_option maxRecDepth 20000 in
theorem q_93_94 (G : Nat × (Nat → Int32)) (d : Nat) (s0 : Int32) (σ : aH) : Lq G d M_93 (4, [some (.ref 33)], [.int s0], σ) = some (.inl (some (.int s0)), σ) :=
  (aUn_eq (tkd G.1 G.2) tmi (aRun (tkd G.1 G.2) tmi tmt d) M_93 [] 1 (4, [some (.ref 33)], [.int s0], σ)).trans rfl
set_option maxRecDepth 20000 in
theorem q_95_95 (G : Nat × (Nat → Int32)) (d : Nat) (x1 : Int32) (σ : aH) : Lq G d M_95 (0, [some (.ref 0), some (.int x1), none], [], σ) = Lq G d M_95 (1, [some (.ref 0), some (.int x1), none], [.int x1], σ) :=
  (aUn_eq (tkd G.1 G.2) tmi (aRun (tkd G.1 G.2) tmi tmt d) M_95 [] 1 (0, [some (.ref 0), some (.int x1), none], [], σ)).trans rfl
set_option maxRecDepth 20000 in
theorem q_95_96 (G : Nat × (Nat → Int32)) (d : Nat) (x1 : Int32) (s0 : Int32) (σ : aH) : Lq G d M_95 (1, [some (.ref 0), some (.int x1), none], [.int s0], σ) = if s0 < 0 then Lq G d M_95 (19, [some (.ref 0), some (.int x1), none], [], σ) else Lq G d M_95 (4, [some (.ref 0), some (.int x1), none], [], σ) :=
  (aUn_eq (tkd G.1 G.2) tmi (aRun (tkd G.1 G.2) tmi tmt d) M_95 [] 1 (1, [some (.ref 0), some (.int x1), none], [.int s0], σ)).trans rfl
set_option maxRecDepth 20000 in
theorem q_95_97 (G : Nat × (Nat → Int32)) (d : Nat) (x1 : Int32) (σ : aH) : Lq G d M_95 (19, [some (.ref 0), some (.int x1), none], [], σ) = Lq G d M_95 (20, [some (.ref 0), some (.int x1), none], [.int (0 : Int32)], σ) :=
  (aUn_eq (tkd G.1 G.2) tmi (aRun (tkd G.1 G.2) tmi tmt d) M_95 [] 1 (19, [some (.ref 0), some (.int x1), none], [], σ)).trans rfl
set_option maxRecDepth 20000 in
theorem q_95_98 (G : Nat × (Nat → Int32)) (d : Nat) (x1 : Int32) (s0 : Int32) (σ : aH) : Lq G d M_95 (20, [some (.ref 0), some (.int x1), none], [.int s0], σ) = aXV (Rn G d 6 [.int s0] σ) (fun σ1 => Lq G d M_95 (23, [some (.ref 0), some (.int x1), none], [], σ1)) (fun k2 σ3 => some (.inr k2, σ3)) :=
  (aUn_eq (tkd G.1 G.2) tmi (aRun (tkd G.1 G.2) tmi tmt d) M_95 [] 1 (20, [some (.ref 0), some (.int x1), none], [.int s0], σ)).trans rfl
set_option maxRecDepth 20000 in
theorem q_95_99 (G : Nat × (Nat → Int32)) (d : Nat) (x1 : Int32) (σ : aH) : Lq G d M_95 (23, [some (.ref 0), some (.int x1), none], [], σ) = Lq G d M_95 (28, [some (.ref 0), some (.int x1), none], [.int x1, .ref 1], σ) :=
  (aUn_eq (tkd G.1 G.2) tmi (aRun (tkd G.1 G.2) tmi tmt d) M_95 [] 3 (23, [some (.ref 0), some (.int x1), none], [], σ)).trans rfl
set_option maxRecDepth 20000 in
theorem q_95_100 (G : Nat × (Nat → Int32)) (d : Nat) (x1 : Int32) (s0 : Int32) (σ : aH) : Lq G d M_95 (28, [some (.ref 0), some (.int x1), none], [.int s0, .ref 1], σ) = aCV (Rn G d 7 [.ref 1, .int s0] σ) fun σ1 => Lq G d M_95 (31, [some (.ref 0), some (.int x1), none], [], σ1) :=
  (aUn_eq (tkd G.1 G.2) tmi (aRun (tkd G.1 G.2) tmi tmt d) M_95 [] 1 (28, [some (.ref 0), some (.int x1), none], [.int s0, .ref 1], σ)).trans rfl
set_option maxRecDepth 20000 in
theorem q_95_101 (G : Nat × (Nat → Int32)) (d : Nat) (x1 : Int32) (σ : aH) : Lq G d M_95 (31, [some (.ref 0), some (.int x1), none], [], σ) = Lq G d M_95 (43, [some (.ref 0), some (.int x1), none], [.ref 13, .ref 3, .ref 1], σ) :=
  (aUn_eq (tkd G.1 G.2) tmi (aRun (tkd G.1 G.2) tmi tmt d) M_95 [] 6 (31, [some (.ref 0), some (.int x1), none], [], σ)).trans rfl
set_option maxRecDepth 20000 in
theorem q_95_102 (G : Nat × (Nat → Int32)) (d : Nat) (x1 : Int32) (σ : aH) : Lq G d M_95 (43, [some (.ref 0), some (.int x1), none], [.ref 13, .ref 3, .ref 1], σ) = aCI (Rn G d 96 [.ref 1, .ref 3, .ref 13] σ) fun v2 σ1 => Lq G d M_95 (46, [some (.ref 0), some (.int x1), none], [.int v2], σ1) :=
  (aUn_eq (tkd G.1 G.2) tmi (aRun (tkd G.1 G.2) tmi tmt d) M_95 [] 1 (43, [some (.ref 0), some (.int x1), none], [.ref 13, .ref 3, .ref 1], σ)).trans rfl
set_option maxRecDepth 20000 in
theorem q_95_103 (G : Nat × (Nat → Int32)) (d : Nat) (x1 : Int32) (s0 : Int32) (σ : aH) : Lq G d M_95 (46, [some (.ref 0), some (.int x1), none], [.int s0], σ) = Lq G d M_95 (48, [some (.ref 0), some (.int x1), some (.int s0)], [.ref 0], σ) :=
  (aUn_eq (tkd G.1 G.2) tmi (aRun (tkd G.1 G.2) tmi tmt d) M_95 [] 2 (46, [some (.ref 0), some (.int x1), none], [.int s0], σ)).trans rfl
set_option maxRecDepth 20000 in
theorem q_95_104 (G : Nat × (Nat → Int32)) (d : Nat) (x1 : Int32) (x2 : Int32) (σ : aH) : Lq G d M_95 (48, [some (.ref 0), some (.int x1), some (.int x2)], [.ref 0], σ) = aCV (Rn G d 57 [.ref 0] σ) fun σ1 => Lq G d M_95 (51, [some (.ref 0), some (.int x1), some (.int x2)], [], σ1) :=
  (aUn_eq (tkd G.1 G.2) tmi (aRun (tkd G.1 G.2) tmi tmt d) M_95 [] 1 (48, [some (.ref 0), some (.int x1), some (.int x2)], [.ref 0], σ)).trans rfl
set_option maxRecDepth 20000 in
theorem q_95_105 (G : Nat × (Nat → Int32)) (d : Nat) (x1 : Int32) (x2 : Int32) (σ : aH) : Lq G d M_95 (51, [some (.ref 0), some (.int x1), some (.int x2)], [], σ) = Lq G d M_95 (58, [some (.ref 0), some (.int x1), some (.int x2)], [.int (σ.1 1 2)], σ) :=
  (aUn_eq (tkd G.1 G.2) tmi (aRun (tkd G.1 G.2) tmi tmt d) M_95 [] 3 (51, [some (.ref 0), some (.int x1), some (.int x2)], [], σ)).trans rfl
set_option maxRecDepth 20000 in
theorem q_95_106 (G : Nat × (Nat → Int32)) (d : Nat) (x1 : Int32) (x2 : Int32) (s0 : Int32) (σ : aH) : Lq G d M_95 (58, [some (.ref 0), some (.int x1), some (.int x2)], [.int s0], σ) = if s0 = 0 then Lq G d M_95 (71, [some (.ref 0), some (.int x1), some (.int x2)], [], σ) else Lq G d M_95 (61, [some (.ref 0), some (.int x1), some (.int x2)], [], σ) :=
  (aUn_eq (tkd G.1 G.2) tmi (aRun (tkd G.1 G.2) tmi tmt d) M_95 [] 1 (58, [some (.ref 0), some (.int x1), some (.int x2)], [.int s0], σ)).trans rfl
set_option maxRecDepth 20000 in
theorem q_95_107 (G : Nat × (Nat → Int32)) (d : Nat) (x1 : Int32) (x2 : Int32) (σ : aH) : Lq G d M_95 (71, [some (.ref 0), some (.int x1), some (.int x2)], [], σ) = Lq G d M_95 (85, [some (.ref 0), some (.int x1), some (.int x2)], [.int x2], (aSI σ 13 1 ((σ.1 13 1) + x2))) :=
  (aUn_eq (tkd G.1 G.2) tmi (aRun (tkd G.1 G.2) tmi tmt d) M_95 [] 8 (71, [some (.ref 0), some (.int x1), some (.int x2)], [], σ)).trans rfl
set_option maxRecDepth 20000 in
theorem q_95_108 (G : Nat × (Nat → Int32)) (d : Nat) (x1 : Int32) (x2 : Int32) (s0 : Int32) (σ : aH) : Lq G d M_95 (85, [some (.ref 0), some (.int x1), some (.int x2)], [.int s0], σ) = some (.inl (some (.int s0)), σ) :=
  (aUn_eq (tkd G.1 G.2) tmi (aRun (tkd G.1 G.2) tmi tmt d) M_95 [] 1 (85, [some (.ref 0), some (.int x1), some (.int x2)], [.int s0], σ)).trans rfl
set_option maxRecDepth 20000 in
theorem q_95_109 (G : Nat × (Nat → Int32)) (d : Nat) (x1 : Int32) (x2 : Int32) (σ : aH) : Lq G d M_95 (61, [some (.ref 0), some (.int x1), some (.int x2)], [], σ) = Lq G d M_95 (70, [some (.ref 0), some (.int x1), some (.int x2)], [.int ((-1 : Int32) - (σ.1 1 2))], σ) :=
  (aUn_eq (tkd G.1 G.2) tmi (aRun (tkd G.1 G.2) tmi tmt d) M_95 [] 5 (61, [some (.ref 0), some (.int x1), some (.int x2)], [], σ)).trans rfl
set_option maxRecDepth 20000 in
theorem q_95_110 (G : Nat × (Nat → Int32)) (d : Nat) (x1 : Int32) (x2 : Int32) (s0 : Int32) (σ : aH) : Lq G d M_95 (70, [some (.ref 0), some (.int x1), some (.int x2)], [.int s0], σ) = some (.inl (some (.int s0)), σ) :=
  (aUn_eq (tkd G.1 G.2) tmi (aRun (tkd G.1 G.2) tmi tmt d) M_95 [] 1 (70, [some (.ref 0), some (.int x1), some (.int x2)], [.int s0], σ)).trans rfl
set_option maxRecDepth 20000 in
theorem q_95_111 (G : Nat × (Nat → Int32)) (d : Nat) (x1 : Int32) (σ : aH) : Lq G d M_95 (4, [some (.ref 0), some (.int x1), none], [], σ) = Lq G d M_95 (12, [some (.ref 0), some (.int x1), none], [.int (σ.1 1 1), .int x1], σ) :=
  (aUn_eq (tkd G.1 G.2) tmi (aRun (tkd G.1 G.2) tmi tmt d) M_95 [] 4 (4, [some (.ref 0), some (.int x1), none], [], σ)).trans rfl
set_option maxRecDepth 20000 in
theorem q_95_112 (G : Nat × (Nat → Int32)) (d : Nat) (x1 : Int32) (s0 : Int32) (s1 : Int32) (σ : aH) : Lq G d M_95 (12, [some (.ref 0), some (.int x1), none], [.int s0, .int s1], σ) = if s0 < s1 then Lq G d M_95 (19, [some (.ref 0), some (.int x1), none], [], σ) else Lq G d M_95 (15, [some (.ref 0), some (.int x1), none], [], σ) :=
  (aUn_eq (tkd G.1 G.2) tmi (aRun (tkd G.1 G.2) tmi tmt d) M_95 [] 1 (12, [some (.ref 0), some (.int x1), none], [.int s0, .int s1], σ)).trans rfl
set_option maxRecDepth 20000 in
theorem q_95_113 (G : Nat × (Nat → Int32)) (d : Nat) (x1 : Int32) (σ : aH) : Lq G d M_95 (15, [some (.ref 0), some (.int x1), none], [], σ) = Lq G d M_95 (20, [some (.ref 0), some (.int x1), none], [.int (1 : Int32)], σ) :=
  (aUn_eq (tkd G.1 G.2) tmi (aRun (tkd G.1 G.2) tmi tmt d) M_95 [] 2 (15, [some (.ref 0), some (.int x1), none], [], σ)).trans rfl
set_option maxRecDepth 20000 in
theorem q_106_114 (G : Nat × (Nat → Int32)) (d : Nat) (x1 : Int32) (σ : aH) : Lq G d M_106 (0, [some (.ref 33), some (.int x1), none, none], [], σ) = Lq G d M_106 (2, [some (.ref 33), some (.int x1), none, none], [.int x1, .ref 33], σ) :=
  (aUn_eq (tkd G.1 G.2) tmi (aRun (tkd G.1 G.2) tmi tmt d) M_106 [] 2 (0, [some (.ref 33), some (.int x1), none, none], [], σ)).trans rfl
set_option maxRecDepth 20000 in
theorem q_106_115 (G : Nat × (Nat → Int32)) (d : Nat) (x1 : Int32) (s0 : Int32) (σ : aH) : Lq G d M_106 (2, [some (.ref 33), some (.int x1), none, none], [.int s0, .ref 33], σ) = aCI (Rn G d 61 [.ref 33, .int s0] σ) fun v2 σ1 => Lq G d M_106 (5, [some (.ref 33), some (.int x1), none, none], [.int v2], σ1) :=
  (aUn_eq (tkd G.1 G.2) tmi (aRun (tkd G.1 G.2) tmi tmt d) M_106 [] 1 (2, [some (.ref 33), some (.int x1), none, none], [.int s0, .ref 33], σ)).trans rfl
set_option maxRecDepth 20000 in
theorem q_106_116 (G : Nat × (Nat → Int32)) (d : Nat) (x1 : Int32) (s0 : Int32) (σ : aH) : Lq G d M_106 (5, [some (.ref 33), some (.int x1), none, none], [.int s0], σ) = if s0 = 0 then Lq G d M_106 (8, [some (.ref 33), some (.int x1), none, none], [], σ) else Lq G d M_106 (10, [some (.ref 33), some (.int x1), none, none], [], σ) :=
  (aUn_eq (tkd G.1 G.2) tmi (aRun (tkd G.1 G.2) tmi tmt d) M_106 [] 1 (5, [some (.ref 33), some (.int x1), none, none], [.int s0], σ)).trans rfl
set_option maxRecDepth 20000 in
theorem q_106_117 (G : Nat × (Nat → Int32)) (d : Nat) (x1 : Int32) (σ : aH) : Lq G d M_106 (8, [some (.ref 33), some (.int x1), none, none], [], σ) = Lq G d M_106 (9, [some (.ref 33), some (.int x1), none, none], [.int (0 : Int32)], σ) :=
  (aUn_eq (tkd G.1 G.2) tmi (aRun (tkd G.1 G.2) tmi tmt d) M_106 [] 1 (8, [some (.ref 33), some (.int x1), none, none], [], σ)).trans rfl
set_option maxRecDepth 20000 in
theorem q_106_118 (G : Nat × (Nat → Int32)) (d : Nat) (x1 : Int32) (s0 : Int32) (σ : aH) : Lq G d M_106 (9, [some (.ref 33), some (.int x1), none, none], [.int s0], σ) = some (.inl (some (.int s0)), σ) :=
  (aUn_eq (tkd G.1 G.2) tmi (aRun (tkd G.1 G.2) tmi tmt d) M_106 [] 1 (9, [some (.ref 33), some (.int x1), none, none], [.int s0], σ)).trans rfl
set_option maxRecDepth 20000 in
theorem q_106_119 (G : Nat × (Nat → Int32)) (d : Nat) (x1 : Int32) (σ : aH) : Lq G d M_106 (10, [some (.ref 33), some (.int x1), none, none], [], σ) = Lq G d M_106 (11, [some (.ref 33), some (.int x1), none, none], [.ref 33], σ) :=
  (aUn_eq (tkd G.1 G.2) tmi (aRun (tkd G.1 G.2) tmi tmt d) M_106 [] 1 (10, [some (.ref 33), some (.int x1), none, none], [], σ)).trans rfl
set_option maxRecDepth 20000 in
theorem q_106_120 (G : Nat × (Nat → Int32)) (d : Nat) (x1 : Int32) (σ : aH) : Lq G d M_106 (11, [some (.ref 33), some (.int x1), none, none], [.ref 33], σ) = aCV (Rn G d 63 [.ref 33] σ) fun σ1 => Lq G d M_106 (14, [some (.ref 33), some (.int x1), none, none], [], σ1) :=
  (aUn_eq (tkd G.1 G.2) tmi (aRun (tkd G.1 G.2) tmi tmt d) M_106 [] 1 (11, [some (.ref 33), some (.int x1), none, none], [.ref 33], σ)).trans rfl
set_option maxRecDepth 20000 in
theorem q_106_121 (G : Nat × (Nat → Int32)) (d : Nat) (x1 : Int32) (σ : aH) : Lq G d M_106 (14, [some (.ref 33), some (.int x1), none, none], [], σ) = Lq G d M_106 (19, [some (.ref 33), none, some (.int (σ.1 33 12)), none], [], σ) :=
  (aUn_eq (tkd G.1 G.2) tmi (aRun (tkd G.1 G.2) tmi tmt d) M_106 [] 3 (14, [some (.ref 33), some (.int x1), none, none], [], σ)).trans rfl
set_option maxRecDepth 20000 in
theorem q_106_122 (G : Nat × (Nat → Int32)) (d : Nat) (x2 : Int32) (σ : aH) : Lq G d M_106 (19, [some (.ref 33), none, some (.int x2), none], [], σ) = Lq G d M_106 (20, [some (.ref 33), none, some (.int x2), none], [.ref 33], σ) :=
  (aUn_eq (tkd G.1 G.2) tmi (aRun (tkd G.1 G.2) tmi tmt d) M_106 [] 1 (19, [some (.ref 33), none, some (.int x2), none], [], σ)).trans rfl
set_option maxRecDepth 20000 in
theorem q_106_123 (G : Nat × (Nat → Int32)) (d : Nat) (x2 : Int32) (σ : aH) : Lq G d M_106 (20, [some (.ref 33), none, some (.int x2), none], [.ref 33], σ) = aCI (Rn G d 67 [.ref 33] σ) fun v2 σ1 => Lq G d M_106 (23, [some (.ref 33), none, some (.int x2), none], [.int v2], σ1) :=
  (aUn_eq (tkd G.1 G.2) tmi (aRun (tkd G.1 G.2) tmi tmt d) M_106 [] 1 (20, [some (.ref 33), none, some (.int x2), none], [.ref 33], σ)).trans rfl
set_option maxRecDepth 20000 in
theorem q_106_124 (G : Nat × (Nat → Int32)) (d : Nat) (x2 : Int32) (s0 : Int32) (σ : aH) : Lq G d M_106 (23, [some (.ref 33), none, some (.int x2), none], [.int s0], σ) = if s0 = 0 then Lq G d M_106 (44, [some (.ref 33), none, some (.int x2), none], [], σ) else Lq G d M_106 (26, [some (.ref 33), none, some (.int x2), none], [], σ) :=
  (aUn_eq (tkd G.1 G.2) tmi (aRun (tkd G.1 G.2) tmi tmt d) M_106 [] 1 (23, [some (.ref 33), none, some (.int x2), none], [.int s0], σ)).trans rfl
set_option maxRecDepth 20000 in
theorem q_106_125 (G : Nat × (Nat → Int32)) (d : Nat) (x2 : Int32) (σ : aH) : Lq G d M_106 (44, [some (.ref 33), none, some (.int x2), none], [], σ) = Lq G d M_106 (45, [some (.ref 33), none, some (.int x2), none], [.ref 33], σ) :=
  (aUn_eq (tkd G.1 G.2) tmi (aRun (tkd G.1 G.2) tmi tmt d) M_106 [] 1 (44, [some (.ref 33), none, some (.int x2), none], [], σ)).trans rfl
set_option maxRecDepth 20000 in
theorem q_106_126 (G : Nat × (Nat → Int32)) (d : Nat) (x2 : Int32) (σ : aH) : Lq G d M_106 (45, [some (.ref 33), none, some (.int x2), none], [.ref 33], σ) = aCI (Rn G d 67 [.ref 33] σ) fun v2 σ1 => Lq G d M_106 (48, [some (.ref 33), none, some (.int x2), none], [.int v2], σ1) :=
  (aUn_eq (tkd G.1 G.2) tmi (aRun (tkd G.1 G.2) tmi tmt d) M_106 [] 1 (45, [some (.ref 33), none, some (.int x2), none], [.ref 33], σ)).trans rfl
set_option maxRecDepth 20000 in
theorem q_106_127 (G : Nat × (Nat → Int32)) (d : Nat) (x2 : Int32) (s0 : Int32) (σ : aH) : Lq G d M_106 (48, [some (.ref 33), none, some (.int x2), none], [.int s0], σ) = if s0 = 0 then Lq G d M_106 (51, [some (.ref 33), none, some (.int x2), none], [], σ) else Lq G d M_106 (68, [some (.ref 33), none, some (.int x2), none], [], σ) :=
  (aUn_eq (tkd G.1 G.2) tmi (aRun (tkd G.1 G.2) tmi tmt d) M_106 [] 1 (48, [some (.ref 33), none, some (.int x2), none], [.int s0], σ)).trans rfl
set_option maxRecDepth 20000 in
theorem q_106_128 (G : Nat × (Nat → Int32)) (d : Nat) (x2 : Int32) (σ : aH) : Lq G d M_106 (51, [some (.ref 33), none, some (.int x2), none], [], σ) = Lq G d M_106 (67, [some (.ref 33), none, some (.int x2), none], [.int ((-1 : Int32) - (σ.1 33 16))], (aSI σ 52 0 ((σ.1 52 0) + (1 : Int32)))) :=
  (aUn_eq (tkd G.1 G.2) tmi (aRun (tkd G.1 G.2) tmi tmt d) M_106 [] 12 (51, [some (.ref 33), none, some (.int x2), none], [], σ)).trans rfl
set_option maxRecDepth 20000 in
theorem q_106_129 (G : Nat × (Nat → Int32)) (d : Nat) (x2 : Int32) (s0 : Int32) (σ : aH) : Lq G d M_106 (67, [some (.ref 33), none, some (.int x2), none], [.int s0], σ) = some (.inl (some (.int s0)), σ) :=
  (aUn_eq (tkd G.1 G.2) tmi (aRun (tkd G.1 G.2) tmi tmt d) M_106 [] 1 (67, [some (.ref 33), none, some (.int x2), none], [.int s0], σ)).trans rfl
set_option maxRecDepth 20000 in
theorem q_106_130 (G : Nat × (Nat → Int32)) (d : Nat) (x2 : Int32) (σ : aH) : Lq G d M_106 (68, [some (.ref 33), none, some (.int x2), none], [], σ) = Lq G d M_106 (81, [some (.ref 33), none, some (.int x2), some (.int (x2 - (σ.1 33 12)))], [.int (x2 - (σ.1 33 12))], (aSI σ 33 12 x2)) :=
  (aUn_eq (tkd G.1 G.2) tmi (aRun (tkd G.1 G.2) tmi tmt d) M_106 [] 9 (68, [some (.ref 33), none, some (.int x2), none], [], σ)).trans rfl
set_option maxRecDepth 20000 in
theorem q_106_131 (G : Nat × (Nat → Int32)) (d : Nat) (x2 : Int32) (x3 : Int32) (s0 : Int32) (σ : aH) : Lq G d M_106 (81, [some (.ref 33), none, some (.int x2), some (.int x3)], [.int s0], σ) = some (.inl (some (.int s0)), σ) :=
  (aUn_eq (tkd G.1 G.2) tmi (aRun (tkd G.1 G.2) tmi tmt d) M_106 [] 1 (81, [some (.ref 33), none, some (.int x2), some (.int x3)], [.int s0], σ)).trans rfl
set_option maxRecDepth 20000 in
theorem q_106_132 (G : Nat × (Nat → Int32)) (d : Nat) (x2 : Int32) (σ : aH) : Lq G d M_106 (26, [some (.ref 33), none, some (.int x2), none], [], σ) = Lq G d M_106 (30, [some (.ref 33), none, some (.int x2), none], [.int (σ.1 33 20)], σ) :=
  (aUn_eq (tkd G.1 G.2) tmi (aRun (tkd G.1 G.2) tmi tmt d) M_106 [] 2 (26, [some (.ref 33), none, some (.int x2), none], [], σ)).trans rfl
set_option maxRecDepth 20000 in
theorem q_106_133 (G : Nat × (Nat → Int32)) (d : Nat) (x2 : Int32) (s0 : Int32) (σ : aH) : Lq G d M_106 (30, [some (.ref 33), none, some (.int x2), none], [.int s0], σ) = if s0 = 0 then Lq G d M_106 (44, [some (.ref 33), none, some (.int x2), none], [], σ) else Lq G d M_106 (33, [some (.ref 33), none, some (.int x2), none], [], σ) :=
  (aUn_eq (tkd G.1 G.2) tmi (aRun (tkd G.1 G.2) tmi tmt d) M_106 [] 1 (30, [some (.ref 33), none, some (.int x2), none], [.int s0], σ)).trans rfl
set_option maxRecDepth 20000 in
theorem q_106_134 (G : Nat × (Nat → Int32)) (d : Nat) (x2 : Int32) (σ : aH) : Lq G d M_106 (33, [some (.ref 33), none, some (.int x2), none], [], σ) = Lq G d M_106 (35, [some (.ref 33), none, some (.int x2), none], [.int x2, .ref 33], σ) :=
  (aUn_eq (tkd G.1 G.2) tmi (aRun (tkd G.1 G.2) tmi tmt d) M_106 [] 2 (33, [some (.ref 33), none, some (.int x2), none], [], σ)).trans rfl
set_option maxRecDepth 20000 in
theorem q_106_135 (G : Nat × (Nat → Int32)) (d : Nat) (x2 : Int32) (s0 : Int32) (σ : aH) : Lq G d M_106 (35, [some (.ref 33), none, some (.int x2), none], [.int s0, .ref 33], σ) = aCV (Rn G d 107 [.ref 33, .int s0] σ) fun σ1 => Lq G d M_106 (38, [some (.ref 33), none, some (.int x2), none], [], σ1) :=
  (aUn_eq (tkd G.1 G.2) tmi (aRun (tkd G.1 G.2) tmi tmt d) M_106 [] 1 (35, [some (.ref 33), none, some (.int x2), none], [.int s0, .ref 33], σ)).trans rfl
set_option maxRecDepth 20000 in
theorem q_106_136 (G : Nat × (Nat → Int32)) (d : Nat) (x2 : Int32) (σ : aH) : Lq G d M_106 (38, [some (.ref 33), none, some (.int x2), none], [], σ) = Lq G d M_106 (19, [some (.ref 33), none, some (.int (x2 + (1 : Int32))), none], [], σ) :=
  (aUn_eq (tkd G.1 G.2) tmi (aRun (tkd G.1 G.2) tmi tmt d) M_106 [] 2 (38, [some (.ref 33), none, some (.int x2), none], [], σ)).trans rfl
set_option maxRecDepth 20000 in
theorem q_110_137 (G : Nat × (Nat → Int32)) (d : Nat)  (σ : aH) : Lq G d M_110 (0, [some (.ref 0)], [], σ) = Lq G d M_110 (4, [some (.ref 0)], [.int (σ.1 0 16)], σ) :=
  (aUn_eq (tkd G.1 G.2) tmi (aRun (tkd G.1 G.2) tmi tmt d) M_110 [] 2 (0, [some (.ref 0)], [], σ)).trans rfl
set_option maxRecDepth 20000 in
theorem q_110_138 (G : Nat × (Nat → Int32)) (d : Nat) (s0 : Int32) (σ : aH) : Lq G d M_110 (4, [some (.ref 0)], [.int s0], σ) = some (.inl (some (.int s0)), σ) :=
  (aUn_eq (tkd G.1 G.2) tmi (aRun (tkd G.1 G.2) tmi tmt d) M_110 [] 1 (4, [some (.ref 0)], [.int s0], σ)).trans rfl
set_option maxRecDepth 20000 in
theorem q_111_139 (G : Nat × (Nat → Int32)) (d : Nat)  (σ : aH) : Lq G d M_111 (0, [some (.ref 33)], [], σ) = Lq G d M_111 (9, [some (.ref 33)], [.int (σ.1 33 17)], (aSI σ 33 0 (0 : Int32))) :=
  (aUn_eq (tkd G.1 G.2) tmi (aRun (tkd G.1 G.2) tmi tmt d) M_111 [] 5 (0, [some (.ref 33)], [], σ)).trans rfl
set_option maxRecDepth 20000 in
theorem q_111_140 (G : Nat × (Nat → Int32)) (d : Nat) (s0 : Int32) (σ : aH) : Lq G d M_111 (9, [some (.ref 33)], [.int s0], σ) = some (.inl (some (.int s0)), σ) :=
  (aUn_eq (tkd G.1 G.2) tmi (aRun (tkd G.1 G.2) tmi tmt d) M_111 [] 1 (9, [some (.ref 33)], [.int s0], σ)).trans rfl
set_option maxRecDepth 20000 in
theorem q_113_141 (G : Nat × (Nat → Int32)) (d : Nat) (x1 : Int32) (σ : aH) : Lq G d M_113 (0, [some (.ref 0), some (.int x1)], [], σ) = Lq G d M_113 (1, [some (.ref 0), some (.int x1)], [.int x1], σ) :=
  (aUn_eq (tkd G.1 G.2) tmi (aRun (tkd G.1 G.2) tmi tmt d) M_113 [] 1 (0, [some (.ref 0), some (.int x1)], [], σ)).trans rfl
set_option maxRecDepth 20000 in
theorem q_113_142 (G : Nat × (Nat → Int32)) (d : Nat) (x1 : Int32) (s0 : Int32) (σ : aH) : Lq G d M_113 (1, [some (.ref 0), some (.int x1)], [.int s0], σ) = if s0 < 0 then Lq G d M_113 (14, [some (.ref 0), some (.int x1)], [], σ) else Lq G d M_113 (4, [some (.ref 0), some (.int x1)], [], σ) :=
  (aUn_eq (tkd G.1 G.2) tmi (aRun (tkd G.1 G.2) tmi tmt d) M_113 [] 1 (1, [some (.ref 0), some (.int x1)], [.int s0], σ)).trans rfl
set_option maxRecDepth 20000 in
theorem q_113_143 (G : Nat × (Nat → Int32)) (d : Nat) (x1 : Int32) (σ : aH) : Lq G d M_113 (14, [some (.ref 0), some (.int x1)], [], σ) = Lq G d M_113 (15, [some (.ref 0), some (.int x1)], [.int (0 : Int32)], σ) :=
  (aUn_eq (tkd G.1 G.2) tmi (aRun (tkd G.1 G.2) tmi tmt d) M_113 [] 1 (14, [some (.ref 0), some (.int x1)], [], σ)).trans rfl
set_option maxRecDepth 20000 in
theorem q_113_144 (G : Nat × (Nat → Int32)) (d : Nat) (x1 : Int32) (s0 : Int32) (σ : aH) : Lq G d M_113 (15, [some (.ref 0), some (.int x1)], [.int s0], σ) = aXV (Rn G d 114 [.int s0] σ) (fun σ1 => Lq G d M_113 (18, [some (.ref 0), some (.int x1)], [], σ1)) (fun k2 σ3 => some (.inr k2, σ3)) :=
  (aUn_eq (tkd G.1 G.2) tmi (aRun (tkd G.1 G.2) tmi tmt d) M_113 [] 1 (15, [some (.ref 0), some (.int x1)], [.int s0], σ)).trans rfl
set_option maxRecDepth 20000 in
theorem q_113_145 (G : Nat × (Nat → Int32)) (d : Nat) (x1 : Int32) (σ : aH) : Lq G d M_113 (18, [some (.ref 0), some (.int x1)], [], σ) = Lq G d M_113 (20, [some (.ref 0), some (.int x1)], [.int (4 : Int32), .int x1], σ) :=
  (aUn_eq (tkd G.1 G.2) tmi (aRun (tkd G.1 G.2) tmi tmt d) M_113 [] 2 (18, [some (.ref 0), some (.int x1)], [], σ)).trans rfl
set_option maxRecDepth 20000 in
theorem q_113_146 (G : Nat × (Nat → Int32)) (d : Nat) (x1 : Int32) (s0 : Int32) (s1 : Int32) (σ : aH) : Lq G d M_113 (20, [some (.ref 0), some (.int x1)], [.int s0, .int s1], σ) = if s0 < s1 then Lq G d M_113 (32, [some (.ref 0), some (.int x1)], [], σ) else Lq G d M_113 (23, [some (.ref 0), some (.int x1)], [], σ) :=
  (aUn_eq (tkd G.1 G.2) tmi (aRun (tkd G.1 G.2) tmi tmt d) M_113 [] 1 (20, [some (.ref 0), some (.int x1)], [.int s0, .int s1], σ)).trans rfl
set_option maxRecDepth 20000 in
theorem q_113_147 (G : Nat × (Nat → Int32)) (d : Nat) (x1 : Int32) (σ : aH) : Lq G d M_113 (32, [some (.ref 0), some (.int x1)], [], σ) = Lq G d M_113 (34, [some (.ref 0), some (.int x1)], [.int (5 : Int32), .int x1], σ) :=
  (aUn_eq (tkd G.1 G.2) tmi (aRun (tkd G.1 G.2) tmi tmt d) M_113 [] 2 (32, [some (.ref 0), some (.int x1)], [], σ)).trans rfl
set_option maxRecDepth 20000 in
theorem q_113_148 (G : Nat × (Nat → Int32)) (d : Nat) (x1 : Int32) (s0 : Int32) (s1 : Int32) (σ : aH) : Lq G d M_113 (34, [some (.ref 0), some (.int x1)], [.int s0, .int s1], σ) = if s1 = s0 then Lq G d M_113 (37, [some (.ref 0), some (.int x1)], [], σ) else Lq G d M_113 (45, [some (.ref 0), some (.int x1)], [], σ) :=
  (aUn_eq (tkd G.1 G.2) tmi (aRun (tkd G.1 G.2) tmi tmt d) M_113 [] 1 (34, [some (.ref 0), some (.int x1)], [.int s0, .int s1], σ)).trans rfl
set_option maxRecDepth 20000 in
theorem q_113_149 (G : Nat × (Nat → Int32)) (d : Nat) (x1 : Int32) (σ : aH) : Lq G d M_113 (37, [some (.ref 0), some (.int x1)], [], σ) = Lq G d M_113 (44, [some (.ref 0), some (.int x1)], [.int (σ.1 13 1)], σ) :=
  (aUn_eq (tkd G.1 G.2) tmi (aRun (tkd G.1 G.2) tmi tmt d) M_113 [] 3 (37, [some (.ref 0), some (.int x1)], [], σ)).trans rfl
set_option maxRecDepth 20000 in
theorem q_113_150 (G : Nat × (Nat → Int32)) (d : Nat) (x1 : Int32) (s0 : Int32) (σ : aH) : Lq G d M_113 (44, [some (.ref 0), some (.int x1)], [.int s0], σ) = some (.inl (some (.int s0)), σ) :=
  (aUn_eq (tkd G.1 G.2) tmi (aRun (tkd G.1 G.2) tmi tmt d) M_113 [] 1 (44, [some (.ref 0), some (.int x1)], [.int s0], σ)).trans rfl
set_option maxRecDepth 20000 in
theorem q_113_151 (G : Nat × (Nat → Int32)) (d : Nat) (x1 : Int32) (σ : aH) : Lq G d M_113 (45, [some (.ref 0), some (.int x1)], [], σ) = Lq G d M_113 (48, [some (.ref 0), some (.int x1)], [.int (6 : Int32), .int x1], σ) :=
  (aUn_eq (tkd G.1 G.2) tmi (aRun (tkd G.1 G.2) tmi tmt d) M_113 [] 2 (45, [some (.ref 0), some (.int x1)], [], σ)).trans rfl
set_option maxRecDepth 20000 in
theorem q_113_152 (G : Nat × (Nat → Int32)) (d : Nat) (x1 : Int32) (s0 : Int32) (s1 : Int32) (σ : aH) : Lq G d M_113 (48, [some (.ref 0), some (.int x1)], [.int s0, .int s1], σ) = if s1 = s0 then Lq G d M_113 (51, [some (.ref 0), some (.int x1)], [], σ) else Lq G d M_113 (74, [some (.ref 0), some (.int x1)], [], σ) :=
  (aUn_eq (tkd G.1 G.2) tmi (aRun (tkd G.1 G.2) tmi tmt d) M_113 [] 1 (48, [some (.ref 0), some (.int x1)], [.int s0, .int s1], σ)).trans rfl
set_option maxRecDepth 20000 in
theorem q_113_153 (G : Nat × (Nat → Int32)) (d : Nat) (x1 : Int32) (σ : aH) : Lq G d M_113 (51, [some (.ref 0), some (.int x1)], [], σ) = Lq G d M_113 (63, [some (.ref 0), some (.int x1)], [.ref 13, .ref 3, .ref 17], σ) :=
  (aUn_eq (tkd G.1 G.2) tmi (aRun (tkd G.1 G.2) tmi tmt d) M_113 [] 6 (51, [some (.ref 0), some (.int x1)], [], σ)).trans rfl
set_option maxRecDepth 20000 in
theorem q_113_154 (G : Nat × (Nat → Int32)) (d : Nat) (x1 : Int32) (σ : aH) : Lq G d M_113 (63, [some (.ref 0), some (.int x1)], [.ref 13, .ref 3, .ref 17], σ) = aCV (Rn G d 115 [.ref 17, .ref 3, .ref 13] σ) fun σ1 => Lq G d M_113 (66, [some (.ref 0), some (.int x1)], [], σ1) :=
  (aUn_eq (tkd G.1 G.2) tmi (aRun (tkd G.1 G.2) tmi tmt d) M_113 [] 1 (63, [some (.ref 0), some (.int x1)], [.ref 13, .ref 3, .ref 17], σ)).trans rfl
set_option maxRecDepth 20000 in
theorem q_113_155 (G : Nat × (Nat → Int32)) (d : Nat) (x1 : Int32) (σ : aH) : Lq G d M_113 (66, [some (.ref 0), some (.int x1)], [], σ) = Lq G d M_113 (73, [some (.ref 0), some (.int x1)], [.int (σ.1 17 6)], σ) :=
  (aUn_eq (tkd G.1 G.2) tmi (aRun (tkd G.1 G.2) tmi tmt d) M_113 [] 3 (66, [some (.ref 0), some (.int x1)], [], σ)).trans rfl
set_option maxRecDepth 20000 in
theorem q_113_156 (G : Nat × (Nat → Int32)) (d : Nat) (x1 : Int32) (s0 : Int32) (σ : aH) : Lq G d M_113 (73, [some (.ref 0), some (.int x1)], [.int s0], σ) = some (.inl (some (.int s0)), σ) :=
  (aUn_eq (tkd G.1 G.2) tmi (aRun (tkd G.1 G.2) tmi tmt d) M_113 [] 1 (73, [some (.ref 0), some (.int x1)], [.int s0], σ)).trans rfl
set_option maxRecDepth 20000 in
theorem q_113_157 (G : Nat × (Nat → Int32)) (d : Nat) (x1 : Int32) (σ : aH) : Lq G d M_113 (74, [some (.ref 0), some (.int x1)], [], σ) = Lq G d M_113 (77, [some (.ref 0), some (.int x1)], [.int (7 : Int32), .int x1], σ) :=
  (aUn_eq (tkd G.1 G.2) tmi (aRun (tkd G.1 G.2) tmi tmt d) M_113 [] 2 (74, [some (.ref 0), some (.int x1)], [], σ)).trans rfl
set_option maxRecDepth 20000 in
theorem q_113_158 (G : Nat × (Nat → Int32)) (d : Nat) (x1 : Int32) (s0 : Int32) (s1 : Int32) (σ : aH) : Lq G d M_113 (77, [some (.ref 0), some (.int x1)], [.int s0, .int s1], σ) = if s1 = s0 then Lq G d M_113 (80, [some (.ref 0), some (.int x1)], [], σ) else Lq G d M_113 (90, [some (.ref 0), some (.int x1)], [], σ) :=
  (aUn_eq (tkd G.1 G.2) tmi (aRun (tkd G.1 G.2) tmi tmt d) M_113 [] 1 (77, [some (.ref 0), some (.int x1)], [.int s0, .int s1], σ)).trans rfl
set_option maxRecDepth 20000 in
theorem q_113_159 (G : Nat × (Nat → Int32)) (d : Nat) (x1 : Int32) (σ : aH) : Lq G d M_113 (80, [some (.ref 0), some (.int x1)], [], σ) = Lq G d M_113 (101, [some (.ref 0), some (.int x1)], [.int (σ.1 1 1)], σ) :=
  (aUn_eq (tkd G.1 G.2) tmi (aRun (tkd G.1 G.2) tmi tmt d) M_113 [] 4 (80, [some (.ref 0), some (.int x1)], [], σ)).trans rfl
set_option maxRecDepth 20000 in
theorem q_113_160 (G : Nat × (Nat → Int32)) (d : Nat) (x1 : Int32) (s0 : Int32) (σ : aH) : Lq G d M_113 (101, [some (.ref 0), some (.int x1)], [.int s0], σ) = some (.inl (some (.int s0)), σ) :=
  (aUn_eq (tkd G.1 G.2) tmi (aRun (tkd G.1 G.2) tmi tmt d) M_113 [] 1 (101, [some (.ref 0), some (.int x1)], [.int s0], σ)).trans rfl
set_option maxRecDepth 20000 in
theorem q_113_161 (G : Nat × (Nat → Int32)) (d : Nat) (x1 : Int32) (σ : aH) : Lq G d M_113 (90, [some (.ref 0), some (.int x1)], [], σ) = Lq G d M_113 (98, [some (.ref 0), some (.int x1)], [.int (x1 - (8 : Int32)), .ref 27], σ) :=
  (aUn_eq (tkd G.1 G.2) tmi (aRun (tkd G.1 G.2) tmi tmt d) M_113 [] 5 (90, [some (.ref 0), some (.int x1)], [], σ)).trans rfl
set_option maxRecDepth 20000 in
theorem q_113_162 (G : Nat × (Nat → Int32)) (d : Nat) (x1 : Int32) (s0 : Int32) (σ : aH) : Lq G d M_113 (98, [some (.ref 0), some (.int x1)], [.int s0, .ref 27], σ) = aCI (Rn G d 32 [.ref 27, .int s0] σ) fun v2 σ1 => Lq G d M_113 (101, [some (.ref 0), some (.int x1)], [.int v2], σ1) :=
  (aUn_eq (tkd G.1 G.2) tmi (aRun (tkd G.1 G.2) tmi tmt d) M_113 [] 1 (98, [some (.ref 0), some (.int x1)], [.int s0, .ref 27], σ)).trans rfl
set_option maxRecDepth 20000 in
theorem q_113_163 (G : Nat × (Nat → Int32)) (d : Nat) (x1 : Int32) (σ : aH) : Lq G d M_113 (23, [some (.ref 0), some (.int x1)], [], σ) = Lq G d M_113 (28, [some (.ref 0), some (.int x1)], [.int x1, .ref 3], σ) :=
  (aUn_eq (tkd G.1 G.2) tmi (aRun (tkd G.1 G.2) tmi tmt d) M_113 [] 3 (23, [some (.ref 0), some (.int x1)], [], σ)).trans rfl
set_option maxRecDepth 20000 in
theorem q_113_164 (G : Nat × (Nat → Int32)) (d : Nat) (x1 : Int32) (s0 : Int32) (σ : aH) : Lq G d M_113 (28, [some (.ref 0), some (.int x1)], [.int s0, .ref 3], σ) = aCI (Rn G d 98 [.ref 3, .int s0] σ) fun v2 σ1 => Lq G d M_113 (31, [some (.ref 0), some (.int x1)], [.int v2], σ1) :=
  (aUn_eq (tkd G.1 G.2) tmi (aRun (tkd G.1 G.2) tmi tmt d) M_113 [] 1 (28, [some (.ref 0), some (.int x1)], [.int s0, .ref 3], σ)).trans rfl
set_option maxRecDepth 20000 in
theorem q_113_165 (G : Nat × (Nat → Int32)) (d : Nat) (x1 : Int32) (s0 : Int32) (σ : aH) : Lq G d M_113 (31, [some (.ref 0), some (.int x1)], [.int s0], σ) = some (.inl (some (.int s0)), σ) :=
  (aUn_eq (tkd G.1 G.2) tmi (aRun (tkd G.1 G.2) tmi tmt d) M_113 [] 1 (31, [some (.ref 0), some (.int x1)], [.int s0], σ)).trans rfl
set_option maxRecDepth 20000 in
theorem q_113_166 (G : Nat × (Nat → Int32)) (d : Nat) (x1 : Int32) (σ : aH) : Lq G d M_113 (4, [some (.ref 0), some (.int x1)], [], σ) = Lq G d M_113 (7, [some (.ref 0), some (.int x1)], [.int (10 : Int32), .int x1], σ) :=
  (aUn_eq (tkd G.1 G.2) tmi (aRun (tkd G.1 G.2) tmi tmt d) M_113 [] 2 (4, [some (.ref 0), some (.int x1)], [], σ)).trans rfl
set_option maxRecDepth 20000 in
theorem q_113_167 (G : Nat × (Nat → Int32)) (d : Nat) (x1 : Int32) (s0 : Int32) (s1 : Int32) (σ : aH) : Lq G d M_113 (7, [some (.ref 0), some (.int x1)], [.int s0, .int s1], σ) = if s0 < s1 then Lq G d M_113 (14, [some (.ref 0), some (.int x1)], [], σ) else Lq G d M_113 (10, [some (.ref 0), some (.int x1)], [], σ) :=
  (aUn_eq (tkd G.1 G.2) tmi (aRun (tkd G.1 G.2) tmi tmt d) M_113 [] 1 (7, [some (.ref 0), some (.int x1)], [.int s0, .int s1], σ)).trans rfl
set_option maxRecDepth 20000 in
theorem q_113_168 (G : Nat × (Nat → Int32)) (d : Nat) (x1 : Int32) (σ : aH) : Lq G d M_113 (10, [some (.ref 0), some (.int x1)], [], σ) = Lq G d M_113 (15, [some (.ref 0), some (.int x1)], [.int (1 : Int32)], σ) :=
  (aUn_eq (tkd G.1 G.2) tmi (aRun (tkd G.1 G.2) tmi tmt d) M_113 [] 2 (10, [some (.ref 0), some (.int x1)], [], σ)).trans rfl
set_option maxRecDepth 20000 in
theorem q_129_169 (G : Nat × (Nat → Int32)) (d : Nat) (x1 : Int32) (σ : aH) : Lq G d M_129 (0, [some (.ref 33), some (.int x1)], [], σ) = Lq G d M_129 (10, [some (.ref 33), some (.int x1)], [.int (10 : Int32), .int (0 : Int32), .int x1, .ref 33], (aSI σ 33 0 (0 : Int32))) :=
  (aUn_eq (tkd G.1 G.2) tmi (aRun (tkd G.1 G.2) tmi tmt d) M_129 [] 7 (0, [some (.ref 33), some (.int x1)], [], σ)).trans rfl
set_option maxRecDepth 20000 in
theorem q_129_170 (G : Nat × (Nat → Int32)) (d : Nat) (x1 : Int32) (s0 : Int32) (s1 : Int32) (s2 : Int32) (σ : aH) : Lq G d M_129 (10, [some (.ref 33), some (.int x1)], [.int s0, .int s1, .int s2, .ref 33], σ) = aCI (Rn G d 130 [.int s2, .int s1, .int s0] σ) fun v2 σ1 => Lq G d M_129 (13, [some (.ref 33), some (.int x1)], [.int v2, .ref 33], σ1) :=
  (aUn_eq (tkd G.1 G.2) tmi (aRun (tkd G.1 G.2) tmi tmt d) M_129 [] 1 (10, [some (.ref 33), some (.int x1)], [.int s0, .int s1, .int s2, .ref 33], σ)).trans rfl
set_option maxRecDepth 20000 in
theorem q_129_171 (G : Nat × (Nat → Int32)) (d : Nat) (x1 : Int32) (s0 : Int32) (σ : aH) : Lq G d M_129 (13, [some (.ref 33), some (.int x1)], [.int s0, .ref 33], σ) = Lq G d M_129 (14, [some (.ref 33), some (.int x1)], [.int (1 : Int32), .int s0, .ref 33], σ) :=
  (aUn_eq (tkd G.1 G.2) tmi (aRun (tkd G.1 G.2) tmi tmt d) M_129 [] 1 (13, [some (.ref 33), some (.int x1)], [.int s0, .ref 33], σ)).trans rfl
set_option maxRecDepth 20000 in
theorem q_129_172 (G : Nat × (Nat → Int32)) (d : Nat) (x1 : Int32) (s0 : Int32) (s1 : Int32) (σ : aH) : Lq G d M_129 (14, [some (.ref 33), some (.int x1)], [.int s0, .int s1, .ref 33], σ) = aCI (Rn G d 62 [.ref 33, .int s1, .int s0] σ) fun v2 σ1 => Lq G d M_129 (17, [some (.ref 33), some (.int x1)], [.int v2], σ1) :=
  (aUn_eq (tkd G.1 G.2) tmi (aRun (tkd G.1 G.2) tmi tmt d) M_129 [] 1 (14, [some (.ref 33), some (.int x1)], [.int s0, .int s1, .ref 33], σ)).trans rfl
set_option maxRecDepth 20000 in
theorem q_129_173 (G : Nat × (Nat → Int32)) (d : Nat) (x1 : Int32) (s0 : Int32) (σ : aH) : Lq G d M_129 (17, [some (.ref 33), some (.int x1)], [.int s0], σ) = if s0 = 0 then Lq G d M_129 (20, [some (.ref 33), some (.int x1)], [], σ) else Lq G d M_129 (22, [some (.ref 33), some (.int x1)], [], σ) :=
  (aUn_eq (tkd G.1 G.2) tmi (aRun (tkd G.1 G.2) tmi tmt d) M_129 [] 1 (17, [some (.ref 33), some (.int x1)], [.int s0], σ)).trans rfl
set_option maxRecDepth 20000 in
theorem q_129_174 (G : Nat × (Nat → Int32)) (d : Nat) (x1 : Int32) (σ : aH) : Lq G d M_129 (20, [some (.ref 33), some (.int x1)], [], σ) = Lq G d M_129 (21, [some (.ref 33), some (.int x1)], [.int (0 : Int32)], σ) :=
  (aUn_eq (tkd G.1 G.2) tmi (aRun (tkd G.1 G.2) tmi tmt d) M_129 [] 1 (20, [some (.ref 33), some (.int x1)], [], σ)).trans rfl
set_option maxRecDepth 20000 in
theorem q_129_175 (G : Nat × (Nat → Int32)) (d : Nat) (x1 : Int32) (s0 : Int32) (σ : aH) : Lq G d M_129 (21, [some (.ref 33), some (.int x1)], [.int s0], σ) = some (.inl (some (.int s0)), σ) :=
  (aUn_eq (tkd G.1 G.2) tmi (aRun (tkd G.1 G.2) tmi tmt d) M_129 [] 1 (21, [some (.ref 33), some (.int x1)], [.int s0], σ)).trans rfl
set_option maxRecDepth 20000 in
theorem q_129_176 (G : Nat × (Nat → Int32)) (d : Nat) (x1 : Int32) (σ : aH) : Lq G d M_129 (22, [some (.ref 33), some (.int x1)], [], σ) = Lq G d M_129 (23, [some (.ref 33), some (.int x1)], [.int x1], σ) :=
  (aUn_eq (tkd G.1 G.2) tmi (aRun (tkd G.1 G.2) tmi tmt d) M_129 [] 1 (22, [some (.ref 33), some (.int x1)], [], σ)).trans rfl
set_option maxRecDepth 20000 in
theorem q_129_177 (G : Nat × (Nat → Int32)) (d : Nat) (x1 : Int32) (s0 : Int32) (σ : aH) : Lq G d M_129 (23, [some (.ref 33), some (.int x1)], [.int s0], σ) = if s0 = (0 : Int32) then Lq G d M_129 (68, [some (.ref 33), some (.int x1)], [], σ) else if s0 = (1 : Int32) then Lq G d M_129 (73, [some (.ref 33), some (.int x1)], [], σ) else if s0 = (2 : Int32) then Lq G d M_129 (78, [some (.ref 33), some (.int x1)], [], σ) else if s0 = (3 : Int32) then Lq G d M_129 (83, [some (.ref 33), some (.int x1)], [], σ) else if s0 = (4 : Int32) then Lq G d M_129 (88, [some (.ref 33), some (.int x1)], [], σ) else if s0 = (5 : Int32) then Lq G d M_129 (93, [some (.ref 33), some (.int x1)], [], σ) else if s0 = (6 : Int32) then Lq G d M_129 (98, [some (.ref 33), some (.int x1)], [], σ) else if s0 = (7 : Int32) then Lq G d M_129 (107, [some (.ref 33), some (.int x1)], [], σ) else Lq G d M_129 (112, [some (.ref 33), some (.int x1)], [], σ) :=
  (aUn_eq (tkd G.1 G.2) tmi (aRun (tkd G.1 G.2) tmi tmt d) M_129 [] 1 (23, [some (.ref 33), some (.int x1)], [.int s0], σ)).trans rfl
set_option maxRecDepth 20000 in
theorem q_129_178 (G : Nat × (Nat → Int32)) (d : Nat) (x1 : Int32) (σ : aH) : Lq G d M_129 (68, [some (.ref 33), some (.int x1)], [], σ) = Lq G d M_129 (72, [some (.ref 33), some (.int x1)], [.int (σ.1 33 1)], σ) :=
  (aUn_eq (tkd G.1 G.2) tmi (aRun (tkd G.1 G.2) tmi tmt d) M_129 [] 2 (68, [some (.ref 33), some (.int x1)], [], σ)).trans rfl
set_option maxRecDepth 20000 in
theorem q_129_179 (G : Nat × (Nat → Int32)) (d : Nat) (x1 : Int32) (s0 : Int32) (σ : aH) : Lq G d M_129 (72, [some (.ref 33), some (.int x1)], [.int s0], σ) = some (.inl (some (.int s0)), σ) :=
  (aUn_eq (tkd G.1 G.2) tmi (aRun (tkd G.1 G.2) tmi tmt d) M_129 [] 1 (72, [some (.ref 33), some (.int x1)], [.int s0], σ)).trans rfl
set_option maxRecDepth 20000 in
theorem q_129_180 (G : Nat × (Nat → Int32)) (d : Nat) (x1 : Int32) (σ : aH) : Lq G d M_129 (73, [some (.ref 33), some (.int x1)], [], σ) = Lq G d M_129 (77, [some (.ref 33), some (.int x1)], [.int (σ.1 33 2)], σ) :=
  (aUn_eq (tkd G.1 G.2) tmi (aRun (tkd G.1 G.2) tmi tmt d) M_129 [] 2 (73, [some (.ref 33), some (.int x1)], [], σ)).trans rfl
set_option maxRecDepth 20000 in
theorem q_129_181 (G : Nat × (Nat → Int32)) (d : Nat) (x1 : Int32) (s0 : Int32) (σ : aH) : Lq G d M_129 (77, [some (.ref 33), some (.int x1)], [.int s0], σ) = some (.inl (some (.int s0)), σ) :=
  (aUn_eq (tkd G.1 G.2) tmi (aRun (tkd G.1 G.2) tmi tmt d) M_129 [] 1 (77, [some (.ref 33), some (.int x1)], [.int s0], σ)).trans rfl
set_option maxRecDepth 20000 in
theorem q_129_182 (G : Nat × (Nat → Int32)) (d : Nat) (x1 : Int32) (σ : aH) : Lq G d M_129 (78, [some (.ref 33), some (.int x1)], [], σ) = Lq G d M_129 (82, [some (.ref 33), some (.int x1)], [.int (σ.1 33 3)], σ) :=
  (aUn_eq (tkd G.1 G.2) tmi (aRun (tkd G.1 G.2) tmi tmt d) M_129 [] 2 (78, [some (.ref 33), some (.int x1)], [], σ)).trans rfl
set_option maxRecDepth 20000 in
theorem q_129_183 (G : Nat × (Nat → Int32)) (d : Nat) (x1 : Int32) (s0 : Int32) (σ : aH) : Lq G d M_129 (82, [some (.ref 33), some (.int x1)], [.int s0], σ) = some (.inl (some (.int s0)), σ) :=
  (aUn_eq (tkd G.1 G.2) tmi (aRun (tkd G.1 G.2) tmi tmt d) M_129 [] 1 (82, [some (.ref 33), some (.int x1)], [.int s0], σ)).trans rfl
set_option maxRecDepth 20000 in
theorem q_129_184 (G : Nat × (Nat → Int32)) (d : Nat) (x1 : Int32) (σ : aH) : Lq G d M_129 (83, [some (.ref 33), some (.int x1)], [], σ) = Lq G d M_129 (87, [some (.ref 33), some (.int x1)], [.int (σ.1 33 4)], σ) :=
  (aUn_eq (tkd G.1 G.2) tmi (aRun (tkd G.1 G.2) tmi tmt d) M_129 [] 2 (83, [some (.ref 33), some (.int x1)], [], σ)).trans rfl
set_option maxRecDepth 20000 in
theorem q_129_185 (G : Nat × (Nat → Int32)) (d : Nat) (x1 : Int32) (s0 : Int32) (σ : aH) : Lq G d M_129 (87, [some (.ref 33), some (.int x1)], [.int s0], σ) = some (.inl (some (.int s0)), σ) :=
  (aUn_eq (tkd G.1 G.2) tmi (aRun (tkd G.1 G.2) tmi tmt d) M_129 [] 1 (87, [some (.ref 33), some (.int x1)], [.int s0], σ)).trans rfl
set_option maxRecDepth 20000 in
theorem q_129_186 (G : Nat × (Nat → Int32)) (d : Nat) (x1 : Int32) (σ : aH) : Lq G d M_129 (88, [some (.ref 33), some (.int x1)], [], σ) = Lq G d M_129 (92, [some (.ref 33), some (.int x1)], [.int (σ.1 33 5)], σ) :=
  (aUn_eq (tkd G.1 G.2) tmi (aRun (tkd G.1 G.2) tmi tmt d) M_129 [] 2 (88, [some (.ref 33), some (.int x1)], [], σ)).trans rfl
set_option maxRecDepth 20000 in
theorem q_129_187 (G : Nat × (Nat → Int32)) (d : Nat) (x1 : Int32) (s0 : Int32) (σ : aH) : Lq G d M_129 (92, [some (.ref 33), some (.int x1)], [.int s0], σ) = some (.inl (some (.int s0)), σ) :=
  (aUn_eq (tkd G.1 G.2) tmi (aRun (tkd G.1 G.2) tmi tmt d) M_129 [] 1 (92, [some (.ref 33), some (.int x1)], [.int s0], σ)).trans rfl
set_option maxRecDepth 20000 in
theorem q_129_188 (G : Nat × (Nat → Int32)) (d : Nat) (x1 : Int32) (σ : aH) : Lq G d M_129 (93, [some (.ref 33), some (.int x1)], [], σ) = Lq G d M_129 (97, [some (.ref 33), some (.int x1)], [.int (σ.1 33 12)], σ) :=
  (aUn_eq (tkd G.1 G.2) tmi (aRun (tkd G.1 G.2) tmi tmt d) M_129 [] 2 (93, [some (.ref 33), some (.int x1)], [], σ)).trans rfl
set_option maxRecDepth 20000 in
theorem q_129_189 (G : Nat × (Nat → Int32)) (d : Nat) (x1 : Int32) (s0 : Int32) (σ : aH) : Lq G d M_129 (97, [some (.ref 33), some (.int x1)], [.int s0], σ) = some (.inl (some (.int s0)), σ) :=
  (aUn_eq (tkd G.1 G.2) tmi (aRun (tkd G.1 G.2) tmi tmt d) M_129 [] 1 (97, [some (.ref 33), some (.int x1)], [.int s0], σ)).trans rfl
set_option maxRecDepth 20000 in
theorem q_129_190 (G : Nat × (Nat → Int32)) (d : Nat) (x1 : Int32) (σ : aH) : Lq G d M_129 (98, [some (.ref 33), some (.int x1)], [], σ) = Lq G d M_129 (99, [some (.ref 33), some (.int x1)], [.ref 33], σ) :=
  (aUn_eq (tkd G.1 G.2) tmi (aRun (tkd G.1 G.2) tmi tmt d) M_129 [] 1 (98, [some (.ref 33), some (.int x1)], [], σ)).trans rfl
set_option maxRecDepth 20000 in
theorem q_129_191 (G : Nat × (Nat → Int32)) (d : Nat) (x1 : Int32) (σ : aH) : Lq G d M_129 (99, [some (.ref 33), some (.int x1)], [.ref 33], σ) = aCV (Rn G d 131 [.ref 33] σ) fun σ1 => Lq G d M_129 (102, [some (.ref 33), some (.int x1)], [], σ1) :=
  (aUn_eq (tkd G.1 G.2) tmi (aRun (tkd G.1 G.2) tmi tmt d) M_129 [] 1 (99, [some (.ref 33), some (.int x1)], [.ref 33], σ)).trans rfl
set_option maxRecDepth 20000 in
theorem q_129_192 (G : Nat × (Nat → Int32)) (d : Nat) (x1 : Int32) (σ : aH) : Lq G d M_129 (102, [some (.ref 33), some (.int x1)], [], σ) = Lq G d M_129 (106, [some (.ref 33), some (.int x1)], [.int (σ.1 33 49)], σ) :=
  (aUn_eq (tkd G.1 G.2) tmi (aRun (tkd G.1 G.2) tmi tmt d) M_129 [] 2 (102, [some (.ref 33), some (.int x1)], [], σ)).trans rfl
set_option maxRecDepth 20000 in
theorem q_129_193 (G : Nat × (Nat → Int32)) (d : Nat) (x1 : Int32) (s0 : Int32) (σ : aH) : Lq G d M_129 (106, [some (.ref 33), some (.int x1)], [.int s0], σ) = some (.inl (some (.int s0)), σ) :=
  (aUn_eq (tkd G.1 G.2) tmi (aRun (tkd G.1 G.2) tmi tmt d) M_129 [] 1 (106, [some (.ref 33), some (.int x1)], [.int s0], σ)).trans rfl
set_option maxRecDepth 20000 in
theorem q_129_194 (G : Nat × (Nat → Int32)) (d : Nat) (x1 : Int32) (σ : aH) : Lq G d M_129 (107, [some (.ref 33), some (.int x1)], [], σ) = Lq G d M_129 (111, [some (.ref 33), some (.int x1)], [.int (σ.1 33 15)], σ) :=
  (aUn_eq (tkd G.1 G.2) tmi (aRun (tkd G.1 G.2) tmi tmt d) M_129 [] 2 (107, [some (.ref 33), some (.int x1)], [], σ)).trans rfl
set_option maxRecDepth 20000 in
theorem q_129_195 (G : Nat × (Nat → Int32)) (d : Nat) (x1 : Int32) (s0 : Int32) (σ : aH) : Lq G d M_129 (111, [some (.ref 33), some (.int x1)], [.int s0], σ) = some (.inl (some (.int s0)), σ) :=
  (aUn_eq (tkd G.1 G.2) tmi (aRun (tkd G.1 G.2) tmi tmt d) M_129 [] 1 (111, [some (.ref 33), some (.int x1)], [.int s0], σ)).trans rfl
set_option maxRecDepth 20000 in
theorem q_129_196 (G : Nat × (Nat → Int32)) (d : Nat) (x1 : Int32) (σ : aH) : Lq G d M_129 (112, [some (.ref 33), some (.int x1)], [], σ) = Lq G d M_129 (120, [some (.ref 33), some (.int x1)], [.int (x1 - (8 : Int32)), .ref 52], σ) :=
  (aUn_eq (tkd G.1 G.2) tmi (aRun (tkd G.1 G.2) tmi tmt d) M_129 [] 5 (112, [some (.ref 33), some (.int x1)], [], σ)).trans rfl
set_option maxRecDepth 20000 in
theorem q_129_197 (G : Nat × (Nat → Int32)) (d : Nat) (x1 : Int32) (s0 : Int32) (σ : aH) : Lq G d M_129 (120, [some (.ref 33), some (.int x1)], [.int s0, .ref 52], σ) = aIx (s0) 3 fun j1 => Lq G d M_129 (121, [some (.ref 33), some (.int x1)], [.int (σ.1 52 j1)], σ) :=
  (aUn_eq (tkd G.1 G.2) tmi (aRun (tkd G.1 G.2) tmi tmt d) M_129 [] 1 (120, [some (.ref 33), some (.int x1)], [.int s0, .ref 52], σ)).trans rfl
set_option maxRecDepth 20000 in
theorem q_129_198 (G : Nat × (Nat → Int32)) (d : Nat) (x1 : Int32) (s0 : Int32) (σ : aH) : Lq G d M_129 (121, [some (.ref 33), some (.int x1)], [.int s0], σ) = some (.inl (some (.int s0)), σ) :=
  (aUn_eq (tkd G.1 G.2) tmi (aRun (tkd G.1 G.2) tmi tmt d) M_129 [] 1 (121, [some (.ref 33), some (.int x1)], [.int s0], σ)).trans rfl
set_option maxRecDepth 20000 in
theorem q_139_199 (G : Nat × (Nat → Int32)) (d : Nat) (x1 : Int32) (x2 : Int32) (σ : aH) : Lq G d M_139 (0, [some (.ref 0), some (.int x1), some (.int x2)], [], σ) = Lq G d M_139 (6, [some (.ref 0), some (.int x1), some (.int x2)], [.int x1, .int (0 : Int32), .ref 3], σ) :=
  (aUn_eq (tkd G.1 G.2) tmi (aRun (tkd G.1 G.2) tmi tmt d) M_139 [] 4 (0, [some (.ref 0), some (.int x1), some (.int x2)], [], σ)).trans rfl
set_option maxRecDepth 20000 in
theorem q_139_200 (G : Nat × (Nat → Int32)) (d : Nat) (x1 : Int32) (x2 : Int32) (s0 : Int32) (s1 : Int32) (σ : aH) : Lq G d M_139 (6, [some (.ref 0), some (.int x1), some (.int x2)], [.int s0, .int s1, .ref 3], σ) = aCI (Rn G d 103 [.ref 3, .int s1, .int s0] σ) fun v2 σ1 => Lq G d M_139 (9, [some (.ref 0), some (.int x1), some (.int x2)], [.int v2], σ1) :=
  (aUn_eq (tkd G.1 G.2) tmi (aRun (tkd G.1 G.2) tmi tmt d) M_139 [] 1 (6, [some (.ref 0), some (.int x1), some (.int x2)], [.int s0, .int s1, .ref 3], σ)).trans rfl
set_option maxRecDepth 20000 in
theorem q_139_201 (G : Nat × (Nat → Int32)) (d : Nat) (x1 : Int32) (x2 : Int32) (s0 : Int32) (σ : aH) : Lq G d M_139 (9, [some (.ref 0), some (.int x1), some (.int x2)], [.int s0], σ) = if s0 = 0 then Lq G d M_139 (26, [some (.ref 0), some (.int x1), some (.int x2)], [], σ) else Lq G d M_139 (12, [some (.ref 0), some (.int x1), some (.int x2)], [], σ) :=
  (aUn_eq (tkd G.1 G.2) tmi (aRun (tkd G.1 G.2) tmi tmt d) M_139 [] 1 (9, [some (.ref 0), some (.int x1), some (.int x2)], [.int s0], σ)).trans rfl
set_option maxRecDepth 20000 in
theorem q_139_202 (G : Nat × (Nat → Int32)) (d : Nat) (x1 : Int32) (x2 : Int32) (σ : aH) : Lq G d M_139 (26, [some (.ref 0), some (.int x1), some (.int x2)], [], σ) = Lq G d M_139 (27, [some (.ref 0), some (.int x1), some (.int x2)], [.int (0 : Int32)], σ) :=
  (aUn_eq (tkd G.1 G.2) tmi (aRun (tkd G.1 G.2) tmi tmt d) M_139 [] 1 (26, [some (.ref 0), some (.int x1), some (.int x2)], [], σ)).trans rfl
set_option maxRecDepth 20000 in
theorem q_139_203 (G : Nat × (Nat → Int32)) (d : Nat) (x1 : Int32) (x2 : Int32) (s0 : Int32) (σ : aH) : Lq G d M_139 (27, [some (.ref 0), some (.int x1), some (.int x2)], [.int s0], σ) = aXV (Rn G d 114 [.int s0] σ) (fun σ1 => Lq G d M_139 (30, [some (.ref 0), some (.int x1), some (.int x2)], [], σ1)) (fun k2 σ3 => some (.inr k2, σ3)) :=
  (aUn_eq (tkd G.1 G.2) tmi (aRun (tkd G.1 G.2) tmi tmt d) M_139 [] 1 (27, [some (.ref 0), some (.int x1), some (.int x2)], [.int s0], σ)).trans rfl
set_option maxRecDepth 20000 in
theorem q_139_204 (G : Nat × (Nat → Int32)) (d : Nat) (x1 : Int32) (x2 : Int32) (σ : aH) : Lq G d M_139 (30, [some (.ref 0), some (.int x1), some (.int x2)], [], σ) = Lq G d M_139 (33, [some (.ref 0), some (.int x1), some (.int x2)], [.int (6 : Int32), .int x2], σ) :=
  (aUn_eq (tkd G.1 G.2) tmi (aRun (tkd G.1 G.2) tmi tmt d) M_139 [] 2 (30, [some (.ref 0), some (.int x1), some (.int x2)], [], σ)).trans rfl
set_option maxRecDepth 20000 in
theorem q_139_205 (G : Nat × (Nat → Int32)) (d : Nat) (x1 : Int32) (x2 : Int32) (s0 : Int32) (s1 : Int32) (σ : aH) : Lq G d M_139 (33, [some (.ref 0), some (.int x1), some (.int x2)], [.int s0, .int s1], σ) = if s1 = s0 then Lq G d M_139 (36, [some (.ref 0), some (.int x1), some (.int x2)], [], σ) else Lq G d M_139 (68, [some (.ref 0), some (.int x1), some (.int x2)], [], σ) :=
  (aUn_eq (tkd G.1 G.2) tmi (aRun (tkd G.1 G.2) tmi tmt d) M_139 [] 1 (33, [some (.ref 0), some (.int x1), some (.int x2)], [.int s0, .int s1], σ)).trans rfl
set_option maxRecDepth 20000 in
theorem q_139_206 (G : Nat × (Nat → Int32)) (d : Nat) (x1 : Int32) (x2 : Int32) (σ : aH) : Lq G d M_139 (36, [some (.ref 0), some (.int x1), some (.int x2)], [], σ) = Lq G d M_139 (48, [some (.ref 0), some (.int x1), some (.int x2)], [.ref 13, .ref 3, .ref 17], σ) :=
  (aUn_eq (tkd G.1 G.2) tmi (aRun (tkd G.1 G.2) tmi tmt d) M_139 [] 6 (36, [some (.ref 0), some (.int x1), some (.int x2)], [], σ)).trans rfl
set_option maxRecDepth 20000 in
theorem q_139_207 (G : Nat × (Nat → Int32)) (d : Nat) (x1 : Int32) (x2 : Int32) (σ : aH) : Lq G d M_139 (48, [some (.ref 0), some (.int x1), some (.int x2)], [.ref 13, .ref 3, .ref 17], σ) = aCV (Rn G d 115 [.ref 17, .ref 3, .ref 13] σ) fun σ1 => Lq G d M_139 (51, [some (.ref 0), some (.int x1), some (.int x2)], [], σ1) :=
  (aUn_eq (tkd G.1 G.2) tmi (aRun (tkd G.1 G.2) tmi tmt d) M_139 [] 1 (48, [some (.ref 0), some (.int x1), some (.int x2)], [.ref 13, .ref 3, .ref 17], σ)).trans rfl
set_option maxRecDepth 20000 in
theorem q_139_208 (G : Nat × (Nat → Int32)) (d : Nat) (x1 : Int32) (x2 : Int32) (σ : aH) : Lq G d M_139 (51, [some (.ref 0), some (.int x1), some (.int x2)], [], σ) = Lq G d M_139 (56, [some (.ref 0), some (.int x1), some (.int x2)], [.int x1, .ref 17], σ) :=
  (aUn_eq (tkd G.1 G.2) tmi (aRun (tkd G.1 G.2) tmi tmt d) M_139 [] 3 (51, [some (.ref 0), some (.int x1), some (.int x2)], [], σ)).trans rfl
set_option maxRecDepth 20000 in
theorem q_139_209 (G : Nat × (Nat → Int32)) (d : Nat) (x1 : Int32) (x2 : Int32) (s0 : Int32) (σ : aH) : Lq G d M_139 (56, [some (.ref 0), some (.int x1), some (.int x2)], [.int s0, .ref 17], σ) = aCI (Rn G d 128 [.ref 17, .int s0] σ) fun v2 σ1 => Lq G d M_139 (59, [some (.ref 0), some (.int x1), some (.int x2)], [.int v2], σ1) :=
  (aUn_eq (tkd G.1 G.2) tmi (aRun (tkd G.1 G.2) tmi tmt d) M_139 [] 1 (56, [some (.ref 0), some (.int x1), some (.int x2)], [.int s0, .ref 17], σ)).trans rfl
set_option maxRecDepth 20000 in
theorem q_139_210 (G : Nat × (Nat → Int32)) (d : Nat) (x1 : Int32) (x2 : Int32) (s0 : Int32) (σ : aH) : Lq G d M_139 (59, [some (.ref 0), some (.int x1), some (.int x2)], [.int s0], σ) = if s0 = 0 then Lq G d M_139 (66, [some (.ref 0), some (.int x1), some (.int x2)], [], σ) else Lq G d M_139 (62, [some (.ref 0), some (.int x1), some (.int x2)], [], σ) :=
  (aUn_eq (tkd G.1 G.2) tmi (aRun (tkd G.1 G.2) tmi tmt d) M_139 [] 1 (59, [some (.ref 0), some (.int x1), some (.int x2)], [.int s0], σ)).trans rfl
set_option maxRecDepth 20000 in
theorem q_139_211 (G : Nat × (Nat → Int32)) (d : Nat) (x1 : Int32) (x2 : Int32) (σ : aH) : Lq G d M_139 (66, [some (.ref 0), some (.int x1), some (.int x2)], [], σ) = Lq G d M_139 (67, [some (.ref 0), some (.int x1), some (.int x2)], [.int (0 : Int32)], σ) :=
  (aUn_eq (tkd G.1 G.2) tmi (aRun (tkd G.1 G.2) tmi tmt d) M_139 [] 1 (66, [some (.ref 0), some (.int x1), some (.int x2)], [], σ)).trans rfl
set_option maxRecDepth 20000 in
theorem q_139_212 (G : Nat × (Nat → Int32)) (d : Nat) (x1 : Int32) (x2 : Int32) (s0 : Int32) (σ : aH) : Lq G d M_139 (67, [some (.ref 0), some (.int x1), some (.int x2)], [.int s0], σ) = some (.inl (some (.int s0)), σ) :=
  (aUn_eq (tkd G.1 G.2) tmi (aRun (tkd G.1 G.2) tmi tmt d) M_139 [] 1 (67, [some (.ref 0), some (.int x1), some (.int x2)], [.int s0], σ)).trans rfl
set_option maxRecDepth 20000 in
theorem q_139_213 (G : Nat × (Nat → Int32)) (d : Nat) (x1 : Int32) (x2 : Int32) (σ : aH) : Lq G d M_139 (62, [some (.ref 0), some (.int x1), some (.int x2)], [], σ) = Lq G d M_139 (67, [some (.ref 0), some (.int x1), some (.int x2)], [.int (1 : Int32)], σ) :=
  (aUn_eq (tkd G.1 G.2) tmi (aRun (tkd G.1 G.2) tmi tmt d) M_139 [] 2 (62, [some (.ref 0), some (.int x1), some (.int x2)], [], σ)).trans rfl
set_option maxRecDepth 20000 in
theorem q_139_214 (G : Nat × (Nat → Int32)) (d : Nat) (x1 : Int32) (x2 : Int32) (σ : aH) : Lq G d M_139 (68, [some (.ref 0), some (.int x1), some (.int x2)], [], σ) = Lq G d M_139 (75, [some (.ref 0), some (.int x1), some (.int x2)], [.int x2, .int x1, .int (0 : Int32), .ref 3], σ) :=
  (aUn_eq (tkd G.1 G.2) tmi (aRun (tkd G.1 G.2) tmi tmt d) M_139 [] 5 (68, [some (.ref 0), some (.int x1), some (.int x2)], [], σ)).trans rfl
set_option maxRecDepth 20000 in
theorem q_139_215 (G : Nat × (Nat → Int32)) (d : Nat) (x1 : Int32) (x2 : Int32) (s0 : Int32) (s1 : Int32) (s2 : Int32) (σ : aH) : Lq G d M_139 (75, [some (.ref 0), some (.int x1), some (.int x2)], [.int s0, .int s1, .int s2, .ref 3], σ) = aCI (Rn G d 119 [.ref 3, .int s2, .int s1, .int s0] σ) fun v2 σ1 => Lq G d M_139 (78, [some (.ref 0), some (.int x1), some (.int x2)], [.int v2], σ1) :=
  (aUn_eq (tkd G.1 G.2) tmi (aRun (tkd G.1 G.2) tmi tmt d) M_139 [] 1 (75, [some (.ref 0), some (.int x1), some (.int x2)], [.int s0, .int s1, .int s2, .ref 3], σ)).trans rfl
set_option maxRecDepth 20000 in
theorem q_139_216 (G : Nat × (Nat → Int32)) (d : Nat) (x1 : Int32) (x2 : Int32) (s0 : Int32) (σ : aH) : Lq G d M_139 (78, [some (.ref 0), some (.int x1), some (.int x2)], [.int s0], σ) = some (.inl (some (.int s0)), σ) :=
  (aUn_eq (tkd G.1 G.2) tmi (aRun (tkd G.1 G.2) tmi tmt d) M_139 [] 1 (78, [some (.ref 0), some (.int x1), some (.int x2)], [.int s0], σ)).trans rfl
set_option maxRecDepth 20000 in
theorem q_139_217 (G : Nat × (Nat → Int32)) (d : Nat) (x1 : Int32) (x2 : Int32) (σ : aH) : Lq G d M_139 (12, [some (.ref 0), some (.int x1), some (.int x2)], [], σ) = Lq G d M_139 (13, [some (.ref 0), some (.int x1), some (.int x2)], [.int x2], σ) :=
  (aUn_eq (tkd G.1 G.2) tmi (aRun (tkd G.1 G.2) tmi tmt d) M_139 [] 1 (12, [some (.ref 0), some (.int x1), some (.int x2)], [], σ)).trans rfl
set_option maxRecDepth 20000 in
theorem q_139_218 (G : Nat × (Nat → Int32)) (d : Nat) (x1 : Int32) (x2 : Int32) (s0 : Int32) (σ : aH) : Lq G d M_139 (13, [some (.ref 0), some (.int x1), some (.int x2)], [.int s0], σ) = if s0 < 0 then Lq G d M_139 (26, [some (.ref 0), some (.int x1), some (.int x2)], [], σ) else Lq G d M_139 (16, [some (.ref 0), some (.int x1), some (.int x2)], [], σ) :=
  (aUn_eq (tkd G.1 G.2) tmi (aRun (tkd G.1 G.2) tmi tmt d) M_139 [] 1 (13, [some (.ref 0), some (.int x1), some (.int x2)], [.int s0], σ)).trans rfl
set_option maxRecDepth 20000 in
theorem q_139_219 (G : Nat × (Nat → Int32)) (d : Nat) (x1 : Int32) (x2 : Int32) (σ : aH) : Lq G d M_139 (16, [some (.ref 0), some (.int x1), some (.int x2)], [], σ) = Lq G d M_139 (19, [some (.ref 0), some (.int x1), some (.int x2)], [.int (6 : Int32), .int x2], σ) :=
  (aUn_eq (tkd G.1 G.2) tmi (aRun (tkd G.1 G.2) tmi tmt d) M_139 [] 2 (16, [some (.ref 0), some (.int x1), some (.int x2)], [], σ)).trans rfl
set_option maxRecDepth 20000 in
theorem q_139_220 (G : Nat × (Nat → Int32)) (d : Nat) (x1 : Int32) (x2 : Int32) (s0 : Int32) (s1 : Int32) (σ : aH) : Lq G d M_139 (19, [some (.ref 0), some (.int x1), some (.int x2)], [.int s0, .int s1], σ) = if s0 < s1 then Lq G d M_139 (26, [some (.ref 0), some (.int x1), some (.int x2)], [], σ) else Lq G d M_139 (22, [some (.ref 0), some (.int x1), some (.int x2)], [], σ) :=
  (aUn_eq (tkd G.1 G.2) tmi (aRun (tkd G.1 G.2) tmi tmt d) M_139 [] 1 (19, [some (.ref 0), some (.int x1), some (.int x2)], [.int s0, .int s1], σ)).trans rfl
set_option maxRecDepth 20000 in
theorem q_139_221 (G : Nat × (Nat → Int32)) (d : Nat) (x1 : Int32) (x2 : Int32) (σ : aH) : Lq G d M_139 (22, [some (.ref 0), some (.int x1), some (.int x2)], [], σ) = Lq G d M_139 (27, [some (.ref 0), some (.int x1), some (.int x2)], [.int (1 : Int32)], σ) :=
  (aUn_eq (tkd G.1 G.2) tmi (aRun (tkd G.1 G.2) tmi tmt d) M_139 [] 2 (22, [some (.ref 0), some (.int x1), some (.int x2)], [], σ)).trans rfl
set_option maxRecDepth 20000 in
theorem q_140_222 (G : Nat × (Nat → Int32)) (d : Nat) (x1 : Int32) (x2 : Int32) (σ : aH) : Lq G d M_140 (0, [some (.ref 33), some (.int x1), some (.int x2)], [], σ) = Lq G d M_140 (7, [some (.ref 33), some (.int x1), some (.int x2)], [.int x1, .ref 33], (aSI σ 33 0 (0 : Int32))) :=
  (aUn_eq (tkd G.1 G.2) tmi (aRun (tkd G.1 G.2) tmi tmt d) M_140 [] 5 (0, [some (.ref 33), some (.int x1), some (.int x2)], [], σ)).trans rfl
set_option maxRecDepth 20000 in
theorem q_140_223 (G : Nat × (Nat → Int32)) (d : Nat) (x1 : Int32) (x2 : Int32) (s0 : Int32) (σ : aH) : Lq G d M_140 (7, [some (.ref 33), some (.int x1), some (.int x2)], [.int s0, .ref 33], σ) = if s0 < 0 then Lq G d M_140 (32, [some (.ref 33), some (.int x1), some (.int x2)], [.ref 33], σ) else Lq G d M_140 (10, [some (.ref 33), some (.int x1), some (.int x2)], [.ref 33], σ) :=
  (aUn_eq (tkd G.1 G.2) tmi (aRun (tkd G.1 G.2) tmi tmt d) M_140 [] 1 (7, [some (.ref 33), some (.int x1), some (.int x2)], [.int s0, .ref 33], σ)).trans rfl
set_option maxRecDepth 20000 in
theorem q_140_224 (G : Nat × (Nat → Int32)) (d : Nat) (x1 : Int32) (x2 : Int32) (σ : aH) : Lq G d M_140 (32, [some (.ref 33), some (.int x1), some (.int x2)], [.ref 33], σ) = Lq G d M_140 (34, [some (.ref 33), some (.int x1), some (.int x2)], [.int (1 : Int32), .int (0 : Int32), .ref 33], σ) :=
  (aUn_eq (tkd G.1 G.2) tmi (aRun (tkd G.1 G.2) tmi tmt d) M_140 [] 2 (32, [some (.ref 33), some (.int x1), some (.int x2)], [.ref 33], σ)).trans rfl
set_option maxRecDepth 20000 in
theorem q_140_225 (G : Nat × (Nat → Int32)) (d : Nat) (x1 : Int32) (x2 : Int32) (s0 : Int32) (s1 : Int32) (σ : aH) : Lq G d M_140 (34, [some (.ref 33), some (.int x1), some (.int x2)], [.int s0, .int s1, .ref 33], σ) = aCI (Rn G d 62 [.ref 33, .int s1, .int s0] σ) fun v2 σ1 => Lq G d M_140 (37, [some (.ref 33), some (.int x1), some (.int x2)], [.int v2], σ1) :=
  (aUn_eq (tkd G.1 G.2) tmi (aRun (tkd G.1 G.2) tmi tmt d) M_140 [] 1 (34, [some (.ref 33), some (.int x1), some (.int x2)], [.int s0, .int s1, .ref 33], σ)).trans rfl
set_option maxRecDepth 20000 in
theorem q_140_226 (G : Nat × (Nat → Int32)) (d : Nat) (x1 : Int32) (x2 : Int32) (s0 : Int32) (σ : aH) : Lq G d M_140 (37, [some (.ref 33), some (.int x1), some (.int x2)], [.int s0], σ) = if s0 = 0 then Lq G d M_140 (40, [some (.ref 33), some (.int x1), some (.int x2)], [], σ) else Lq G d M_140 (42, [some (.ref 33), some (.int x1), some (.int x2)], [], σ) :=
  (aUn_eq (tkd G.1 G.2) tmi (aRun (tkd G.1 G.2) tmi tmt d) M_140 [] 1 (37, [some (.ref 33), some (.int x1), some (.int x2)], [.int s0], σ)).trans rfl
set_option maxRecDepth 20000 in
theorem q_140_227 (G : Nat × (Nat → Int32)) (d : Nat) (x1 : Int32) (x2 : Int32) (σ : aH) : Lq G d M_140 (40, [some (.ref 33), some (.int x1), some (.int x2)], [], σ) = Lq G d M_140 (41, [some (.ref 33), some (.int x1), some (.int x2)], [.int (0 : Int32)], σ) :=
  (aUn_eq (tkd G.1 G.2) tmi (aRun (tkd G.1 G.2) tmi tmt d) M_140 [] 1 (40, [some (.ref 33), some (.int x1), some (.int x2)], [], σ)).trans rfl
set_option maxRecDepth 20000 in
theorem q_140_228 (G : Nat × (Nat → Int32)) (d : Nat) (x1 : Int32) (x2 : Int32) (s0 : Int32) (σ : aH) : Lq G d M_140 (41, [some (.ref 33), some (.int x1), some (.int x2)], [.int s0], σ) = some (.inl (some (.int s0)), σ) :=
  (aUn_eq (tkd G.1 G.2) tmi (aRun (tkd G.1 G.2) tmi tmt d) M_140 [] 1 (41, [some (.ref 33), some (.int x1), some (.int x2)], [.int s0], σ)).trans rfl
set_option maxRecDepth 20000 in
theorem q_140_229 (G : Nat × (Nat → Int32)) (d : Nat) (x1 : Int32) (x2 : Int32) (σ : aH) : Lq G d M_140 (42, [some (.ref 33), some (.int x1), some (.int x2)], [], σ) = Lq G d M_140 (45, [some (.ref 33), some (.int x1), some (.int x2)], [.int (6 : Int32), .int x2], σ) :=
  (aUn_eq (tkd G.1 G.2) tmi (aRun (tkd G.1 G.2) tmi tmt d) M_140 [] 2 (42, [some (.ref 33), some (.int x1), some (.int x2)], [], σ)).trans rfl
set_option maxRecDepth 20000 in
theorem q_140_230 (G : Nat × (Nat → Int32)) (d : Nat) (x1 : Int32) (x2 : Int32) (s0 : Int32) (s1 : Int32) (σ : aH) : Lq G d M_140 (45, [some (.ref 33), some (.int x1), some (.int x2)], [.int s0, .int s1], σ) = if s0 ≤ s1 then Lq G d M_140 (62, [some (.ref 33), some (.int x1), some (.int x2)], [], σ) else Lq G d M_140 (48, [some (.ref 33), some (.int x1), some (.int x2)], [], σ) :=
  (aUn_eq (tkd G.1 G.2) tmi (aRun (tkd G.1 G.2) tmi tmt d) M_140 [] 1 (45, [some (.ref 33), some (.int x1), some (.int x2)], [.int s0, .int s1], σ)).trans rfl
set_option maxRecDepth 20000 in
theorem q_140_231 (G : Nat × (Nat → Int32)) (d : Nat) (x1 : Int32) (x2 : Int32) (σ : aH) : Lq G d M_140 (62, [some (.ref 33), some (.int x1), some (.int x2)], [], σ) = Lq G d M_140 (64, [some (.ref 33), some (.int x1), some (.int x2)], [.int x1, .ref 33], σ) :=
  (aUn_eq (tkd G.1 G.2) tmi (aRun (tkd G.1 G.2) tmi tmt d) M_140 [] 2 (62, [some (.ref 33), some (.int x1), some (.int x2)], [], σ)).trans rfl
set_option maxRecDepth 20000 in
theorem q_140_232 (G : Nat × (Nat → Int32)) (d : Nat) (x1 : Int32) (x2 : Int32) (s0 : Int32) (σ : aH) : Lq G d M_140 (64, [some (.ref 33), some (.int x1), some (.int x2)], [.int s0, .ref 33], σ) = aCI (Rn G d 137 [.ref 33, .int s0] σ) fun v2 σ1 => Lq G d M_140 (67, [some (.ref 33), some (.int x1), some (.int x2)], [.int v2], σ1) :=
  (aUn_eq (tkd G.1 G.2) tmi (aRun (tkd G.1 G.2) tmi tmt d) M_140 [] 1 (64, [some (.ref 33), some (.int x1), some (.int x2)], [.int s0, .ref 33], σ)).trans rfl
set_option maxRecDepth 20000 in
theorem q_140_233 (G : Nat × (Nat → Int32)) (d : Nat) (x1 : Int32) (x2 : Int32) (s0 : Int32) (σ : aH) : Lq G d M_140 (67, [some (.ref 33), some (.int x1), some (.int x2)], [.int s0], σ) = if s0 = 0 then Lq G d M_140 (74, [some (.ref 33), some (.int x1), some (.int x2)], [], σ) else Lq G d M_140 (70, [some (.ref 33), some (.int x1), some (.int x2)], [], σ) :=
  (aUn_eq (tkd G.1 G.2) tmi (aRun (tkd G.1 G.2) tmi tmt d) M_140 [] 1 (67, [some (.ref 33), some (.int x1), some (.int x2)], [.int s0], σ)).trans rfl
set_option maxRecDepth 20000 in
theorem q_140_234 (G : Nat × (Nat → Int32)) (d : Nat) (x1 : Int32) (x2 : Int32) (σ : aH) : Lq G d M_140 (74, [some (.ref 33), some (.int x1), some (.int x2)], [], σ) = Lq G d M_140 (75, [some (.ref 33), some (.int x1), some (.int x2)], [.int (0 : Int32)], σ) :=
  (aUn_eq (tkd G.1 G.2) tmi (aRun (tkd G.1 G.2) tmi tmt d) M_140 [] 1 (74, [some (.ref 33), some (.int x1), some (.int x2)], [], σ)).trans rfl
set_option maxRecDepth 20000 in
theorem q_140_235 (G : Nat × (Nat → Int32)) (d : Nat) (x1 : Int32) (x2 : Int32) (s0 : Int32) (σ : aH) : Lq G d M_140 (75, [some (.ref 33), some (.int x1), some (.int x2)], [.int s0], σ) = some (.inl (some (.int s0)), σ) :=
  (aUn_eq (tkd G.1 G.2) tmi (aRun (tkd G.1 G.2) tmi tmt d) M_140 [] 1 (75, [some (.ref 33), some (.int x1), some (.int x2)], [.int s0], σ)).trans rfl
set_option maxRecDepth 20000 in
theorem q_140_236 (G : Nat × (Nat → Int32)) (d : Nat) (x1 : Int32) (x2 : Int32) (σ : aH) : Lq G d M_140 (70, [some (.ref 33), some (.int x1), some (.int x2)], [], σ) = Lq G d M_140 (75, [some (.ref 33), some (.int x1), some (.int x2)], [.int (1 : Int32)], σ) :=
  (aUn_eq (tkd G.1 G.2) tmi (aRun (tkd G.1 G.2) tmi tmt d) M_140 [] 2 (70, [some (.ref 33), some (.int x1), some (.int x2)], [], σ)).trans rfl
set_option maxRecDepth 20000 in
theorem q_140_237 (G : Nat × (Nat → Int32)) (d : Nat) (x1 : Int32) (x2 : Int32) (σ : aH) : Lq G d M_140 (48, [some (.ref 33), some (.int x1), some (.int x2)], [], σ) = Lq G d M_140 (58, [some (.ref 33), some (.int x1), some (.int x2)], [.int (((6 : Int32) * x1) + x2), .ref 34], σ) :=
  (aUn_eq (tkd G.1 G.2) tmi (aRun (tkd G.1 G.2) tmi tmt d) M_140 [] 7 (48, [some (.ref 33), some (.int x1), some (.int x2)], [], σ)).trans rfl
set_option maxRecDepth 20000 in
theorem q_140_238 (G : Nat × (Nat → Int32)) (d : Nat) (x1 : Int32) (x2 : Int32) (s0 : Int32) (σ : aH) : Lq G d M_140 (58, [some (.ref 33), some (.int x1), some (.int x2)], [.int s0, .ref 34], σ) = aIx (s0) 120 fun j1 => Lq G d M_140 (59, [some (.ref 33), some (.int x1), some (.int x2)], [.int (σ.1 34 j1)], σ) :=
  (aUn_eq (tkd G.1 G.2) tmi (aRun (tkd G.1 G.2) tmi tmt d) M_140 [] 1 (58, [some (.ref 33), some (.int x1), some (.int x2)], [.int s0, .ref 34], σ)).trans rfl
set_option maxRecDepth 20000 in
theorem q_140_239 (G : Nat × (Nat → Int32)) (d : Nat) (x1 : Int32) (x2 : Int32) (s0 : Int32) (σ : aH) : Lq G d M_140 (59, [some (.ref 33), some (.int x1), some (.int x2)], [.int s0], σ) = Lq G d M_140 (75, [some (.ref 33), some (.int x1), some (.int x2)], [.int s0], σ) :=
  (aUn_eq (tkd G.1 G.2) tmi (aRun (tkd G.1 G.2) tmi tmt d) M_140 [] 1 (59, [some (.ref 33), some (.int x1), some (.int x2)], [.int s0], σ)).trans rfl
set_option maxRecDepth 20000 in
theorem q_140_240 (G : Nat × (Nat → Int32)) (d : Nat) (x1 : Int32) (x2 : Int32) (σ : aH) : Lq G d M_140 (10, [some (.ref 33), some (.int x1), some (.int x2)], [.ref 33], σ) = Lq G d M_140 (15, [some (.ref 33), some (.int x1), some (.int x2)], [.int (σ.1 33 1), .int x1, .ref 33], σ) :=
  (aUn_eq (tkd G.1 G.2) tmi (aRun (tkd G.1 G.2) tmi tmt d) M_140 [] 3 (10, [some (.ref 33), some (.int x1), some (.int x2)], [.ref 33], σ)).trans rfl
set_option maxRecDepth 20000 in
theorem q_140_241 (G : Nat × (Nat → Int32)) (d : Nat) (x1 : Int32) (x2 : Int32) (s0 : Int32) (s1 : Int32) (σ : aH) : Lq G d M_140 (15, [some (.ref 33), some (.int x1), some (.int x2)], [.int s0, .int s1, .ref 33], σ) = if s0 ≤ s1 then Lq G d M_140 (32, [some (.ref 33), some (.int x1), some (.int x2)], [.ref 33], σ) else Lq G d M_140 (18, [some (.ref 33), some (.int x1), some (.int x2)], [.ref 33], σ) :=
  (aUn_eq (tkd G.1 G.2) tmi (aRun (tkd G.1 G.2) tmi tmt d) M_140 [] 1 (15, [some (.ref 33), some (.int x1), some (.int x2)], [.int s0, .int s1, .ref 33], σ)).trans rfl
set_option maxRecDepth 20000 in
theorem q_140_242 (G : Nat × (Nat → Int32)) (d : Nat) (x1 : Int32) (x2 : Int32) (σ : aH) : Lq G d M_140 (18, [some (.ref 33), some (.int x1), some (.int x2)], [.ref 33], σ) = Lq G d M_140 (22, [some (.ref 33), some (.int x1), some (.int x2)], [.int (6 : Int32), .int (0 : Int32), .int x2, .ref 33], σ) :=
  (aUn_eq (tkd G.1 G.2) tmi (aRun (tkd G.1 G.2) tmi tmt d) M_140 [] 3 (18, [some (.ref 33), some (.int x1), some (.int x2)], [.ref 33], σ)).trans rfl
set_option maxRecDepth 20000 in
theorem q_140_243 (G : Nat × (Nat → Int32)) (d : Nat) (x1 : Int32) (x2 : Int32) (s0 : Int32) (s1 : Int32) (s2 : Int32) (σ : aH) : Lq G d M_140 (22, [some (.ref 33), some (.int x1), some (.int x2)], [.int s0, .int s1, .int s2, .ref 33], σ) = aCI (Rn G d 130 [.int s2, .int s1, .int s0] σ) fun v2 σ1 => Lq G d M_140 (25, [some (.ref 33), some (.int x1), some (.int x2)], [.int v2, .ref 33], σ1) :=
  (aUn_eq (tkd G.1 G.2) tmi (aRun (tkd G.1 G.2) tmi tmt d) M_140 [] 1 (22, [some (.ref 33), some (.int x1), some (.int x2)], [.int s0, .int s1, .int s2, .ref 33], σ)).trans rfl
set_option maxRecDepth 20000 in
theorem q_140_244 (G : Nat × (Nat → Int32)) (d : Nat) (x1 : Int32) (x2 : Int32) (s0 : Int32) (σ : aH) : Lq G d M_140 (25, [some (.ref 33), some (.int x1), some (.int x2)], [.int s0, .ref 33], σ) = if s0 = 0 then Lq G d M_140 (32, [some (.ref 33), some (.int x1), some (.int x2)], [.ref 33], σ) else Lq G d M_140 (28, [some (.ref 33), some (.int x1), some (.int x2)], [.ref 33], σ) :=
  (aUn_eq (tkd G.1 G.2) tmi (aRun (tkd G.1 G.2) tmi tmt d) M_140 [] 1 (25, [some (.ref 33), some (.int x1), some (.int x2)], [.int s0, .ref 33], σ)).trans rfl
set_option maxRecDepth 20000 in
theorem q_140_245 (G : Nat × (Nat → Int32)) (d : Nat) (x1 : Int32) (x2 : Int32) (σ : aH) : Lq G d M_140 (28, [some (.ref 33), some (.int x1), some (.int x2)], [.ref 33], σ) = Lq G d M_140 (34, [some (.ref 33), some (.int x1), some (.int x2)], [.int (1 : Int32), .int (1 : Int32), .ref 33], σ) :=
  (aUn_eq (tkd G.1 G.2) tmi (aRun (tkd G.1 G.2) tmi tmt d) M_140 [] 3 (28, [some (.ref 33), some (.int x1), some (.int x2)], [.ref 33], σ)).trans rfl
set_option maxRecDepth 20000 in
theorem q_142_246 (G : Nat × (Nat → Int32)) (d : Nat) (x1 : Int32) (x2 : Int32) (σ : aH) : Lq G d M_142 (0, [some (.ref 0), some (.int x1), some (.int x2)], [], σ) = Lq G d M_142 (6, [some (.ref 0), some (.int x1), some (.int x2)], [.int x1, .int (1 : Int32), .ref 3], σ) :=
  (aUn_eq (tkd G.1 G.2) tmi (aRun (tkd G.1 G.2) tmi tmt d) M_142 [] 4 (0, [some (.ref 0), some (.int x1), some (.int x2)], [], σ)).trans rfl
set_option maxRecDepth 20000 in
theorem q_142_247 (G : Nat × (Nat → Int32)) (d : Nat) (x1 : Int32) (x2 : Int32) (s0 : Int32) (s1 : Int32) (σ : aH) : Lq G d M_142 (6, [some (.ref 0), some (.int x1), some (.int x2)], [.int s0, .int s1, .ref 3], σ) = aCI (Rn G d 103 [.ref 3, .int s1, .int s0] σ) fun v2 σ1 => Lq G d M_142 (9, [some (.ref 0), some (.int x1), some (.int x2)], [.int v2], σ1) :=
  (aUn_eq (tkd G.1 G.2) tmi (aRun (tkd G.1 G.2) tmi tmt d) M_142 [] 1 (6, [some (.ref 0), some (.int x1), some (.int x2)], [.int s0, .int s1, .ref 3], σ)).trans rfl
set_option maxRecDepth 20000 in
theorem q_142_248 (G : Nat × (Nat → Int32)) (d : Nat) (x1 : Int32) (x2 : Int32) (s0 : Int32) (σ : aH) : Lq G d M_142 (9, [some (.ref 0), some (.int x1), some (.int x2)], [.int s0], σ) = if s0 = 0 then Lq G d M_142 (25, [some (.ref 0), some (.int x1), some (.int x2)], [], σ) else Lq G d M_142 (12, [some (.ref 0), some (.int x1), some (.int x2)], [], σ) :=
  (aUn_eq (tkd G.1 G.2) tmi (aRun (tkd G.1 G.2) tmi tmt d) M_142 [] 1 (9, [some (.ref 0), some (.int x1), some (.int x2)], [.int s0], σ)).trans rfl
set_option maxRecDepth 20000 in
theorem q_142_249 (G : Nat × (Nat → Int32)) (d : Nat) (x1 : Int32) (x2 : Int32) (σ : aH) : Lq G d M_142 (25, [some (.ref 0), some (.int x1), some (.int x2)], [], σ) = Lq G d M_142 (26, [some (.ref 0), some (.int x1), some (.int x2)], [.int (0 : Int32)], σ) :=
  (aUn_eq (tkd G.1 G.2) tmi (aRun (tkd G.1 G.2) tmi tmt d) M_142 [] 1 (25, [some (.ref 0), some (.int x1), some (.int x2)], [], σ)).trans rfl
set_option maxRecDepth 20000 in
theorem q_142_250 (G : Nat × (Nat → Int32)) (d : Nat) (x1 : Int32) (x2 : Int32) (s0 : Int32) (σ : aH) : Lq G d M_142 (26, [some (.ref 0), some (.int x1), some (.int x2)], [.int s0], σ) = aXV (Rn G d 114 [.int s0] σ) (fun σ1 => Lq G d M_142 (29, [some (.ref 0), some (.int x1), some (.int x2)], [], σ1)) (fun k2 σ3 => some (.inr k2, σ3)) :=
  (aUn_eq (tkd G.1 G.2) tmi (aRun (tkd G.1 G.2) tmi tmt d) M_142 [] 1 (26, [some (.ref 0), some (.int x1), some (.int x2)], [.int s0], σ)).trans rfl
set_option maxRecDepth 20000 in
theorem q_142_251 (G : Nat × (Nat → Int32)) (d : Nat) (x1 : Int32) (x2 : Int32) (σ : aH) : Lq G d M_142 (29, [some (.ref 0), some (.int x1), some (.int x2)], [], σ) = Lq G d M_142 (36, [some (.ref 0), some (.int x1), some (.int x2)], [.int x2, .int x1, .int (1 : Int32), .ref 3], σ) :=
  (aUn_eq (tkd G.1 G.2) tmi (aRun (tkd G.1 G.2) tmi tmt d) M_142 [] 5 (29, [some (.ref 0), some (.int x1), some (.int x2)], [], σ)).trans rfl
set_option maxRecDepth 20000 in
theorem q_142_252 (G : Nat × (Nat → Int32)) (d : Nat) (x1 : Int32) (x2 : Int32) (s0 : Int32) (s1 : Int32) (s2 : Int32) (σ : aH) : Lq G d M_142 (36, [some (.ref 0), some (.int x1), some (.int x2)], [.int s0, .int s1, .int s2, .ref 3], σ) = aCI (Rn G d 119 [.ref 3, .int s2, .int s1, .int s0] σ) fun v2 σ1 => Lq G d M_142 (39, [some (.ref 0), some (.int x1), some (.int x2)], [.int v2], σ1) :=
  (aUn_eq (tkd G.1 G.2) tmi (aRun (tkd G.1 G.2) tmi tmt d) M_142 [] 1 (36, [some (.ref 0), some (.int x1), some (.int x2)], [.int s0, .int s1, .int s2, .ref 3], σ)).trans rfl
set_option maxRecDepth 20000 in
theorem q_142_253 (G : Nat × (Nat → Int32)) (d : Nat) (x1 : Int32) (x2 : Int32) (s0 : Int32) (σ : aH) : Lq G d M_142 (39, [some (.ref 0), some (.int x1), some (.int x2)], [.int s0], σ) = some (.inl (some (.int s0)), σ) :=
  (aUn_eq (tkd G.1 G.2) tmi (aRun (tkd G.1 G.2) tmi tmt d) M_142 [] 1 (39, [some (.ref 0), some (.int x1), some (.int x2)], [.int s0], σ)).trans rfl
set_option maxRecDepth 20000 in
theorem q_142_254 (G : Nat × (Nat → Int32)) (d : Nat) (x1 : Int32) (x2 : Int32) (σ : aH) : Lq G d M_142 (12, [some (.ref 0), some (.int x1), some (.int x2)], [], σ) = Lq G d M_142 (13, [some (.ref 0), some (.int x1), some (.int x2)], [.int x2], σ) :=
  (aUn_eq (tkd G.1 G.2) tmi (aRun (tkd G.1 G.2) tmi tmt d) M_142 [] 1 (12, [some (.ref 0), some (.int x1), some (.int x2)], [], σ)).trans rfl
set_option maxRecDepth 20000 in
theorem q_142_255 (G : Nat × (Nat → Int32)) (d : Nat) (x1 : Int32) (x2 : Int32) (s0 : Int32) (σ : aH) : Lq G d M_142 (13, [some (.ref 0), some (.int x1), some (.int x2)], [.int s0], σ) = if s0 < 0 then Lq G d M_142 (25, [some (.ref 0), some (.int x1), some (.int x2)], [], σ) else Lq G d M_142 (16, [some (.ref 0), some (.int x1), some (.int x2)], [], σ) :=
  (aUn_eq (tkd G.1 G.2) tmi (aRun (tkd G.1 G.2) tmi tmt d) M_142 [] 1 (13, [some (.ref 0), some (.int x1), some (.int x2)], [.int s0], σ)).trans rfl
set_option maxRecDepth 20000 in
theorem q_142_256 (G : Nat × (Nat → Int32)) (d : Nat) (x1 : Int32) (x2 : Int32) (σ : aH) : Lq G d M_142 (16, [some (.ref 0), some (.int x1), some (.int x2)], [], σ) = Lq G d M_142 (18, [some (.ref 0), some (.int x1), some (.int x2)], [.int (5 : Int32), .int x2], σ) :=
  (aUn_eq (tkd G.1 G.2) tmi (aRun (tkd G.1 G.2) tmi tmt d) M_142 [] 2 (16, [some (.ref 0), some (.int x1), some (.int x2)], [], σ)).trans rfl
set_option maxRecDepth 20000 in
theorem q_142_257 (G : Nat × (Nat → Int32)) (d : Nat) (x1 : Int32) (x2 : Int32) (s0 : Int32) (s1 : Int32) (σ : aH) : Lq G d M_142 (18, [some (.ref 0), some (.int x1), some (.int x2)], [.int s0, .int s1], σ) = if s0 < s1 then Lq G d M_142 (25, [some (.ref 0), some (.int x1), some (.int x2)], [], σ) else Lq G d M_142 (21, [some (.ref 0), some (.int x1), some (.int x2)], [], σ) :=
  (aUn_eq (tkd G.1 G.2) tmi (aRun (tkd G.1 G.2) tmi tmt d) M_142 [] 1 (18, [some (.ref 0), some (.int x1), some (.int x2)], [.int s0, .int s1], σ)).trans rfl
set_option maxRecDepth 20000 in
theorem q_142_258 (G : Nat × (Nat → Int32)) (d : Nat) (x1 : Int32) (x2 : Int32) (σ : aH) : Lq G d M_142 (21, [some (.ref 0), some (.int x1), some (.int x2)], [], σ) = Lq G d M_142 (26, [some (.ref 0), some (.int x1), some (.int x2)], [.int (1 : Int32)], σ) :=
  (aUn_eq (tkd G.1 G.2) tmi (aRun (tkd G.1 G.2) tmi tmt d) M_142 [] 2 (21, [some (.ref 0), some (.int x1), some (.int x2)], [], σ)).trans rfl
set_option maxRecDepth 20000 in
theorem q_143_259 (G : Nat × (Nat → Int32)) (d : Nat) (x1 : Int32) (x2 : Int32) (σ : aH) : Lq G d M_143 (0, [some (.ref 33), some (.int x1), some (.int x2)], [], σ) = Lq G d M_143 (7, [some (.ref 33), some (.int x1), some (.int x2)], [.int x1, .ref 33], (aSI σ 33 0 (0 : Int32))) :=
  (aUn_eq (tkd G.1 G.2) tmi (aRun (tkd G.1 G.2) tmi tmt d) M_143 [] 5 (0, [some (.ref 33), some (.int x1), some (.int x2)], [], σ)).trans rfl
set_option maxRecDepth 20000 in
theorem q_143_260 (G : Nat × (Nat → Int32)) (d : Nat) (x1 : Int32) (x2 : Int32) (s0 : Int32) (σ : aH) : Lq G d M_143 (7, [some (.ref 33), some (.int x1), some (.int x2)], [.int s0, .ref 33], σ) = if s0 < 0 then Lq G d M_143 (31, [some (.ref 33), some (.int x1), some (.int x2)], [.ref 33], σ) else Lq G d M_143 (10, [some (.ref 33), some (.int x1), some (.int x2)], [.ref 33], σ) :=
  (aUn_eq (tkd G.1 G.2) tmi (aRun (tkd G.1 G.2) tmi tmt d) M_143 [] 1 (7, [some (.ref 33), some (.int x1), some (.int x2)], [.int s0, .ref 33], σ)).trans rfl
set_option maxRecDepth 20000 in
theorem q_143_261 (G : Nat × (Nat → Int32)) (d : Nat) (x1 : Int32) (x2 : Int32) (σ : aH) : Lq G d M_143 (31, [some (.ref 33), some (.int x1), some (.int x2)], [.ref 33], σ) = Lq G d M_143 (33, [some (.ref 33), some (.int x1), some (.int x2)], [.int (1 : Int32), .int (0 : Int32), .ref 33], σ) :=
  (aUn_eq (tkd G.1 G.2) tmi (aRun (tkd G.1 G.2) tmi tmt d) M_143 [] 2 (31, [some (.ref 33), some (.int x1), some (.int x2)], [.ref 33], σ)).trans rfl
set_option maxRecDepth 20000 in
theorem q_143_262 (G : Nat × (Nat → Int32)) (d : Nat) (x1 : Int32) (x2 : Int32) (s0 : Int32) (s1 : Int32) (σ : aH) : Lq G d M_143 (33, [some (.ref 33), some (.int x1), some (.int x2)], [.int s0, .int s1, .ref 33], σ) = aCI (Rn G d 62 [.ref 33, .int s1, .int s0] σ) fun v2 σ1 => Lq G d M_143 (36, [some (.ref 33), some (.int x1), some (.int x2)], [.int v2], σ1) :=
  (aUn_eq (tkd G.1 G.2) tmi (aRun (tkd G.1 G.2) tmi tmt d) M_143 [] 1 (33, [some (.ref 33), some (.int x1), some (.int x2)], [.int s0, .int s1, .ref 33], σ)).trans rfl
set_option maxRecDepth 20000 in
theorem q_143_263 (G : Nat × (Nat → Int32)) (d : Nat) (x1 : Int32) (x2 : Int32) (s0 : Int32) (σ : aH) : Lq G d M_143 (36, [some (.ref 33), some (.int x1), some (.int x2)], [.int s0], σ) = if s0 = 0 then Lq G d M_143 (53, [some (.ref 33), some (.int x1), some (.int x2)], [], σ) else Lq G d M_143 (39, [some (.ref 33), some (.int x1), some (.int x2)], [], σ) :=
  (aUn_eq (tkd G.1 G.2) tmi (aRun (tkd G.1 G.2) tmi tmt d) M_143 [] 1 (36, [some (.ref 33), some (.int x1), some (.int x2)], [.int s0], σ)).trans rfl
set_option maxRecDepth 20000 in
theorem q_143_264 (G : Nat × (Nat → Int32)) (d : Nat) (x1 : Int32) (x2 : Int32) (σ : aH) : Lq G d M_143 (53, [some (.ref 33), some (.int x1), some (.int x2)], [], σ) = Lq G d M_143 (54, [some (.ref 33), some (.int x1), some (.int x2)], [.int (0 : Int32)], σ) :=
  (aUn_eq (tkd G.1 G.2) tmi (aRun (tkd G.1 G.2) tmi tmt d) M_143 [] 1 (53, [some (.ref 33), some (.int x1), some (.int x2)], [], σ)).trans rfl
set_option maxRecDepth 20000 in
theorem q_143_265 (G : Nat × (Nat → Int32)) (d : Nat) (x1 : Int32) (x2 : Int32) (s0 : Int32) (σ : aH) : Lq G d M_143 (54, [some (.ref 33), some (.int x1), some (.int x2)], [.int s0], σ) = some (.inl (some (.int s0)), σ) :=
  (aUn_eq (tkd G.1 G.2) tmi (aRun (tkd G.1 G.2) tmi tmt d) M_143 [] 1 (54, [some (.ref 33), some (.int x1), some (.int x2)], [.int s0], σ)).trans rfl
set_option maxRecDepth 20000 in
theorem q_143_266 (G : Nat × (Nat → Int32)) (d : Nat) (x1 : Int32) (x2 : Int32) (σ : aH) : Lq G d M_143 (39, [some (.ref 33), some (.int x1), some (.int x2)], [], σ) = Lq G d M_143 (49, [some (.ref 33), some (.int x1), some (.int x2)], [.int (((6 : Int32) * x1) + x2), .ref 35], σ) :=
  (aUn_eq (tkd G.1 G.2) tmi (aRun (tkd G.1 G.2) tmi tmt d) M_143 [] 7 (39, [some (.ref 33), some (.int x1), some (.int x2)], [], σ)).trans rfl
set_option maxRecDepth 20000 in
theorem q_143_267 (G : Nat × (Nat → Int32)) (d : Nat) (x1 : Int32) (x2 : Int32) (s0 : Int32) (σ : aH) : Lq G d M_143 (49, [some (.ref 33), some (.int x1), some (.int x2)], [.int s0, .ref 35], σ) = aIx (s0) 120 fun j1 => Lq G d M_143 (50, [some (.ref 33), some (.int x1), some (.int x2)], [.int (σ.1 35 j1)], σ) :=
  (aUn_eq (tkd G.1 G.2) tmi (aRun (tkd G.1 G.2) tmi tmt d) M_143 [] 1 (49, [some (.ref 33), some (.int x1), some (.int x2)], [.int s0, .ref 35], σ)).trans rfl
set_option maxRecDepth 20000 in
theorem q_143_268 (G : Nat × (Nat → Int32)) (d : Nat) (x1 : Int32) (x2 : Int32) (s0 : Int32) (σ : aH) : Lq G d M_143 (50, [some (.ref 33), some (.int x1), some (.int x2)], [.int s0], σ) = Lq G d M_143 (54, [some (.ref 33), some (.int x1), some (.int x2)], [.int s0], σ) :=
  (aUn_eq (tkd G.1 G.2) tmi (aRun (tkd G.1 G.2) tmi tmt d) M_143 [] 1 (50, [some (.ref 33), some (.int x1), some (.int x2)], [.int s0], σ)).trans rfl
set_option maxRecDepth 20000 in
theorem q_143_269 (G : Nat × (Nat → Int32)) (d : Nat) (x1 : Int32) (x2 : Int32) (σ : aH) : Lq G d M_143 (10, [some (.ref 33), some (.int x1), some (.int x2)], [.ref 33], σ) = Lq G d M_143 (15, [some (.ref 33), some (.int x1), some (.int x2)], [.int (σ.1 33 2), .int x1, .ref 33], σ) :=
  (aUn_eq (tkd G.1 G.2) tmi (aRun (tkd G.1 G.2) tmi tmt d) M_143 [] 3 (10, [some (.ref 33), some (.int x1), some (.int x2)], [.ref 33], σ)).trans rfl
set_option maxRecDepth 20000 in
theorem q_143_270 (G : Nat × (Nat → Int32)) (d : Nat) (x1 : Int32) (x2 : Int32) (s0 : Int32) (s1 : Int32) (σ : aH) : Lq G d M_143 (15, [some (.ref 33), some (.int x1), some (.int x2)], [.int s0, .int s1, .ref 33], σ) = if s0 ≤ s1 then Lq G d M_143 (31, [some (.ref 33), some (.int x1), some (.int x2)], [.ref 33], σ) else Lq G d M_143 (18, [some (.ref 33), some (.int x1), some (.int x2)], [.ref 33], σ) :=
  (aUn_eq (tkd G.1 G.2) tmi (aRun (tkd G.1 G.2) tmi tmt d) M_143 [] 1 (15, [some (.ref 33), some (.int x1), some (.int x2)], [.int s0, .int s1, .ref 33], σ)).trans rfl
set_option maxRecDepth 20000 in
theorem q_143_271 (G : Nat × (Nat → Int32)) (d : Nat) (x1 : Int32) (x2 : Int32) (σ : aH) : Lq G d M_143 (18, [some (.ref 33), some (.int x1), some (.int x2)], [.ref 33], σ) = Lq G d M_143 (21, [some (.ref 33), some (.int x1), some (.int x2)], [.int (5 : Int32), .int (0 : Int32), .int x2, .ref 33], σ) :=
  (aUn_eq (tkd G.1 G.2) tmi (aRun (tkd G.1 G.2) tmi tmt d) M_143 [] 3 (18, [some (.ref 33), some (.int x1), some (.int x2)], [.ref 33], σ)).trans rfl
set_option maxRecDepth 20000 in
theorem q_143_272 (G : Nat × (Nat → Int32)) (d : Nat) (x1 : Int32) (x2 : Int32) (s0 : Int32) (s1 : Int32) (s2 : Int32) (σ : aH) : Lq G d M_143 (21, [some (.ref 33), some (.int x1), some (.int x2)], [.int s0, .int s1, .int s2, .ref 33], σ) = aCI (Rn G d 130 [.int s2, .int s1, .int s0] σ) fun v2 σ1 => Lq G d M_143 (24, [some (.ref 33), some (.int x1), some (.int x2)], [.int v2, .ref 33], σ1) :=
  (aUn_eq (tkd G.1 G.2) tmi (aRun (tkd G.1 G.2) tmi tmt d) M_143 [] 1 (21, [some (.ref 33), some (.int x1), some (.int x2)], [.int s0, .int s1, .int s2, .ref 33], σ)).trans rfl
set_option maxRecDepth 20000 in
theorem q_143_273 (G : Nat × (Nat → Int32)) (d : Nat) (x1 : Int32) (x2 : Int32) (s0 : Int32) (σ : aH) : Lq G d M_143 (24, [some (.ref 33), some (.int x1), some (.int x2)], [.int s0, .ref 33], σ) = if s0 = 0 then Lq G d M_143 (31, [some (.ref 33), some (.int x1), some (.int x2)], [.ref 33], σ) else Lq G d M_143 (27, [some (.ref 33), some (.int x1), some (.int x2)], [.ref 33], σ) :=
  (aUn_eq (tkd G.1 G.2) tmi (aRun (tkd G.1 G.2) tmi tmt d) M_143 [] 1 (24, [some (.ref 33), some (.int x1), some (.int x2)], [.int s0, .ref 33], σ)).trans rfl
set_option maxRecDepth 20000 in
theorem q_143_274 (G : Nat × (Nat → Int32)) (d : Nat) (x1 : Int32) (x2 : Int32) (σ : aH) : Lq G d M_143 (27, [some (.ref 33), some (.int x1), some (.int x2)], [.ref 33], σ) = Lq G d M_143 (33, [some (.ref 33), some (.int x1), some (.int x2)], [.int (1 : Int32), .int (1 : Int32), .ref 33], σ) :=
  (aUn_eq (tkd G.1 G.2) tmi (aRun (tkd G.1 G.2) tmi tmt d) M_143 [] 3 (27, [some (.ref 33), some (.int x1), some (.int x2)], [.ref 33], σ)).trans rfl
set_option maxRecDepth 20000 in
theorem q_145_275 (G : Nat × (Nat → Int32)) (d : Nat) (x1 : Int32) (x2 : Int32) (σ : aH) : Lq G d M_145 (0, [some (.ref 0), some (.int x1), some (.int x2)], [], σ) = Lq G d M_145 (6, [some (.ref 0), some (.int x1), some (.int x2)], [.int x1, .int (2 : Int32), .ref 3], σ) :=
  (aUn_eq (tkd G.1 G.2) tmi (aRun (tkd G.1 G.2) tmi tmt d) M_145 [] 4 (0, [some (.ref 0), some (.int x1), some (.int x2)], [], σ)).trans rfl
set_option maxRecDepth 20000 in
theorem q_145_276 (G : Nat × (Nat → Int32)) (d : Nat) (x1 : Int32) (x2 : Int32) (s0 : Int32) (s1 : Int32) (σ : aH) : Lq G d M_145 (6, [some (.ref 0), some (.int x1), some (.int x2)], [.int s0, .int s1, .ref 3], σ) = aCI (Rn G d 103 [.ref 3, .int s1, .int s0] σ) fun v2 σ1 => Lq G d M_145 (9, [some (.ref 0), some (.int x1), some (.int x2)], [.int v2], σ1) :=
  (aUn_eq (tkd G.1 G.2) tmi (aRun (tkd G.1 G.2) tmi tmt d) M_145 [] 1 (6, [some (.ref 0), some (.int x1), some (.int x2)], [.int s0, .int s1, .ref 3], σ)).trans rfl
set_option maxRecDepth 20000 in
theorem q_145_277 (G : Nat × (Nat → Int32)) (d : Nat) (x1 : Int32) (x2 : Int32) (s0 : Int32) (σ : aH) : Lq G d M_145 (9, [some (.ref 0), some (.int x1), some (.int x2)], [.int s0], σ) = if s0 = 0 then Lq G d M_145 (25, [some (.ref 0), some (.int x1), some (.int x2)], [], σ) else Lq G d M_145 (12, [some (.ref 0), some (.int x1), some (.int x2)], [], σ) :=
  (aUn_eq (tkd G.1 G.2) tmi (aRun (tkd G.1 G.2) tmi tmt d) M_145 [] 1 (9, [some (.ref 0), some (.int x1), some (.int x2)], [.int s0], σ)).trans rfl
set_option maxRecDepth 20000 in
theorem q_145_278 (G : Nat × (Nat → Int32)) (d : Nat) (x1 : Int32) (x2 : Int32) (σ : aH) : Lq G d M_145 (25, [some (.ref 0), some (.int x1), some (.int x2)], [], σ) = Lq G d M_145 (26, [some (.ref 0), some (.int x1), some (.int x2)], [.int (0 : Int32)], σ) :=
  (aUn_eq (tkd G.1 G.2) tmi (aRun (tkd G.1 G.2) tmi tmt d) M_145 [] 1 (25, [some (.ref 0), some (.int x1), some (.int x2)], [], σ)).trans rfl
set_option maxRecDepth 20000 in
theorem q_145_279 (G : Nat × (Nat → Int32)) (d : Nat) (x1 : Int32) (x2 : Int32) (s0 : Int32) (σ : aH) : Lq G d M_145 (26, [some (.ref 0), some (.int x1), some (.int x2)], [.int s0], σ) = aXV (Rn G d 114 [.int s0] σ) (fun σ1 => Lq G d M_145 (29, [some (.ref 0), some (.int x1), some (.int x2)], [], σ1)) (fun k2 σ3 => some (.inr k2, σ3)) :=
  (aUn_eq (tkd G.1 G.2) tmi (aRun (tkd G.1 G.2) tmi tmt d) M_145 [] 1 (26, [some (.ref 0), some (.int x1), some (.int x2)], [.int s0], σ)).trans rfl
set_option maxRecDepth 20000 in
theorem q_145_280 (G : Nat × (Nat → Int32)) (d : Nat) (x1 : Int32) (x2 : Int32) (σ : aH) : Lq G d M_145 (29, [some (.ref 0), some (.int x1), some (.int x2)], [], σ) = Lq G d M_145 (36, [some (.ref 0), some (.int x1), some (.int x2)], [.int x2, .int x1, .int (2 : Int32), .ref 3], σ) :=
  (aUn_eq (tkd G.1 G.2) tmi (aRun (tkd G.1 G.2) tmi tmt d) M_145 [] 5 (29, [some (.ref 0), some (.int x1), some (.int x2)], [], σ)).trans rfl
set_option maxRecDepth 20000 in
theorem q_145_281 (G : Nat × (Nat → Int32)) (d : Nat) (x1 : Int32) (x2 : Int32) (s0 : Int32) (s1 : Int32) (s2 : Int32) (σ : aH) : Lq G d M_145 (36, [some (.ref 0), some (.int x1), some (.int x2)], [.int s0, .int s1, .int s2, .ref 3], σ) = aCI (Rn G d 119 [.ref 3, .int s2, .int s1, .int s0] σ) fun v2 σ1 => Lq G d M_145 (39, [some (.ref 0), some (.int x1), some (.int x2)], [.int v2], σ1) :=
  (aUn_eq (tkd G.1 G.2) tmi (aRun (tkd G.1 G.2) tmi tmt d) M_145 [] 1 (36, [some (.ref 0), some (.int x1), some (.int x2)], [.int s0, .int s1, .int s2, .ref 3], σ)).trans rfl
set_option maxRecDepth 20000 in
theorem q_145_282 (G : Nat × (Nat → Int32)) (d : Nat) (x1 : Int32) (x2 : Int32) (s0 : Int32) (σ : aH) : Lq G d M_145 (39, [some (.ref 0), some (.int x1), some (.int x2)], [.int s0], σ) = some (.inl (some (.int s0)), σ) :=
  (aUn_eq (tkd G.1 G.2) tmi (aRun (tkd G.1 G.2) tmi tmt d) M_145 [] 1 (39, [some (.ref 0), some (.int x1), some (.int x2)], [.int s0], σ)).trans rfl
set_option maxRecDepth 20000 in
theorem q_145_283 (G : Nat × (Nat → Int32)) (d : Nat) (x1 : Int32) (x2 : Int32) (σ : aH) : Lq G d M_145 (12, [some (.ref 0), some (.int x1), some (.int x2)], [], σ) = Lq G d M_145 (13, [some (.ref 0), some (.int x1), some (.int x2)], [.int x2], σ) :=
  (aUn_eq (tkd G.1 G.2) tmi (aRun (tkd G.1 G.2) tmi tmt d) M_145 [] 1 (12, [some (.ref 0), some (.int x1), some (.int x2)], [], σ)).trans rfl
set_option maxRecDepth 20000 in
theorem q_145_284 (G : Nat × (Nat → Int32)) (d : Nat) (x1 : Int32) (x2 : Int32) (s0 : Int32) (σ : aH) : Lq G d M_145 (13, [some (.ref 0), some (.int x1), some (.int x2)], [.int s0], σ) = if s0 < 0 then Lq G d M_145 (25, [some (.ref 0), some (.int x1), some (.int x2)], [], σ) else Lq G d M_145 (16, [some (.ref 0), some (.int x1), some (.int x2)], [], σ) :=
  (aUn_eq (tkd G.1 G.2) tmi (aRun (tkd G.1 G.2) tmi tmt d) M_145 [] 1 (13, [some (.ref 0), some (.int x1), some (.int x2)], [.int s0], σ)).trans rfl
set_option maxRecDepth 20000 in
theorem q_145_285 (G : Nat × (Nat → Int32)) (d : Nat) (x1 : Int32) (x2 : Int32) (σ : aH) : Lq G d M_145 (16, [some (.ref 0), some (.int x1), some (.int x2)], [], σ) = Lq G d M_145 (18, [some (.ref 0), some (.int x1), some (.int x2)], [.int (4 : Int32), .int x2], σ) :=
  (aUn_eq (tkd G.1 G.2) tmi (aRun (tkd G.1 G.2) tmi tmt d) M_145 [] 2 (16, [some (.ref 0), some (.int x1), some (.int x2)], [], σ)).trans rfl
set_option maxRecDepth 20000 in
theorem q_145_286 (G : Nat × (Nat → Int32)) (d : Nat) (x1 : Int32) (x2 : Int32) (s0 : Int32) (s1 : Int32) (σ : aH) : Lq G d M_145 (18, [some (.ref 0), some (.int x1), some (.int x2)], [.int s0, .int s1], σ) = if s0 < s1 then Lq G d M_145 (25, [some (.ref 0), some (.int x1), some (.int x2)], [], σ) else Lq G d M_145 (21, [some (.ref 0), some (.int x1), some (.int x2)], [], σ) :=
  (aUn_eq (tkd G.1 G.2) tmi (aRun (tkd G.1 G.2) tmi tmt d) M_145 [] 1 (18, [some (.ref 0), some (.int x1), some (.int x2)], [.int s0, .int s1], σ)).trans rfl
set_option maxRecDepth 20000 in
theorem q_145_287 (G : Nat × (Nat → Int32)) (d : Nat) (x1 : Int32) (x2 : Int32) (σ : aH) : Lq G d M_145 (21, [some (.ref 0), some (.int x1), some (.int x2)], [], σ) = Lq G d M_145 (26, [some (.ref 0), some (.int x1), some (.int x2)], [.int (1 : Int32)], σ) :=
  (aUn_eq (tkd G.1 G.2) tmi (aRun (tkd G.1 G.2) tmi tmt d) M_145 [] 2 (21, [some (.ref 0), some (.int x1), some (.int x2)], [], σ)).trans rfl
set_option maxRecDepth 20000 in
theorem q_146_288 (G : Nat × (Nat → Int32)) (d : Nat) (x1 : Int32) (x2 : Int32) (σ : aH) : Lq G d M_146 (0, [some (.ref 33), some (.int x1), some (.int x2)], [], σ) = Lq G d M_146 (7, [some (.ref 33), some (.int x1), some (.int x2)], [.int x1, .ref 33], (aSI σ 33 0 (0 : Int32))) :=
  (aUn_eq (tkd G.1 G.2) tmi (aRun (tkd G.1 G.2) tmi tmt d) M_146 [] 5 (0, [some (.ref 33), some (.int x1), some (.int x2)], [], σ)).trans rfl
set_option maxRecDepth 20000 in
theorem q_146_289 (G : Nat × (Nat → Int32)) (d : Nat) (x1 : Int32) (x2 : Int32) (s0 : Int32) (σ : aH) : Lq G d M_146 (7, [some (.ref 33), some (.int x1), some (.int x2)], [.int s0, .ref 33], σ) = if s0 < 0 then Lq G d M_146 (31, [some (.ref 33), some (.int x1), some (.int x2)], [.ref 33], σ) else Lq G d M_146 (10, [some (.ref 33), some (.int x1), some (.int x2)], [.ref 33], σ) :=
  (aUn_eq (tkd G.1 G.2) tmi (aRun (tkd G.1 G.2) tmi tmt d) M_146 [] 1 (7, [some (.ref 33), some (.int x1), some (.int x2)], [.int s0, .ref 33], σ)).trans rfl
set_option maxRecDepth 20000 in
theorem q_146_290 (G : Nat × (Nat → Int32)) (d : Nat) (x1 : Int32) (x2 : Int32) (σ : aH) : Lq G d M_146 (31, [some (.ref 33), some (.int x1), some (.int x2)], [.ref 33], σ) = Lq G d M_146 (33, [some (.ref 33), some (.int x1), some (.int x2)], [.int (1 : Int32), .int (0 : Int32), .ref 33], σ) :=
  (aUn_eq (tkd G.1 G.2) tmi (aRun (tkd G.1 G.2) tmi tmt d) M_146 [] 2 (31, [some (.ref 33), some (.int x1), some (.int x2)], [.ref 33], σ)).trans rfl
set_option maxRecDepth 20000 in
theorem q_146_291 (G : Nat × (Nat → Int32)) (d : Nat) (x1 : Int32) (x2 : Int32) (s0 : Int32) (s1 : Int32) (σ : aH) : Lq G d M_146 (33, [some (.ref 33), some (.int x1), some (.int x2)], [.int s0, .int s1, .ref 33], σ) = aCI (Rn G d 62 [.ref 33, .int s1, .int s0] σ) fun v2 σ1 => Lq G d M_146 (36, [some (.ref 33), some (.int x1), some (.int x2)], [.int v2], σ1) :=
  (aUn_eq (tkd G.1 G.2) tmi (aRun (tkd G.1 G.2) tmi tmt d) M_146 [] 1 (33, [some (.ref 33), some (.int x1), some (.int x2)], [.int s0, .int s1, .ref 33], σ)).trans rfl
set_option maxRecDepth 20000 in
theorem q_146_292 (G : Nat × (Nat → Int32)) (d : Nat) (x1 : Int32) (x2 : Int32) (s0 : Int32) (σ : aH) : Lq G d M_146 (36, [some (.ref 33), some (.int x1), some (.int x2)], [.int s0], σ) = if s0 = 0 then Lq G d M_146 (52, [some (.ref 33), some (.int x1), some (.int x2)], [], σ) else Lq G d M_146 (39, [some (.ref 33), some (.int x1), some (.int x2)], [], σ) :=
  (aUn_eq (tkd G.1 G.2) tmi (aRun (tkd G.1 G.2) tmi tmt d) M_146 [] 1 (36, [some (.ref 33), some (.int x1), some (.int x2)], [.int s0], σ)).trans rfl
set_option maxRecDepth 20000 in
theorem q_146_293 (G : Nat × (Nat → Int32)) (d : Nat) (x1 : Int32) (x2 : Int32) (σ : aH) : Lq G d M_146 (52, [some (.ref 33), some (.int x1), some (.int x2)], [], σ) = Lq G d M_146 (53, [some (.ref 33), some (.int x1), some (.int x2)], [.int (0 : Int32)], σ) :=
  (aUn_eq (tkd G.1 G.2) tmi (aRun (tkd G.1 G.2) tmi tmt d) M_146 [] 1 (52, [some (.ref 33), some (.int x1), some (.int x2)], [], σ)).trans rfl
set_option maxRecDepth 20000 in
theorem q_146_294 (G : Nat × (Nat → Int32)) (d : Nat) (x1 : Int32) (x2 : Int32) (s0 : Int32) (σ : aH) : Lq G d M_146 (53, [some (.ref 33), some (.int x1), some (.int x2)], [.int s0], σ) = some (.inl (some (.int s0)), σ) :=
  (aUn_eq (tkd G.1 G.2) tmi (aRun (tkd G.1 G.2) tmi tmt d) M_146 [] 1 (53, [some (.ref 33), some (.int x1), some (.int x2)], [.int s0], σ)).trans rfl
set_option maxRecDepth 20000 in
theorem q_146_295 (G : Nat × (Nat → Int32)) (d : Nat) (x1 : Int32) (x2 : Int32) (σ : aH) : Lq G d M_146 (39, [some (.ref 33), some (.int x1), some (.int x2)], [], σ) = Lq G d M_146 (48, [some (.ref 33), some (.int x1), some (.int x2)], [.int (((5 : Int32) * x1) + x2), .ref 36], σ) :=
  (aUn_eq (tkd G.1 G.2) tmi (aRun (tkd G.1 G.2) tmi tmt d) M_146 [] 7 (39, [some (.ref 33), some (.int x1), some (.int x2)], [], σ)).trans rfl
set_option maxRecDepth 20000 in
theorem q_146_296 (G : Nat × (Nat → Int32)) (d : Nat) (x1 : Int32) (x2 : Int32) (s0 : Int32) (σ : aH) : Lq G d M_146 (48, [some (.ref 33), some (.int x1), some (.int x2)], [.int s0, .ref 36], σ) = aIx (s0) 30 fun j1 => Lq G d M_146 (49, [some (.ref 33), some (.int x1), some (.int x2)], [.int (σ.1 36 j1)], σ) :=
  (aUn_eq (tkd G.1 G.2) tmi (aRun (tkd G.1 G.2) tmi tmt d) M_146 [] 1 (48, [some (.ref 33), some (.int x1), some (.int x2)], [.int s0, .ref 36], σ)).trans rfl
set_option maxRecDepth 20000 in
theorem q_146_297 (G : Nat × (Nat → Int32)) (d : Nat) (x1 : Int32) (x2 : Int32) (s0 : Int32) (σ : aH) : Lq G d M_146 (49, [some (.ref 33), some (.int x1), some (.int x2)], [.int s0], σ) = Lq G d M_146 (53, [some (.ref 33), some (.int x1), some (.int x2)], [.int s0], σ) :=
  (aUn_eq (tkd G.1 G.2) tmi (aRun (tkd G.1 G.2) tmi tmt d) M_146 [] 1 (49, [some (.ref 33), some (.int x1), some (.int x2)], [.int s0], σ)).trans rfl
set_option maxRecDepth 20000 in
theorem q_146_298 (G : Nat × (Nat → Int32)) (d : Nat) (x1 : Int32) (x2 : Int32) (σ : aH) : Lq G d M_146 (10, [some (.ref 33), some (.int x1), some (.int x2)], [.ref 33], σ) = Lq G d M_146 (15, [some (.ref 33), some (.int x1), some (.int x2)], [.int (σ.1 33 3), .int x1, .ref 33], σ) :=
  (aUn_eq (tkd G.1 G.2) tmi (aRun (tkd G.1 G.2) tmi tmt d) M_146 [] 3 (10, [some (.ref 33), some (.int x1), some (.int x2)], [.ref 33], σ)).trans rfl
set_option maxRecDepth 20000 in
theorem q_146_299 (G : Nat × (Nat → Int32)) (d : Nat) (x1 : Int32) (x2 : Int32) (s0 : Int32) (s1 : Int32) (σ : aH) : Lq G d M_146 (15, [some (.ref 33), some (.int x1), some (.int x2)], [.int s0, .int s1, .ref 33], σ) = if s0 ≤ s1 then Lq G d M_146 (31, [some (.ref 33), some (.int x1), some (.int x2)], [.ref 33], σ) else Lq G d M_146 (18, [some (.ref 33), some (.int x1), some (.int x2)], [.ref 33], σ) :=
  (aUn_eq (tkd G.1 G.2) tmi (aRun (tkd G.1 G.2) tmi tmt d) M_146 [] 1 (15, [some (.ref 33), some (.int x1), some (.int x2)], [.int s0, .int s1, .ref 33], σ)).trans rfl
set_option maxRecDepth 20000 in
theorem q_146_300 (G : Nat × (Nat → Int32)) (d : Nat) (x1 : Int32) (x2 : Int32) (σ : aH) : Lq G d M_146 (18, [some (.ref 33), some (.int x1), some (.int x2)], [.ref 33], σ) = Lq G d M_146 (21, [some (.ref 33), some (.int x1), some (.int x2)], [.int (4 : Int32), .int (0 : Int32), .int x2, .ref 33], σ) :=
  (aUn_eq (tkd G.1 G.2) tmi (aRun (tkd G.1 G.2) tmi tmt d) M_146 [] 3 (18, [some (.ref 33), some (.int x1), some (.int x2)], [.ref 33], σ)).trans rfl
set_option maxRecDepth 20000 in
theorem q_146_301 (G : Nat × (Nat → Int32)) (d : Nat) (x1 : Int32) (x2 : Int32) (s0 : Int32) (s1 : Int32) (s2 : Int32) (σ : aH) : Lq G d M_146 (21, [some (.ref 33), some (.int x1), some (.int x2)], [.int s0, .int s1, .int s2, .ref 33], σ) = aCI (Rn G d 130 [.int s2, .int s1, .int s0] σ) fun v2 σ1 => Lq G d M_146 (24, [some (.ref 33), some (.int x1), some (.int x2)], [.int v2, .ref 33], σ1) :=
  (aUn_eq (tkd G.1 G.2) tmi (aRun (tkd G.1 G.2) tmi tmt d) M_146 [] 1 (21, [some (.ref 33), some (.int x1), some (.int x2)], [.int s0, .int s1, .int s2, .ref 33], σ)).trans rfl
set_option maxRecDepth 20000 in
theorem q_146_302 (G : Nat × (Nat → Int32)) (d : Nat) (x1 : Int32) (x2 : Int32) (s0 : Int32) (σ : aH) : Lq G d M_146 (24, [some (.ref 33), some (.int x1), some (.int x2)], [.int s0, .ref 33], σ) = if s0 = 0 then Lq G d M_146 (31, [some (.ref 33), some (.int x1), some (.int x2)], [.ref 33], σ) else Lq G d M_146 (27, [some (.ref 33), some (.int x1), some (.int x2)], [.ref 33], σ) :=
  (aUn_eq (tkd G.1 G.2) tmi (aRun (tkd G.1 G.2) tmi tmt d) M_146 [] 1 (24, [some (.ref 33), some (.int x1), some (.int x2)], [.int s0, .ref 33], σ)).trans rfl
set_option maxRecDepth 20000 in
theorem q_146_303 (G : Nat × (Nat → Int32)) (d : Nat) (x1 : Int32) (x2 : Int32) (σ : aH) : Lq G d M_146 (27, [some (.ref 33), some (.int x1), some (.int x2)], [.ref 33], σ) = Lq G d M_146 (33, [some (.ref 33), some (.int x1), some (.int x2)], [.int (1 : Int32), .int (1 : Int32), .ref 33], σ) :=
  (aUn_eq (tkd G.1 G.2) tmi (aRun (tkd G.1 G.2) tmi tmt d) M_146 [] 3 (27, [some (.ref 33), some (.int x1), some (.int x2)], [.ref 33], σ)).trans rfl
set_option maxRecDepth 20000 in
theorem q_148_304 (G : Nat × (Nat → Int32)) (d : Nat) (x1 : Int32) (σ : aH) : Lq G d M_148 (0, [some (.ref 0), some (.int x1)], [], σ) = Lq G d M_148 (6, [some (.ref 0), some (.int x1)], [.int x1, .int (3 : Int32), .ref 3], σ) :=
  (aUn_eq (tkd G.1 G.2) tmi (aRun (tkd G.1 G.2) tmi tmt d) M_148 [] 4 (0, [some (.ref 0), some (.int x1)], [], σ)).trans rfl
set_option maxRecDepth 20000 in
theorem q_148_305 (G : Nat × (Nat → Int32)) (d : Nat) (x1 : Int32) (s0 : Int32) (s1 : Int32) (σ : aH) : Lq G d M_148 (6, [some (.ref 0), some (.int x1)], [.int s0, .int s1, .ref 3], σ) = aCI (Rn G d 103 [.ref 3, .int s1, .int s0] σ) fun v2 σ1 => Lq G d M_148 (9, [some (.ref 0), some (.int x1)], [.int v2], σ1) :=
  (aUn_eq (tkd G.1 G.2) tmi (aRun (tkd G.1 G.2) tmi tmt d) M_148 [] 1 (6, [some (.ref 0), some (.int x1)], [.int s0, .int s1, .ref 3], σ)).trans rfl
set_option maxRecDepth 20000 in
theorem q_148_306 (G : Nat × (Nat → Int32)) (d : Nat) (x1 : Int32) (s0 : Int32) (σ : aH) : Lq G d M_148 (9, [some (.ref 0), some (.int x1)], [.int s0], σ) = aXV (Rn G d 114 [.int s0] σ) (fun σ1 => Lq G d M_148 (12, [some (.ref 0), some (.int x1)], [], σ1)) (fun k2 σ3 => some (.inr k2, σ3)) :=
  (aUn_eq (tkd G.1 G.2) tmi (aRun (tkd G.1 G.2) tmi tmt d) M_148 [] 1 (9, [some (.ref 0), some (.int x1)], [.int s0], σ)).trans rfl
set_option maxRecDepth 20000 in
theorem q_148_307 (G : Nat × (Nat → Int32)) (d : Nat) (x1 : Int32) (σ : aH) : Lq G d M_148 (12, [some (.ref 0), some (.int x1)], [], σ) = Lq G d M_148 (17, [some (.ref 0), some (.int x1)], [.int x1, .ref 3], σ) :=
  (aUn_eq (tkd G.1 G.2) tmi (aRun (tkd G.1 G.2) tmi tmt d) M_148 [] 3 (12, [some (.ref 0), some (.int x1)], [], σ)).trans rfl
set_option maxRecDepth 20000 in
theorem q_148_308 (G : Nat × (Nat → Int32)) (d : Nat) (x1 : Int32) (s0 : Int32) (σ : aH) : Lq G d M_148 (17, [some (.ref 0), some (.int x1)], [.int s0, .ref 3], σ) = aCI (Rn G d 118 [.ref 3, .int s0] σ) fun v2 σ1 => Lq G d M_148 (20, [some (.ref 0), some (.int x1)], [.int v2], σ1) :=
  (aUn_eq (tkd G.1 G.2) tmi (aRun (tkd G.1 G.2) tmi tmt d) M_148 [] 1 (17, [some (.ref 0), some (.int x1)], [.int s0, .ref 3], σ)).trans rfl
set_option maxRecDepth 20000 in
theorem q_148_309 (G : Nat × (Nat → Int32)) (d : Nat) (x1 : Int32) (s0 : Int32) (σ : aH) : Lq G d M_148 (20, [some (.ref 0), some (.int x1)], [.int s0], σ) = aNar .boolean (s0) (some (.inl (some (.int s0)), σ)) :=
  (aUn_eq (tkd G.1 G.2) tmi (aRun (tkd G.1 G.2) tmi tmt d) M_148 [] 1 (20, [some (.ref 0), some (.int x1)], [.int s0], σ)).trans rfl
set_option maxRecDepth 20000 in
theorem q_149_310 (G : Nat × (Nat → Int32)) (d : Nat) (x1 : Int32) (σ : aH) : Lq G d M_149 (0, [some (.ref 33), some (.int x1)], [], σ) = Lq G d M_149 (7, [some (.ref 33), some (.int x1)], [.int x1, .ref 33], (aSI σ 33 0 (0 : Int32))) :=
  (aUn_eq (tkd G.1 G.2) tmi (aRun (tkd G.1 G.2) tmi tmt d) M_149 [] 5 (0, [some (.ref 33), some (.int x1)], [], σ)).trans rfl
set_option maxRecDepth 20000 in
theorem q_149_311 (G : Nat × (Nat → Int32)) (d : Nat) (x1 : Int32) (s0 : Int32) (σ : aH) : Lq G d M_149 (7, [some (.ref 33), some (.int x1)], [.int s0, .ref 33], σ) = if s0 < 0 then Lq G d M_149 (22, [some (.ref 33), some (.int x1)], [.ref 33], σ) else Lq G d M_149 (10, [some (.ref 33), some (.int x1)], [.ref 33], σ) :=
  (aUn_eq (tkd G.1 G.2) tmi (aRun (tkd G.1 G.2) tmi tmt d) M_149 [] 1 (7, [some (.ref 33), some (.int x1)], [.int s0, .ref 33], σ)).trans rfl
set_option maxRecDepth 20000 in
theorem q_149_312 (G : Nat × (Nat → Int32)) (d : Nat) (x1 : Int32) (σ : aH) : Lq G d M_149 (22, [some (.ref 33), some (.int x1)], [.ref 33], σ) = Lq G d M_149 (24, [some (.ref 33), some (.int x1)], [.int (1 : Int32), .int (0 : Int32), .ref 33], σ) :=
  (aUn_eq (tkd G.1 G.2) tmi (aRun (tkd G.1 G.2) tmi tmt d) M_149 [] 2 (22, [some (.ref 33), some (.int x1)], [.ref 33], σ)).trans rfl
set_option maxRecDepth 20000 in
theorem q_149_313 (G : Nat × (Nat → Int32)) (d : Nat) (x1 : Int32) (s0 : Int32) (s1 : Int32) (σ : aH) : Lq G d M_149 (24, [some (.ref 33), some (.int x1)], [.int s0, .int s1, .ref 33], σ) = aCI (Rn G d 62 [.ref 33, .int s1, .int s0] σ) fun v2 σ1 => Lq G d M_149 (27, [some (.ref 33), some (.int x1)], [.int v2], σ1) :=
  (aUn_eq (tkd G.1 G.2) tmi (aRun (tkd G.1 G.2) tmi tmt d) M_149 [] 1 (24, [some (.ref 33), some (.int x1)], [.int s0, .int s1, .ref 33], σ)).trans rfl
set_option maxRecDepth 20000 in
theorem q_149_314 (G : Nat × (Nat → Int32)) (d : Nat) (x1 : Int32) (s0 : Int32) (σ : aH) : Lq G d M_149 (27, [some (.ref 33), some (.int x1)], [.int s0], σ) = if s0 = 0 then Lq G d M_149 (43, [some (.ref 33), some (.int x1)], [], σ) else Lq G d M_149 (30, [some (.ref 33), some (.int x1)], [], σ) :=
  (aUn_eq (tkd G.1 G.2) tmi (aRun (tkd G.1 G.2) tmi tmt d) M_149 [] 1 (27, [some (.ref 33), some (.int x1)], [.int s0], σ)).trans rfl
