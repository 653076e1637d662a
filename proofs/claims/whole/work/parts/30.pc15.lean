/-! ===== the methods in pieces, as equations (by wip/gen/emit_eqs2.py) ===== -/
set_option maxRecDepth 20000 in
theorem q_133_4124 (G : Nat × (Nat → Int32)) (d : Nat) (x2 : Int32) (x3 : Int32) (x4 : Int32) (x5 : Int32) (σ : aH) : Lq G d M_133 (79, [some (.ref 33), none, some (.int x2), some (.int x3), some (.int x4), some (.int x5)], [], σ) = Lq G d M_133 (5, [some (.ref 33), none, some (.int x2), some (.int x3), some (.int x4), none], [], σ) :=
  (aUn_eq (tkd G.1 G.2) tmi (aRun (tkd G.1 G.2) tmi tmt d) M_133 [] 2 (79, [some (.ref 33), none, some (.int x2), some (.int x3), some (.int x4), some (.int x5)], [], σ)).trans rfl
set_option maxRecDepth 20000 in
theorem q_133_4125 (G : Nat × (Nat → Int32)) (d : Nat) (x2 : Int32) (x3 : Int32) (x4 : Int32) (x5 : Int32) (s0 : Int32) (σ : aH) : Lq G d M_133 (60, [some (.ref 33), none, some (.int x2), some (.int x3), some (.int x4), some (.int x5)], [.int s0, .ref 55], σ) = Lq G d M_133 (68, [some (.ref 33), none, some (.int x2), some (.int x3), some (.int x4), some (.int x5)], [.int x4, .ref 38, .int x2, .ref 33, .int s0, .ref 55], σ) :=
  (aUn_eq (tkd G.1 G.2) tmi (aRun (tkd G.1 G.2) tmi tmt d) M_133 [] 5 (60, [some (.ref 33), none, some (.int x2), some (.int x3), some (.int x4), some (.int x5)], [.int s0, .ref 55], σ)).trans rfl
set_option maxRecDepth 20000 in
theorem q_133_4126 (G : Nat × (Nat → Int32)) (d : Nat) (x2 : Int32) (x3 : Int32) (x4 : Int32) (x5 : Int32) (s0 : Int32) (s2 : Int32) (s4 : Int32) (σ : aH) : Lq G d M_133 (68, [some (.ref 33), none, some (.int x2), some (.int x3), some (.int x4), some (.int x5)], [.int s0, .ref 38, .int s2, .ref 33, .int s4, .ref 55], σ) = aIx (s0) 1200 fun j1 => Lq G d M_133 (69, [some (.ref 33), none, some (.int x2), some (.int x3), some (.int x4), some (.int x5)], [.int (σ.1 38 j1), .int s2, .ref 33, .int s4, .ref 55], σ) :=
  (aUn_eq (tkd G.1 G.2) tmi (aRun (tkd G.1 G.2) tmi tmt d) M_133 [] 1 (68, [some (.ref 33), none, some (.int x2), some (.int x3), some (.int x4), some (.int x5)], [.int s0, .ref 38, .int s2, .ref 33, .int s4, .ref 55], σ)).trans rfl
set_option maxRecDepth 20000 in
theorem q_133_4127 (G : Nat × (Nat → Int32)) (d : Nat) (x2 : Int32) (x3 : Int32) (x4 : Int32) (x5 : Int32) (s0 : Int32) (s1 : Int32) (s3 : Int32) (σ : aH) : Lq G d M_133 (69, [some (.ref 33), none, some (.int x2), some (.int x3), some (.int x4), some (.int x5)], [.int s0, .int s1, .ref 33, .int s3, .ref 55], σ) = aCI (Rn G d 134 [.ref 33, .int s1, .int s0] σ) fun v2 σ1 => Lq G d M_133 (72, [some (.ref 33), none, some (.int x2), some (.int x3), some (.int x4), some (.int x5)], [.int v2, .int s3, .ref 55], σ1) :=
  (aUn_eq (tkd G.1 G.2) tmi (aRun (tkd G.1 G.2) tmi tmt d) M_133 [] 1 (69, [some (.ref 33), none, some (.int x2), some (.int x3), some (.int x4), some (.int x5)], [.int s0, .int s1, .ref 33, .int s3, .ref 55], σ)).trans rfl
set_option maxRecDepth 20000 in
theorem q_133_4128 (G : Nat × (Nat → Int32)) (d : Nat) (x2 : Int32) (x3 : Int32) (x4 : Int32) (x5 : Int32) (σ : aH) : Lq G d M_133 (33, [some (.ref 33), none, some (.int x2), some (.int x3), some (.int x4), some (.int x5)], [], σ) = Lq G d M_133 (36, [some (.ref 33), none, some (.int x2), some (.int x3), some (.int x4), some (.int x5)], [.int (2 : Int32), .int x5], σ) :=
  (aUn_eq (tkd G.1 G.2) tmi (aRun (tkd G.1 G.2) tmi tmt d) M_133 [] 2 (33, [some (.ref 33), none, some (.int x2), some (.int x3), some (.int x4), some (.int x5)], [], σ)).trans rfl
set_option maxRecDepth 20000 in
theorem q_133_4129 (G : Nat × (Nat → Int32)) (d : Nat) (x2 : Int32) (x3 : Int32) (x4 : Int32) (x5 : Int32) (s0 : Int32) (s1 : Int32) (σ : aH) : Lq G d M_133 (36, [some (.ref 33), none, some (.int x2), some (.int x3), some (.int x4), some (.int x5)], [.int s0, .int s1], σ) = if s1 = s0 then Lq G d M_133 (39, [some (.ref 33), none, some (.int x2), some (.int x3), some (.int x4), some (.int x5)], [], σ) else Lq G d M_133 (82, [some (.ref 33), none, some (.int x2), some (.int x3), some (.int x4), some (.int x5)], [], σ) :=
  (aUn_eq (tkd G.1 G.2) tmi (aRun (tkd G.1 G.2) tmi tmt d) M_133 [] 1 (36, [some (.ref 33), none, some (.int x2), some (.int x3), some (.int x4), some (.int x5)], [.int s0, .int s1], σ)).trans rfl
set_option maxRecDepth 20000 in
theorem q_133_4130 (G : Nat × (Nat → Int32)) (d : Nat) (x2 : Int32) (x3 : Int32) (x4 : Int32) (x5 : Int32) (σ : aH) : Lq G d M_133 (82, [some (.ref 33), none, some (.int x2), some (.int x3), some (.int x4), some (.int x5)], [], σ) = Lq G d M_133 (85, [some (.ref 33), none, some (.int x2), some (.int x3), some (.int x4), some (.int x5)], [.int (3 : Int32), .int x5], σ) :=
  (aUn_eq (tkd G.1 G.2) tmi (aRun (tkd G.1 G.2) tmi tmt d) M_133 [] 2 (82, [some (.ref 33), none, some (.int x2), some (.int x3), some (.int x4), some (.int x5)], [], σ)).trans rfl
set_option maxRecDepth 20000 in
theorem q_133_4131 (G : Nat × (Nat → Int32)) (d : Nat) (x2 : Int32) (x3 : Int32) (x4 : Int32) (x5 : Int32) (s0 : Int32) (s1 : Int32) (σ : aH) : Lq G d M_133 (85, [some (.ref 33), none, some (.int x2), some (.int x3), some (.int x4), some (.int x5)], [.int s0, .int s1], σ) = if s1 = s0 then Lq G d M_133 (88, [some (.ref 33), none, some (.int x2), some (.int x3), some (.int x4), some (.int x5)], [], σ) else Lq G d M_133 (115, [some (.ref 33), none, some (.int x2), some (.int x3), some (.int x4), some (.int x5)], [], σ) :=
  (aUn_eq (tkd G.1 G.2) tmi (aRun (tkd G.1 G.2) tmi tmt d) M_133 [] 1 (85, [some (.ref 33), none, some (.int x2), some (.int x3), some (.int x4), some (.int x5)], [.int s0, .int s1], σ)).trans rfl
set_option maxRecDepth 20000 in
theorem q_133_4132 (G : Nat × (Nat → Int32)) (d : Nat) (x2 : Int32) (x3 : Int32) (x4 : Int32) (x5 : Int32) (σ : aH) : Lq G d M_133 (88, [some (.ref 33), none, some (.int x2), some (.int x3), some (.int x4), some (.int x5)], [], σ) = Lq G d M_133 (102, [some (.ref 33), none, some (.int x2), some (.int x3), some (.int x4), some (.int x5)], [.int (x3 - (1 : Int32)), .ref 55, .int (x3 - (1 : Int32)), .ref 55], σ) :=
  (aUn_eq (tkd G.1 G.2) tmi (aRun (tkd G.1 G.2) tmi tmt d) M_133 [] 10 (88, [some (.ref 33), none, some (.int x2), some (.int x3), some (.int x4), some (.int x5)], [], σ)).trans rfl
set_option maxRecDepth 20000 in
theorem q_133_4133 (G : Nat × (Nat → Int32)) (d : Nat) (x2 : Int32) (x3 : Int32) (x4 : Int32) (x5 : Int32) (s0 : Int32) (s2 : Int32) (σ : aH) : Lq G d M_133 (102, [some (.ref 33), none, some (.int x2), some (.int x3), some (.int x4), some (.int x5)], [.int s0, .ref 55, .int s2, .ref 55], σ) = aIx (s0) 720 fun j1 => Lq G d M_133 (103, [some (.ref 33), none, some (.int x2), some (.int x3), some (.int x4), some (.int x5)], [.int (σ.1 55 j1), .int s2, .ref 55], σ) :=
  (aUn_eq (tkd G.1 G.2) tmi (aRun (tkd G.1 G.2) tmi tmt d) M_133 [] 1 (102, [some (.ref 33), none, some (.int x2), some (.int x3), some (.int x4), some (.int x5)], [.int s0, .ref 55, .int s2, .ref 55], σ)).trans rfl
set_option maxRecDepth 20000 in
theorem q_133_4134 (G : Nat × (Nat → Int32)) (d : Nat) (x2 : Int32) (x3 : Int32) (x4 : Int32) (x5 : Int32) (s0 : Int32) (s1 : Int32) (σ : aH) : Lq G d M_133 (103, [some (.ref 33), none, some (.int x2), some (.int x3), some (.int x4), some (.int x5)], [.int s0, .int s1, .ref 55], σ) = if s0 = 0 then Lq G d M_133 (106, [some (.ref 33), none, some (.int x2), some (.int x3), some (.int x4), some (.int x5)], [.int s1, .ref 55], σ) else Lq G d M_133 (110, [some (.ref 33), none, some (.int x2), some (.int x3), some (.int x4), some (.int x5)], [.int s1, .ref 55], σ) :=
  (aUn_eq (tkd G.1 G.2) tmi (aRun (tkd G.1 G.2) tmi tmt d) M_133 [] 1 (103, [some (.ref 33), none, some (.int x2), some (.int x3), some (.int x4), some (.int x5)], [.int s0, .int s1, .ref 55], σ)).trans rfl
set_option maxRecDepth 20000 in
theorem q_133_4135 (G : Nat × (Nat → Int32)) (d : Nat) (x2 : Int32) (x3 : Int32) (x4 : Int32) (x5 : Int32) (s0 : Int32) (σ : aH) : Lq G d M_133 (106, [some (.ref 33), none, some (.int x2), some (.int x3), some (.int x4), some (.int x5)], [.int s0, .ref 55], σ) = Lq G d M_133 (111, [some (.ref 33), none, some (.int x2), some (.int x3), some (.int x4), some (.int x5)], [.int (1 : Int32), .int s0, .ref 55], σ) :=
  (aUn_eq (tkd G.1 G.2) tmi (aRun (tkd G.1 G.2) tmi tmt d) M_133 [] 2 (106, [some (.ref 33), none, some (.int x2), some (.int x3), some (.int x4), some (.int x5)], [.int s0, .ref 55], σ)).trans rfl
set_option maxRecDepth 20000 in
theorem q_133_4136 (G : Nat × (Nat → Int32)) (d : Nat) (x2 : Int32) (x3 : Int32) (x4 : Int32) (x5 : Int32) (s0 : Int32) (s1 : Int32) (σ : aH) : Lq G d M_133 (111, [some (.ref 33), none, some (.int x2), some (.int x3), some (.int x4), some (.int x5)], [.int s0, .int s1, .ref 55], σ) = aIx (s1) 720 fun j1 => Lq G d M_133 (112, [some (.ref 33), none, some (.int x2), some (.int x3), some (.int x4), some (.int x5)], [], (aSI σ 55 j1 s0)) :=
  (aUn_eq (tkd G.1 G.2) tmi (aRun (tkd G.1 G.2) tmi tmt d) M_133 [] 1 (111, [some (.ref 33), none, some (.int x2), some (.int x3), some (.int x4), some (.int x5)], [.int s0, .int s1, .ref 55], σ)).trans rfl
set_option maxRecDepth 20000 in
theorem q_133_4137 (G : Nat × (Nat → Int32)) (d : Nat) (x2 : Int32) (x3 : Int32) (x4 : Int32) (x5 : Int32) (σ : aH) : Lq G d M_133 (112, [some (.ref 33), none, some (.int x2), some (.int x3), some (.int x4), some (.int x5)], [], σ) = Lq G d M_133 (5, [some (.ref 33), none, some (.int x2), some (.int x3), some (.int x4), none], [], σ) :=
  (aUn_eq (tkd G.1 G.2) tmi (aRun (tkd G.1 G.2) tmi tmt d) M_133 [] 2 (112, [some (.ref 33), none, some (.int x2), some (.int x3), some (.int x4), some (.int x5)], [], σ)).trans rfl
set_option maxRecDepth 20000 in
theorem q_133_4138 (G : Nat × (Nat → Int32)) (d : Nat) (x2 : Int32) (x3 : Int32) (x4 : Int32) (x5 : Int32) (s0 : Int32) (σ : aH) : Lq G d M_133 (110, [some (.ref 33), none, some (.int x2), some (.int x3), some (.int x4), some (.int x5)], [.int s0, .ref 55], σ) = Lq G d M_133 (111, [some (.ref 33), none, some (.int x2), some (.int x3), some (.int x4), some (.int x5)], [.int (0 : Int32), .int s0, .ref 55], σ) :=
  (aUn_eq (tkd G.1 G.2) tmi (aRun (tkd G.1 G.2) tmi tmt d) M_133 [] 1 (110, [some (.ref 33), none, some (.int x2), some (.int x3), some (.int x4), some (.int x5)], [.int s0, .ref 55], σ)).trans rfl
set_option maxRecDepth 20000 in
theorem q_133_4139 (G : Nat × (Nat → Int32)) (d : Nat) (x2 : Int32) (x3 : Int32) (x4 : Int32) (x5 : Int32) (σ : aH) : Lq G d M_133 (115, [some (.ref 33), none, some (.int x2), some (.int x3), some (.int x4), some (.int x5)], [], σ) = Lq G d M_133 (134, [some (.ref 33), none, some (.int x2), some (.int (x3 + (-1 : Int32))), some (.int x4), some (.int x5)], [.int ((x3 + (-1 : Int32)) - (1 : Int32)), .ref 55, .int x5, .int ((x3 + (-1 : Int32)) - (1 : Int32)), .ref 55], σ) :=
  (aUn_eq (tkd G.1 G.2) tmi (aRun (tkd G.1 G.2) tmi tmt d) M_133 [] 12 (115, [some (.ref 33), none, some (.int x2), some (.int x3), some (.int x4), some (.int x5)], [], σ)).trans rfl
set_option maxRecDepth 20000 in
theorem q_133_4140 (G : Nat × (Nat → Int32)) (d : Nat) (x2 : Int32) (x3 : Int32) (x4 : Int32) (x5 : Int32) (s0 : Int32) (s2 : Int32) (s3 : Int32) (σ : aH) : Lq G d M_133 (134, [some (.ref 33), none, some (.int x2), some (.int x3), some (.int x4), some (.int x5)], [.int s0, .ref 55, .int s2, .int s3, .ref 55], σ) = aIx (s0) 720 fun j1 => Lq G d M_133 (135, [some (.ref 33), none, some (.int x2), some (.int x3), some (.int x4), some (.int x5)], [.int (σ.1 55 j1), .int s2, .int s3, .ref 55], σ) :=
  (aUn_eq (tkd G.1 G.2) tmi (aRun (tkd G.1 G.2) tmi tmt d) M_133 [] 1 (134, [some (.ref 33), none, some (.int x2), some (.int x3), some (.int x4), some (.int x5)], [.int s0, .ref 55, .int s2, .int s3, .ref 55], σ)).trans rfl
set_option maxRecDepth 20000 in
theorem q_133_4141 (G : Nat × (Nat → Int32)) (d : Nat) (x2 : Int32) (x3 : Int32) (x4 : Int32) (x5 : Int32) (s0 : Int32) (s1 : Int32) (s2 : Int32) (σ : aH) : Lq G d M_133 (135, [some (.ref 33), none, some (.int x2), some (.int x3), some (.int x4), some (.int x5)], [.int s0, .int s1, .int s2, .ref 55], σ) = Lq G d M_133 (140, [some (.ref 33), none, some (.int x2), some (.int x3), some (.int x4), some (.int x5)], [.int x3, .ref 55, .int s0, .int s1, .int s2, .ref 55], σ) :=
  (aUn_eq (tkd G.1 G.2) tmi (aRun (tkd G.1 G.2) tmi tmt d) M_133 [] 3 (135, [some (.ref 33), none, some (.int x2), some (.int x3), some (.int x4), some (.int x5)], [.int s0, .int s1, .int s2, .ref 55], σ)).trans rfl
set_option maxRecDepth 20000 in
theorem q_133_4142 (G : Nat × (Nat → Int32)) (d : Nat) (x2 : Int32) (x3 : Int32) (x4 : Int32) (x5 : Int32) (s0 : Int32) (s2 : Int32) (s3 : Int32) (s4 : Int32) (σ : aH) : Lq G d M_133 (140, [some (.ref 33), none, some (.int x2), some (.int x3), some (.int x4), some (.int x5)], [.int s0, .ref 55, .int s2, .int s3, .int s4, .ref 55], σ) = aIx (s0) 720 fun j1 => Lq G d M_133 (141, [some (.ref 33), none, some (.int x2), some (.int x3), some (.int x4), some (.int x5)], [.int (σ.1 55 j1), .int s2, .int s3, .int s4, .ref 55], σ) :=
  (aUn_eq (tkd G.1 G.2) tmi (aRun (tkd G.1 G.2) tmi tmt d) M_133 [] 1 (140, [some (.ref 33), none, some (.int x2), some (.int x3), some (.int x4), some (.int x5)], [.int s0, .ref 55, .int s2, .int s3, .int s4, .ref 55], σ)).trans rfl
set_option maxRecDepth 20000 in
theorem q_133_4143 (G : Nat × (Nat → Int32)) (d : Nat) (x2 : Int32) (x3 : Int32) (x4 : Int32) (x5 : Int32) (s0 : Int32) (s1 : Int32) (s2 : Int32) (s3 : Int32) (σ : aH) : Lq G d M_133 (141, [some (.ref 33), none, some (.int x2), some (.int x3), some (.int x4), some (.int x5)], [.int s0, .int s1, .int s2, .int s3, .ref 55], σ) = aCI (Rn G d 136 [.int s2, .int s1, .int s0] σ) fun v2 σ1 => Lq G d M_133 (144, [some (.ref 33), none, some (.int x2), some (.int x3), some (.int x4), some (.int x5)], [.int v2, .int s3, .ref 55], σ1) :=
  (aUn_eq (tkd G.1 G.2) tmi (aRun (tkd G.1 G.2) tmi tmt d) M_133 [] 1 (141, [some (.ref 33), none, some (.int x2), some (.int x3), some (.int x4), some (.int x5)], [.int s0, .int s1, .int s2, .int s3, .ref 55], σ)).trans rfl
set_option maxRecDepth 20000 in
theorem q_133_4144 (G : Nat × (Nat → Int32)) (d : Nat) (x2 : Int32) (x3 : Int32) (x4 : Int32) (x5 : Int32) (s0 : Int32) (s1 : Int32) (σ : aH) : Lq G d M_133 (144, [some (.ref 33), none, some (.int x2), some (.int x3), some (.int x4), some (.int x5)], [.int s0, .int s1, .ref 55], σ) = aIx (s1) 720 fun j1 => Lq G d M_133 (145, [some (.ref 33), none, some (.int x2), some (.int x3), some (.int x4), some (.int x5)], [], (aSI σ 55 j1 s0)) :=
  (aUn_eq (tkd G.1 G.2) tmi (aRun (tkd G.1 G.2) tmi tmt d) M_133 [] 1 (144, [some (.ref 33), none, some (.int x2), some (.int x3), some (.int x4), some (.int x5)], [.int s0, .int s1, .ref 55], σ)).trans rfl
set_option maxRecDepth 20000 in
theorem q_133_4145 (G : Nat × (Nat → Int32)) (d : Nat) (x2 : Int32) (x3 : Int32) (x4 : Int32) (x5 : Int32) (σ : aH) : Lq G d M_133 (145, [some (.ref 33), none, some (.int x2), some (.int x3), some (.int x4), some (.int x5)], [], σ) = Lq G d M_133 (5, [some (.ref 33), none, some (.int x2), some (.int x3), some (.int x4), none], [], σ) :=
  (aUn_eq (tkd G.1 G.2) tmi (aRun (tkd G.1 G.2) tmi tmt d) M_133 [] 1 (145, [some (.ref 33), none, some (.int x2), some (.int x3), some (.int x4), some (.int x5)], [], σ)).trans rfl
set_option maxRecDepth 20000 in
theorem q_213_4146 (G : Nat × (Nat → Int32)) (d : Nat) (x0 : Int32) (x1 : Int32) (σ : aH) : Lq G d M_213 (0, [some (.int x0), some (.int x1)], [], σ) = Lq G d M_213 (1, [some (.int x0), some (.int x1)], [.int x0], σ) :=
  (aUn_eq (tkd G.1 G.2) tmi (aRun (tkd G.1 G.2) tmi tmt d) M_213 [] 1 (0, [some (.int x0), some (.int x1)], [], σ)).trans rfl
set_option maxRecDepth 20000 in
theorem q_213_4147 (G : Nat × (Nat → Int32)) (d : Nat) (x0 : Int32) (x1 : Int32) (s0 : Int32) (σ : aH) : Lq G d M_213 (1, [some (.int x0), some (.int x1)], [.int s0], σ) = if s0 = (12 : Int32) then Lq G d M_213 (28, [some (.int x0), some (.int x1)], [], σ) else if s0 = (13 : Int32) then Lq G d M_213 (30, [some (.int x0), some (.int x1)], [], σ) else if s0 = (14 : Int32) then Lq G d M_213 (33, [some (.int x0), some (.int x1)], [], σ) else Lq G d M_213 (35, [some (.int x0), some (.int x1)], [], σ) :=
  (aUn_eq (tkd G.1 G.2) tmi (aRun (tkd G.1 G.2) tmi tmt d) M_213 [] 1 (1, [some (.int x0), some (.int x1)], [.int s0], σ)).trans rfl
set_option maxRecDepth 20000 in
theorem q_213_4148 (G : Nat × (Nat → Int32)) (d : Nat) (x0 : Int32) (x1 : Int32) (σ : aH) : Lq G d M_213 (28, [some (.int x0), some (.int x1)], [], σ) = Lq G d M_213 (29, [some (.int x0), some (.int x1)], [.int x1], σ) :=
  (aUn_eq (tkd G.1 G.2) tmi (aRun (tkd G.1 G.2) tmi tmt d) M_213 [] 1 (28, [some (.int x0), some (.int x1)], [], σ)).trans rfl
set_option maxRecDepth 20000 in
theorem q_213_4149 (G : Nat × (Nat → Int32)) (d : Nat) (x0 : Int32) (x1 : Int32) (s0 : Int32) (σ : aH) : Lq G d M_213 (29, [some (.int x0), some (.int x1)], [.int s0], σ) = some (.inl (some (.int s0)), σ) :=
  (aUn_eq (tkd G.1 G.2) tmi (aRun (tkd G.1 G.2) tmi tmt d) M_213 [] 1 (29, [some (.int x0), some (.int x1)], [.int s0], σ)).trans rfl
set_option maxRecDepth 20000 in
theorem q_213_4150 (G : Nat × (Nat → Int32)) (d : Nat) (x0 : Int32) (x1 : Int32) (σ : aH) : Lq G d M_213 (30, [some (.int x0), some (.int x1)], [], σ) = Lq G d M_213 (32, [some (.int x0), some (.int x1)], [.int (10 : Int32)], σ) :=
  (aUn_eq (tkd G.1 G.2) tmi (aRun (tkd G.1 G.2) tmi tmt d) M_213 [] 1 (30, [some (.int x0), some (.int x1)], [], σ)).trans rfl
set_option maxRecDepth 20000 in
theorem q_213_4151 (G : Nat × (Nat → Int32)) (d : Nat) (x0 : Int32) (x1 : Int32) (s0 : Int32) (σ : aH) : Lq G d M_213 (32, [some (.int x0), some (.int x1)], [.int s0], σ) = some (.inl (some (.int s0)), σ) :=
  (aUn_eq (tkd G.1 G.2) tmi (aRun (tkd G.1 G.2) tmi tmt d) M_213 [] 1 (32, [some (.int x0), some (.int x1)], [.int s0], σ)).trans rfl
set_option maxRecDepth 20000 in
theorem q_213_4152 (G : Nat × (Nat → Int32)) (d : Nat) (x0 : Int32) (x1 : Int32) (σ : aH) : Lq G d M_213 (33, [some (.int x0), some (.int x1)], [], σ) = Lq G d M_213 (34, [some (.int x0), some (.int x1)], [.int (5 : Int32)], σ) :=
  (aUn_eq (tkd G.1 G.2) tmi (aRun (tkd G.1 G.2) tmi tmt d) M_213 [] 1 (33, [some (.int x0), some (.int x1)], [], σ)).trans rfl
set_option maxRecDepth 20000 in
theorem q_213_4153 (G : Nat × (Nat → Int32)) (d : Nat) (x0 : Int32) (x1 : Int32) (s0 : Int32) (σ : aH) : Lq G d M_213 (34, [some (.int x0), some (.int x1)], [.int s0], σ) = some (.inl (some (.int s0)), σ) :=
  (aUn_eq (tkd G.1 G.2) tmi (aRun (tkd G.1 G.2) tmi tmt d) M_213 [] 1 (34, [some (.int x0), some (.int x1)], [.int s0], σ)).trans rfl
set_option maxRecDepth 20000 in
theorem q_213_4154 (G : Nat × (Nat → Int32)) (d : Nat) (x0 : Int32) (x1 : Int32) (σ : aH) : Lq G d M_213 (35, [some (.int x0), some (.int x1)], [], σ) = Lq G d M_213 (36, [some (.int x0), some (.int x1)], [.int (1 : Int32)], σ) :=
  (aUn_eq (tkd G.1 G.2) tmi (aRun (tkd G.1 G.2) tmi tmt d) M_213 [] 1 (35, [some (.int x0), some (.int x1)], [], σ)).trans rfl
set_option maxRecDepth 20000 in
theorem q_213_4155 (G : Nat × (Nat → Int32)) (d : Nat) (x0 : Int32) (x1 : Int32) (s0 : Int32) (σ : aH) : Lq G d M_213 (36, [some (.int x0), some (.int x1)], [.int s0], σ) = some (.inl (some (.int s0)), σ) :=
  (aUn_eq (tkd G.1 G.2) tmi (aRun (tkd G.1 G.2) tmi tmt d) M_213 [] 1 (36, [some (.int x0), some (.int x1)], [.int s0], σ)).trans rfl
set_option maxRecDepth 20000 in
theorem q_214_4156 (G : Nat × (Nat → Int32)) (d : Nat) (x0 : Int32) (x1 : Int32) (σ : aH) : Lq G d M_214 (0, [some (.int x0), some (.int x1)], [], σ) = Lq G d M_214 (1, [some (.int x0), some (.int x1)], [.int x1], σ) :=
  (aUn_eq (tkd G.1 G.2) tmi (aRun (tkd G.1 G.2) tmi tmt d) M_214 [] 1 (0, [some (.int x0), some (.int x1)], [], σ)).trans rfl
set_option maxRecDepth 20000 in
theorem q_214_4157 (G : Nat × (Nat → Int32)) (d : Nat) (x0 : Int32) (x1 : Int32) (s0 : Int32) (σ : aH) : Lq G d M_214 (1, [some (.int x0), some (.int x1)], [.int s0], σ) = if 0 < s0 then Lq G d M_214 (8, [some (.int x0), some (.int x1)], [], σ) else Lq G d M_214 (4, [some (.int x0), some (.int x1)], [], σ) :=
  (aUn_eq (tkd G.1 G.2) tmi (aRun (tkd G.1 G.2) tmi tmt d) M_214 [] 1 (1, [some (.int x0), some (.int x1)], [.int s0], σ)).trans rfl
set_option maxRecDepth 20000 in
theorem q_214_4158 (G : Nat × (Nat → Int32)) (d : Nat) (x0 : Int32) (x1 : Int32) (σ : aH) : Lq G d M_214 (8, [some (.int x0), some (.int x1)], [], σ) = Lq G d M_214 (17, [some (.int x0), some (.int x1)], [.int x1, .int ((x0 >>> ((16 : Int32) &&& 31)) &&& (32767 : Int32))], σ) :=
  (aUn_eq (tkd G.1 G.2) tmi (aRun (tkd G.1 G.2) tmi tmt d) M_214 [] 6 (8, [some (.int x0), some (.int x1)], [], σ)).trans rfl
set_option maxRecDepth 20000 in
theorem q_214_4159 (G : Nat × (Nat → Int32)) (d : Nat) (x0 : Int32) (x1 : Int32) (s0 : Int32) (s1 : Int32) (σ : aH) : Lq G d M_214 (17, [some (.int x0), some (.int x1)], [.int s0, .int s1], σ) = aNz (s0) (Lq G d M_214 (18, [some (.int x0), some (.int x1)], [.int (s1 - s1 / s0 * s0)], σ)) :=
  (aUn_eq (tkd G.1 G.2) tmi (aRun (tkd G.1 G.2) tmi tmt d) M_214 [] 1 (17, [some (.int x0), some (.int x1)], [.int s0, .int s1], σ)).trans rfl
set_option maxRecDepth 20000 in
theorem q_214_4160 (G : Nat × (Nat → Int32)) (d : Nat) (x0 : Int32) (x1 : Int32) (s0 : Int32) (σ : aH) : Lq G d M_214 (18, [some (.int x0), some (.int x1)], [.int s0], σ) = some (.inl (some (.int s0)), σ) :=
  (aUn_eq (tkd G.1 G.2) tmi (aRun (tkd G.1 G.2) tmi tmt d) M_214 [] 1 (18, [some (.int x0), some (.int x1)], [.int s0], σ)).trans rfl
set_option maxRecDepth 20000 in
theorem q_214_4161 (G : Nat × (Nat → Int32)) (d : Nat) (x0 : Int32) (x1 : Int32) (σ : aH) : Lq G d M_214 (4, [some (.int x0), some (.int x1)], [], σ) = Lq G d M_214 (18, [some (.int x0), some (.int x1)], [.int (0 : Int32)], σ) :=
  (aUn_eq (tkd G.1 G.2) tmi (aRun (tkd G.1 G.2) tmi tmt d) M_214 [] 2 (4, [some (.int x0), some (.int x1)], [], σ)).trans rfl
set_option maxRecDepth 20000 in
theorem q_20_4162 (G : Nat × (Nat → Int32)) (d : Nat) (x0 : Int32) (x1 : Int32) (σ : aH) : Lq G d M_20 (0, [some (.int x0), some (.int x1)], [], σ) = Lq G d M_20 (2, [some (.int x0), some (.int x1)], [.int x1, .int x0], σ) :=
  (aUn_eq (tkd G.1 G.2) tmi (aRun (tkd G.1 G.2) tmi tmt d) M_20 [] 2 (0, [some (.int x0), some (.int x1)], [], σ)).trans rfl
set_option maxRecDepth 20000 in
theorem q_20_4163 (G : Nat × (Nat → Int32)) (d : Nat) (x0 : Int32) (x1 : Int32) (s0 : Int32) (s1 : Int32) (σ : aH) : Lq G d M_20 (2, [some (.int x0), some (.int x1)], [.int s0, .int s1], σ) = if s0 < s1 then Lq G d M_20 (9, [some (.int x0), some (.int x1)], [], σ) else Lq G d M_20 (5, [some (.int x0), some (.int x1)], [], σ) :=
  (aUn_eq (tkd G.1 G.2) tmi (aRun (tkd G.1 G.2) tmi tmt d) M_20 [] 1 (2, [some (.int x0), some (.int x1)], [.int s0, .int s1], σ)).trans rfl
set_option maxRecDepth 20000 in
theorem q_20_4164 (G : Nat × (Nat → Int32)) (d : Nat) (x0 : Int32) (x1 : Int32) (σ : aH) : Lq G d M_20 (9, [some (.int x0), some (.int x1)], [], σ) = Lq G d M_20 (10, [some (.int x0), some (.int x1)], [.int x1], σ) :=
  (aUn_eq (tkd G.1 G.2) tmi (aRun (tkd G.1 G.2) tmi tmt d) M_20 [] 1 (9, [some (.int x0), some (.int x1)], [], σ)).trans rfl
set_option maxRecDepth 20000 in
theorem q_20_4165 (G : Nat × (Nat → Int32)) (d : Nat) (x0 : Int32) (x1 : Int32) (s0 : Int32) (σ : aH) : Lq G d M_20 (10, [some (.int x0), some (.int x1)], [.int s0], σ) = some (.inl (some (.int s0)), σ) :=
  (aUn_eq (tkd G.1 G.2) tmi (aRun (tkd G.1 G.2) tmi tmt d) M_20 [] 1 (10, [some (.int x0), some (.int x1)], [.int s0], σ)).trans rfl
set_option maxRecDepth 20000 in
theorem q_20_4166 (G : Nat × (Nat → Int32)) (d : Nat) (x0 : Int32) (x1 : Int32) (σ : aH) : Lq G d M_20 (5, [some (.int x0), some (.int x1)], [], σ) = Lq G d M_20 (10, [some (.int x0), some (.int x1)], [.int x0], σ) :=
  (aUn_eq (tkd G.1 G.2) tmi (aRun (tkd G.1 G.2) tmi tmt d) M_20 [] 2 (5, [some (.int x0), some (.int x1)], [], σ)).trans rfl
set_option maxRecDepth 20000 in
theorem q_19_4167 (G : Nat × (Nat → Int32)) (d : Nat) (x0 : Int32) (x1 : Int32) (σ : aH) : Lq G d M_19 (0, [some (.int x0), some (.int x1)], [], σ) = Lq G d M_19 (2, [some (.int x0), some (.int x1)], [.int x1, .int x0], σ) :=
  (aUn_eq (tkd G.1 G.2) tmi (aRun (tkd G.1 G.2) tmi tmt d) M_19 [] 2 (0, [some (.int x0), some (.int x1)], [], σ)).trans rfl
set_option maxRecDepth 20000 in
theorem q_19_4168 (G : Nat × (Nat → Int32)) (d : Nat) (x0 : Int32) (x1 : Int32) (s0 : Int32) (s1 : Int32) (σ : aH) : Lq G d M_19 (2, [some (.int x0), some (.int x1)], [.int s0, .int s1], σ) = if s1 < s0 then Lq G d M_19 (9, [some (.int x0), some (.int x1)], [], σ) else Lq G d M_19 (5, [some (.int x0), some (.int x1)], [], σ) :=
  (aUn_eq (tkd G.1 G.2) tmi (aRun (tkd G.1 G.2) tmi tmt d) M_19 [] 1 (2, [some (.int x0), some (.int x1)], [.int s0, .int s1], σ)).trans rfl
set_option maxRecDepth 20000 in
theorem q_19_4169 (G : Nat × (Nat → Int32)) (d : Nat) (x0 : Int32) (x1 : Int32) (σ : aH) : Lq G d M_19 (9, [some (.int x0), some (.int x1)], [], σ) = Lq G d M_19 (10, [some (.int x0), some (.int x1)], [.int x1], σ) :=
  (aUn_eq (tkd G.1 G.2) tmi (aRun (tkd G.1 G.2) tmi tmt d) M_19 [] 1 (9, [some (.int x0), some (.int x1)], [], σ)).trans rfl
set_option maxRecDepth 20000 in
theorem q_19_4170 (G : Nat × (Nat → Int32)) (d : Nat) (x0 : Int32) (x1 : Int32) (s0 : Int32) (σ : aH) : Lq G d M_19 (10, [some (.int x0), some (.int x1)], [.int s0], σ) = some (.inl (some (.int s0)), σ) :=
  (aUn_eq (tkd G.1 G.2) tmi (aRun (tkd G.1 G.2) tmi tmt d) M_19 [] 1 (10, [some (.int x0), some (.int x1)], [.int s0], σ)).trans rfl
set_option maxRecDepth 20000 in
theorem q_19_4171 (G : Nat × (Nat → Int32)) (d : Nat) (x0 : Int32) (x1 : Int32) (σ : aH) : Lq G d M_19 (5, [some (.int x0), some (.int x1)], [], σ) = Lq G d M_19 (10, [some (.int x0), some (.int x1)], [.int x0], σ) :=
  (aUn_eq (tkd G.1 G.2) tmi (aRun (tkd G.1 G.2) tmi tmt d) M_19 [] 2 (5, [some (.int x0), some (.int x1)], [], σ)).trans rfl
set_option maxRecDepth 20000 in
theorem q_222_4172 (G : Nat × (Nat → Int32)) (d : Nat) (x1 : Int32) (x2 : Int32) (σ : aH) : Lq G d M_222 (0, [some (.ref 0), some (.int x1), some (.int x2), none, none, none], [], σ) = Lq G d M_222 (16, [some (.ref 0), some (.int x1), some (.int x2), none, none, none], [.int (16 : Int32), .int x1, .ref 13, .int x2, .ref 3, .ref 24], σ) :=
  (aUn_eq (tkd G.1 G.2) tmi (aRun (tkd G.1 G.2) tmi tmt d) M_222 [] 9 (0, [some (.ref 0), some (.int x1), some (.int x2), none, none, none], [], σ)).trans rfl
set_option maxRecDepth 20000 in
theorem q_222_4173 (G : Nat × (Nat → Int32)) (d : Nat) (x1 : Int32) (x2 : Int32) (s0 : Int32) (s1 : Int32) (s3 : Int32) (σ : aH) : Lq G d M_222 (16, [some (.ref 0), some (.int x1), some (.int x2), none, none, none], [.int s0, .int s1, .ref 13, .int s3, .ref 3, .ref 24], σ) = aCI (Rn G d 117 [.ref 13, .int s1, .int s0] σ) fun v2 σ1 => Lq G d M_222 (19, [some (.ref 0), some (.int x1), some (.int x2), none, none, none], [.int v2, .int s3, .ref 3, .ref 24], σ1) :=
  (aUn_eq (tkd G.1 G.2) tmi (aRun (tkd G.1 G.2) tmi tmt d) M_222 [] 1 (16, [some (.ref 0), some (.int x1), some (.int x2), none, none, none], [.int s0, .int s1, .ref 13, .int s3, .ref 3, .ref 24], σ)).trans rfl
set_option maxRecDepth 20000 in
theorem q_222_4174 (G : Nat × (Nat → Int32)) (d : Nat) (x1 : Int32) (x2 : Int32) (s0 : Int32) (s1 : Int32) (σ : aH) : Lq G d M_222 (19, [some (.ref 0), some (.int x1), some (.int x2), none, none, none], [.int s0, .int s1, .ref 3, .ref 24], σ) = Lq G d M_222 (26, [some (.ref 0), some (.int x1), some (.int x2), none, none, none], [.int (17 : Int32), .int x1, .ref 13, .int s0, .int s1, .ref 3, .ref 24], σ) :=
  (aUn_eq (tkd G.1 G.2) tmi (aRun (tkd G.1 G.2) tmi tmt d) M_222 [] 4 (19, [some (.ref 0), some (.int x1), some (.int x2), none, none, none], [.int s0, .int s1, .ref 3, .ref 24], σ)).trans rfl
set_option maxRecDepth 20000 in
theorem q_222_4175 (G : Nat × (Nat → Int32)) (d : Nat) (x1 : Int32) (x2 : Int32) (s0 : Int32) (s1 : Int32) (s3 : Int32) (s4 : Int32) (σ : aH) : Lq G d M_222 (26, [some (.ref 0), some (.int x1), some (.int x2), none, none, none], [.int s0, .int s1, .ref 13, .int s3, .int s4, .ref 3, .ref 24], σ) = aCI (Rn G d 117 [.ref 13, .int s1, .int s0] σ) fun v2 σ1 => Lq G d M_222 (29, [some (.ref 0), some (.int x1), some (.int x2), none, none, none], [.int v2, .int s3, .int s4, .ref 3, .ref 24], σ1) :=
  (aUn_eq (tkd G.1 G.2) tmi (aRun (tkd G.1 G.2) tmi tmt d) M_222 [] 1 (26, [some (.ref 0), some (.int x1), some (.int x2), none, none, none], [.int s0, .int s1, .ref 13, .int s3, .int s4, .ref 3, .ref 24], σ)).trans rfl
set_option maxRecDepth 20000 in
theorem q_222_4176 (G : Nat × (Nat → Int32)) (d : Nat) (x1 : Int32) (x2 : Int32) (s0 : Int32) (s1 : Int32) (s2 : Int32) (σ : aH) : Lq G d M_222 (29, [some (.ref 0), some (.int x1), some (.int x2), none, none, none], [.int s0, .int s1, .int s2, .ref 3, .ref 24], σ) = aCV (Rn G d 158 [.ref 24, .ref 3, .int s2, .int s1, .int s0] σ) fun σ1 => Lq G d M_222 (32, [some (.ref 0), some (.int x1), some (.int x2), none, none, none], [], σ1) :=
  (aUn_eq (tkd G.1 G.2) tmi (aRun (tkd G.1 G.2) tmi tmt d) M_222 [] 1 (29, [some (.ref 0), some (.int x1), some (.int x2), none, none, none], [.int s0, .int s1, .int s2, .ref 3, .ref 24], σ)).trans rfl
set_option maxRecDepth 20000 in
theorem q_222_4177 (G : Nat × (Nat → Int32)) (d : Nat) (x1 : Int32) (x2 : Int32) (σ : aH) : Lq G d M_222 (32, [some (.ref 0), some (.int x1), some (.int x2), none, none, none], [], σ) = Lq G d M_222 (36, [some (.ref 0), some (.int x1), some (.int x2), none, none, none], [.ref 24], σ) :=
  (aUn_eq (tkd G.1 G.2) tmi (aRun (tkd G.1 G.2) tmi tmt d) M_222 [] 2 (32, [some (.ref 0), some (.int x1), some (.int x2), none, none, none], [], σ)).trans rfl
set_option maxRecDepth 20000 in
theorem q_222_4178 (G : Nat × (Nat → Int32)) (d : Nat) (x1 : Int32) (x2 : Int32) (σ : aH) : Lq G d M_222 (36, [some (.ref 0), some (.int x1), some (.int x2), none, none, none], [.ref 24], σ) = aCV (Rn G d 176 [.ref 24] σ) fun σ1 => Lq G d M_222 (39, [some (.ref 0), some (.int x1), some (.int x2), none, none, none], [], σ1) :=
  (aUn_eq (tkd G.1 G.2) tmi (aRun (tkd G.1 G.2) tmi tmt d) M_222 [] 1 (36, [some (.ref 0), some (.int x1), some (.int x2), none, none, none], [.ref 24], σ)).trans rfl
set_option maxRecDepth 20000 in
theorem q_222_4179 (G : Nat × (Nat → Int32)) (d : Nat) (x1 : Int32) (x2 : Int32) (σ : aH) : Lq G d M_222 (39, [some (.ref 0), some (.int x1), some (.int x2), none, none, none], [], σ) = Lq G d M_222 (50, [some (.ref 0), some (.int x1), some (.int x2), some (.int (1000000 : Int32)), none, none], [.int (12 : Int32), .int x1, .ref 13, .int (1000000 : Int32)], σ) :=
  (aUn_eq (tkd G.1 G.2) tmi (aRun (tkd G.1 G.2) tmi tmt d) M_222 [] 7 (39, [some (.ref 0), some (.int x1), some (.int x2), none, none, none], [], σ)).trans rfl
set_option maxRecDepth 20000 in
theorem q_222_4180 (G : Nat × (Nat → Int32)) (d : Nat) (x1 : Int32) (x2 : Int32) (x3 : Int32) (s0 : Int32) (s1 : Int32) (s3 : Int32) (σ : aH) : Lq G d M_222 (50, [some (.ref 0), some (.int x1), some (.int x2), some (.int x3), none, none], [.int s0, .int s1, .ref 13, .int s3], σ) = aCI (Rn G d 117 [.ref 13, .int s1, .int s0] σ) fun v2 σ1 => Lq G d M_222 (53, [some (.ref 0), some (.int x1), some (.int x2), some (.int x3), none, none], [.int v2, .int s3], σ1) :=
  (aUn_eq (tkd G.1 G.2) tmi (aRun (tkd G.1 G.2) tmi tmt d) M_222 [] 1 (50, [some (.ref 0), some (.int x1), some (.int x2), some (.int x3), none, none], [.int s0, .int s1, .ref 13, .int s3], σ)).trans rfl
set_option maxRecDepth 20000 in
theorem q_222_4181 (G : Nat × (Nat → Int32)) (d : Nat) (x1 : Int32) (x2 : Int32) (x3 : Int32) (s0 : Int32) (s1 : Int32) (σ : aH) : Lq G d M_222 (53, [some (.ref 0), some (.int x1), some (.int x2), some (.int x3), none, none], [.int s0, .int s1], σ) = Lq G d M_222 (57, [some (.ref 0), some (.int x1), some (.int x2), some (.int x3), none, none], [.ref 24, .int s0, .int s1], σ) :=
  (aUn_eq (tkd G.1 G.2) tmi (aRun (tkd G.1 G.2) tmi tmt d) M_222 [] 2 (53, [some (.ref 0), some (.int x1), some (.int x2), some (.int x3), none, none], [.int s0, .int s1], σ)).trans rfl
set_option maxRecDepth 20000 in
theorem q_222_4182 (G : Nat × (Nat → Int32)) (d : Nat) (x1 : Int32) (x2 : Int32) (x3 : Int32) (s1 : Int32) (s2 : Int32) (σ : aH) : Lq G d M_222 (57, [some (.ref 0), some (.int x1), some (.int x2), some (.int x3), none, none], [.ref 24, .int s1, .int s2], σ) = aCI (Rn G d 177 [.ref 24] σ) fun v2 σ1 => Lq G d M_222 (60, [some (.ref 0), some (.int x1), some (.int x2), some (.int x3), none, none], [.int v2, .int s1, .int s2], σ1) :=
  (aUn_eq (tkd G.1 G.2) tmi (aRun (tkd G.1 G.2) tmi tmt d) M_222 [] 1 (57, [some (.ref 0), some (.int x1), some (.int x2), some (.int x3), none, none], [.ref 24, .int s1, .int s2], σ)).trans rfl
set_option maxRecDepth 20000 in
theorem q_222_4183 (G : Nat × (Nat → Int32)) (d : Nat) (x1 : Int32) (x2 : Int32) (x3 : Int32) (s0 : Int32) (s1 : Int32) (s2 : Int32) (σ : aH) : Lq G d M_222 (60, [some (.ref 0), some (.int x1), some (.int x2), some (.int x3), none, none], [.int s0, .int s1, .int s2], σ) = Lq G d M_222 (68, [some (.ref 0), some (.int x1), some (.int x2), some (.int x3), none, none], [.int (2 : Int32), .int x2, .int (2 : Int32), .ref 3, .int (s1 - s0), .int s2], σ) :=
  (aUn_eq (tkd G.1 G.2) tmi (aRun (tkd G.1 G.2) tmi tmt d) M_222 [] 6 (60, [some (.ref 0), some (.int x1), some (.int x2), some (.int x3), none, none], [.int s0, .int s1, .int s2], σ)).trans rfl
set_option maxRecDepth 20000 in
theorem q_222_4184 (G : Nat × (Nat → Int32)) (d : Nat) (x1 : Int32) (x2 : Int32) (x3 : Int32) (s0 : Int32) (s1 : Int32) (s2 : Int32) (s4 : Int32) (s5 : Int32) (σ : aH) : Lq G d M_222 (68, [some (.ref 0), some (.int x1), some (.int x2), some (.int x3), none, none], [.int s0, .int s1, .int s2, .ref 3, .int s4, .int s5], σ) = aCI (Rn G d 119 [.ref 3, .int s2, .int s1, .int s0] σ) fun v2 σ1 => Lq G d M_222 (71, [some (.ref 0), some (.int x1), some (.int x2), some (.int x3), none, none], [.int v2, .int s4, .int s5], σ1) :=
  (aUn_eq (tkd G.1 G.2) tmi (aRun (tkd G.1 G.2) tmi tmt d) M_222 [] 1 (68, [some (.ref 0), some (.int x1), some (.int x2), some (.int x3), none, none], [.int s0, .int s1, .int s2, .ref 3, .int s4, .int s5], σ)).trans rfl
set_option maxRecDepth 20000 in
theorem q_222_4185 (G : Nat × (Nat → Int32)) (d : Nat) (x1 : Int32) (x2 : Int32) (x3 : Int32) (s0 : Int32) (s1 : Int32) (s2 : Int32) (σ : aH) : Lq G d M_222 (71, [some (.ref 0), some (.int x1), some (.int x2), some (.int x3), none, none], [.int s0, .int s1, .int s2], σ) = aCI (Rn G d 223 [.int s2, .int s1, .int s0] σ) fun v2 σ1 => Lq G d M_222 (74, [some (.ref 0), some (.int x1), some (.int x2), some (.int x3), none, none], [.int v2], σ1) :=
  (aUn_eq (tkd G.1 G.2) tmi (aRun (tkd G.1 G.2) tmi tmt d) M_222 [] 1 (71, [some (.ref 0), some (.int x1), some (.int x2), some (.int x3), none, none], [.int s0, .int s1, .int s2], σ)).trans rfl
set_option maxRecDepth 20000 in
theorem q_222_4186 (G : Nat × (Nat → Int32)) (d : Nat) (x1 : Int32) (x2 : Int32) (x3 : Int32) (s0 : Int32) (σ : aH) : Lq G d M_222 (74, [some (.ref 0), some (.int x1), some (.int x2), some (.int x3), none, none], [.int s0], σ) = Lq G d M_222 (83, [some (.ref 0), some (.int x1), some (.int x2), some (.int s0), none, none], [.int (13 : Int32), .int x1, .ref 13, .int s0], σ) :=
  (aUn_eq (tkd G.1 G.2) tmi (aRun (tkd G.1 G.2) tmi tmt d) M_222 [] 6 (74, [some (.ref 0), some (.int x1), some (.int x2), some (.int x3), none, none], [.int s0], σ)).trans rfl
set_option maxRecDepth 20000 in
theorem q_222_4187 (G : Nat × (Nat → Int32)) (d : Nat) (x1 : Int32) (x2 : Int32) (x3 : Int32) (s0 : Int32) (s1 : Int32) (s3 : Int32) (σ : aH) : Lq G d M_222 (83, [some (.ref 0), some (.int x1), some (.int x2), some (.int x3), none, none], [.int s0, .int s1, .ref 13, .int s3], σ) = aCI (Rn G d 117 [.ref 13, .int s1, .int s0] σ) fun v2 σ1 => Lq G d M_222 (86, [some (.ref 0), some (.int x1), some (.int x2), some (.int x3), none, none], [.int v2, .int s3], σ1) :=
  (aUn_eq (tkd G.1 G.2) tmi (aRun (tkd G.1 G.2) tmi tmt d) M_222 [] 1 (83, [some (.ref 0), some (.int x1), some (.int x2), some (.int x3), none, none], [.int s0, .int s1, .ref 13, .int s3], σ)).trans rfl
set_option maxRecDepth 20000 in
theorem q_222_4188 (G : Nat × (Nat → Int32)) (d : Nat) (x1 : Int32) (x2 : Int32) (x3 : Int32) (s0 : Int32) (s1 : Int32) (σ : aH) : Lq G d M_222 (86, [some (.ref 0), some (.int x1), some (.int x2), some (.int x3), none, none], [.int s0, .int s1], σ) = Lq G d M_222 (93, [some (.ref 0), some (.int x1), some (.int x2), some (.int x3), none, none], [.int (0 : Int32), .int (13 : Int32), .ref 24, .int s0, .int s1], σ) :=
  (aUn_eq (tkd G.1 G.2) tmi (aRun (tkd G.1 G.2) tmi tmt d) M_222 [] 4 (86, [some (.ref 0), some (.int x1), some (.int x2), some (.int x3), none, none], [.int s0, .int s1], σ)).trans rfl
set_option maxRecDepth 20000 in
theorem q_222_4189 (G : Nat × (Nat → Int32)) (d : Nat) (x1 : Int32) (x2 : Int32) (x3 : Int32) (s0 : Int32) (s1 : Int32) (s3 : Int32) (s4 : Int32) (σ : aH) : Lq G d M_222 (93, [some (.ref 0), some (.int x1), some (.int x2), some (.int x3), none, none], [.int s0, .int s1, .ref 24, .int s3, .int s4], σ) = aCI (Rn G d 185 [.ref 24, .int s1, .int s0] σ) fun v2 σ1 => Lq G d M_222 (96, [some (.ref 0), some (.int x1), some (.int x2), some (.int x3), none, none], [.int v2, .int s3, .int s4], σ1) :=
  (aUn_eq (tkd G.1 G.2) tmi (aRun (tkd G.1 G.2) tmi tmt d) M_222 [] 1 (93, [some (.ref 0), some (.int x1), some (.int x2), some (.int x3), none, none], [.int s0, .int s1, .ref 24, .int s3, .int s4], σ)).trans rfl
set_option maxRecDepth 20000 in
theorem q_222_4190 (G : Nat × (Nat → Int32)) (d : Nat) (x1 : Int32) (x2 : Int32) (x3 : Int32) (s0 : Int32) (s1 : Int32) (s2 : Int32) (σ : aH) : Lq G d M_222 (96, [some (.ref 0), some (.int x1), some (.int x2), some (.int x3), none, none], [.int s0, .int s1, .int s2], σ) = Lq G d M_222 (99, [some (.ref 0), some (.int x1), some (.int x2), some (.int x3), none, none], [.int (10 : Int32), .int (s1 - s0), .int s2], σ) :=
  (aUn_eq (tkd G.1 G.2) tmi (aRun (tkd G.1 G.2) tmi tmt d) M_222 [] 2 (96, [some (.ref 0), some (.int x1), some (.int x2), some (.int x3), none, none], [.int s0, .int s1, .int s2], σ)).trans rfl
set_option maxRecDepth 20000 in
theorem q_222_4191 (G : Nat × (Nat → Int32)) (d : Nat) (x1 : Int32) (x2 : Int32) (x3 : Int32) (s0 : Int32) (s1 : Int32) (s2 : Int32) (σ : aH) : Lq G d M_222 (99, [some (.ref 0), some (.int x1), some (.int x2), some (.int x3), none, none], [.int s0, .int s1, .int s2], σ) = aCI (Rn G d 223 [.int s2, .int s1, .int s0] σ) fun v2 σ1 => Lq G d M_222 (102, [some (.ref 0), some (.int x1), some (.int x2), some (.int x3), none, none], [.int v2], σ1) :=
  (aUn_eq (tkd G.1 G.2) tmi (aRun (tkd G.1 G.2) tmi tmt d) M_222 [] 1 (99, [some (.ref 0), some (.int x1), some (.int x2), some (.int x3), none, none], [.int s0, .int s1, .int s2], σ)).trans rfl
set_option maxRecDepth 20000 in
theorem q_222_4192 (G : Nat × (Nat → Int32)) (d : Nat) (x1 : Int32) (x2 : Int32) (x3 : Int32) (s0 : Int32) (σ : aH) : Lq G d M_222 (102, [some (.ref 0), some (.int x1), some (.int x2), some (.int x3), none, none], [.int s0], σ) = Lq G d M_222 (108, [some (.ref 0), some (.int x1), some (.int x2), some (.int s0), none, none], [.int (3 : Int32), .ref 3], σ) :=
  (aUn_eq (tkd G.1 G.2) tmi (aRun (tkd G.1 G.2) tmi tmt d) M_222 [] 4 (102, [some (.ref 0), some (.int x1), some (.int x2), some (.int x3), none, none], [.int s0], σ)).trans rfl
set_option maxRecDepth 20000 in
theorem q_222_4193 (G : Nat × (Nat → Int32)) (d : Nat) (x1 : Int32) (x2 : Int32) (x3 : Int32) (s0 : Int32) (σ : aH) : Lq G d M_222 (108, [some (.ref 0), some (.int x1), some (.int x2), some (.int x3), none, none], [.int s0, .ref 3], σ) = aCI (Rn G d 98 [.ref 3, .int s0] σ) fun v2 σ1 => Lq G d M_222 (111, [some (.ref 0), some (.int x1), some (.int x2), some (.int x3), none, none], [.int v2], σ1) :=
  (aUn_eq (tkd G.1 G.2) tmi (aRun (tkd G.1 G.2) tmi tmt d) M_222 [] 1 (108, [some (.ref 0), some (.int x1), some (.int x2), some (.int x3), none, none], [.int s0, .ref 3], σ)).trans rfl
set_option maxRecDepth 20000 in
theorem q_222_4194 (G : Nat × (Nat → Int32)) (d : Nat) (x1 : Int32) (x2 : Int32) (x3 : Int32) (s0 : Int32) (σ : aH) : Lq G d M_222 (111, [some (.ref 0), some (.int x1), some (.int x2), some (.int x3), none, none], [.int s0], σ) = Lq G d M_222 (116, [some (.ref 0), some (.int x1), none, some (.int x3), some (.int s0), some (.int (0 : Int32))], [], σ) :=
  (aUn_eq (tkd G.1 G.2) tmi (aRun (tkd G.1 G.2) tmi tmt d) M_222 [] 3 (111, [some (.ref 0), some (.int x1), some (.int x2), some (.int x3), none, none], [.int s0], σ)).trans rfl
set_option maxRecDepth 20000 in
theorem q_222_4195 (G : Nat × (Nat → Int32)) (d : Nat) (x1 : Int32) (x3 : Int32) (x4 : Int32) (x5 : Int32) (σ : aH) : Lq G d M_222 (116, [some (.ref 0), some (.int x1), none, some (.int x3), some (.int x4), some (.int x5)], [], σ) = Lq G d M_222 (120, [some (.ref 0), some (.int x1), none, some (.int x3), some (.int x4), some (.int x5)], [.int x4, .int x5], σ) :=
  (aUn_eq (tkd G.1 G.2) tmi (aRun (tkd G.1 G.2) tmi tmt d) M_222 [] 2 (116, [some (.ref 0), some (.int x1), none, some (.int x3), some (.int x4), some (.int x5)], [], σ)).trans rfl
set_option maxRecDepth 20000 in
theorem q_222_4196 (G : Nat × (Nat → Int32)) (d : Nat) (x1 : Int32) (x3 : Int32) (x4 : Int32) (x5 : Int32) (s0 : Int32) (s1 : Int32) (σ : aH) : Lq G d M_222 (120, [some (.ref 0), some (.int x1), none, some (.int x3), some (.int x4), some (.int x5)], [.int s0, .int s1], σ) = if s0 ≤ s1 then Lq G d M_222 (164, [some (.ref 0), some (.int x1), none, some (.int x3), some (.int x4), some (.int x5)], [], σ) else Lq G d M_222 (123, [some (.ref 0), some (.int x1), none, some (.int x3), some (.int x4), some (.int x5)], [], σ) :=
  (aUn_eq (tkd G.1 G.2) tmi (aRun (tkd G.1 G.2) tmi tmt d) M_222 [] 1 (120, [some (.ref 0), some (.int x1), none, some (.int x3), some (.int x4), some (.int x5)], [.int s0, .int s1], σ)).trans rfl
set_option maxRecDepth 20000 in
theorem q_222_4197 (G : Nat × (Nat → Int32)) (d : Nat) (x1 : Int32) (x3 : Int32) (x4 : Int32) (x5 : Int32) (σ : aH) : Lq G d M_222 (164, [some (.ref 0), some (.int x1), none, some (.int x3), some (.int x4), some (.int x5)], [], σ) = Lq G d M_222 (165, [some (.ref 0), some (.int x1), none, some (.int x3), some (.int x4), some (.int x5)], [.int x3], σ) :=
  (aUn_eq (tkd G.1 G.2) tmi (aRun (tkd G.1 G.2) tmi tmt d) M_222 [] 1 (164, [some (.ref 0), some (.int x1), none, some (.int x3), some (.int x4), some (.int x5)], [], σ)).trans rfl
set_option maxRecDepth 20000 in
theorem q_222_4198 (G : Nat × (Nat → Int32)) (d : Nat) (x1 : Int32) (x3 : Int32) (x4 : Int32) (x5 : Int32) (s0 : Int32) (σ : aH) : Lq G d M_222 (165, [some (.ref 0), some (.int x1), none, some (.int x3), some (.int x4), some (.int x5)], [.int s0], σ) = some (.inl (some (.int s0)), σ) :=
  (aUn_eq (tkd G.1 G.2) tmi (aRun (tkd G.1 G.2) tmi tmt d) M_222 [] 1 (165, [some (.ref 0), some (.int x1), none, some (.int x3), some (.int x4), some (.int x5)], [.int s0], σ)).trans rfl
set_option maxRecDepth 20000 in
theorem q_222_4199 (G : Nat × (Nat → Int32)) (d : Nat) (x1 : Int32) (x3 : Int32) (x4 : Int32) (x5 : Int32) (σ : aH) : Lq G d M_222 (123, [some (.ref 0), some (.int x1), none, some (.int x3), some (.int x4), some (.int x5)], [], σ) = Lq G d M_222 (131, [some (.ref 0), some (.int x1), none, some (.int x3), some (.int x4), some (.int x5)], [.int x5, .int x1, .ref 13, .int x3], σ) :=
  (aUn_eq (tkd G.1 G.2) tmi (aRun (tkd G.1 G.2) tmi tmt d) M_222 [] 5 (123, [some (.ref 0), some (.int x1), none, some (.int x3), some (.int x4), some (.int x5)], [], σ)).trans rfl
set_option maxRecDepth 20000 in
theorem q_222_4200 (G : Nat × (Nat → Int32)) (d : Nat) (x1 : Int32) (x3 : Int32) (x4 : Int32) (x5 : Int32) (s0 : Int32) (s1 : Int32) (s3 : Int32) (σ : aH) : Lq G d M_222 (131, [some (.ref 0), some (.int x1), none, some (.int x3), some (.int x4), some (.int x5)], [.int s0, .int s1, .ref 13, .int s3], σ) = aCI (Rn G d 117 [.ref 13, .int s1, .int s0] σ) fun v2 σ1 => Lq G d M_222 (134, [some (.ref 0), some (.int x1), none, some (.int x3), some (.int x4), some (.int x5)], [.int v2, .int s3], σ1) :=
  (aUn_eq (tkd G.1 G.2) tmi (aRun (tkd G.1 G.2) tmi tmt d) M_222 [] 1 (131, [some (.ref 0), some (.int x1), none, some (.int x3), some (.int x4), some (.int x5)], [.int s0, .int s1, .ref 13, .int s3], σ)).trans rfl
set_option maxRecDepth 20000 in
theorem q_222_4201 (G : Nat × (Nat → Int32)) (d : Nat) (x1 : Int32) (x3 : Int32) (x4 : Int32) (x5 : Int32) (s0 : Int32) (s1 : Int32) (σ : aH) : Lq G d M_222 (134, [some (.ref 0), some (.int x1), none, some (.int x3), some (.int x4), some (.int x5)], [.int s0, .int s1], σ) = Lq G d M_222 (146, [some (.ref 0), some (.int x1), none, some (.int x3), some (.int x4), some (.int x5)], [.int x5, .ref 3, .int x5, .ref 24, .int s0, .int s1], σ) :=
  (aUn_eq (tkd G.1 G.2) tmi (aRun (tkd G.1 G.2) tmi tmt d) M_222 [] 6 (134, [some (.ref 0), some (.int x1), none, some (.int x3), some (.int x4), some (.int x5)], [.int s0, .int s1], σ)).trans rfl
set_option maxRecDepth 20000 in
theorem q_222_4202 (G : Nat × (Nat → Int32)) (d : Nat) (x1 : Int32) (x3 : Int32) (x4 : Int32) (x5 : Int32) (s0 : Int32) (s2 : Int32) (s4 : Int32) (s5 : Int32) (σ : aH) : Lq G d M_222 (146, [some (.ref 0), some (.int x1), none, some (.int x3), some (.int x4), some (.int x5)], [.int s0, .ref 3, .int s2, .ref 24, .int s4, .int s5], σ) = aCI (Rn G d 118 [.ref 3, .int s0] σ) fun v2 σ1 => Lq G d M_222 (149, [some (.ref 0), some (.int x1), none, some (.int x3), some (.int x4), some (.int x5)], [.int v2, .int s2, .ref 24, .int s4, .int s5], σ1) :=
  (aUn_eq (tkd G.1 G.2) tmi (aRun (tkd G.1 G.2) tmi tmt d) M_222 [] 1 (146, [some (.ref 0), some (.int x1), none, some (.int x3), some (.int x4), some (.int x5)], [.int s0, .ref 3, .int s2, .ref 24, .int s4, .int s5], σ)).trans rfl
set_option maxRecDepth 20000 in
theorem q_222_4203 (G : Nat × (Nat → Int32)) (d : Nat) (x1 : Int32) (x3 : Int32) (x4 : Int32) (x5 : Int32) (s0 : Int32) (s1 : Int32) (s3 : Int32) (s4 : Int32) (σ : aH) : Lq G d M_222 (149, [some (.ref 0), some (.int x1), none, some (.int x3), some (.int x4), some (.int x5)], [.int s0, .int s1, .ref 24, .int s3, .int s4], σ) = aCI (Rn G d 185 [.ref 24, .int s1, .int s0] σ) fun v2 σ1 => Lq G d M_222 (152, [some (.ref 0), some (.int x1), none, some (.int x3), some (.int x4), some (.int x5)], [.int v2, .int s3, .int s4], σ1) :=
  (aUn_eq (tkd G.1 G.2) tmi (aRun (tkd G.1 G.2) tmi tmt d) M_222 [] 1 (149, [some (.ref 0), some (.int x1), none, some (.int x3), some (.int x4), some (.int x5)], [.int s0, .int s1, .ref 24, .int s3, .int s4], σ)).trans rfl
set_option maxRecDepth 20000 in
theorem q_222_4204 (G : Nat × (Nat → Int32)) (d : Nat) (x1 : Int32) (x3 : Int32) (x4 : Int32) (x5 : Int32) (s0 : Int32) (s1 : Int32) (s2 : Int32) (σ : aH) : Lq G d M_222 (152, [some (.ref 0), some (.int x1), none, some (.int x3), some (.int x4), some (.int x5)], [.int s0, .int s1, .int s2], σ) = Lq G d M_222 (154, [some (.ref 0), some (.int x1), none, some (.int x3), some (.int x4), some (.int x5)], [.int (2 : Int32), .int (s1 - s0), .int s2], σ) :=
  (aUn_eq (tkd G.1 G.2) tmi (aRun (tkd G.1 G.2) tmi tmt d) M_222 [] 2 (152, [some (.ref 0), some (.int x1), none, some (.int x3), some (.int x4), some (.int x5)], [.int s0, .int s1, .int s2], σ)).trans rfl
set_option maxRecDepth 20000 in
theorem q_222_4205 (G : Nat × (Nat → Int32)) (d : Nat) (x1 : Int32) (x3 : Int32) (x4 : Int32) (x5 : Int32) (s0 : Int32) (s1 : Int32) (s2 : Int32) (σ : aH) : Lq G d M_222 (154, [some (.ref 0), some (.int x1), none, some (.int x3), some (.int x4), some (.int x5)], [.int s0, .int s1, .int s2], σ) = aCI (Rn G d 223 [.int s2, .int s1, .int s0] σ) fun v2 σ1 => Lq G d M_222 (157, [some (.ref 0), some (.int x1), none, some (.int x3), some (.int x4), some (.int x5)], [.int v2], σ1) :=
  (aUn_eq (tkd G.1 G.2) tmi (aRun (tkd G.1 G.2) tmi tmt d) M_222 [] 1 (154, [some (.ref 0), some (.int x1), none, some (.int x3), some (.int x4), some (.int x5)], [.int s0, .int s1, .int s2], σ)).trans rfl
set_option maxRecDepth 20000 in
theorem q_222_4206 (G : Nat × (Nat → Int32)) (d : Nat) (x1 : Int32) (x3 : Int32) (x4 : Int32) (x5 : Int32) (s0 : Int32) (σ : aH) : Lq G d M_222 (157, [some (.ref 0), some (.int x1), none, some (.int x3), some (.int x4), some (.int x5)], [.int s0], σ) = Lq G d M_222 (161, [some (.ref 0), some (.int x1), none, some (.int s0), some (.int x4), some (.int (x5 + (1 : Int32)))], [], σ) :=
  (aUn_eq (tkd G.1 G.2) tmi (aRun (tkd G.1 G.2) tmi tmt d) M_222 [] 2 (157, [some (.ref 0), some (.int x1), none, some (.int x3), some (.int x4), some (.int x5)], [.int s0], σ)).trans rfl
set_option maxRecDepth 20000 in
theorem q_222_4207 (G : Nat × (Nat → Int32)) (d : Nat) (x1 : Int32) (x3 : Int32) (x4 : Int32) (x5 : Int32) (σ : aH) : Lq G d M_222 (161, [some (.ref 0), some (.int x1), none, some (.int x3), some (.int x4), some (.int x5)], [], σ) = Lq G d M_222 (116, [some (.ref 0), some (.int x1), none, some (.int x3), some (.int x4), some (.int x5)], [], σ) :=
  (aUn_eq (tkd G.1 G.2) tmi (aRun (tkd G.1 G.2) tmi tmt d) M_222 [] 1 (161, [some (.ref 0), some (.int x1), none, some (.int x3), some (.int x4), some (.int x5)], [], σ)).trans rfl
set_option maxRecDepth 20000 in
theorem q_229_4208 (G : Nat × (Nat → Int32)) (d : Nat) (x0 : Int32) (x1 : Int32) (x2 : Int32) (σ : aH) : Lq G d M_229 (0, [some (.int x0), some (.int x1), some (.int x2), none, none], [], σ) = Lq G d M_229 (4, [some (.int x0), some (.int x1), some (.int x2), none, none], [.long (x2).toInt64, .long (x1).toInt64], σ) :=
  (aUn_eq (tkd G.1 G.2) tmi (aRun (tkd G.1 G.2) tmi tmt d) M_229 [] 4 (0, [some (.int x0), some (.int x1), some (.int x2), none, none], [], σ)).trans rfl
set_option maxRecDepth 20000 in
theorem q_229_4209 (G : Nat × (Nat → Int32)) (d : Nat) (x0 : Int32) (x1 : Int32) (x2 : Int32) (s0 : Int64) (s1 : Int64) (σ : aH) : Lq G d M_229 (4, [some (.int x0), some (.int x1), some (.int x2), none, none], [.long s0, .long s1], σ) = aCI (Rn G d 154 [.long s1, .long s0] σ) fun v2 σ1 => Lq G d M_229 (7, [some (.int x0), some (.int x1), some (.int x2), none, none], [.int v2], σ1) :=
  (aUn_eq (tkd G.1 G.2) tmi (aRun (tkd G.1 G.2) tmi tmt d) M_229 [] 1 (4, [some (.int x0), some (.int x1), some (.int x2), none, none], [.long s0, .long s1], σ)).trans rfl
set_option maxRecDepth 20000 in
theorem q_229_4210 (G : Nat × (Nat → Int32)) (d : Nat) (x0 : Int32) (x1 : Int32) (x2 : Int32) (s0 : Int32) (σ : aH) : Lq G d M_229 (7, [some (.int x0), some (.int x1), some (.int x2), none, none], [.int s0], σ) = Lq G d M_229 (14, [some (.int x0), some (.int x1), some (.int x2), some (.int (s0 / (1000 : Int32))), none], [.int (1 : Int32), .int (s0 / (1000 : Int32))], σ) :=
  (aUn_eq (tkd G.1 G.2) tmi (aRun (tkd G.1 G.2) tmi tmt d) M_229 [] 5 (7, [some (.int x0), some (.int x1), some (.int x2), none, none], [.int s0], σ)).trans rfl
set_option maxRecDepth 20000 in
theorem q_229_4211 (G : Nat × (Nat → Int32)) (d : Nat) (x0 : Int32) (x1 : Int32) (x2 : Int32) (x3 : Int32) (s0 : Int32) (s1 : Int32) (σ : aH) : Lq G d M_229 (14, [some (.int x0), some (.int x1), some (.int x2), some (.int x3), none], [.int s0, .int s1], σ) = if s0 ≤ s1 then Lq G d M_229 (21, [some (.int x0), some (.int x1), some (.int x2), some (.int x3), none], [], σ) else Lq G d M_229 (17, [some (.int x0), some (.int x1), some (.int x2), some (.int x3), none], [], σ) :=
  (aUn_eq (tkd G.1 G.2) tmi (aRun (tkd G.1 G.2) tmi tmt d) M_229 [] 1 (14, [some (.int x0), some (.int x1), some (.int x2), some (.int x3), none], [.int s0, .int s1], σ)).trans rfl
set_option maxRecDepth 20000 in
theorem q_229_4212 (G : Nat × (Nat → Int32)) (d : Nat) (x0 : Int32) (x1 : Int32) (x2 : Int32) (x3 : Int32) (σ : aH) : Lq G d M_229 (21, [some (.int x0), some (.int x1), some (.int x2), some (.int x3), none], [], σ) = Lq G d M_229 (35, [some (.int x0), some (.int x1), some (.int x2), some (.int x3), some (.int ((((x0).toInt64 * (x3).toInt64) / (1000 : Int64))).toInt32)], [], σ) :=
  (aUn_eq (tkd G.1 G.2) tmi (aRun (tkd G.1 G.2) tmi tmt d) M_229 [] 11 (21, [some (.int x0), some (.int x1), some (.int x2), some (.int x3), none], [], σ)).trans rfl
set_option maxRecDepth 20000 in
theorem q_229_4213 (G : Nat × (Nat → Int32)) (d : Nat) (x0 : Int32) (x1 : Int32) (x2 : Int32) (x3 : Int32) (x4 : Int32) (σ : aH) : Lq G d M_229 (35, [some (.int x0), some (.int x1), some (.int x2), some (.int x3), some (.int x4)], [], σ) = Lq G d M_229 (38, [some (.int x0), some (.int x1), some (.int x2), some (.int x3), some (.int x4)], [.int (1 : Int32), .int x4], σ) :=
  (aUn_eq (tkd G.1 G.2) tmi (aRun (tkd G.1 G.2) tmi tmt d) M_229 [] 2 (35, [some (.int x0), some (.int x1), some (.int x2), some (.int x3), some (.int x4)], [], σ)).trans rfl
set_option maxRecDepth 20000 in
theorem q_229_4214 (G : Nat × (Nat → Int32)) (d : Nat) (x0 : Int32) (x1 : Int32) (x2 : Int32) (x3 : Int32) (x4 : Int32) (s0 : Int32) (s1 : Int32) (σ : aH) : Lq G d M_229 (38, [some (.int x0), some (.int x1), some (.int x2), some (.int x3), some (.int x4)], [.int s0, .int s1], σ) = if s0 ≤ s1 then Lq G d M_229 (45, [some (.int x0), some (.int x1), some (.int x2), some (.int x3), some (.int x4)], [], σ) else Lq G d M_229 (41, [some (.int x0), some (.int x1), some (.int x2), some (.int x3), some (.int x4)], [], σ) :=
  (aUn_eq (tkd G.1 G.2) tmi (aRun (tkd G.1 G.2) tmi tmt d) M_229 [] 1 (38, [some (.int x0), some (.int x1), some (.int x2), some (.int x3), some (.int x4)], [.int s0, .int s1], σ)).trans rfl
set_option maxRecDepth 20000 in
theorem q_229_4215 (G : Nat × (Nat → Int32)) (d : Nat) (x0 : Int32) (x1 : Int32) (x2 : Int32) (x3 : Int32) (x4 : Int32) (σ : aH) : Lq G d M_229 (45, [some (.int x0), some (.int x1), some (.int x2), some (.int x3), some (.int x4)], [], σ) = Lq G d M_229 (47, [some (.int x0), some (.int x1), some (.int x2), some (.int x3), some (.int x4)], [.int x4], σ) :=
  (aUn_eq (tkd G.1 G.2) tmi (aRun (tkd G.1 G.2) tmi tmt d) M_229 [] 1 (45, [some (.int x0), some (.int x1), some (.int x2), some (.int x3), some (.int x4)], [], σ)).trans rfl
set_option maxRecDepth 20000 in
theorem q_229_4216 (G : Nat × (Nat → Int32)) (d : Nat) (x0 : Int32) (x1 : Int32) (x2 : Int32) (x3 : Int32) (x4 : Int32) (s0 : Int32) (σ : aH) : Lq G d M_229 (47, [some (.int x0), some (.int x1), some (.int x2), some (.int x3), some (.int x4)], [.int s0], σ) = some (.inl (some (.int s0)), σ) :=
  (aUn_eq (tkd G.1 G.2) tmi (aRun (tkd G.1 G.2) tmi tmt d) M_229 [] 1 (47, [some (.int x0), some (.int x1), some (.int x2), some (.int x3), some (.int x4)], [.int s0], σ)).trans rfl
set_option maxRecDepth 20000 in
theorem q_229_4217 (G : Nat × (Nat → Int32)) (d : Nat) (x0 : Int32) (x1 : Int32) (x2 : Int32) (x3 : Int32) (x4 : Int32) (σ : aH) : Lq G d M_229 (41, [some (.int x0), some (.int x1), some (.int x2), some (.int x3), some (.int x4)], [], σ) = Lq G d M_229 (47, [some (.int x0), some (.int x1), some (.int x2), some (.int x3), some (.int x4)], [.int (1 : Int32)], σ) :=
  (aUn_eq (tkd G.1 G.2) tmi (aRun (tkd G.1 G.2) tmi tmt d) M_229 [] 2 (41, [some (.int x0), some (.int x1), some (.int x2), some (.int x3), some (.int x4)], [], σ)).trans rfl
set_option maxRecDepth 20000 in
theorem q_229_4218 (G : Nat × (Nat → Int32)) (d : Nat) (x0 : Int32) (x1 : Int32) (x2 : Int32) (x3 : Int32) (σ : aH) : Lq G d M_229 (17, [some (.int x0), some (.int x1), some (.int x2), some (.int x3), none], [], σ) = Lq G d M_229 (35, [some (.int x0), some (.int x1), some (.int x2), some (.int (1 : Int32)), some (.int ((((x0).toInt64 * ((1 : Int32)).toInt64) / (1000 : Int64))).toInt32)], [], σ) :=
  (aUn_eq (tkd G.1 G.2) tmi (aRun (tkd G.1 G.2) tmi tmt d) M_229 [] 12 (17, [some (.int x0), some (.int x1), some (.int x2), some (.int x3), none], [], σ)).trans rfl
set_option maxRecDepth 20000 in
theorem q_234_4219 (G : Nat × (Nat → Int32)) (d : Nat) (x0 : Int32) (x1 : Int32) (σ : aH) : Lq G d M_234 (0, [some (.int x0), some (.int x1)], [], σ) = Lq G d M_234 (2, [some (.int x0), some (.int x1)], [.int x1, .int x0], σ) :=
  (aUn_eq (tkd G.1 G.2) tmi (aRun (tkd G.1 G.2) tmi tmt d) M_234 [] 2 (0, [some (.int x0), some (.int x1)], [], σ)).trans rfl
set_option maxRecDepth 20000 in
theorem q_234_4220 (G : Nat × (Nat → Int32)) (d : Nat) (x0 : Int32) (x1 : Int32) (s0 : Int32) (s1 : Int32) (σ : aH) : Lq G d M_234 (2, [some (.int x0), some (.int x1)], [.int s0, .int s1], σ) = if s0 ≤ s1 then Lq G d M_234 (11, [some (.int x0), some (.int x1)], [], σ) else Lq G d M_234 (5, [some (.int x0), some (.int x1)], [], σ) :=
  (aUn_eq (tkd G.1 G.2) tmi (aRun (tkd G.1 G.2) tmi tmt d) M_234 [] 1 (2, [some (.int x0), some (.int x1)], [.int s0, .int s1], σ)).trans rfl
set_option maxRecDepth 20000 in
theorem q_234_4221 (G : Nat × (Nat → Int32)) (d : Nat) (x0 : Int32) (x1 : Int32) (σ : aH) : Lq G d M_234 (11, [some (.int x0), some (.int x1)], [], σ) = Lq G d M_234 (14, [some (.int x0), some (.int x1)], [.int (x0 - x1)], σ) :=
  (aUn_eq (tkd G.1 G.2) tmi (aRun (tkd G.1 G.2) tmi tmt d) M_234 [] 3 (11, [some (.int x0), some (.int x1)], [], σ)).trans rfl
set_option maxRecDepth 20000 in
theorem q_234_4222 (G : Nat × (Nat → Int32)) (d : Nat) (x0 : Int32) (x1 : Int32) (s0 : Int32) (σ : aH) : Lq G d M_234 (14, [some (.int x0), some (.int x1)], [.int s0], σ) = some (.inl (some (.int s0)), σ) :=
  (aUn_eq (tkd G.1 G.2) tmi (aRun (tkd G.1 G.2) tmi tmt d) M_234 [] 1 (14, [some (.int x0), some (.int x1)], [.int s0], σ)).trans rfl
set_option maxRecDepth 20000 in
theorem q_234_4223 (G : Nat × (Nat → Int32)) (d : Nat) (x0 : Int32) (x1 : Int32) (σ : aH) : Lq G d M_234 (5, [some (.int x0), some (.int x1)], [], σ) = Lq G d M_234 (14, [some (.int x0), some (.int x1)], [.int (x1 - x0)], σ) :=
  (aUn_eq (tkd G.1 G.2) tmi (aRun (tkd G.1 G.2) tmi tmt d) M_234 [] 4 (5, [some (.int x0), some (.int x1)], [], σ)).trans rfl
set_option maxRecDepth 20000 in
theorem q_236_4224 (G : Nat × (Nat → Int32)) (d : Nat) (x1 : Int32) (x2 : Int32) (σ : aH) : Lq G d M_236 (0, [some (.ref 0), some (.int x1), some (.int x2), none, none], [], σ) = Lq G d M_236 (5, [some (.ref 0), some (.int x1), some (.int x2), none, none], [.int x1, .ref 28], σ) :=
  (aUn_eq (tkd G.1 G.2) tmi (aRun (tkd G.1 G.2) tmi tmt d) M_236 [] 3 (0, [some (.ref 0), some (.int x1), some (.int x2), none, none], [], σ)).trans rfl
set_option maxRecDepth 20000 in
theorem q_236_4225 (G : Nat × (Nat → Int32)) (d : Nat) (x1 : Int32) (x2 : Int32) (s0 : Int32) (σ : aH) : Lq G d M_236 (5, [some (.ref 0), some (.int x1), some (.int x2), none, none], [.int s0, .ref 28], σ) = aCI (Rn G d 32 [.ref 28, .int s0] σ) fun v2 σ1 => Lq G d M_236 (8, [some (.ref 0), some (.int x1), some (.int x2), none, none], [.int v2], σ1) :=
  (aUn_eq (tkd G.1 G.2) tmi (aRun (tkd G.1 G.2) tmi tmt d) M_236 [] 1 (5, [some (.ref 0), some (.int x1), some (.int x2), none, none], [.int s0, .ref 28], σ)).trans rfl
set_option maxRecDepth 20000 in
theorem q_236_4226 (G : Nat × (Nat → Int32)) (d : Nat) (x1 : Int32) (x2 : Int32) (s0 : Int32) (σ : aH) : Lq G d M_236 (8, [some (.ref 0), some (.int x1), some (.int x2), none, none], [.int s0], σ) = Lq G d M_236 (13, [some (.ref 0), some (.int x1), some (.int x2), none, none], [.int x2, .ref 28, .int s0], σ) :=
  (aUn_eq (tkd G.1 G.2) tmi (aRun (tkd G.1 G.2) tmi tmt d) M_236 [] 3 (8, [some (.ref 0), some (.int x1), some (.int x2), none, none], [.int s0], σ)).trans rfl
set_option maxRecDepth 20000 in
theorem q_236_4227 (G : Nat × (Nat → Int32)) (d : Nat) (x1 : Int32) (x2 : Int32) (s0 : Int32) (s2 : Int32) (σ : aH) : Lq G d M_236 (13, [some (.ref 0), some (.int x1), some (.int x2), none, none], [.int s0, .ref 28, .int s2], σ) = aCI (Rn G d 32 [.ref 28, .int s0] σ) fun v2 σ1 => Lq G d M_236 (16, [some (.ref 0), some (.int x1), some (.int x2), none, none], [.int v2, .int s2], σ1) :=
  (aUn_eq (tkd G.1 G.2) tmi (aRun (tkd G.1 G.2) tmi tmt d) M_236 [] 1 (13, [some (.ref 0), some (.int x1), some (.int x2), none, none], [.int s0, .ref 28, .int s2], σ)).trans rfl
set_option maxRecDepth 20000 in
theorem q_236_4228 (G : Nat × (Nat → Int32)) (d : Nat) (x1 : Int32) (x2 : Int32) (s0 : Int32) (s1 : Int32) (σ : aH) : Lq G d M_236 (16, [some (.ref 0), some (.int x1), some (.int x2), none, none], [.int s0, .int s1], σ) = aCI (Rn G d 237 [.int s1, .int s0] σ) fun v2 σ1 => Lq G d M_236 (19, [some (.ref 0), some (.int x1), some (.int x2), none, none], [.int v2], σ1) :=
  (aUn_eq (tkd G.1 G.2) tmi (aRun (tkd G.1 G.2) tmi tmt d) M_236 [] 1 (16, [some (.ref 0), some (.int x1), some (.int x2), none, none], [.int s0, .int s1], σ)).trans rfl
set_option maxRecDepth 20000 in
theorem q_236_4229 (G : Nat × (Nat → Int32)) (d : Nat) (x1 : Int32) (x2 : Int32) (s0 : Int32) (σ : aH) : Lq G d M_236 (19, [some (.ref 0), some (.int x1), some (.int x2), none, none], [.int s0], σ) = Lq G d M_236 (27, [some (.ref 0), some (.int x1), some (.int x2), some (.int s0), none], [.int (12 : Int32), .int x1, .ref 13], σ) :=
  (aUn_eq (tkd G.1 G.2) tmi (aRun (tkd G.1 G.2) tmi tmt d) M_236 [] 5 (19, [some (.ref 0), some (.int x1), some (.int x2), none, none], [.int s0], σ)).trans rfl
set_option maxRecDepth 20000 in
theorem q_236_4230 (G : Nat × (Nat → Int32)) (d : Nat) (x1 : Int32) (x2 : Int32) (x3 : Int32) (s0 : Int32) (s1 : Int32) (σ : aH) : Lq G d M_236 (27, [some (.ref 0), some (.int x1), some (.int x2), some (.int x3), none], [.int s0, .int s1, .ref 13], σ) = aCI (Rn G d 117 [.ref 13, .int s1, .int s0] σ) fun v2 σ1 => Lq G d M_236 (30, [some (.ref 0), some (.int x1), some (.int x2), some (.int x3), none], [.int v2], σ1) :=
  (aUn_eq (tkd G.1 G.2) tmi (aRun (tkd G.1 G.2) tmi tmt d) M_236 [] 1 (27, [some (.ref 0), some (.int x1), some (.int x2), some (.int x3), none], [.int s0, .int s1, .ref 13], σ)).trans rfl
set_option maxRecDepth 20000 in
theorem q_236_4231 (G : Nat × (Nat → Int32)) (d : Nat) (x1 : Int32) (x2 : Int32) (x3 : Int32) (s0 : Int32) (σ : aH) : Lq G d M_236 (30, [some (.ref 0), some (.int x1), some (.int x2), some (.int x3), none], [.int s0], σ) = Lq G d M_236 (37, [some (.ref 0), some (.int x1), some (.int x2), some (.int x3), none], [.int (12 : Int32), .int x2, .ref 13, .int s0], σ) :=
  (aUn_eq (tkd G.1 G.2) tmi (aRun (tkd G.1 G.2) tmi tmt d) M_236 [] 4 (30, [some (.ref 0), some (.int x1), some (.int x2), some (.int x3), none], [.int s0], σ)).trans rfl
set_option maxRecDepth 20000 in
theorem q_236_4232 (G : Nat × (Nat → Int32)) (d : Nat) (x1 : Int32) (x2 : Int32) (x3 : Int32) (s0 : Int32) (s1 : Int32) (s3 : Int32) (σ : aH) : Lq G d M_236 (37, [some (.ref 0), some (.int x1), some (.int x2), some (.int x3), none], [.int s0, .int s1, .ref 13, .int s3], σ) = aCI (Rn G d 117 [.ref 13, .int s1, .int s0] σ) fun v2 σ1 => Lq G d M_236 (40, [some (.ref 0), some (.int x1), some (.int x2), some (.int x3), none], [.int v2, .int s3], σ1) :=
  (aUn_eq (tkd G.1 G.2) tmi (aRun (tkd G.1 G.2) tmi tmt d) M_236 [] 1 (37, [some (.ref 0), some (.int x1), some (.int x2), some (.int x3), none], [.int s0, .int s1, .ref 13, .int s3], σ)).trans rfl
set_option maxRecDepth 20000 in
theorem q_236_4233 (G : Nat × (Nat → Int32)) (d : Nat) (x1 : Int32) (x2 : Int32) (x3 : Int32) (s0 : Int32) (s1 : Int32) (σ : aH) : Lq G d M_236 (40, [some (.ref 0), some (.int x1), some (.int x2), some (.int x3), none], [.int s0, .int s1], σ) = aCI (Rn G d 237 [.int s1, .int s0] σ) fun v2 σ1 => Lq G d M_236 (43, [some (.ref 0), some (.int x1), some (.int x2), some (.int x3), none], [.int v2], σ1) :=
  (aUn_eq (tkd G.1 G.2) tmi (aRun (tkd G.1 G.2) tmi tmt d) M_236 [] 1 (40, [some (.ref 0), some (.int x1), some (.int x2), some (.int x3), none], [.int s0, .int s1], σ)).trans rfl
set_option maxRecDepth 20000 in
theorem q_236_4234 (G : Nat × (Nat → Int32)) (d : Nat) (x1 : Int32) (x2 : Int32) (x3 : Int32) (s0 : Int32) (σ : aH) : Lq G d M_236 (43, [some (.ref 0), some (.int x1), some (.int x2), some (.int x3), none], [.int s0], σ) = Lq G d M_236 (46, [some (.ref 0), some (.int x1), some (.int x2), some (.int x3), some (.int s0)], [.int x3], σ) :=
  (aUn_eq (tkd G.1 G.2) tmi (aRun (tkd G.1 G.2) tmi tmt d) M_236 [] 2 (43, [some (.ref 0), some (.int x1), some (.int x2), some (.int x3), none], [.int s0], σ)).trans rfl
set_option maxRecDepth 20000 in
theorem q_236_4235 (G : Nat × (Nat → Int32)) (d : Nat) (x1 : Int32) (x2 : Int32) (x3 : Int32) (x4 : Int32) (s0 : Int32) (σ : aH) : Lq G d M_236 (46, [some (.ref 0), some (.int x1), some (.int x2), some (.int x3), some (.int x4)], [.int s0], σ) = if s0 = 0 then Lq G d M_236 (49, [some (.ref 0), some (.int x1), some (.int x2), some (.int x3), some (.int x4)], [], σ) else Lq G d M_236 (51, [some (.ref 0), some (.int x1), some (.int x2), some (.int x3), some (.int x4)], [], σ) :=
  (aUn_eq (tkd G.1 G.2) tmi (aRun (tkd G.1 G.2) tmi tmt d) M_236 [] 1 (46, [some (.ref 0), some (.int x1), some (.int x2), some (.int x3), some (.int x4)], [.int s0], σ)).trans rfl
set_option maxRecDepth 20000 in
theorem q_236_4236 (G : Nat × (Nat → Int32)) (d : Nat) (x1 : Int32) (x2 : Int32) (x3 : Int32) (x4 : Int32) (σ : aH) : Lq G d M_236 (49, [some (.ref 0), some (.int x1), some (.int x2), some (.int x3), some (.int x4)], [], σ) = Lq G d M_236 (50, [some (.ref 0), some (.int x1), some (.int x2), some (.int x3), some (.int x4)], [.int (0 : Int32)], σ) :=
  (aUn_eq (tkd G.1 G.2) tmi (aRun (tkd G.1 G.2) tmi tmt d) M_236 [] 1 (49, [some (.ref 0), some (.int x1), some (.int x2), some (.int x3), some (.int x4)], [], σ)).trans rfl
set_option maxRecDepth 20000 in
theorem q_236_4237 (G : Nat × (Nat → Int32)) (d : Nat) (x1 : Int32) (x2 : Int32) (x3 : Int32) (x4 : Int32) (s0 : Int32) (σ : aH) : Lq G d M_236 (50, [some (.ref 0), some (.int x1), some (.int x2), some (.int x3), some (.int x4)], [.int s0], σ) = some (.inl (some (.int s0)), σ) :=
  (aUn_eq (tkd G.1 G.2) tmi (aRun (tkd G.1 G.2) tmi tmt d) M_236 [] 1 (50, [some (.ref 0), some (.int x1), some (.int x2), some (.int x3), some (.int x4)], [.int s0], σ)).trans rfl
set_option maxRecDepth 20000 in
theorem q_236_4238 (G : Nat × (Nat → Int32)) (d : Nat) (x1 : Int32) (x2 : Int32) (x3 : Int32) (x4 : Int32) (σ : aH) : Lq G d M_236 (51, [some (.ref 0), some (.int x1), some (.int x2), some (.int x3), some (.int x4)], [], σ) = Lq G d M_236 (53, [some (.ref 0), some (.int x1), some (.int x2), some (.int x3), some (.int x4)], [.int x4], σ) :=
  (aUn_eq (tkd G.1 G.2) tmi (aRun (tkd G.1 G.2) tmi tmt d) M_236 [] 1 (51, [some (.ref 0), some (.int x1), some (.int x2), some (.int x3), some (.int x4)], [], σ)).trans rfl
set_option maxRecDepth 20000 in
theorem q_236_4239 (G : Nat × (Nat → Int32)) (d : Nat) (x1 : Int32) (x2 : Int32) (x3 : Int32) (x4 : Int32) (s0 : Int32) (σ : aH) : Lq G d M_236 (53, [some (.ref 0), some (.int x1), some (.int x2), some (.int x3), some (.int x4)], [.int s0], σ) = if s0 = 0 then Lq G d M_236 (56, [some (.ref 0), some (.int x1), some (.int x2), some (.int x3), some (.int x4)], [], σ) else Lq G d M_236 (58, [some (.ref 0), some (.int x1), some (.int x2), some (.int x3), some (.int x4)], [], σ) :=
  (aUn_eq (tkd G.1 G.2) tmi (aRun (tkd G.1 G.2) tmi tmt d) M_236 [] 1 (53, [some (.ref 0), some (.int x1), some (.int x2), some (.int x3), some (.int x4)], [.int s0], σ)).trans rfl
set_option maxRecDepth 20000 in
theorem q_236_4240 (G : Nat × (Nat → Int32)) (d : Nat) (x1 : Int32) (x2 : Int32) (x3 : Int32) (x4 : Int32) (σ : aH) : Lq G d M_236 (56, [some (.ref 0), some (.int x1), some (.int x2), some (.int x3), some (.int x4)], [], σ) = Lq G d M_236 (57, [some (.ref 0), some (.int x1), some (.int x2), some (.int x3), some (.int x4)], [.int (3 : Int32)], σ) :=
  (aUn_eq (tkd G.1 G.2) tmi (aRun (tkd G.1 G.2) tmi tmt d) M_236 [] 1 (56, [some (.ref 0), some (.int x1), some (.int x2), some (.int x3), some (.int x4)], [], σ)).trans rfl
set_option maxRecDepth 20000 in
theorem q_236_4241 (G : Nat × (Nat → Int32)) (d : Nat) (x1 : Int32) (x2 : Int32) (x3 : Int32) (x4 : Int32) (s0 : Int32) (σ : aH) : Lq G d M_236 (57, [some (.ref 0), some (.int x1), some (.int x2), some (.int x3), some (.int x4)], [.int s0], σ) = some (.inl (some (.int s0)), σ) :=
  (aUn_eq (tkd G.1 G.2) tmi (aRun (tkd G.1 G.2) tmi tmt d) M_236 [] 1 (57, [some (.ref 0), some (.int x1), some (.int x2), some (.int x3), some (.int x4)], [.int s0], σ)).trans rfl
set_option maxRecDepth 20000 in
theorem q_236_4242 (G : Nat × (Nat → Int32)) (d : Nat) (x1 : Int32) (x2 : Int32) (x3 : Int32) (x4 : Int32) (σ : aH) : Lq G d M_236 (58, [some (.ref 0), some (.int x1), some (.int x2), some (.int x3), some (.int x4)], [], σ) = Lq G d M_236 (61, [some (.ref 0), some (.int x1), some (.int x2), some (.int x3), some (.int x4)], [.int x4, .int x3], σ) :=
  (aUn_eq (tkd G.1 G.2) tmi (aRun (tkd G.1 G.2) tmi tmt d) M_236 [] 2 (58, [some (.ref 0), some (.int x1), some (.int x2), some (.int x3), some (.int x4)], [], σ)).trans rfl
set_option maxRecDepth 20000 in
theorem q_236_4243 (G : Nat × (Nat → Int32)) (d : Nat) (x1 : Int32) (x2 : Int32) (x3 : Int32) (x4 : Int32) (s0 : Int32) (s1 : Int32) (σ : aH) : Lq G d M_236 (61, [some (.ref 0), some (.int x1), some (.int x2), some (.int x3), some (.int x4)], [.int s0, .int s1], σ) = if s1 = s0 then Lq G d M_236 (64, [some (.ref 0), some (.int x1), some (.int x2), some (.int x3), some (.int x4)], [], σ) else Lq G d M_236 (68, [some (.ref 0), some (.int x1), some (.int x2), some (.int x3), some (.int x4)], [], σ) :=
  (aUn_eq (tkd G.1 G.2) tmi (aRun (tkd G.1 G.2) tmi tmt d) M_236 [] 1 (61, [some (.ref 0), some (.int x1), some (.int x2), some (.int x3), some (.int x4)], [.int s0, .int s1], σ)).trans rfl
set_option maxRecDepth 20000 in
theorem q_236_4244 (G : Nat × (Nat → Int32)) (d : Nat) (x1 : Int32) (x2 : Int32) (x3 : Int32) (x4 : Int32) (σ : aH) : Lq G d M_236 (64, [some (.ref 0), some (.int x1), some (.int x2), some (.int x3), some (.int x4)], [], σ) = Lq G d M_236 (69, [some (.ref 0), some (.int x1), some (.int x2), some (.int x3), some (.int x4)], [.int (1 : Int32)], σ) :=
  (aUn_eq (tkd G.1 G.2) tmi (aRun (tkd G.1 G.2) tmi tmt d) M_236 [] 2 (64, [some (.ref 0), some (.int x1), some (.int x2), some (.int x3), some (.int x4)], [], σ)).trans rfl
set_option maxRecDepth 20000 in
theorem q_236_4245 (G : Nat × (Nat → Int32)) (d : Nat) (x1 : Int32) (x2 : Int32) (x3 : Int32) (x4 : Int32) (s0 : Int32) (σ : aH) : Lq G d M_236 (69, [some (.ref 0), some (.int x1), some (.int x2), some (.int x3), some (.int x4)], [.int s0], σ) = some (.inl (some (.int s0)), σ) :=
  (aUn_eq (tkd G.1 G.2) tmi (aRun (tkd G.1 G.2) tmi tmt d) M_236 [] 1 (69, [some (.ref 0), some (.int x1), some (.int x2), some (.int x3), some (.int x4)], [.int s0], σ)).trans rfl
set_option maxRecDepth 20000 in
theorem q_236_4246 (G : Nat × (Nat → Int32)) (d : Nat) (x1 : Int32) (x2 : Int32) (x3 : Int32) (x4 : Int32) (σ : aH) : Lq G d M_236 (68, [some (.ref 0), some (.int x1), some (.int x2), some (.int x3), some (.int x4)], [], σ) = Lq G d M_236 (69, [some (.ref 0), some (.int x1), some (.int x2), some (.int x3), some (.int x4)], [.int (2 : Int32)], σ) :=
  (aUn_eq (tkd G.1 G.2) tmi (aRun (tkd G.1 G.2) tmi tmt d) M_236 [] 1 (68, [some (.ref 0), some (.int x1), some (.int x2), some (.int x3), some (.int x4)], [], σ)).trans rfl
set_option maxRecDepth 20000 in
theorem q_237_4247 (G : Nat × (Nat → Int32)) (d : Nat) (x0 : Int32) (x1 : Int32) (σ : aH) : Lq G d M_237 (0, [some (.int x0), some (.int x1)], [], σ) = Lq G d M_237 (2, [some (.int x0), some (.int x1)], [.int x1, .int x0], σ) :=
  (aUn_eq (tkd G.1 G.2) tmi (aRun (tkd G.1 G.2) tmi tmt d) M_237 [] 2 (0, [some (.int x0), some (.int x1)], [], σ)).trans rfl
set_option maxRecDepth 20000 in
theorem q_237_4248 (G : Nat × (Nat → Int32)) (d : Nat) (x0 : Int32) (x1 : Int32) (s0 : Int32) (s1 : Int32) (σ : aH) : Lq G d M_237 (2, [some (.int x0), some (.int x1)], [.int s0, .int s1], σ) = if s1 = s0 then Lq G d M_237 (5, [some (.int x0), some (.int x1)], [], σ) else Lq G d M_237 (7, [some (.int x0), some (.int x1)], [], σ) :=
  (aUn_eq (tkd G.1 G.2) tmi (aRun (tkd G.1 G.2) tmi tmt d) M_237 [] 1 (2, [some (.int x0), some (.int x1)], [.int s0, .int s1], σ)).trans rfl
set_option maxRecDepth 20000 in
theorem q_237_4249 (G : Nat × (Nat → Int32)) (d : Nat) (x0 : Int32) (x1 : Int32) (σ : aH) : Lq G d M_237 (5, [some (.int x0), some (.int x1)], [], σ) = Lq G d M_237 (6, [some (.int x0), some (.int x1)], [.int (0 : Int32)], σ) :=
  (aUn_eq (tkd G.1 G.2) tmi (aRun (tkd G.1 G.2) tmi tmt d) M_237 [] 1 (5, [some (.int x0), some (.int x1)], [], σ)).trans rfl
set_option maxRecDepth 20000 in
theorem q_237_4250 (G : Nat × (Nat → Int32)) (d : Nat) (x0 : Int32) (x1 : Int32) (s0 : Int32) (σ : aH) : Lq G d M_237 (6, [some (.int x0), some (.int x1)], [.int s0], σ) = some (.inl (some (.int s0)), σ) :=
  (aUn_eq (tkd G.1 G.2) tmi (aRun (tkd G.1 G.2) tmi tmt d) M_237 [] 1 (6, [some (.int x0), some (.int x1)], [.int s0], σ)).trans rfl
set_option maxRecDepth 20000 in
theorem q_237_4251 (G : Nat × (Nat → Int32)) (d : Nat) (x0 : Int32) (x1 : Int32) (σ : aH) : Lq G d M_237 (7, [some (.int x0), some (.int x1)], [], σ) = Lq G d M_237 (9, [some (.int x0), some (.int x1)], [.int x1, .int x0], σ) :=
  (aUn_eq (tkd G.1 G.2) tmi (aRun (tkd G.1 G.2) tmi tmt d) M_237 [] 2 (7, [some (.int x0), some (.int x1)], [], σ)).trans rfl
set_option maxRecDepth 20000 in
theorem q_237_4252 (G : Nat × (Nat → Int32)) (d : Nat) (x0 : Int32) (x1 : Int32) (s0 : Int32) (s1 : Int32) (σ : aH) : Lq G d M_237 (9, [some (.int x0), some (.int x1)], [.int s0, .int s1], σ) = if s0 ≤ s1 then Lq G d M_237 (16, [some (.int x0), some (.int x1)], [], σ) else Lq G d M_237 (12, [some (.int x0), some (.int x1)], [], σ) :=
  (aUn_eq (tkd G.1 G.2) tmi (aRun (tkd G.1 G.2) tmi tmt d) M_237 [] 1 (9, [some (.int x0), some (.int x1)], [.int s0, .int s1], σ)).trans rfl
set_option maxRecDepth 20000 in
theorem q_237_4253 (G : Nat × (Nat → Int32)) (d : Nat) (x0 : Int32) (x1 : Int32) (σ : aH) : Lq G d M_237 (16, [some (.int x0), some (.int x1)], [], σ) = Lq G d M_237 (17, [some (.int x0), some (.int x1)], [.int (1 : Int32)], σ) :=
  (aUn_eq (tkd G.1 G.2) tmi (aRun (tkd G.1 G.2) tmi tmt d) M_237 [] 1 (16, [some (.int x0), some (.int x1)], [], σ)).trans rfl
set_option maxRecDepth 20000 in
theorem q_237_4254 (G : Nat × (Nat → Int32)) (d : Nat) (x0 : Int32) (x1 : Int32) (s0 : Int32) (σ : aH) : Lq G d M_237 (17, [some (.int x0), some (.int x1)], [.int s0], σ) = some (.inl (some (.int s0)), σ) :=
  (aUn_eq (tkd G.1 G.2) tmi (aRun (tkd G.1 G.2) tmi tmt d) M_237 [] 1 (17, [some (.int x0), some (.int x1)], [.int s0], σ)).trans rfl
set_option maxRecDepth 20000 in
theorem q_237_4255 (G : Nat × (Nat → Int32)) (d : Nat) (x0 : Int32) (x1 : Int32) (σ : aH) : Lq G d M_237 (12, [some (.int x0), some (.int x1)], [], σ) = Lq G d M_237 (17, [some (.int x0), some (.int x1)], [.int (-1 : Int32)], σ) :=
  (aUn_eq (tkd G.1 G.2) tmi (aRun (tkd G.1 G.2) tmi tmt d) M_237 [] 2 (12, [some (.int x0), some (.int x1)], [], σ)).trans rfl
set_option maxRecDepth 20000 in
theorem q_251_4256 (G : Nat × (Nat → Int32)) (d : Nat) (x1 : Int32) (σ : aH) : Lq G d M_251 (0, [some (.ref 25), some (.int x1)], [], σ) = Lq G d M_251 (9, [some (.ref 25), some (.int x1)], [.int x1, .int (σ.1 25 1), .ref 26], σ) :=
  (aUn_eq (tkd G.1 G.2) tmi (aRun (tkd G.1 G.2) tmi tmt d) M_251 [] 5 (0, [some (.ref 25), some (.int x1)], [], σ)).trans rfl
set_option maxRecDepth 20000 in
theorem q_251_4257 (G : Nat × (Nat → Int32)) (d : Nat) (x1 : Int32) (s0 : Int32) (s1 : Int32) (σ : aH) : Lq G d M_251 (9, [some (.ref 25), some (.int x1)], [.int s0, .int s1, .ref 26], σ) = aCV (Rn G d 24 [.ref 26, .int s1, .int s0] σ) fun σ1 => Lq G d M_251 (12, [some (.ref 25), some (.int x1)], [], σ1) :=
  (aUn_eq (tkd G.1 G.2) tmi (aRun (tkd G.1 G.2) tmi tmt d) M_251 [] 1 (9, [some (.ref 25), some (.int x1)], [.int s0, .int s1, .ref 26], σ)).trans rfl
set_option maxRecDepth 20000 in
theorem q_251_4258 (G : Nat × (Nat → Int32)) (d : Nat) (x1 : Int32) (σ : aH) : Lq G d M_251 (12, [some (.ref 25), some (.int x1)], [], σ) = Lq G d M_251 (22, [some (.ref 25), some (.int x1)], [], (aSI σ 25 1 ((σ.1 25 1) + (1 : Int32)))) :=
  (aUn_eq (tkd G.1 G.2) tmi (aRun (tkd G.1 G.2) tmi tmt d) M_251 [] 6 (12, [some (.ref 25), some (.int x1)], [], σ)).trans rfl
set_option maxRecDepth 20000 in
theorem q_251_4259 (G : Nat × (Nat → Int32)) (d : Nat) (x1 : Int32) (σ : aH) : Lq G d M_251 (22, [some (.ref 25), some (.int x1)], [], σ) = some (.inl none, σ) :=
  (aUn_eq (tkd G.1 G.2) tmi (aRun (tkd G.1 G.2) tmi tmt d) M_251 [] 1 (22, [some (.ref 25), some (.int x1)], [], σ)).trans rfl
set_option maxRecDepth 20000 in
theorem q_253_4260 (G : Nat × (Nat → Int32)) (d : Nat) (rx0 : Nat) (x1 : Int32) (x2 : Int32) (σ : aH) : Lq G d M_253 (0, [some (.ref rx0), some (.int x1), some (.int x2), none, none], [], σ) = Lq G d M_253 (5, [some (.ref rx0), none, some (.int x2), some (.int (0 : Int32)), some (.int x1)], [], σ) :=
  (aUn_eq (tkd G.1 G.2) tmi (aRun (tkd G.1 G.2) tmi tmt d) M_253 [] 4 (0, [some (.ref rx0), some (.int x1), some (.int x2), none, none], [], σ)).trans rfl
set_option maxRecDepth 20000 in
theorem q_253_4261 (G : Nat × (Nat → Int32)) (d : Nat) (rx0 : Nat) (x2 : Int32) (x3 : Int32) (x4 : Int32) (σ : aH) : Lq G d M_253 (5, [some (.ref rx0), none, some (.int x2), some (.int x3), some (.int x4)], [], σ) = Lq G d M_253 (8, [some (.ref rx0), none, some (.int x2), some (.int x3), some (.int x4)], [.int x2, .int x4], σ) :=
  (aUn_eq (tkd G.1 G.2) tmi (aRun (tkd G.1 G.2) tmi tmt d) M_253 [] 2 (5, [some (.ref rx0), none, some (.int x2), some (.int x3), some (.int x4)], [], σ)).trans rfl
set_option maxRecDepth 20000 in
theorem q_253_4262 (G : Nat × (Nat → Int32)) (d : Nat) (rx0 : Nat) (x2 : Int32) (x3 : Int32) (x4 : Int32) (s0 : Int32) (s1 : Int32) (σ : aH) : Lq G d M_253 (8, [some (.ref rx0), none, some (.int x2), some (.int x3), some (.int x4)], [.int s0, .int s1], σ) = if s0 ≤ s1 then Lq G d M_253 (26, [some (.ref rx0), none, some (.int x2), some (.int x3), some (.int x4)], [], σ) else Lq G d M_253 (11, [some (.ref rx0), none, some (.int x2), some (.int x3), some (.int x4)], [], σ) :=
  (aUn_eq (tkd G.1 G.2) tmi (aRun (tkd G.1 G.2) tmi tmt d) M_253 [] 1 (8, [some (.ref rx0), none, some (.int x2), some (.int x3), some (.int x4)], [.int s0, .int s1], σ)).trans rfl
set_option maxRecDepth 20000 in
theorem q_253_4263 (G : Nat × (Nat → Int32)) (d : Nat) (rx0 : Nat) (x2 : Int32) (x3 : Int32) (x4 : Int32) (σ : aH) : Lq G d M_253 (26, [some (.ref rx0), none, some (.int x2), some (.int x3), some (.int x4)], [], σ) = Lq G d M_253 (27, [some (.ref rx0), none, some (.int x2), some (.int x3), some (.int x4)], [.int x3], σ) :=
  (aUn_eq (tkd G.1 G.2) tmi (aRun (tkd G.1 G.2) tmi tmt d) M_253 [] 1 (26, [some (.ref rx0), none, some (.int x2), some (.int x3), some (.int x4)], [], σ)).trans rfl
set_option maxRecDepth 20000 in
theorem q_253_4264 (G : Nat × (Nat → Int32)) (d : Nat) (rx0 : Nat) (x2 : Int32) (x3 : Int32) (x4 : Int32) (s0 : Int32) (σ : aH) : Lq G d M_253 (27, [some (.ref rx0), none, some (.int x2), some (.int x3), some (.int x4)], [.int s0], σ) = some (.inl (some (.int s0)), σ) :=
  (aUn_eq (tkd G.1 G.2) tmi (aRun (tkd G.1 G.2) tmi tmt d) M_253 [] 1 (27, [some (.ref rx0), none, some (.int x2), some (.int x3), some (.int x4)], [.int s0], σ)).trans rfl
set_option maxRecDepth 20000 in
theorem q_253_4265 (G : Nat × (Nat → Int32)) (d : Nat) (rx0 : Nat) (x2 : Int32) (x3 : Int32) (x4 : Int32) (σ : aH) : Lq G d M_253 (11, [some (.ref rx0), none, some (.int x2), some (.int x3), some (.int x4)], [], σ) = Lq G d M_253 (15, [some (.ref rx0), none, some (.int x2), some (.int x3), some (.int x4)], [.int x4, .ref rx0, .int x3], σ) :=
  (aUn_eq (tkd G.1 G.2) tmi (aRun (tkd G.1 G.2) tmi tmt d) M_253 [] 3 (11, [some (.ref rx0), none, some (.int x2), some (.int x3), some (.int x4)], [], σ)).trans rfl
set_option maxRecDepth 20000 in
theorem q_253_4266 (G : Nat × (Nat → Int32)) (d : Nat) (rx0 : Nat) (x2 : Int32) (x3 : Int32) (x4 : Int32) (s0 : Int32) (rs1 : Nat) (s2 : Int32) (σ : aH) : Lq G d M_253 (15, [some (.ref rx0), none, some (.int x2), some (.int x3), some (.int x4)], [.int s0, .ref rs1, .int s2], σ) = aCI (Rn G d 32 [.ref rs1, .int s0] σ) fun v2 σ1 => Lq G d M_253 (18, [some (.ref rx0), none, some (.int x2), some (.int x3), some (.int x4)], [.int v2, .int s2], σ1) :=
  (aUn_eq (tkd G.1 G.2) tmi (aRun (tkd G.1 G.2) tmi tmt d) M_253 [] 1 (15, [some (.ref rx0), none, some (.int x2), some (.int x3), some (.int x4)], [.int s0, .ref rs1, .int s2], σ)).trans rfl
set_option maxRecDepth 20000 in
theorem q_253_4267 (G : Nat × (Nat → Int32)) (d : Nat) (rx0 : Nat) (x2 : Int32) (x3 : Int32) (x4 : Int32) (s0 : Int32) (s1 : Int32) (σ : aH) : Lq G d M_253 (18, [some (.ref rx0), none, some (.int x2), some (.int x3), some (.int x4)], [.int s0, .int s1], σ) = Lq G d M_253 (23, [some (.ref rx0), none, some (.int x2), some (.int (s1 + s0)), some (.int (x4 + (1 : Int32)))], [], σ) :=
  (aUn_eq (tkd G.1 G.2) tmi (aRun (tkd G.1 G.2) tmi tmt d) M_253 [] 3 (18, [some (.ref rx0), none, some (.int x2), some (.int x3), some (.int x4)], [.int s0, .int s1], σ)).trans rfl
set_option maxRecDepth 20000 in
theorem q_253_4268 (G : Nat × (Nat → Int32)) (d : Nat) (rx0 : Nat) (x2 : Int32) (x3 : Int32) (x4 : Int32) (σ : aH) : Lq G d M_253 (23, [some (.ref rx0), none, some (.int x2), some (.int x3), some (.int x4)], [], σ) = Lq G d M_253 (5, [some (.ref rx0), none, some (.int x2), some (.int x3), some (.int x4)], [], σ) :=
  (aUn_eq (tkd G.1 G.2) tmi (aRun (tkd G.1 G.2) tmi tmt d) M_253 [] 1 (23, [some (.ref rx0), none, some (.int x2), some (.int x3), some (.int x4)], [], σ)).trans rfl
set_option maxRecDepth 20000 in
theorem q_255_4269 (G : Nat × (Nat → Int32)) (d : Nat)  (σ : aH) : Lq G d M_255 (0, [some (.ref 25), none, none, none], [], σ) = Lq G d M_255 (2, [some (.ref 25), some (.int (1 : Int32)), none, none], [], σ) :=
  (aUn_eq (tkd G.1 G.2) tmi (aRun (tkd G.1 G.2) tmi tmt d) M_255 [] 2 (0, [some (.ref 25), none, none, none], [], σ)).trans rfl
set_option maxRecDepth 20000 in
theorem q_255_4270 (G : Nat × (Nat → Int32)) (d : Nat) (x1 : Int32) (σ : aH) : Lq G d M_255 (2, [some (.ref 25), some (.int x1), none, none], [], σ) = Lq G d M_255 (7, [some (.ref 25), some (.int x1), none, none], [.int (σ.1 25 1), .int x1], σ) :=
  (aUn_eq (tkd G.1 G.2) tmi (aRun (tkd G.1 G.2) tmi tmt d) M_255 [] 3 (2, [some (.ref 25), some (.int x1), none, none], [], σ)).trans rfl
set_option maxRecDepth 20000 in
theorem q_255_4271 (G : Nat × (Nat → Int32)) (d : Nat) (x1 : Int32) (s0 : Int32) (s1 : Int32) (σ : aH) : Lq G d M_255 (7, [some (.ref 25), some (.int x1), none, none], [.int s0, .int s1], σ) = if s0 ≤ s1 then Lq G d M_255 (87, [some (.ref 25), some (.int x1), none, none], [], σ) else Lq G d M_255 (10, [some (.ref 25), some (.int x1), none, none], [], σ) :=
  (aUn_eq (tkd G.1 G.2) tmi (aRun (tkd G.1 G.2) tmi tmt d) M_255 [] 1 (7, [some (.ref 25), some (.int x1), none, none], [.int s0, .int s1], σ)).trans rfl
set_option maxRecDepth 20000 in
theorem q_255_4272 (G : Nat × (Nat → Int32)) (d : Nat) (x1 : Int32) (σ : aH) : Lq G d M_255 (87, [some (.ref 25), some (.int x1), none, none], [], σ) = some (.inl none, σ) :=
  (aUn_eq (tkd G.1 G.2) tmi (aRun (tkd G.1 G.2) tmi tmt d) M_255 [] 1 (87, [some (.ref 25), some (.int x1), none, none], [], σ)).trans rfl
set_option maxRecDepth 20000 in
theorem q_255_4273 (G : Nat × (Nat → Int32)) (d : Nat) (x1 : Int32) (σ : aH) : Lq G d M_255 (10, [some (.ref 25), some (.int x1), none, none], [], σ) = Lq G d M_255 (12, [some (.ref 25), some (.int x1), some (.int x1), none], [], σ) :=
  (aUn_eq (tkd G.1 G.2) tmi (aRun (tkd G.1 G.2) tmi tmt d) M_255 [] 2 (10, [some (.ref 25), some (.int x1), none, none], [], σ)).trans rfl
set_option maxRecDepth 20000 in
theorem q_255_4274 (G : Nat × (Nat → Int32)) (d : Nat) (x1 : Int32) (x2 : Int32) (σ : aH) : Lq G d M_255 (12, [some (.ref 25), some (.int x1), some (.int x2), none], [], σ) = Lq G d M_255 (13, [some (.ref 25), some (.int x1), some (.int x2), none], [.int x2], σ) :=
  (aUn_eq (tkd G.1 G.2) tmi (aRun (tkd G.1 G.2) tmi tmt d) M_255 [] 1 (12, [some (.ref 25), some (.int x1), some (.int x2), none], [], σ)).trans rfl
set_option maxRecDepth 20000 in
theorem q_255_4275 (G : Nat × (Nat → Int32)) (d : Nat) (x1 : Int32) (x2 : Int32) (s0 : Int32) (σ : aH) : Lq G d M_255 (13, [some (.ref 25), some (.int x1), some (.int x2), none], [.int s0], σ) = if s0 ≤ 0 then Lq G d M_255 (81, [some (.ref 25), some (.int x1), some (.int x2), none], [], σ) else Lq G d M_255 (16, [some (.ref 25), some (.int x1), some (.int x2), none], [], σ) :=
  (aUn_eq (tkd G.1 G.2) tmi (aRun (tkd G.1 G.2) tmi tmt d) M_255 [] 1 (13, [some (.ref 25), some (.int x1), some (.int x2), none], [.int s0], σ)).trans rfl
set_option maxRecDepth 20000 in
theorem q_255_4276 (G : Nat × (Nat → Int32)) (d : Nat) (x1 : Int32) (x2 : Int32) (σ : aH) : Lq G d M_255 (81, [some (.ref 25), some (.int x1), some (.int x2), none], [], σ) = Lq G d M_255 (2, [some (.ref 25), some (.int (x1 + (1 : Int32))), none, none], [], σ) :=
  (aUn_eq (tkd G.1 G.2) tmi (aRun (tkd G.1 G.2) tmi tmt d) M_255 [] 2 (81, [some (.ref 25), some (.int x1), some (.int x2), none], [], σ)).trans rfl
set_option maxRecDepth 20000 in
theorem q_255_4277 (G : Nat × (Nat → Int32)) (d : Nat) (x1 : Int32) (x2 : Int32) (σ : aH) : Lq G d M_255 (16, [some (.ref 25), some (.int x1), some (.int x2), none], [], σ) = Lq G d M_255 (23, [some (.ref 25), some (.int x1), some (.int x2), none], [.int (x2 - (1 : Int32)), .ref 26], σ) :=
  (aUn_eq (tkd G.1 G.2) tmi (aRun (tkd G.1 G.2) tmi tmt d) M_255 [] 5 (16, [some (.ref 25), some (.int x1), some (.int x2), none], [], σ)).trans rfl
set_option maxRecDepth 20000 in
theorem q_255_4278 (G : Nat × (Nat → Int32)) (d : Nat) (x1 : Int32) (x2 : Int32) (s0 : Int32) (σ : aH) : Lq G d M_255 (23, [some (.ref 25), some (.int x1), some (.int x2), none], [.int s0, .ref 26], σ) = aCI (Rn G d 32 [.ref 26, .int s0] σ) fun v2 σ1 => Lq G d M_255 (26, [some (.ref 25), some (.int x1), some (.int x2), none], [.int v2], σ1) :=
  (aUn_eq (tkd G.1 G.2) tmi (aRun (tkd G.1 G.2) tmi tmt d) M_255 [] 1 (23, [some (.ref 25), some (.int x1), some (.int x2), none], [.int s0, .ref 26], σ)).trans rfl
set_option maxRecDepth 20000 in
theorem q_255_4279 (G : Nat × (Nat → Int32)) (d : Nat) (x1 : Int32) (x2 : Int32) (s0 : Int32) (σ : aH) : Lq G d M_255 (26, [some (.ref 25), some (.int x1), some (.int x2), none], [.int s0], σ) = Lq G d M_255 (31, [some (.ref 25), some (.int x1), some (.int x2), none], [.int x2, .ref 26, .int s0], σ) :=
  (aUn_eq (tkd G.1 G.2) tmi (aRun (tkd G.1 G.2) tmi tmt d) M_255 [] 3 (26, [some (.ref 25), some (.int x1), some (.int x2), none], [.int s0], σ)).trans rfl
set_option maxRecDepth 20000 in
theorem q_255_4280 (G : Nat × (Nat → Int32)) (d : Nat) (x1 : Int32) (x2 : Int32) (s0 : Int32) (s2 : Int32) (σ : aH) : Lq G d M_255 (31, [some (.ref 25), some (.int x1), some (.int x2), none], [.int s0, .ref 26, .int s2], σ) = aCI (Rn G d 32 [.ref 26, .int s0] σ) fun v2 σ1 => Lq G d M_255 (34, [some (.ref 25), some (.int x1), some (.int x2), none], [.int v2, .int s2], σ1) :=
  (aUn_eq (tkd G.1 G.2) tmi (aRun (tkd G.1 G.2) tmi tmt d) M_255 [] 1 (31, [some (.ref 25), some (.int x1), some (.int x2), none], [.int s0, .ref 26, .int s2], σ)).trans rfl
set_option maxRecDepth 20000 in
theorem q_255_4281 (G : Nat × (Nat → Int32)) (d : Nat) (x1 : Int32) (x2 : Int32) (s0 : Int32) (s1 : Int32) (σ : aH) : Lq G d M_255 (34, [some (.ref 25), some (.int x1), some (.int x2), none], [.int s0, .int s1], σ) = if s0 ≤ s1 then Lq G d M_255 (81, [some (.ref 25), some (.int x1), some (.int x2), none], [], σ) else Lq G d M_255 (37, [some (.ref 25), some (.int x1), some (.int x2), none], [], σ) :=
  (aUn_eq (tkd G.1 G.2) tmi (aRun (tkd G.1 G.2) tmi tmt d) M_255 [] 1 (34, [some (.ref 25), some (.int x1), some (.int x2), none], [.int s0, .int s1], σ)).trans rfl
set_option maxRecDepth 20000 in
theorem q_255_4282 (G : Nat × (Nat → Int32)) (d : Nat) (x1 : Int32) (x2 : Int32) (σ : aH) : Lq G d M_255 (37, [some (.ref 25), some (.int x1), some (.int x2), none], [], σ) = Lq G d M_255 (42, [some (.ref 25), some (.int x1), some (.int x2), none], [.int x2, .ref 26], σ) :=
  (aUn_eq (tkd G.1 G.2) tmi (aRun (tkd G.1 G.2) tmi tmt d) M_255 [] 3 (37, [some (.ref 25), some (.int x1), some (.int x2), none], [], σ)).trans rfl
set_option maxRecDepth 20000 in
theorem q_255_4283 (G : Nat × (Nat → Int32)) (d : Nat) (x1 : Int32) (x2 : Int32) (s0 : Int32) (σ : aH) : Lq G d M_255 (42, [some (.ref 25), some (.int x1), some (.int x2), none], [.int s0, .ref 26], σ) = aCI (Rn G d 32 [.ref 26, .int s0] σ) fun v2 σ1 => Lq G d M_255 (45, [some (.ref 25), some (.int x1), some (.int x2), none], [.int v2], σ1) :=
  (aUn_eq (tkd G.1 G.2) tmi (aRun (tkd G.1 G.2) tmi tmt d) M_255 [] 1 (42, [some (.ref 25), some (.int x1), some (.int x2), none], [.int s0, .ref 26], σ)).trans rfl
set_option maxRecDepth 20000 in
theorem q_255_4284 (G : Nat × (Nat → Int32)) (d : Nat) (x1 : Int32) (x2 : Int32) (s0 : Int32) (σ : aH) : Lq G d M_255 (45, [some (.ref 25), some (.int x1), some (.int x2), none], [.int s0], σ) = Lq G d M_255 (58, [some (.ref 25), some (.int x1), some (.int x2), some (.int s0)], [.int (x2 - (1 : Int32)), .ref 26, .int x2, .ref 26], σ) :=
  (aUn_eq (tkd G.1 G.2) tmi (aRun (tkd G.1 G.2) tmi tmt d) M_255 [] 9 (45, [some (.ref 25), some (.int x1), some (.int x2), none], [.int s0], σ)).trans rfl
set_option maxRecDepth 20000 in
theorem q_255_4285 (G : Nat × (Nat → Int32)) (d : Nat) (x1 : Int32) (x2 : Int32) (x3 : Int32) (s0 : Int32) (s2 : Int32) (σ : aH) : Lq G d M_255 (58, [some (.ref 25), some (.int x1), some (.int x2), some (.int x3)], [.int s0, .ref 26, .int s2, .ref 26], σ) = aCI (Rn G d 32 [.ref 26, .int s0] σ) fun v2 σ1 => Lq G d M_255 (61, [some (.ref 25), some (.int x1), some (.int x2), some (.int x3)], [.int v2, .int s2, .ref 26], σ1) :=
  (aUn_eq (tkd G.1 G.2) tmi (aRun (tkd G.1 G.2) tmi tmt d) M_255 [] 1 (58, [some (.ref 25), some (.int x1), some (.int x2), some (.int x3)], [.int s0, .ref 26, .int s2, .ref 26], σ)).trans rfl
set_option maxRecDepth 20000 in
theorem q_255_4286 (G : Nat × (Nat → Int32)) (d : Nat) (x1 : Int32) (x2 : Int32) (x3 : Int32) (s0 : Int32) (s1 : Int32) (σ : aH) : Lq G d M_255 (61, [some (.ref 25), some (.int x1), some (.int x2), some (.int x3)], [.int s0, .int s1, .ref 26], σ) = aCV (Rn G d 24 [.ref 26, .int s1, .int s0] σ) fun σ1 => Lq G d M_255 (64, [some (.ref 25), some (.int x1), some (.int x2), some (.int x3)], [], σ1) :=
  (aUn_eq (tkd G.1 G.2) tmi (aRun (tkd G.1 G.2) tmi tmt d) M_255 [] 1 (61, [some (.ref 25), some (.int x1), some (.int x2), some (.int x3)], [.int s0, .int s1, .ref 26], σ)).trans rfl
set_option maxRecDepth 20000 in
theorem q_255_4287 (G : Nat × (Nat → Int32)) (d : Nat) (x1 : Int32) (x2 : Int32) (x3 : Int32) (σ : aH) : Lq G d M_255 (64, [some (.ref 25), some (.int x1), some (.int x2), some (.int x3)], [], σ) = Lq G d M_255 (72, [some (.ref 25), some (.int x1), some (.int x2), some (.int x3)], [.int x3, .int (x2 - (1 : Int32)), .ref 26], σ) :=
  (aUn_eq (tkd G.1 G.2) tmi (aRun (tkd G.1 G.2) tmi tmt d) M_255 [] 6 (64, [some (.ref 25), some (.int x1), some (.int x2), some (.int x3)], [], σ)).trans rfl
set_option maxRecDepth 20000 in
theorem q_255_4288 (G : Nat × (Nat → Int32)) (d : Nat) (x1 : Int32) (x2 : Int32) (x3 : Int32) (s0 : Int32) (s1 : Int32) (σ : aH) : Lq G d M_255 (72, [some (.ref 25), some (.int x1), some (.int x2), some (.int x3)], [.int s0, .int s1, .ref 26], σ) = aCV (Rn G d 24 [.ref 26, .int s1, .int s0] σ) fun σ1 => Lq G d M_255 (75, [some (.ref 25), some (.int x1), some (.int x2), some (.int x3)], [], σ1) :=
  (aUn_eq (tkd G.1 G.2) tmi (aRun (tkd G.1 G.2) tmi tmt d) M_255 [] 1 (72, [some (.ref 25), some (.int x1), some (.int x2), some (.int x3)], [.int s0, .int s1, .ref 26], σ)).trans rfl
set_option maxRecDepth 20000 in
theorem q_255_4289 (G : Nat × (Nat → Int32)) (d : Nat) (x1 : Int32) (x2 : Int32) (x3 : Int32) (σ : aH) : Lq G d M_255 (75, [some (.ref 25), some (.int x1), some (.int x2), some (.int x3)], [], σ) = Lq G d M_255 (12, [some (.ref 25), some (.int x1), some (.int (x2 + (-1 : Int32))), none], [], σ) :=
  (aUn_eq (tkd G.1 G.2) tmi (aRun (tkd G.1 G.2) tmi tmt d) M_255 [] 2 (75, [some (.ref 25), some (.int x1), some (.int x2), some (.int x3)], [], σ)).trans rfl
set_option maxRecDepth 20000 in
theorem q_256_4290 (G : Nat × (Nat → Int32)) (d : Nat) (rx0 : Nat) (x1 : Int32) (x2 : Int32) (x3 : Int32) (x4 : Int32) (σ : aH) : Lq G d M_256 (0, [some (.ref rx0), some (.int x1), some (.int x2), some (.int x3), some (.int x4)], [], σ) = Lq G d M_256 (1, [some (.ref rx0), some (.int x1), some (.int x2), some (.int x3), some (.int x4)], [.int x3], σ) :=
  (aUn_eq (tkd G.1 G.2) tmi (aRun (tkd G.1 G.2) tmi tmt d) M_256 [] 1 (0, [some (.ref rx0), some (.int x1), some (.int x2), some (.int x3), some (.int x4)], [], σ)).trans rfl
set_option maxRecDepth 20000 in
theorem q_256_4291 (G : Nat × (Nat → Int32)) (d : Nat) (rx0 : Nat) (x1 : Int32) (x2 : Int32) (x3 : Int32) (x4 : Int32) (s0 : Int32) (σ : aH) : Lq G d M_256 (1, [some (.ref rx0), some (.int x1), some (.int x2), some (.int x3), some (.int x4)], [.int s0], σ) = if s0 < 0 then Lq G d M_256 (24, [some (.ref rx0), some (.int x1), some (.int x2), some (.int x3), some (.int x4)], [], σ) else Lq G d M_256 (4, [some (.ref rx0), some (.int x1), some (.int x2), some (.int x3), some (.int x4)], [], σ) :=
  (aUn_eq (tkd G.1 G.2) tmi (aRun (tkd G.1 G.2) tmi tmt d) M_256 [] 1 (1, [some (.ref rx0), some (.int x1), some (.int x2), some (.int x3), some (.int x4)], [.int s0], σ)).trans rfl
set_option maxRecDepth 20000 in
theorem q_256_4292 (G : Nat × (Nat → Int32)) (d : Nat) (rx0 : Nat) (x1 : Int32) (x2 : Int32) (x3 : Int32) (x4 : Int32) (σ : aH) : Lq G d M_256 (24, [some (.ref rx0), some (.int x1), some (.int x2), some (.int x3), some (.int x4)], [], σ) = Lq G d M_256 (25, [some (.ref rx0), some (.int x1), some (.int x2), some (.int x3), some (.int x4)], [.int (0 : Int32)], σ) :=
  (aUn_eq (tkd G.1 G.2) tmi (aRun (tkd G.1 G.2) tmi tmt d) M_256 [] 1 (24, [some (.ref rx0), some (.int x1), some (.int x2), some (.int x3), some (.int x4)], [], σ)).trans rfl
set_option maxRecDepth 20000 in
theorem q_256_4293 (G : Nat × (Nat → Int32)) (d : Nat) (rx0 : Nat) (x1 : Int32) (x2 : Int32) (x3 : Int32) (x4 : Int32) (s0 : Int32) (σ : aH) : Lq G d M_256 (25, [some (.ref rx0), some (.int x1), some (.int x2), some (.int x3), some (.int x4)], [.int s0], σ) = some (.inl (some (.int s0)), σ) :=
  (aUn_eq (tkd G.1 G.2) tmi (aRun (tkd G.1 G.2) tmi tmt d) M_256 [] 1 (25, [some (.ref rx0), some (.int x1), some (.int x2), some (.int x3), some (.int x4)], [.int s0], σ)).trans rfl
set_option maxRecDepth 20000 in
theorem q_256_4294 (G : Nat × (Nat → Int32)) (d : Nat) (rx0 : Nat) (x1 : Int32) (x2 : Int32) (x3 : Int32) (x4 : Int32) (σ : aH) : Lq G d M_256 (4, [some (.ref rx0), some (.int x1), some (.int x2), some (.int x3), some (.int x4)], [], σ) = Lq G d M_256 (8, [some (.ref rx0), some (.int x1), some (.int x2), some (.int x3), some (.int x4)], [.int (x1 - x2), .int x3], σ) :=
  (aUn_eq (tkd G.1 G.2) tmi (aRun (tkd G.1 G.2) tmi tmt d) M_256 [] 4 (4, [some (.ref rx0), some (.int x1), some (.int x2), some (.int x3), some (.int x4)], [], σ)).trans rfl
set_option maxRecDepth 20000 in
theorem q_256_4295 (G : Nat × (Nat → Int32)) (d : Nat) (rx0 : Nat) (x1 : Int32) (x2 : Int32) (x3 : Int32) (x4 : Int32) (s0 : Int32) (s1 : Int32) (σ : aH) : Lq G d M_256 (8, [some (.ref rx0), some (.int x1), some (.int x2), some (.int x3), some (.int x4)], [.int s0, .int s1], σ) = if s0 < s1 then Lq G d M_256 (24, [some (.ref rx0), some (.int x1), some (.int x2), some (.int x3), some (.int x4)], [], σ) else Lq G d M_256 (11, [some (.ref rx0), some (.int x1), some (.int x2), some (.int x3), some (.int x4)], [], σ) :=
  (aUn_eq (tkd G.1 G.2) tmi (aRun (tkd G.1 G.2) tmi tmt d) M_256 [] 1 (8, [some (.ref rx0), some (.int x1), some (.int x2), some (.int x3), some (.int x4)], [.int s0, .int s1], σ)).trans rfl
set_option maxRecDepth 20000 in
theorem q_256_4296 (G : Nat × (Nat → Int32)) (d : Nat) (rx0 : Nat) (x1 : Int32) (x2 : Int32) (x3 : Int32) (x4 : Int32) (σ : aH) : Lq G d M_256 (11, [some (.ref rx0), some (.int x1), some (.int x2), some (.int x3), some (.int x4)], [], σ) = Lq G d M_256 (16, [some (.ref rx0), some (.int x1), some (.int x2), some (.int x3), some (.int x4)], [.int (x2 + x3), .int x2, .ref rx0], σ) :=
  (aUn_eq (tkd G.1 G.2) tmi (aRun (tkd G.1 G.2) tmi tmt d) M_256 [] 5 (11, [some (.ref rx0), some (.int x1), some (.int x2), some (.int x3), some (.int x4)], [], σ)).trans rfl
set_option maxRecDepth 20000 in
theorem q_256_4297 (G : Nat × (Nat → Int32)) (d : Nat) (rx0 : Nat) (x1 : Int32) (x2 : Int32) (x3 : Int32) (x4 : Int32) (s0 : Int32) (s1 : Int32) (rs2 : Nat) (σ : aH) : Lq G d M_256 (16, [some (.ref rx0), some (.int x1), some (.int x2), some (.int x3), some (.int x4)], [.int s0, .int s1, .ref rs2], σ) = aCI (Rn G d 253 [.ref rs2, .int s1, .int s0] σ) fun v2 σ1 => Lq G d M_256 (19, [some (.ref rx0), some (.int x1), some (.int x2), some (.int x3), some (.int x4)], [.int v2], σ1) :=
  (aUn_eq (tkd G.1 G.2) tmi (aRun (tkd G.1 G.2) tmi tmt d) M_256 [] 1 (16, [some (.ref rx0), some (.int x1), some (.int x2), some (.int x3), some (.int x4)], [.int s0, .int s1, .ref rs2], σ)).trans rfl
set_option maxRecDepth 20000 in
theorem q_256_4298 (G : Nat × (Nat → Int32)) (d : Nat) (rx0 : Nat) (x1 : Int32) (x2 : Int32) (x3 : Int32) (x4 : Int32) (s0 : Int32) (σ : aH) : Lq G d M_256 (19, [some (.ref rx0), some (.int x1), some (.int x2), some (.int x3), some (.int x4)], [.int s0], σ) = Lq G d M_256 (21, [some (.ref rx0), some (.int x1), some (.int x2), some (.int x3), some (.int x4)], [.int x4, .int s0], σ) :=
  (aUn_eq (tkd G.1 G.2) tmi (aRun (tkd G.1 G.2) tmi tmt d) M_256 [] 1 (19, [some (.ref rx0), some (.int x1), some (.int x2), some (.int x3), some (.int x4)], [.int s0], σ)).trans rfl
set_option maxRecDepth 20000 in
theorem q_256_4299 (G : Nat × (Nat → Int32)) (d : Nat) (rx0 : Nat) (x1 : Int32) (x2 : Int32) (x3 : Int32) (x4 : Int32) (s0 : Int32) (s1 : Int32) (σ : aH) : Lq G d M_256 (21, [some (.ref rx0), some (.int x1), some (.int x2), some (.int x3), some (.int x4)], [.int s0, .int s1], σ) = if s0 ≤ s1 then Lq G d M_256 (26, [some (.ref rx0), some (.int x1), some (.int x2), some (.int x3), some (.int x4)], [], σ) else Lq G d M_256 (24, [some (.ref rx0), some (.int x1), some (.int x2), some (.int x3), some (.int x4)], [], σ) :=
  (aUn_eq (tkd G.1 G.2) tmi (aRun (tkd G.1 G.2) tmi tmt d) M_256 [] 1 (21, [some (.ref rx0), some (.int x1), some (.int x2), some (.int x3), some (.int x4)], [.int s0, .int s1], σ)).trans rfl
set_option maxRecDepth 20000 in
theorem q_256_4300 (G : Nat × (Nat → Int32)) (d : Nat) (rx0 : Nat) (x1 : Int32) (x2 : Int32) (x3 : Int32) (x4 : Int32) (σ : aH) : Lq G d M_256 (26, [some (.ref rx0), some (.int x1), some (.int x2), some (.int x3), some (.int x4)], [], σ) = Lq G d M_256 (31, [some (.ref rx0), some (.int x1), some (.int x2), some (.int x3), some (.int x4)], [.int x1, .int (x1 - x3), .ref rx0], σ) :=
  (aUn_eq (tkd G.1 G.2) tmi (aRun (tkd G.1 G.2) tmi tmt d) M_256 [] 5 (26, [some (.ref rx0), some (.int x1), some (.int x2), some (.int x3), some (.int x4)], [], σ)).trans rfl
set_option maxRecDepth 20000 in
theorem q_256_4301 (G : Nat × (Nat → Int32)) (d : Nat) (rx0 : Nat) (x1 : Int32) (x2 : Int32) (x3 : Int32) (x4 : Int32) (s0 : Int32) (s1 : Int32) (rs2 : Nat) (σ : aH) : Lq G d M_256 (31, [some (.ref rx0), some (.int x1), some (.int x2), some (.int x3), some (.int x4)], [.int s0, .int s1, .ref rs2], σ) = aCI (Rn G d 253 [.ref rs2, .int s1, .int s0] σ) fun v2 σ1 => Lq G d M_256 (34, [some (.ref rx0), some (.int x1), some (.int x2), some (.int x3), some (.int x4)], [.int v2], σ1) :=
  (aUn_eq (tkd G.1 G.2) tmi (aRun (tkd G.1 G.2) tmi tmt d) M_256 [] 1 (31, [some (.ref rx0), some (.int x1), some (.int x2), some (.int x3), some (.int x4)], [.int s0, .int s1, .ref rs2], σ)).trans rfl
set_option maxRecDepth 20000 in
theorem q_256_4302 (G : Nat × (Nat → Int32)) (d : Nat) (rx0 : Nat) (x1 : Int32) (x2 : Int32) (x3 : Int32) (x4 : Int32) (s0 : Int32) (σ : aH) : Lq G d M_256 (34, [some (.ref rx0), some (.int x1), some (.int x2), some (.int x3), some (.int x4)], [.int s0], σ) = Lq G d M_256 (36, [some (.ref rx0), some (.int x1), some (.int x2), some (.int x3), some (.int x4)], [.int x4, .int s0], σ) :=
  (aUn_eq (tkd G.1 G.2) tmi (aRun (tkd G.1 G.2) tmi tmt d) M_256 [] 1 (34, [some (.ref rx0), some (.int x1), some (.int x2), some (.int x3), some (.int x4)], [.int s0], σ)).trans rfl
set_option maxRecDepth 20000 in
theorem q_256_4303 (G : Nat × (Nat → Int32)) (d : Nat) (rx0 : Nat) (x1 : Int32) (x2 : Int32) (x3 : Int32) (x4 : Int32) (s0 : Int32) (s1 : Int32) (σ : aH) : Lq G d M_256 (36, [some (.ref rx0), some (.int x1), some (.int x2), some (.int x3), some (.int x4)], [.int s0, .int s1], σ) = if s1 < s0 then Lq G d M_256 (47, [some (.ref rx0), some (.int x1), some (.int x2), some (.int x3), some (.int x4)], [], σ) else Lq G d M_256 (39, [some (.ref rx0), some (.int x1), some (.int x2), some (.int x3), some (.int x4)], [], σ) :=
  (aUn_eq (tkd G.1 G.2) tmi (aRun (tkd G.1 G.2) tmi tmt d) M_256 [] 1 (36, [some (.ref rx0), some (.int x1), some (.int x2), some (.int x3), some (.int x4)], [.int s0, .int s1], σ)).trans rfl
set_option maxRecDepth 20000 in
theorem q_256_4304 (G : Nat × (Nat → Int32)) (d : Nat) (rx0 : Nat) (x1 : Int32) (x2 : Int32) (x3 : Int32) (x4 : Int32) (σ : aH) : Lq G d M_256 (47, [some (.ref rx0), some (.int x1), some (.int x2), some (.int x3), some (.int x4)], [], σ) = Lq G d M_256 (59, [some (.ref rx0), some (.int x1), some (.int x2), some (.int x3), some (.int x4)], [.int x2, .ref rx0, .int x4, .int (x3 - (1 : Int32)), .int (x2 + (1 : Int32)), .int x1, .ref rx0], σ) :=
  (aUn_eq (tkd G.1 G.2) tmi (aRun (tkd G.1 G.2) tmi tmt d) M_256 [] 11 (47, [some (.ref rx0), some (.int x1), some (.int x2), some (.int x3), some (.int x4)], [], σ)).trans rfl
set_option maxRecDepth 20000 in
theorem q_256_4305 (G : Nat × (Nat → Int32)) (d : Nat) (rx0 : Nat) (x1 : Int32) (x2 : Int32) (x3 : Int32) (x4 : Int32) (s0 : Int32) (rs1 : Nat) (s2 : Int32) (s3 : Int32) (s4 : Int32) (s5 : Int32) (rs6 : Nat) (σ : aH) : Lq G d M_256 (59, [some (.ref rx0), some (.int x1), some (.int x2), some (.int x3), some (.int x4)], [.int s0, .ref rs1, .int s2, .int s3, .int s4, .int s5, .ref rs6], σ) = aCI (Rn G d 32 [.ref rs1, .int s0] σ) fun v2 σ1 => Lq G d M_256 (62, [some (.ref rx0), some (.int x1), some (.int x2), some (.int x3), some (.int x4)], [.int v2, .int s2, .int s3, .int s4, .int s5, .ref rs6], σ1) :=
  (aUn_eq (tkd G.1 G.2) tmi (aRun (tkd G.1 G.2) tmi tmt d) M_256 [] 1 (59, [some (.ref rx0), some (.int x1), some (.int x2), some (.int x3), some (.int x4)], [.int s0, .ref rs1, .int s2, .int s3, .int s4, .int s5, .ref rs6], σ)).trans rfl
set_option maxRecDepth 20000 in
theorem q_256_4306 (G : Nat × (Nat → Int32)) (d : Nat) (rx0 : Nat) (x1 : Int32) (x2 : Int32) (x3 : Int32) (x4 : Int32) (s0 : Int32) (s1 : Int32) (s2 : Int32) (s3 : Int32) (s4 : Int32) (rs5 : Nat) (σ : aH) : Lq G d M_256 (62, [some (.ref rx0), some (.int x1), some (.int x2), some (.int x3), some (.int x4)], [.int s0, .int s1, .int s2, .int s3, .int s4, .ref rs5], σ) = Lq G d M_256 (63, [some (.ref rx0), some (.int x1), some (.int x2), some (.int x3), some (.int x4)], [.int (s1 - s0), .int s2, .int s3, .int s4, .ref rs5], σ) :=
  (aUn_eq (tkd G.1 G.2) tmi (aRun (tkd G.1 G.2) tmi tmt d) M_256 [] 1 (62, [some (.ref rx0), some (.int x1), some (.int x2), some (.int x3), some (.int x4)], [.int s0, .int s1, .int s2, .int s3, .int s4, .ref rs5], σ)).trans rfl
set_option maxRecDepth 20000 in
theorem q_256_4307 (G : Nat × (Nat → Int32)) (d : Nat) (rx0 : Nat) (x1 : Int32) (x2 : Int32) (x3 : Int32) (x4 : Int32) (s0 : Int32) (s1 : Int32) (s2 : Int32) (s3 : Int32) (rs4 : Nat) (σ : aH) : Lq G d M_256 (63, [some (.ref rx0), some (.int x1), some (.int x2), some (.int x3), some (.int x4)], [.int s0, .int s1, .int s2, .int s3, .ref rs4], σ) = aCI (Rn G d 256 [.ref rs4, .int s3, .int s2, .int s1, .int s0] σ) fun v2 σ1 => Lq G d M_256 (66, [some (.ref rx0), some (.int x1), some (.int x2), some (.int x3), some (.int x4)], [.int v2], σ1) :=
  (aUn_eq (tkd G.1 G.2) tmi (aRun (tkd G.1 G.2) tmi tmt d) M_256 [] 1 (63, [some (.ref rx0), some (.int x1), some (.int x2), some (.int x3), some (.int x4)], [.int s0, .int s1, .int s2, .int s3, .ref rs4], σ)).trans rfl
set_option maxRecDepth 20000 in
theorem q_256_4308 (G : Nat × (Nat → Int32)) (d : Nat) (rx0 : Nat) (x1 : Int32) (x2 : Int32) (x3 : Int32) (x4 : Int32) (s0 : Int32) (σ : aH) : Lq G d M_256 (66, [some (.ref rx0), some (.int x1), some (.int x2), some (.int x3), some (.int x4)], [.int s0], σ) = Lq G d M_256 (74, [some (.ref rx0), some (.int x1), some (.int x2), some (.int x3), some (.int x4)], [.int x4, .int x3, .int (x2 + (1 : Int32)), .int x1, .ref rx0, .int s0], σ) :=
  (aUn_eq (tkd G.1 G.2) tmi (aRun (tkd G.1 G.2) tmi tmt d) M_256 [] 7 (66, [some (.ref rx0), some (.int x1), some (.int x2), some (.int x3), some (.int x4)], [.int s0], σ)).trans rfl
set_option maxRecDepth 20000 in
theorem q_256_4309 (G : Nat × (Nat → Int32)) (d : Nat) (rx0 : Nat) (x1 : Int32) (x2 : Int32) (x3 : Int32) (x4 : Int32) (s0 : Int32) (s1 : Int32) (s2 : Int32) (s3 : Int32) (rs4 : Nat) (s5 : Int32) (σ : aH) : Lq G d M_256 (74, [some (.ref rx0), some (.int x1), some (.int x2), some (.int x3), some (.int x4)], [.int s0, .int s1, .int s2, .int s3, .ref rs4, .int s5], σ) = aCI (Rn G d 256 [.ref rs4, .int s3, .int s2, .int s1, .int s0] σ) fun v2 σ1 => Lq G d M_256 (77, [some (.ref rx0), some (.int x1), some (.int x2), some (.int x3), some (.int x4)], [.int v2, .int s5], σ1) :=
  (aUn_eq (tkd G.1 G.2) tmi (aRun (tkd G.1 G.2) tmi tmt d) M_256 [] 1 (74, [some (.ref rx0), some (.int x1), some (.int x2), some (.int x3), some (.int x4)], [.int s0, .int s1, .int s2, .int s3, .ref rs4, .int s5], σ)).trans rfl
set_option maxRecDepth 20000 in
theorem q_256_4310 (G : Nat × (Nat → Int32)) (d : Nat) (rx0 : Nat) (x1 : Int32) (x2 : Int32) (x3 : Int32) (x4 : Int32) (s0 : Int32) (s1 : Int32) (σ : aH) : Lq G d M_256 (77, [some (.ref rx0), some (.int x1), some (.int x2), some (.int x3), some (.int x4)], [.int s0, .int s1], σ) = Lq G d M_256 (78, [some (.ref rx0), some (.int x1), some (.int x2), some (.int x3), some (.int x4)], [.int (s1 + s0)], σ) :=
  (aUn_eq (tkd G.1 G.2) tmi (aRun (tkd G.1 G.2) tmi tmt d) M_256 [] 1 (77, [some (.ref rx0), some (.int x1), some (.int x2), some (.int x3), some (.int x4)], [.int s0, .int s1], σ)).trans rfl
set_option maxRecDepth 20000 in
theorem q_256_4311 (G : Nat × (Nat → Int32)) (d : Nat) (rx0 : Nat) (x1 : Int32) (x2 : Int32) (x3 : Int32) (x4 : Int32) (s0 : Int32) (σ : aH) : Lq G d M_256 (78, [some (.ref rx0), some (.int x1), some (.int x2), some (.int x3), some (.int x4)], [.int s0], σ) = some (.inl (some (.int s0)), σ) :=
  (aUn_eq (tkd G.1 G.2) tmi (aRun (tkd G.1 G.2) tmi tmt d) M_256 [] 1 (78, [some (.ref rx0), some (.int x1), some (.int x2), some (.int x3), some (.int x4)], [.int s0], σ)).trans rfl
set_option maxRecDepth 20000 in
theorem q_256_4312 (G : Nat × (Nat → Int32)) (d : Nat) (rx0 : Nat) (x1 : Int32) (x2 : Int32) (x3 : Int32) (x4 : Int32) (σ : aH) : Lq G d M_256 (39, [some (.ref rx0), some (.int x1), some (.int x2), some (.int x3), some (.int x4)], [], σ) = Lq G d M_256 (43, [some (.ref rx0), some (.int x1), some (.int x2), some (.int x3), some (.int x4)], [.int x3, .int (x1 - x2)], σ) :=
  (aUn_eq (tkd G.1 G.2) tmi (aRun (tkd G.1 G.2) tmi tmt d) M_256 [] 4 (39, [some (.ref rx0), some (.int x1), some (.int x2), some (.int x3), some (.int x4)], [], σ)).trans rfl
set_option maxRecDepth 20000 in
theorem q_256_4313 (G : Nat × (Nat → Int32)) (d : Nat) (rx0 : Nat) (x1 : Int32) (x2 : Int32) (x3 : Int32) (x4 : Int32) (s0 : Int32) (s1 : Int32) (σ : aH) : Lq G d M_256 (43, [some (.ref rx0), some (.int x1), some (.int x2), some (.int x3), some (.int x4)], [.int s0, .int s1], σ) = aCI (Rn G d 257 [.int s1, .int s0] σ) fun v2 σ1 => Lq G d M_256 (46, [some (.ref rx0), some (.int x1), some (.int x2), some (.int x3), some (.int x4)], [.int v2], σ1) :=
  (aUn_eq (tkd G.1 G.2) tmi (aRun (tkd G.1 G.2) tmi tmt d) M_256 [] 1 (43, [some (.ref rx0), some (.int x1), some (.int x2), some (.int x3), some (.int x4)], [.int s0, .int s1], σ)).trans rfl
set_option maxRecDepth 20000 in
theorem q_256_4314 (G : Nat × (Nat → Int32)) (d : Nat) (rx0 : Nat) (x1 : Int32) (x2 : Int32) (x3 : Int32) (x4 : Int32) (s0 : Int32) (σ : aH) : Lq G d M_256 (46, [some (.ref rx0), some (.int x1), some (.int x2), some (.int x3), some (.int x4)], [.int s0], σ) = some (.inl (some (.int s0)), σ) :=
  (aUn_eq (tkd G.1 G.2) tmi (aRun (tkd G.1 G.2) tmi tmt d) M_256 [] 1 (46, [some (.ref rx0), some (.int x1), some (.int x2), some (.int x3), some (.int x4)], [.int s0], σ)).trans rfl
set_option maxRecDepth 20000 in
theorem q_262_4315 (G : Nat × (Nat → Int32)) (d : Nat) (x1 : Int32) (x2 : Int32) (x3 : Int32) (σ : aH) : Lq G d M_262 (0, [some (.ref 0), some (.int x1), some (.int x2), some (.int x3)], [], σ) = Lq G d M_262 (7, [some (.ref 0), some (.int x1), some (.int x2), some (.int x3)], [.int x3, .int x1, .int (1 : Int32), .ref 3], σ) :=
  (aUn_eq (tkd G.1 G.2) tmi (aRun (tkd G.1 G.2) tmi tmt d) M_262 [] 5 (0, [some (.ref 0), some (.int x1), some (.int x2), some (.int x3)], [], σ)).trans rfl
set_option maxRecDepth 20000 in
theorem q_262_4316 (G : Nat × (Nat → Int32)) (d : Nat) (x1 : Int32) (x2 : Int32) (x3 : Int32) (s0 : Int32) (s1 : Int32) (s2 : Int32) (σ : aH) : Lq G d M_262 (7, [some (.ref 0), some (.int x1), some (.int x2), some (.int x3)], [.int s0, .int s1, .int s2, .ref 3], σ) = aCI (Rn G d 119 [.ref 3, .int s2, .int s1, .int s0] σ) fun v2 σ1 => Lq G d M_262 (10, [some (.ref 0), some (.int x1), some (.int x2), some (.int x3)], [.int v2], σ1) :=
  (aUn_eq (tkd G.1 G.2) tmi (aRun (tkd G.1 G.2) tmi tmt d) M_262 [] 1 (7, [some (.ref 0), some (.int x1), some (.int x2), some (.int x3)], [.int s0, .int s1, .int s2, .ref 3], σ)).trans rfl
set_option maxRecDepth 20000 in
theorem q_262_4317 (G : Nat × (Nat → Int32)) (d : Nat) (x1 : Int32) (x2 : Int32) (x3 : Int32) (s0 : Int32) (σ : aH) : Lq G d M_262 (10, [some (.ref 0), some (.int x1), some (.int x2), some (.int x3)], [.int s0], σ) = Lq G d M_262 (17, [some (.ref 0), some (.int x1), some (.int x2), some (.int x3)], [.int x3, .int x2, .int (1 : Int32), .ref 3, .int s0], σ) :=
  (aUn_eq (tkd G.1 G.2) tmi (aRun (tkd G.1 G.2) tmi tmt d) M_262 [] 5 (10, [some (.ref 0), some (.int x1), some (.int x2), some (.int x3)], [.int s0], σ)).trans rfl
set_option maxRecDepth 20000 in
theorem q_262_4318 (G : Nat × (Nat → Int32)) (d : Nat) (x1 : Int32) (x2 : Int32) (x3 : Int32) (s0 : Int32) (s1 : Int32) (s2 : Int32) (s4 : Int32) (σ : aH) : Lq G d M_262 (17, [some (.ref 0), some (.int x1), some (.int x2), some (.int x3)], [.int s0, .int s1, .int s2, .ref 3, .int s4], σ) = aCI (Rn G d 119 [.ref 3, .int s2, .int s1, .int s0] σ) fun v2 σ1 => Lq G d M_262 (20, [some (.ref 0), some (.int x1), some (.int x2), some (.int x3)], [.int v2, .int s4], σ1) :=
  (aUn_eq (tkd G.1 G.2) tmi (aRun (tkd G.1 G.2) tmi tmt d) M_262 [] 1 (17, [some (.ref 0), some (.int x1), some (.int x2), some (.int x3)], [.int s0, .int s1, .int s2, .ref 3, .int s4], σ)).trans rfl
set_option maxRecDepth 20000 in
theorem q_262_4319 (G : Nat × (Nat → Int32)) (d : Nat) (x1 : Int32) (x2 : Int32) (x3 : Int32) (s0 : Int32) (s1 : Int32) (σ : aH) : Lq G d M_262 (20, [some (.ref 0), some (.int x1), some (.int x2), some (.int x3)], [.int s0, .int s1], σ) = if s1 = s0 then Lq G d M_262 (23, [some (.ref 0), some (.int x1), some (.int x2), some (.int x3)], [], σ) else Lq G d M_262 (27, [some (.ref 0), some (.int x1), some (.int x2), some (.int x3)], [], σ) :=
  (aUn_eq (tkd G.1 G.2) tmi (aRun (tkd G.1 G.2) tmi tmt d) M_262 [] 1 (20, [some (.ref 0), some (.int x1), some (.int x2), some (.int x3)], [.int s0, .int s1], σ)).trans rfl
set_option maxRecDepth 20000 in
theorem q_262_4320 (G : Nat × (Nat → Int32)) (d : Nat) (x1 : Int32) (x2 : Int32) (x3 : Int32) (σ : aH) : Lq G d M_262 (23, [some (.ref 0), some (.int x1), some (.int x2), some (.int x3)], [], σ) = Lq G d M_262 (28, [some (.ref 0), some (.int x1), some (.int x2), some (.int x3)], [.int (1 : Int32)], σ) :=
  (aUn_eq (tkd G.1 G.2) tmi (aRun (tkd G.1 G.2) tmi tmt d) M_262 [] 2 (23, [some (.ref 0), some (.int x1), some (.int x2), some (.int x3)], [], σ)).trans rfl
set_option maxRecDepth 20000 in
theorem q_262_4321 (G : Nat × (Nat → Int32)) (d : Nat) (x1 : Int32) (x2 : Int32) (x3 : Int32) (s0 : Int32) (σ : aH) : Lq G d M_262 (28, [some (.ref 0), some (.int x1), some (.int x2), some (.int x3)], [.int s0], σ) = aNar .boolean (s0) (some (.inl (some (.int s0)), σ)) :=
  (aUn_eq (tkd G.1 G.2) tmi (aRun (tkd G.1 G.2) tmi tmt d) M_262 [] 1 (28, [some (.ref 0), some (.int x1), some (.int x2), some (.int x3)], [.int s0], σ)).trans rfl
set_option maxRecDepth 20000 in
theorem q_262_4322 (G : Nat × (Nat → Int32)) (d : Nat) (x1 : Int32) (x2 : Int32) (x3 : Int32) (σ : aH) : Lq G d M_262 (27, [some (.ref 0), some (.int x1), some (.int x2), some (.int x3)], [], σ) = Lq G d M_262 (28, [some (.ref 0), some (.int x1), some (.int x2), some (.int x3)], [.int (0 : Int32)], σ) :=
  (aUn_eq (tkd G.1 G.2) tmi (aRun (tkd G.1 G.2) tmi tmt d) M_262 [] 1 (27, [some (.ref 0), some (.int x1), some (.int x2), some (.int x3)], [], σ)).trans rfl
set_option maxRecDepth 20000 in
theorem q_267_4323 (G : Nat × (Nat → Int32)) (d : Nat) (x0 : Int64) (x2 : Int64) (σ : aH) : Lq G d M_267 (0, [some (.long x0), none, some (.long x2), none, none, none], [], σ) = Lq G d M_267 (2, [some (.long x0), none, some (.long x2), none, none, none], [.long x2, .long x0], σ) :=
  (aUn_eq (tkd G.1 G.2) tmi (aRun (tkd G.1 G.2) tmi tmt d) M_267 [] 2 (0, [some (.long x0), none, some (.long x2), none, none, none], [], σ)).trans rfl
set_option maxRecDepth 20000 in
theorem q_267_4324 (G : Nat × (Nat → Int32)) (d : Nat) (x0 : Int64) (x2 : Int64) (s0 : Int64) (s1 : Int64) (σ : aH) : Lq G d M_267 (2, [some (.long x0), none, some (.long x2), none, none, none], [.long s0, .long s1], σ) = aNzL (s0) (Lq G d M_267 (3, [some (.long x0), none, some (.long x2), none, none, none], [.long (s1 / s0)], σ)) :=
  (aUn_eq (tkd G.1 G.2) tmi (aRun (tkd G.1 G.2) tmi tmt d) M_267 [] 1 (2, [some (.long x0), none, some (.long x2), none, none, none], [.long s0, .long s1], σ)).trans rfl
set_option maxRecDepth 20000 in
theorem q_267_4325 (G : Nat × (Nat → Int32)) (d : Nat) (x0 : Int64) (x2 : Int64) (s0 : Int64) (σ : aH) : Lq G d M_267 (3, [some (.long x0), none, some (.long x2), none, none, none], [.long s0], σ) = Lq G d M_267 (10, [some (.long x0), none, some (.long x2), none, some (.long s0), none], [.int (lg_cmp (x0 ^^^ x2) (0 : Int64))], σ) :=
  (aUn_eq (tkd G.1 G.2) tmi (aRun (tkd G.1 G.2) tmi tmt d) M_267 [] 6 (3, [some (.long x0), none, some (.long x2), none, none, none], [.long s0], σ)).trans rfl
set_option maxRecDepth 20000 in
theorem q_267_4326 (G : Nat × (Nat → Int32)) (d : Nat) (x0 : Int64) (x2 : Int64) (x4 : Int64) (s0 : Int32) (σ : aH) : Lq G d M_267 (10, [some (.long x0), none, some (.long x2), none, some (.long x4), none], [.int s0], σ) = if 0 ≤ s0 then Lq G d M_267 (27, [some (.long x0), none, some (.long x2), none, some (.long x4), none], [], σ) else Lq G d M_267 (13, [some (.long x0), none, some (.long x2), none, some (.long x4), none], [], σ) :=
  (aUn_eq (tkd G.1 G.2) tmi (aRun (tkd G.1 G.2) tmi tmt d) M_267 [] 1 (10, [some (.long x0), none, some (.long x2), none, some (.long x4), none], [.int s0], σ)).trans rfl
set_option maxRecDepth 20000 in
theorem q_267_4327 (G : Nat × (Nat → Int32)) (d : Nat) (x0 : Int64) (x2 : Int64) (x4 : Int64) (σ : aH) : Lq G d M_267 (27, [some (.long x0), none, some (.long x2), none, some (.long x4), none], [], σ) = Lq G d M_267 (29, [some (.long x0), none, some (.long x2), none, some (.long x4), none], [.long x4], σ) :=
  (aUn_eq (tkd G.1 G.2) tmi (aRun (tkd G.1 G.2) tmi tmt d) M_267 [] 1 (27, [some (.long x0), none, some (.long x2), none, some (.long x4), none], [], σ)).trans rfl
set_option maxRecDepth 20000 in
theorem q_267_4328 (G : Nat × (Nat → Int32)) (d : Nat) (x0 : Int64) (x2 : Int64) (x4 : Int64) (s0 : Int64) (σ : aH) : Lq G d M_267 (29, [some (.long x0), none, some (.long x2), none, some (.long x4), none], [.long s0], σ) = some (.inl (some (.long s0)), σ) :=
  (aUn_eq (tkd G.1 G.2) tmi (aRun (tkd G.1 G.2) tmi tmt d) M_267 [] 1 (29, [some (.long x0), none, some (.long x2), none, some (.long x4), none], [.long s0], σ)).trans rfl
set_option maxRecDepth 20000 in
theorem q_267_4329 (G : Nat × (Nat → Int32)) (d : Nat) (x0 : Int64) (x2 : Int64) (x4 : Int64) (σ : aH) : Lq G d M_267 (13, [some (.long x0), none, some (.long x2), none, some (.long x4), none], [], σ) = Lq G d M_267 (19, [some (.long x0), none, some (.long x2), none, some (.long x4), none], [.int (lg_cmp (x4 * x2) x0)], σ) :=
  (aUn_eq (tkd G.1 G.2) tmi (aRun (tkd G.1 G.2) tmi tmt d) M_267 [] 5 (13, [some (.long x0), none, some (.long x2), none, some (.long x4), none], [], σ)).trans rfl
set_option maxRecDepth 20000 in
theorem q_267_4330 (G : Nat × (Nat → Int32)) (d : Nat) (x0 : Int64) (x2 : Int64) (x4 : Int64) (s0 : Int32) (σ : aH) : Lq G d M_267 (19, [some (.long x0), none, some (.long x2), none, some (.long x4), none], [.int s0], σ) = if s0 = 0 then Lq G d M_267 (27, [some (.long x0), none, some (.long x2), none, some (.long x4), none], [], σ) else Lq G d M_267 (22, [some (.long x0), none, some (.long x2), none, some (.long x4), none], [], σ) :=
  (aUn_eq (tkd G.1 G.2) tmi (aRun (tkd G.1 G.2) tmi tmt d) M_267 [] 1 (19, [some (.long x0), none, some (.long x2), none, some (.long x4), none], [.int s0], σ)).trans rfl
set_option maxRecDepth 20000 in
theorem q_267_4331 (G : Nat × (Nat → Int32)) (d : Nat) (x0 : Int64) (x2 : Int64) (x4 : Int64) (σ : aH) : Lq G d M_267 (22, [some (.long x0), none, some (.long x2), none, some (.long x4), none], [], σ) = Lq G d M_267 (26, [some (.long x0), none, some (.long x2), none, some (.long x4), none], [.long (x4 - (1 : Int64))], σ) :=
  (aUn_eq (tkd G.1 G.2) tmi (aRun (tkd G.1 G.2) tmi tmt d) M_267 [] 3 (22, [some (.long x0), none, some (.long x2), none, some (.long x4), none], [], σ)).trans rfl
set_option maxRecDepth 20000 in
theorem q_267_4332 (G : Nat × (Nat → Int32)) (d : Nat) (x0 : Int64) (x2 : Int64) (x4 : Int64) (s0 : Int64) (σ : aH) : Lq G d M_267 (26, [some (.long x0), none, some (.long x2), none, some (.long x4), none], [.long s0], σ) = some (.inl (some (.long s0)), σ) :=
  (aUn_eq (tkd G.1 G.2) tmi (aRun (tkd G.1 G.2) tmi tmt d) M_267 [] 1 (26, [some (.long x0), none, some (.long x2), none, some (.long x4), none], [.long s0], σ)).trans rfl
set_option maxRecDepth 20000 in
theorem q_276_4333 (G : Nat × (Nat → Int32)) (d : Nat) (x1 : Int32) (x2 : Int32) (x3 : Int32) (σ : aH) : Lq G d M_276 (0, [some (.ref 0), some (.int x1), some (.int x2), some (.int x3), none, none], [], σ) = Lq G d M_276 (6, [some (.ref 0), some (.int x1), some (.int x2), some (.int x3), some (.int (0 : Int32)), some (.int (0 : Int32))], [], σ) :=
  (aUn_eq (tkd G.1 G.2) tmi (aRun (tkd G.1 G.2) tmi tmt d) M_276 [] 4 (0, [some (.ref 0), some (.int x1), some (.int x2), some (.int x3), none, none], [], σ)).trans rfl
set_option maxRecDepth 20000 in
theorem q_276_4334 (G : Nat × (Nat → Int32)) (d : Nat) (x1 : Int32) (x2 : Int32) (x3 : Int32) (x4 : Int32) (x5 : Int32) (σ : aH) : Lq G d M_276 (6, [some (.ref 0), some (.int x1), some (.int x2), some (.int x3), some (.int x4), some (.int x5)], [], σ) = Lq G d M_276 (9, [some (.ref 0), some (.int x1), some (.int x2), some (.int x3), some (.int x4), some (.int x5)], [.int x3, .int x5], σ) :=
  (aUn_eq (tkd G.1 G.2) tmi (aRun (tkd G.1 G.2) tmi tmt d) M_276 [] 2 (6, [some (.ref 0), some (.int x1), some (.int x2), some (.int x3), some (.int x4), some (.int x5)], [], σ)).trans rfl
set_option maxRecDepth 20000 in
theorem q_276_4335 (G : Nat × (Nat → Int32)) (d : Nat) (x1 : Int32) (x2 : Int32) (x3 : Int32) (x4 : Int32) (x5 : Int32) (s0 : Int32) (s1 : Int32) (σ : aH) : Lq G d M_276 (9, [some (.ref 0), some (.int x1), some (.int x2), some (.int x3), some (.int x4), some (.int x5)], [.int s0, .int s1], σ) = if s0 ≤ s1 then Lq G d M_276 (54, [some (.ref 0), some (.int x1), some (.int x2), some (.int x3), some (.int x4), some (.int x5)], [], σ) else Lq G d M_276 (12, [some (.ref 0), some (.int x1), some (.int x2), some (.int x3), some (.int x4), some (.int x5)], [], σ) :=
  (aUn_eq (tkd G.1 G.2) tmi (aRun (tkd G.1 G.2) tmi tmt d) M_276 [] 1 (9, [some (.ref 0), some (.int x1), some (.int x2), some (.int x3), some (.int x4), some (.int x5)], [.int s0, .int s1], σ)).trans rfl
set_option maxRecDepth 20000 in
theorem q_276_4336 (G : Nat × (Nat → Int32)) (d : Nat) (x1 : Int32) (x2 : Int32) (x3 : Int32) (x4 : Int32) (x5 : Int32) (σ : aH) : Lq G d M_276 (54, [some (.ref 0), some (.int x1), some (.int x2), some (.int x3), some (.int x4), some (.int x5)], [], σ) = Lq G d M_276 (56, [some (.ref 0), some (.int x1), some (.int x2), some (.int x3), some (.int x4), some (.int x5)], [.int x4], σ) :=
  (aUn_eq (tkd G.1 G.2) tmi (aRun (tkd G.1 G.2) tmi tmt d) M_276 [] 1 (54, [some (.ref 0), some (.int x1), some (.int x2), some (.int x3), some (.int x4), some (.int x5)], [], σ)).trans rfl
set_option maxRecDepth 20000 in
theorem q_276_4337 (G : Nat × (Nat → Int32)) (d : Nat) (x1 : Int32) (x2 : Int32) (x3 : Int32) (x4 : Int32) (x5 : Int32) (s0 : Int32) (σ : aH) : Lq G d M_276 (56, [some (.ref 0), some (.int x1), some (.int x2), some (.int x3), some (.int x4), some (.int x5)], [.int s0], σ) = some (.inl (some (.int s0)), σ) :=
  (aUn_eq (tkd G.1 G.2) tmi (aRun (tkd G.1 G.2) tmi tmt d) M_276 [] 1 (56, [some (.ref 0), some (.int x1), some (.int x2), some (.int x3), some (.int x4), some (.int x5)], [.int s0], σ)).trans rfl
set_option maxRecDepth 20000 in
theorem q_276_4338 (G : Nat × (Nat → Int32)) (d : Nat) (x1 : Int32) (x2 : Int32) (x3 : Int32) (x4 : Int32) (x5 : Int32) (σ : aH) : Lq G d M_276 (12, [some (.ref 0), some (.int x1), some (.int x2), some (.int x3), some (.int x4), some (.int x5)], [], σ) = Lq G d M_276 (25, [some (.ref 0), some (.int x1), some (.int x2), some (.int x3), some (.int x4), some (.int x5)], [.int ((x1 * (20 : Int32)) + x5), .ref 29, .int x4], σ) :=
  (aUn_eq (tkd G.1 G.2) tmi (aRun (tkd G.1 G.2) tmi tmt d) M_276 [] 8 (12, [some (.ref 0), some (.int x1), some (.int x2), some (.int x3), some (.int x4), some (.int x5)], [], σ)).trans rfl
set_option maxRecDepth 20000 in
theorem q_276_4339 (G : Nat × (Nat → Int32)) (d : Nat) (x1 : Int32) (x2 : Int32) (x3 : Int32) (x4 : Int32) (x5 : Int32) (s0 : Int32) (s2 : Int32) (σ : aH) : Lq G d M_276 (25, [some (.ref 0), some (.int x1), some (.int x2), some (.int x3), some (.int x4), some (.int x5)], [.int s0, .ref 29, .int s2], σ) = aCI (Rn G d 32 [.ref 29, .int s0] σ) fun v2 σ1 => Lq G d M_276 (28, [some (.ref 0), some (.int x1), some (.int x2), some (.int x3), some (.int x4), some (.int x5)], [.int v2, .int s2], σ1) :=
  (aUn_eq (tkd G.1 G.2) tmi (aRun (tkd G.1 G.2) tmi tmt d) M_276 [] 1 (25, [some (.ref 0), some (.int x1), some (.int x2), some (.int x3), some (.int x4), some (.int x5)], [.int s0, .ref 29, .int s2], σ)).trans rfl
set_option maxRecDepth 20000 in
theorem q_276_4340 (G : Nat × (Nat → Int32)) (d : Nat) (x1 : Int32) (x2 : Int32) (x3 : Int32) (x4 : Int32) (x5 : Int32) (s0 : Int32) (s1 : Int32) (σ : aH) : Lq G d M_276 (28, [some (.ref 0), some (.int x1), some (.int x2), some (.int x3), some (.int x4), some (.int x5)], [.int s0, .int s1], σ) = Lq G d M_276 (39, [some (.ref 0), some (.int x1), some (.int x2), some (.int x3), some (.int x4), some (.int x5)], [.int ((x2 * (20 : Int32)) + x5), .ref 29, .int s0, .int s1], σ) :=
  (aUn_eq (tkd G.1 G.2) tmi (aRun (tkd G.1 G.2) tmi tmt d) M_276 [] 7 (28, [some (.ref 0), some (.int x1), some (.int x2), some (.int x3), some (.int x4), some (.int x5)], [.int s0, .int s1], σ)).trans rfl
set_option maxRecDepth 20000 in
theorem q_276_4341 (G : Nat × (Nat → Int32)) (d : Nat) (x1 : Int32) (x2 : Int32) (x3 : Int32) (x4 : Int32) (x5 : Int32) (s0 : Int32) (s2 : Int32) (s3 : Int32) (σ : aH) : Lq G d M_276 (39, [some (.ref 0), some (.int x1), some (.int x2), some (.int x3), some (.int x4), some (.int x5)], [.int s0, .ref 29, .int s2, .int s3], σ) = aCI (Rn G d 32 [.ref 29, .int s0] σ) fun v2 σ1 => Lq G d M_276 (42, [some (.ref 0), some (.int x1), some (.int x2), some (.int x3), some (.int x4), some (.int x5)], [.int v2, .int s2, .int s3], σ1) :=
  (aUn_eq (tkd G.1 G.2) tmi (aRun (tkd G.1 G.2) tmi tmt d) M_276 [] 1 (39, [some (.ref 0), some (.int x1), some (.int x2), some (.int x3), some (.int x4), some (.int x5)], [.int s0, .ref 29, .int s2, .int s3], σ)).trans rfl
set_option maxRecDepth 20000 in
theorem q_276_4342 (G : Nat × (Nat → Int32)) (d : Nat) (x1 : Int32) (x2 : Int32) (x3 : Int32) (x4 : Int32) (x5 : Int32) (s0 : Int32) (s1 : Int32) (s2 : Int32) (σ : aH) : Lq G d M_276 (42, [some (.ref 0), some (.int x1), some (.int x2), some (.int x3), some (.int x4), some (.int x5)], [.int s0, .int s1, .int s2], σ) = aCI (Rn G d 234 [.int s1, .int s0] σ) fun v2 σ1 => Lq G d M_276 (45, [some (.ref 0), some (.int x1), some (.int x2), some (.int x3), some (.int x4), some (.int x5)], [.int v2, .int s2], σ1) :=
  (aUn_eq (tkd G.1 G.2) tmi (aRun (tkd G.1 G.2) tmi tmt d) M_276 [] 1 (42, [some (.ref 0), some (.int x1), some (.int x2), some (.int x3), some (.int x4), some (.int x5)], [.int s0, .int s1, .int s2], σ)).trans rfl
set_option maxRecDepth 20000 in
theorem q_276_4343 (G : Nat × (Nat → Int32)) (d : Nat) (x1 : Int32) (x2 : Int32) (x3 : Int32) (x4 : Int32) (x5 : Int32) (s0 : Int32) (s1 : Int32) (σ : aH) : Lq G d M_276 (45, [some (.ref 0), some (.int x1), some (.int x2), some (.int x3), some (.int x4), some (.int x5)], [.int s0, .int s1], σ) = Lq G d M_276 (51, [some (.ref 0), some (.int x1), some (.int x2), some (.int x3), some (.int (s1 + s0)), some (.int (x5 + (1 : Int32)))], [], σ) :=
  (aUn_eq (tkd G.1 G.2) tmi (aRun (tkd G.1 G.2) tmi tmt d) M_276 [] 3 (45, [some (.ref 0), some (.int x1), some (.int x2), some (.int x3), some (.int x4), some (.int x5)], [.int s0, .int s1], σ)).trans rfl
set_option maxRecDepth 20000 in
theorem q_276_4344 (G : Nat × (Nat → Int32)) (d : Nat) (x1 : Int32) (x2 : Int32) (x3 : Int32) (x4 : Int32) (x5 : Int32) (σ : aH) : Lq G d M_276 (51, [some (.ref 0), some (.int x1), some (.int x2), some (.int x3), some (.int x4), some (.int x5)], [], σ) = Lq G d M_276 (6, [some (.ref 0), some (.int x1), some (.int x2), some (.int x3), some (.int x4), some (.int x5)], [], σ) :=
  (aUn_eq (tkd G.1 G.2) tmi (aRun (tkd G.1 G.2) tmi tmt d) M_276 [] 1 (51, [some (.ref 0), some (.int x1), some (.int x2), some (.int x3), some (.int x4), some (.int x5)], [], σ)).trans rfl
set_option maxRecDepth 20000 in
theorem q_297_4345 (G : Nat × (Nat → Int32)) (d : Nat) (x1 : Int32) (x2 : Int32) (σ : aH) : Lq G d M_297 (0, [some (.ref 0), some (.int x1), some (.int x2)], [], σ) = Lq G d M_297 (5, [some (.ref 0), some (.int x1), some (.int x2)], [.int x1, .ref 17], σ) :=
  (aUn_eq (tkd G.1 G.2) tmi (aRun (tkd G.1 G.2) tmi tmt d) M_297 [] 3 (0, [some (.ref 0), some (.int x1), some (.int x2)], [], σ)).trans rfl
set_option maxRecDepth 20000 in
theorem q_297_4346 (G : Nat × (Nat → Int32)) (d : Nat) (x1 : Int32) (x2 : Int32) (s0 : Int32) (σ : aH) : Lq G d M_297 (5, [some (.ref 0), some (.int x1), some (.int x2)], [.int s0, .ref 17], σ) = aCI (Rn G d 220 [.ref 17, .int s0] σ) fun v2 σ1 => Lq G d M_297 (8, [some (.ref 0), some (.int x1), some (.int x2)], [.int v2], σ1) :=
  (aUn_eq (tkd G.1 G.2) tmi (aRun (tkd G.1 G.2) tmi tmt d) M_297 [] 1 (5, [some (.ref 0), some (.int x1), some (.int x2)], [.int s0, .ref 17], σ)).trans rfl
set_option maxRecDepth 20000 in
theorem q_297_4347 (G : Nat × (Nat → Int32)) (d : Nat) (x1 : Int32) (x2 : Int32) (s0 : Int32) (σ : aH) : Lq G d M_297 (8, [some (.ref 0), some (.int x1), some (.int x2)], [.int s0], σ) = if s0 = 0 then Lq G d M_297 (29, [some (.ref 0), some (.int x1), some (.int x2)], [], σ) else Lq G d M_297 (11, [some (.ref 0), some (.int x1), some (.int x2)], [], σ) :=
  (aUn_eq (tkd G.1 G.2) tmi (aRun (tkd G.1 G.2) tmi tmt d) M_297 [] 1 (8, [some (.ref 0), some (.int x1), some (.int x2)], [.int s0], σ)).trans rfl
set_option maxRecDepth 20000 in
theorem q_297_4348 (G : Nat × (Nat → Int32)) (d : Nat) (x1 : Int32) (x2 : Int32) (σ : aH) : Lq G d M_297 (29, [some (.ref 0), some (.int x1), some (.int x2)], [], σ) = Lq G d M_297 (30, [some (.ref 0), some (.int x1), some (.int x2)], [.int (0 : Int32)], σ) :=
  (aUn_eq (tkd G.1 G.2) tmi (aRun (tkd G.1 G.2) tmi tmt d) M_297 [] 1 (29, [some (.ref 0), some (.int x1), some (.int x2)], [], σ)).trans rfl
set_option maxRecDepth 20000 in
theorem q_297_4349 (G : Nat × (Nat → Int32)) (d : Nat) (x1 : Int32) (x2 : Int32) (s0 : Int32) (σ : aH) : Lq G d M_297 (30, [some (.ref 0), some (.int x1), some (.int x2)], [.int s0], σ) = aNar .boolean (s0) (some (.inl (some (.int s0)), σ)) :=
  (aUn_eq (tkd G.1 G.2) tmi (aRun (tkd G.1 G.2) tmi tmt d) M_297 [] 1 (30, [some (.ref 0), some (.int x1), some (.int x2)], [.int s0], σ)).trans rfl
set_option maxRecDepth 20000 in
theorem q_297_4350 (G : Nat × (Nat → Int32)) (d : Nat) (x1 : Int32) (x2 : Int32) (σ : aH) : Lq G d M_297 (11, [some (.ref 0), some (.int x1), some (.int x2)], [], σ) = Lq G d M_297 (18, [some (.ref 0), some (.int x1), some (.int x2)], [.int (16 : Int32), .int x1, .ref 13], σ) :=
  (aUn_eq (tkd G.1 G.2) tmi (aRun (tkd G.1 G.2) tmi tmt d) M_297 [] 4 (11, [some (.ref 0), some (.int x1), some (.int x2)], [], σ)).trans rfl
set_option maxRecDepth 20000 in
theorem q_297_4351 (G : Nat × (Nat → Int32)) (d : Nat) (x1 : Int32) (x2 : Int32) (s0 : Int32) (s1 : Int32) (σ : aH) : Lq G d M_297 (18, [some (.ref 0), some (.int x1), some (.int x2)], [.int s0, .int s1, .ref 13], σ) = aCI (Rn G d 117 [.ref 13, .int s1, .int s0] σ) fun v2 σ1 => Lq G d M_297 (21, [some (.ref 0), some (.int x1), some (.int x2)], [.int v2], σ1) :=
  (aUn_eq (tkd G.1 G.2) tmi (aRun (tkd G.1 G.2) tmi tmt d) M_297 [] 1 (18, [some (.ref 0), some (.int x1), some (.int x2)], [.int s0, .int s1, .ref 13], σ)).trans rfl
set_option maxRecDepth 20000 in
theorem q_297_4352 (G : Nat × (Nat → Int32)) (d : Nat) (x1 : Int32) (x2 : Int32) (s0 : Int32) (σ : aH) : Lq G d M_297 (21, [some (.ref 0), some (.int x1), some (.int x2)], [.int s0], σ) = Lq G d M_297 (22, [some (.ref 0), some (.int x1), some (.int x2)], [.int x2, .int s0], σ) :=
  (aUn_eq (tkd G.1 G.2) tmi (aRun (tkd G.1 G.2) tmi tmt d) M_297 [] 1 (21, [some (.ref 0), some (.int x1), some (.int x2)], [.int s0], σ)).trans rfl
set_option maxRecDepth 20000 in
theorem q_297_4353 (G : Nat × (Nat → Int32)) (d : Nat) (x1 : Int32) (x2 : Int32) (s0 : Int32) (s1 : Int32) (σ : aH) : Lq G d M_297 (22, [some (.ref 0), some (.int x1), some (.int x2)], [.int s0, .int s1], σ) = if s1 = s0 then Lq G d M_297 (25, [some (.ref 0), some (.int x1), some (.int x2)], [], σ) else Lq G d M_297 (29, [some (.ref 0), some (.int x1), some (.int x2)], [], σ) :=
  (aUn_eq (tkd G.1 G.2) tmi (aRun (tkd G.1 G.2) tmi tmt d) M_297 [] 1 (22, [some (.ref 0), some (.int x1), some (.int x2)], [.int s0, .int s1], σ)).trans rfl
set_option maxRecDepth 20000 in
theorem q_297_4354 (G : Nat × (Nat → Int32)) (d : Nat) (x1 : Int32) (x2 : Int32) (σ : aH) : Lq G d M_297 (25, [some (.ref 0), some (.int x1), some (.int x2)], [], σ) = Lq G d M_297 (30, [some (.ref 0), some (.int x1), some (.int x2)], [.int (1 : Int32)], σ) :=
  (aUn_eq (tkd G.1 G.2) tmi (aRun (tkd G.1 G.2) tmi tmt d) M_297 [] 2 (25, [some (.ref 0), some (.int x1), some (.int x2)], [], σ)).trans rfl
set_option maxRecDepth 20000 in
theorem q_303_4355 (G : Nat × (Nat → Int32)) (d : Nat) (x1 : Int32) (x2 : Int32) (σ : aH) : Lq G d M_303 (0, [some (.ref 0), some (.int x1), some (.int x2), none], [], σ) = Lq G d M_303 (2, [some (.ref 0), some (.int x1), none, some (.int x2)], [], σ) :=
  (aUn_eq (tkd G.1 G.2) tmi (aRun (tkd G.1 G.2) tmi tmt d) M_303 [] 2 (0, [some (.ref 0), some (.int x1), some (.int x2), none], [], σ)).trans rfl
set_option maxRecDepth 20000 in
theorem q_303_4356 (G : Nat × (Nat → Int32)) (d : Nat) (x1 : Int32) (x3 : Int32) (σ : aH) : Lq G d M_303 (2, [some (.ref 0), some (.int x1), none, some (.int x3)], [], σ) = Lq G d M_303 (10, [some (.ref 0), some (.int x1), none, some (.int x3)], [.int (σ.1 13 1), .int x3], σ) :=
  (aUn_eq (tkd G.1 G.2) tmi (aRun (tkd G.1 G.2) tmi tmt d) M_303 [] 4 (2, [some (.ref 0), some (.int x1), none, some (.int x3)], [], σ)).trans rfl
set_option maxRecDepth 20000 in
theorem q_303_4357 (G : Nat × (Nat → Int32)) (d : Nat) (x1 : Int32) (x3 : Int32) (s0 : Int32) (s1 : Int32) (σ : aH) : Lq G d M_303 (10, [some (.ref 0), some (.int x1), none, some (.int x3)], [.int s0, .int s1], σ) = if s0 ≤ s1 then Lq G d M_303 (43, [some (.ref 0), some (.int x1), none, some (.int x3)], [], σ) else Lq G d M_303 (13, [some (.ref 0), some (.int x1), none, some (.int x3)], [], σ) :=
  (aUn_eq (tkd G.1 G.2) tmi (aRun (tkd G.1 G.2) tmi tmt d) M_303 [] 1 (10, [some (.ref 0), some (.int x1), none, some (.int x3)], [.int s0, .int s1], σ)).trans rfl
set_option maxRecDepth 20000 in
theorem q_303_4358 (G : Nat × (Nat → Int32)) (d : Nat) (x1 : Int32) (x3 : Int32) (σ : aH) : Lq G d M_303 (43, [some (.ref 0), some (.int x1), none, some (.int x3)], [], σ) = Lq G d M_303 (45, [some (.ref 0), some (.int x1), none, some (.int x3)], [.int (60 : Int32)], σ) :=
  (aUn_eq (tkd G.1 G.2) tmi (aRun (tkd G.1 G.2) tmi tmt d) M_303 [] 1 (43, [some (.ref 0), some (.int x1), none, some (.int x3)], [], σ)).trans rfl
set_option maxRecDepth 20000 in
theorem q_303_4359 (G : Nat × (Nat → Int32)) (d : Nat) (x1 : Int32) (x3 : Int32) (s0 : Int32) (σ : aH) : Lq G d M_303 (45, [some (.ref 0), some (.int x1), none, some (.int x3)], [.int s0], σ) = some (.inl (some (.int s0)), σ) :=
  (aUn_eq (tkd G.1 G.2) tmi (aRun (tkd G.1 G.2) tmi tmt d) M_303 [] 1 (45, [some (.ref 0), some (.int x1), none, some (.int x3)], [.int s0], σ)).trans rfl
set_option maxRecDepth 20000 in
theorem q_303_4360 (G : Nat × (Nat → Int32)) (d : Nat) (x1 : Int32) (x3 : Int32) (σ : aH) : Lq G d M_303 (13, [some (.ref 0), some (.int x1), none, some (.int x3)], [], σ) = Lq G d M_303 (15, [some (.ref 0), some (.int x1), none, some (.int x3)], [.int x3, .ref 0], σ) :=
  (aUn_eq (tkd G.1 G.2) tmi (aRun (tkd G.1 G.2) tmi tmt d) M_303 [] 2 (13, [some (.ref 0), some (.int x1), none, some (.int x3)], [], σ)).trans rfl
set_option maxRecDepth 20000 in
theorem q_303_4361 (G : Nat × (Nat → Int32)) (d : Nat) (x1 : Int32) (x3 : Int32) (s0 : Int32) (σ : aH) : Lq G d M_303 (15, [some (.ref 0), some (.int x1), none, some (.int x3)], [.int s0, .ref 0], σ) = aCI (Rn G d 304 [.ref 0, .int s0] σ) fun v2 σ1 => Lq G d M_303 (18, [some (.ref 0), some (.int x1), none, some (.int x3)], [.int v2], σ1) :=
  (aUn_eq (tkd G.1 G.2) tmi (aRun (tkd G.1 G.2) tmi tmt d) M_303 [] 1 (15, [some (.ref 0), some (.int x1), none, some (.int x3)], [.int s0, .ref 0], σ)).trans rfl
set_option maxRecDepth 20000 in
theorem q_303_4362 (G : Nat × (Nat → Int32)) (d : Nat) (x1 : Int32) (x3 : Int32) (s0 : Int32) (σ : aH) : Lq G d M_303 (18, [some (.ref 0), some (.int x1), none, some (.int x3)], [.int s0], σ) = if s0 = 0 then Lq G d M_303 (37, [some (.ref 0), some (.int x1), none, some (.int x3)], [], σ) else Lq G d M_303 (21, [some (.ref 0), some (.int x1), none, some (.int x3)], [], σ) :=
  (aUn_eq (tkd G.1 G.2) tmi (aRun (tkd G.1 G.2) tmi tmt d) M_303 [] 1 (18, [some (.ref 0), some (.int x1), none, some (.int x3)], [.int s0], σ)).trans rfl
set_option maxRecDepth 20000 in
theorem q_303_4363 (G : Nat × (Nat → Int32)) (d : Nat) (x1 : Int32) (x3 : Int32) (σ : aH) : Lq G d M_303 (37, [some (.ref 0), some (.int x1), none, some (.int x3)], [], σ) = Lq G d M_303 (2, [some (.ref 0), some (.int x1), none, some (.int (x3 + (1 : Int32)))], [], σ) :=
  (aUn_eq (tkd G.1 G.2) tmi (aRun (tkd G.1 G.2) tmi tmt d) M_303 [] 2 (37, [some (.ref 0), some (.int x1), none, some (.int x3)], [], σ)).trans rfl
set_option maxRecDepth 20000 in
theorem q_303_4364 (G : Nat × (Nat → Int32)) (d : Nat) (x1 : Int32) (x3 : Int32) (σ : aH) : Lq G d M_303 (21, [some (.ref 0), some (.int x1), none, some (.int x3)], [], σ) = Lq G d M_303 (28, [some (.ref 0), some (.int x1), none, some (.int x3)], [.int (16 : Int32), .int x3, .ref 13], σ) :=
  (aUn_eq (tkd G.1 G.2) tmi (aRun (tkd G.1 G.2) tmi tmt d) M_303 [] 4 (21, [some (.ref 0), some (.int x1), none, some (.int x3)], [], σ)).trans rfl
set_option maxRecDepth 20000 in
theorem q_303_4365 (G : Nat × (Nat → Int32)) (d : Nat) (x1 : Int32) (x3 : Int32) (s0 : Int32) (s1 : Int32) (σ : aH) : Lq G d M_303 (28, [some (.ref 0), some (.int x1), none, some (.int x3)], [.int s0, .int s1, .ref 13], σ) = aCI (Rn G d 117 [.ref 13, .int s1, .int s0] σ) fun v2 σ1 => Lq G d M_303 (31, [some (.ref 0), some (.int x1), none, some (.int x3)], [.int v2], σ1) :=
  (aUn_eq (tkd G.1 G.2) tmi (aRun (tkd G.1 G.2) tmi tmt d) M_303 [] 1 (28, [some (.ref 0), some (.int x1), none, some (.int x3)], [.int s0, .int s1, .ref 13], σ)).trans rfl
set_option maxRecDepth 20000 in
theorem q_303_4366 (G : Nat × (Nat → Int32)) (d : Nat) (x1 : Int32) (x3 : Int32) (s0 : Int32) (σ : aH) : Lq G d M_303 (31, [some (.ref 0), some (.int x1), none, some (.int x3)], [.int s0], σ) = Lq G d M_303 (32, [some (.ref 0), some (.int x1), none, some (.int x3)], [.int x1, .int s0], σ) :=
  (aUn_eq (tkd G.1 G.2) tmi (aRun (tkd G.1 G.2) tmi tmt d) M_303 [] 1 (31, [some (.ref 0), some (.int x1), none, some (.int x3)], [.int s0], σ)).trans rfl
set_option maxRecDepth 20000 in
theorem q_303_4367 (G : Nat × (Nat → Int32)) (d : Nat) (x1 : Int32) (x3 : Int32) (s0 : Int32) (s1 : Int32) (σ : aH) : Lq G d M_303 (32, [some (.ref 0), some (.int x1), none, some (.int x3)], [.int s0, .int s1], σ) = if s1 = s0 then Lq G d M_303 (35, [some (.ref 0), some (.int x1), none, some (.int x3)], [], σ) else Lq G d M_303 (37, [some (.ref 0), some (.int x1), none, some (.int x3)], [], σ) :=
  (aUn_eq (tkd G.1 G.2) tmi (aRun (tkd G.1 G.2) tmi tmt d) M_303 [] 1 (32, [some (.ref 0), some (.int x1), none, some (.int x3)], [.int s0, .int s1], σ)).trans rfl
set_option maxRecDepth 20000 in
theorem q_303_4368 (G : Nat × (Nat → Int32)) (d : Nat) (x1 : Int32) (x3 : Int32) (σ : aH) : Lq G d M_303 (35, [some (.ref 0), some (.int x1), none, some (.int x3)], [], σ) = Lq G d M_303 (36, [some (.ref 0), some (.int x1), none, some (.int x3)], [.int x3], σ) :=
  (aUn_eq (tkd G.1 G.2) tmi (aRun (tkd G.1 G.2) tmi tmt d) M_303 [] 1 (35, [some (.ref 0), some (.int x1), none, some (.int x3)], [], σ)).trans rfl
set_option maxRecDepth 20000 in
theorem q_303_4369 (G : Nat × (Nat → Int32)) (d : Nat) (x1 : Int32) (x3 : Int32) (s0 : Int32) (σ : aH) : Lq G d M_303 (36, [some (.ref 0), some (.int x1), none, some (.int x3)], [.int s0], σ) = some (.inl (some (.int s0)), σ) :=
  (aUn_eq (tkd G.1 G.2) tmi (aRun (tkd G.1 G.2) tmi tmt d) M_303 [] 1 (36, [some (.ref 0), some (.int x1), none, some (.int x3)], [.int s0], σ)).trans rfl
set_option maxRecDepth 20000 in
theorem q_9_4370 (G : Nat × (Nat → Int32)) (d : Nat) (x1 : Int32) (σ : aH) : Lq G d M_9 (0, [some (.ref 1), some (.int x1)], [], σ) = Lq G d M_9 (1, [some (.ref 1), some (.int x1)], [.int x1], σ) :=
  (aUn_eq (tkd G.1 G.2) tmi (aRun (tkd G.1 G.2) tmi tmt d) M_9 [] 1 (0, [some (.ref 1), some (.int x1)], [], σ)).trans rfl
set_option maxRecDepth 20000 in
theorem q_9_4371 (G : Nat × (Nat → Int32)) (d : Nat) (x1 : Int32) (s0 : Int32) (σ : aH) : Lq G d M_9 (1, [some (.ref 1), some (.int x1)], [.int s0], σ) = if s0 < 0 then Lq G d M_9 (34, [some (.ref 1), some (.int x1)], [], σ) else Lq G d M_9 (4, [some (.ref 1), some (.int x1)], [], σ) :=
  (aUn_eq (tkd G.1 G.2) tmi (aRun (tkd G.1 G.2) tmi tmt d) M_9 [] 1 (1, [some (.ref 1), some (.int x1)], [.int s0], σ)).trans rfl
set_option maxRecDepth 20000 in
theorem q_9_4372 (G : Nat × (Nat → Int32)) (d : Nat) (x1 : Int32) (σ : aH) : Lq G d M_9 (34, [some (.ref 1), some (.int x1)], [], σ) = Lq G d M_9 (35, [some (.ref 1), some (.int x1)], [.int (0 : Int32)], σ) :=
  (aUn_eq (tkd G.1 G.2) tmi (aRun (tkd G.1 G.2) tmi tmt d) M_9 [] 1 (34, [some (.ref 1), some (.int x1)], [], σ)).trans rfl
set_option maxRecDepth 20000 in
theorem q_9_4373 (G : Nat × (Nat → Int32)) (d : Nat) (x1 : Int32) (s0 : Int32) (σ : aH) : Lq G d M_9 (35, [some (.ref 1), some (.int x1)], [.int s0], σ) = some (.inl (some (.int s0)), σ) :=
  (aUn_eq (tkd G.1 G.2) tmi (aRun (tkd G.1 G.2) tmi tmt d) M_9 [] 1 (35, [some (.ref 1), some (.int x1)], [.int s0], σ)).trans rfl
set_option maxRecDepth 20000 in
theorem q_9_4374 (G : Nat × (Nat → Int32)) (d : Nat) (x1 : Int32) (σ : aH) : Lq G d M_9 (4, [some (.ref 1), some (.int x1)], [], σ) = Lq G d M_9 (9, [some (.ref 1), some (.int x1)], [.int (σ.1 1 6), .int x1], σ) :=
  (aUn_eq (tkd G.1 G.2) tmi (aRun (tkd G.1 G.2) tmi tmt d) M_9 [] 3 (4, [some (.ref 1), some (.int x1)], [], σ)).trans rfl
set_option maxRecDepth 20000 in
theorem q_9_4375 (G : Nat × (Nat → Int32)) (d : Nat) (x1 : Int32) (s0 : Int32) (s1 : Int32) (σ : aH) : Lq G d M_9 (9, [some (.ref 1), some (.int x1)], [.int s0, .int s1], σ) = if s0 ≤ s1 then Lq G d M_9 (34, [some (.ref 1), some (.int x1)], [], σ) else Lq G d M_9 (12, [some (.ref 1), some (.int x1)], [], σ) :=
  (aUn_eq (tkd G.1 G.2) tmi (aRun (tkd G.1 G.2) tmi tmt d) M_9 [] 1 (9, [some (.ref 1), some (.int x1)], [.int s0, .int s1], σ)).trans rfl
set_option maxRecDepth 20000 in
theorem q_9_4376 (G : Nat × (Nat → Int32)) (d : Nat) (x1 : Int32) (σ : aH) : Lq G d M_9 (12, [some (.ref 1), some (.int x1)], [], σ) = Lq G d M_9 (18, [some (.ref 1), some (.int x1)], [.int (700 : Int32), .int x1], σ) :=
  (aUn_eq (tkd G.1 G.2) tmi (aRun (tkd G.1 G.2) tmi tmt d) M_9 [] 4 (12, [some (.ref 1), some (.int x1)], [], σ)).trans rfl
set_option maxRecDepth 20000 in
theorem q_9_4377 (G : Nat × (Nat → Int32)) (d : Nat) (x1 : Int32) (s0 : Int32) (s1 : Int32) (σ : aH) : Lq G d M_9 (18, [some (.ref 1), some (.int x1)], [.int s0, .int s1], σ) = if s0 ≤ s1 then Lq G d M_9 (34, [some (.ref 1), some (.int x1)], [], σ) else Lq G d M_9 (21, [some (.ref 1), some (.int x1)], [], σ) :=
  (aUn_eq (tkd G.1 G.2) tmi (aRun (tkd G.1 G.2) tmi tmt d) M_9 [] 1 (18, [some (.ref 1), some (.int x1)], [.int s0, .int s1], σ)).trans rfl
set_option maxRecDepth 20000 in
theorem q_9_4378 (G : Nat × (Nat → Int32)) (d : Nat) (x1 : Int32) (σ : aH) : Lq G d M_9 (21, [some (.ref 1), some (.int x1)], [], σ) = Lq G d M_9 (26, [some (.ref 1), some (.int x1)], [.int x1, .ref 2], σ) :=
  (aUn_eq (tkd G.1 G.2) tmi (aRun (tkd G.1 G.2) tmi tmt d) M_9 [] 3 (21, [some (.ref 1), some (.int x1)], [], σ)).trans rfl
set_option maxRecDepth 20000 in
theorem q_9_4379 (G : Nat × (Nat → Int32)) (d : Nat) (x1 : Int32) (s0 : Int32) (σ : aH) : Lq G d M_9 (26, [some (.ref 1), some (.int x1)], [.int s0, .ref 2], σ) = aIx (s0) 700 fun j1 => Lq G d M_9 (27, [some (.ref 1), some (.int x1)], [.int (σ.1 2 j1)], σ) :=
  (aUn_eq (tkd G.1 G.2) tmi (aRun (tkd G.1 G.2) tmi tmt d) M_9 [] 1 (26, [some (.ref 1), some (.int x1)], [.int s0, .ref 2], σ)).trans rfl
set_option maxRecDepth 20000 in
theorem q_9_4380 (G : Nat × (Nat → Int32)) (d : Nat) (x1 : Int32) (s0 : Int32) (σ : aH) : Lq G d M_9 (27, [some (.ref 1), some (.int x1)], [.int s0], σ) = Lq G d M_9 (35, [some (.ref 1), some (.int x1)], [.int (s0 &&& (255 : Int32))], σ) :=
  (aUn_eq (tkd G.1 G.2) tmi (aRun (tkd G.1 G.2) tmi tmt d) M_9 [] 3 (27, [some (.ref 1), some (.int x1)], [.int s0], σ)).trans rfl
set_option maxRecDepth 20000 in
theorem q_12_4381 (G : Nat × (Nat → Int32)) (d : Nat) (x1 : Int32) (σ : aH) : Lq G d M_12 (0, [some (.ref 70), some (.int x1)], [], σ) = Lq G d M_12 (3, [some (.ref 70), some (.int x1)], [.int (0 : Int32), .int x1, .ref 70], σ) :=
  (aUn_eq (tkd G.1 G.2) tmi (aRun (tkd G.1 G.2) tmi tmt d) M_12 [] 3 (0, [some (.ref 70), some (.int x1)], [], σ)).trans rfl
set_option maxRecDepth 20000 in
theorem q_12_4382 (G : Nat × (Nat → Int32)) (d : Nat) (x1 : Int32) (s0 : Int32) (s1 : Int32) (σ : aH) : Lq G d M_12 (3, [some (.ref 70), some (.int x1)], [.int s0, .int s1, .ref 70], σ) = aCI (Rn G d 13 [.ref 70, .int s1, .int s0] σ) fun v2 σ1 => Lq G d M_12 (6, [some (.ref 70), some (.int x1)], [.int v2], σ1) :=
  (aUn_eq (tkd G.1 G.2) tmi (aRun (tkd G.1 G.2) tmi tmt d) M_12 [] 1 (3, [some (.ref 70), some (.int x1)], [.int s0, .int s1, .ref 70], σ)).trans rfl
set_option maxRecDepth 20000 in
theorem q_12_4383 (G : Nat × (Nat → Int32)) (d : Nat) (x1 : Int32) (s0 : Int32) (σ : aH) : Lq G d M_12 (6, [some (.ref 70), some (.int x1)], [.int s0], σ) = some (.inl (some (.int s0)), σ) :=
  (aUn_eq (tkd G.1 G.2) tmi (aRun (tkd G.1 G.2) tmi tmt d) M_12 [] 1 (6, [some (.ref 70), some (.int x1)], [.int s0], σ)).trans rfl
set_option maxRecDepth 20000 in
theorem q_12_4384 (G : Nat × (Nat → Int32)) (d : Nat) (x1 : Int32) (σ : aH) : Lq G d M_12 (0, [some (.ref 72), some (.int x1)], [], σ) = Lq G d M_12 (3, [some (.ref 72), some (.int x1)], [.int (0 : Int32), .int x1, .ref 72], σ) :=
  (aUn_eq (tkd G.1 G.2) tmi (aRun (tkd G.1 G.2) tmi tmt d) M_12 [] 3 (0, [some (.ref 72), some (.int x1)], [], σ)).trans rfl
set_option maxRecDepth 20000 in
theorem q_12_4385 (G : Nat × (Nat → Int32)) (d : Nat) (x1 : Int32) (s0 : Int32) (s1 : Int32) (σ : aH) : Lq G d M_12 (3, [some (.ref 72), some (.int x1)], [.int s0, .int s1, .ref 72], σ) = aCI (Rn G d 13 [.ref 72, .int s1, .int s0] σ) fun v2 σ1 => Lq G d M_12 (6, [some (.ref 72), some (.int x1)], [.int v2], σ1) :=
  (aUn_eq (tkd G.1 G.2) tmi (aRun (tkd G.1 G.2) tmi tmt d) M_12 [] 1 (3, [some (.ref 72), some (.int x1)], [.int s0, .int s1, .ref 72], σ)).trans rfl
set_option maxRecDepth 20000 in
theorem q_12_4386 (G : Nat × (Nat → Int32)) (d : Nat) (x1 : Int32) (s0 : Int32) (σ : aH) : Lq G d M_12 (6, [some (.ref 72), some (.int x1)], [.int s0], σ) = some (.inl (some (.int s0)), σ) :=
  (aUn_eq (tkd G.1 G.2) tmi (aRun (tkd G.1 G.2) tmi tmt d) M_12 [] 1 (6, [some (.ref 72), some (.int x1)], [.int s0], σ)).trans rfl
set_option maxRecDepth 20000 in
theorem q_12_4387 (G : Nat × (Nat → Int32)) (d : Nat) (x1 : Int32) (σ : aH) : Lq G d M_12 (0, [some (.ref 74), some (.int x1)], [], σ) = Lq G d M_12 (3, [some (.ref 74), some (.int x1)], [.int (0 : Int32), .int x1, .ref 74], σ) :=
  (aUn_eq (tkd G.1 G.2) tmi (aRun (tkd G.1 G.2) tmi tmt d) M_12 [] 3 (0, [some (.ref 74), some (.int x1)], [], σ)).trans rfl
set_option maxRecDepth 20000 in
theorem q_12_4388 (G : Nat × (Nat → Int32)) (d : Nat) (x1 : Int32) (s0 : Int32) (s1 : Int32) (σ : aH) : Lq G d M_12 (3, [some (.ref 74), some (.int x1)], [.int s0, .int s1, .ref 74], σ) = aCI (Rn G d 13 [.ref 74, .int s1, .int s0] σ) fun v2 σ1 => Lq G d M_12 (6, [some (.ref 74), some (.int x1)], [.int v2], σ1) :=
  (aUn_eq (tkd G.1 G.2) tmi (aRun (tkd G.1 G.2) tmi tmt d) M_12 [] 1 (3, [some (.ref 74), some (.int x1)], [.int s0, .int s1, .ref 74], σ)).trans rfl
set_option maxRecDepth 20000 in
theorem q_12_4389 (G : Nat × (Nat → Int32)) (d : Nat) (x1 : Int32) (s0 : Int32) (σ : aH) : Lq G d M_12 (6, [some (.ref 74), some (.int x1)], [.int s0], σ) = some (.inl (some (.int s0)), σ) :=
  (aUn_eq (tkd G.1 G.2) tmi (aRun (tkd G.1 G.2) tmi tmt d) M_12 [] 1 (6, [some (.ref 74), some (.int x1)], [.int s0], σ)).trans rfl
set_option maxRecDepth 20000 in
theorem q_12_4390 (G : Nat × (Nat → Int32)) (d : Nat) (x1 : Int32) (σ : aH) : Lq G d M_12 (0, [some (.ref 76), some (.int x1)], [], σ) = Lq G d M_12 (3, [some (.ref 76), some (.int x1)], [.int (0 : Int32), .int x1, .ref 76], σ) :=
  (aUn_eq (tkd G.1 G.2) tmi (aRun (tkd G.1 G.2) tmi tmt d) M_12 [] 3 (0, [some (.ref 76), some (.int x1)], [], σ)).trans rfl
set_option maxRecDepth 20000 in
theorem q_12_4391 (G : Nat × (Nat → Int32)) (d : Nat) (x1 : Int32) (s0 : Int32) (s1 : Int32) (σ : aH) : Lq G d M_12 (3, [some (.ref 76), some (.int x1)], [.int s0, .int s1, .ref 76], σ) = aCI (Rn G d 13 [.ref 76, .int s1, .int s0] σ) fun v2 σ1 => Lq G d M_12 (6, [some (.ref 76), some (.int x1)], [.int v2], σ1) :=
  (aUn_eq (tkd G.1 G.2) tmi (aRun (tkd G.1 G.2) tmi tmt d) M_12 [] 1 (3, [some (.ref 76), some (.int x1)], [.int s0, .int s1, .ref 76], σ)).trans rfl
set_option maxRecDepth 20000 in
theorem q_12_4392 (G : Nat × (Nat → Int32)) (d : Nat) (x1 : Int32) (s0 : Int32) (σ : aH) : Lq G d M_12 (6, [some (.ref 76), some (.int x1)], [.int s0], σ) = some (.inl (some (.int s0)), σ) :=
  (aUn_eq (tkd G.1 G.2) tmi (aRun (tkd G.1 G.2) tmi tmt d) M_12 [] 1 (6, [some (.ref 76), some (.int x1)], [.int s0], σ)).trans rfl
set_option maxRecDepth 20000 in
theorem q_12_4393 (G : Nat × (Nat → Int32)) (d : Nat) (x1 : Int32) (σ : aH) : Lq G d M_12 (0, [some (.ref 78), some (.int x1)], [], σ) = Lq G d M_12 (3, [some (.ref 78), some (.int x1)], [.int (0 : Int32), .int x1, .ref 78], σ) :=
  (aUn_eq (tkd G.1 G.2) tmi (aRun (tkd G.1 G.2) tmi tmt d) M_12 [] 3 (0, [some (.ref 78), some (.int x1)], [], σ)).trans rfl
set_option maxRecDepth 20000 in
theorem q_12_4394 (G : Nat × (Nat → Int32)) (d : Nat) (x1 : Int32) (s0 : Int32) (s1 : Int32) (σ : aH) : Lq G d M_12 (3, [some (.ref 78), some (.int x1)], [.int s0, .int s1, .ref 78], σ) = aCI (Rn G d 13 [.ref 78, .int s1, .int s0] σ) fun v2 σ1 => Lq G d M_12 (6, [some (.ref 78), some (.int x1)], [.int v2], σ1) :=
  (aUn_eq (tkd G.1 G.2) tmi (aRun (tkd G.1 G.2) tmi tmt d) M_12 [] 1 (3, [some (.ref 78), some (.int x1)], [.int s0, .int s1, .ref 78], σ)).trans rfl
set_option maxRecDepth 20000 in
theorem q_12_4395 (G : Nat × (Nat → Int32)) (d : Nat) (x1 : Int32) (s0 : Int32) (σ : aH) : Lq G d M_12 (6, [some (.ref 78), some (.int x1)], [.int s0], σ) = some (.inl (some (.int s0)), σ) :=
  (aUn_eq (tkd G.1 G.2) tmi (aRun (tkd G.1 G.2) tmi tmt d) M_12 [] 1 (6, [some (.ref 78), some (.int x1)], [.int s0], σ)).trans rfl
set_option maxRecDepth 20000 in
theorem q_12_4396 (G : Nat × (Nat → Int32)) (d : Nat) (x1 : Int32) (σ : aH) : Lq G d M_12 (0, [some (.ref 80), some (.int x1)], [], σ) = Lq G d M_12 (3, [some (.ref 80), some (.int x1)], [.int (0 : Int32), .int x1, .ref 80], σ) :=
  (aUn_eq (tkd G.1 G.2) tmi (aRun (tkd G.1 G.2) tmi tmt d) M_12 [] 3 (0, [some (.ref 80), some (.int x1)], [], σ)).trans rfl
set_option maxRecDepth 20000 in
theorem q_12_4397 (G : Nat × (Nat → Int32)) (d : Nat) (x1 : Int32) (s0 : Int32) (s1 : Int32) (σ : aH) : Lq G d M_12 (3, [some (.ref 80), some (.int x1)], [.int s0, .int s1, .ref 80], σ) = aCI (Rn G d 13 [.ref 80, .int s1, .int s0] σ) fun v2 σ1 => Lq G d M_12 (6, [some (.ref 80), some (.int x1)], [.int v2], σ1) :=
  (aUn_eq (tkd G.1 G.2) tmi (aRun (tkd G.1 G.2) tmi tmt d) M_12 [] 1 (3, [some (.ref 80), some (.int x1)], [.int s0, .int s1, .ref 80], σ)).trans rfl
set_option maxRecDepth 20000 in
theorem q_12_4398 (G : Nat × (Nat → Int32)) (d : Nat) (x1 : Int32) (s0 : Int32) (σ : aH) : Lq G d M_12 (6, [some (.ref 80), some (.int x1)], [.int s0], σ) = some (.inl (some (.int s0)), σ) :=
  (aUn_eq (tkd G.1 G.2) tmi (aRun (tkd G.1 G.2) tmi tmt d) M_12 [] 1 (6, [some (.ref 80), some (.int x1)], [.int s0], σ)).trans rfl
set_option maxRecDepth 20000 in
theorem q_12_4399 (G : Nat × (Nat → Int32)) (d : Nat) (x1 : Int32) (σ : aH) : Lq G d M_12 (0, [some (.ref 82), some (.int x1)], [], σ) = Lq G d M_12 (3, [some (.ref 82), some (.int x1)], [.int (0 : Int32), .int x1, .ref 82], σ) :=
  (aUn_eq (tkd G.1 G.2) tmi (aRun (tkd G.1 G.2) tmi tmt d) M_12 [] 3 (0, [some (.ref 82), some (.int x1)], [], σ)).trans rfl
set_option maxRecDepth 20000 in
theorem q_12_4400 (G : Nat × (Nat → Int32)) (d : Nat) (x1 : Int32) (s0 : Int32) (s1 : Int32) (σ : aH) : Lq G d M_12 (3, [some (.ref 82), some (.int x1)], [.int s0, .int s1, .ref 82], σ) = aCI (Rn G d 13 [.ref 82, .int s1, .int s0] σ) fun v2 σ1 => Lq G d M_12 (6, [some (.ref 82), some (.int x1)], [.int v2], σ1) :=
  (aUn_eq (tkd G.1 G.2) tmi (aRun (tkd G.1 G.2) tmi tmt d) M_12 [] 1 (3, [some (.ref 82), some (.int x1)], [.int s0, .int s1, .ref 82], σ)).trans rfl
set_option maxRecDepth 20000 in
theorem q_12_4401 (G : Nat × (Nat → Int32)) (d : Nat) (x1 : Int32) (s0 : Int32) (σ : aH) : Lq G d M_12 (6, [some (.ref 82), some (.int x1)], [.int s0], σ) = some (.inl (some (.int s0)), σ) :=
  (aUn_eq (tkd G.1 G.2) tmi (aRun (tkd G.1 G.2) tmi tmt d) M_12 [] 1 (6, [some (.ref 82), some (.int x1)], [.int s0], σ)).trans rfl
set_option maxRecDepth 20000 in
theorem q_12_4402 (G : Nat × (Nat → Int32)) (d : Nat) (x1 : Int32) (σ : aH) : Lq G d M_12 (0, [some (.ref 84), some (.int x1)], [], σ) = Lq G d M_12 (3, [some (.ref 84), some (.int x1)], [.int (0 : Int32), .int x1, .ref 84], σ) :=
  (aUn_eq (tkd G.1 G.2) tmi (aRun (tkd G.1 G.2) tmi tmt d) M_12 [] 3 (0, [some (.ref 84), some (.int x1)], [], σ)).trans rfl
set_option maxRecDepth 20000 in
theorem q_12_4403 (G : Nat × (Nat → Int32)) (d : Nat) (x1 : Int32) (s0 : Int32) (s1 : Int32) (σ : aH) : Lq G d M_12 (3, [some (.ref 84), some (.int x1)], [.int s0, .int s1, .ref 84], σ) = aCI (Rn G d 13 [.ref 84, .int s1, .int s0] σ) fun v2 σ1 => Lq G d M_12 (6, [some (.ref 84), some (.int x1)], [.int v2], σ1) :=
  (aUn_eq (tkd G.1 G.2) tmi (aRun (tkd G.1 G.2) tmi tmt d) M_12 [] 1 (3, [some (.ref 84), some (.int x1)], [.int s0, .int s1, .ref 84], σ)).trans rfl
set_option maxRecDepth 20000 in
theorem q_12_4404 (G : Nat × (Nat → Int32)) (d : Nat) (x1 : Int32) (s0 : Int32) (σ : aH) : Lq G d M_12 (6, [some (.ref 84), some (.int x1)], [.int s0], σ) = some (.inl (some (.int s0)), σ) :=
  (aUn_eq (tkd G.1 G.2) tmi (aRun (tkd G.1 G.2) tmi tmt d) M_12 [] 1 (6, [some (.ref 84), some (.int x1)], [.int s0], σ)).trans rfl
set_option maxRecDepth 20000 in
theorem q_12_4405 (G : Nat × (Nat → Int32)) (d : Nat) (x1 : Int32) (σ : aH) : Lq G d M_12 (0, [some (.ref 86), some (.int x1)], [], σ) = Lq G d M_12 (3, [some (.ref 86), some (.int x1)], [.int (0 : Int32), .int x1, .ref 86], σ) :=
  (aUn_eq (tkd G.1 G.2) tmi (aRun (tkd G.1 G.2) tmi tmt d) M_12 [] 3 (0, [some (.ref 86), some (.int x1)], [], σ)).trans rfl
set_option maxRecDepth 20000 in
theorem q_12_4406 (G : Nat × (Nat → Int32)) (d : Nat) (x1 : Int32) (s0 : Int32) (s1 : Int32) (σ : aH) : Lq G d M_12 (3, [some (.ref 86), some (.int x1)], [.int s0, .int s1, .ref 86], σ) = aCI (Rn G d 13 [.ref 86, .int s1, .int s0] σ) fun v2 σ1 => Lq G d M_12 (6, [some (.ref 86), some (.int x1)], [.int v2], σ1) :=
  (aUn_eq (tkd G.1 G.2) tmi (aRun (tkd G.1 G.2) tmi tmt d) M_12 [] 1 (3, [some (.ref 86), some (.int x1)], [.int s0, .int s1, .ref 86], σ)).trans rfl
set_option maxRecDepth 20000 in
theorem q_12_4407 (G : Nat × (Nat → Int32)) (d : Nat) (x1 : Int32) (s0 : Int32) (σ : aH) : Lq G d M_12 (6, [some (.ref 86), some (.int x1)], [.int s0], σ) = some (.inl (some (.int s0)), σ) :=
  (aUn_eq (tkd G.1 G.2) tmi (aRun (tkd G.1 G.2) tmi tmt d) M_12 [] 1 (6, [some (.ref 86), some (.int x1)], [.int s0], σ)).trans rfl
set_option maxRecDepth 20000 in
theorem q_12_4408 (G : Nat × (Nat → Int32)) (d : Nat) (x1 : Int32) (σ : aH) : Lq G d M_12 (0, [some (.ref 88), some (.int x1)], [], σ) = Lq G d M_12 (3, [some (.ref 88), some (.int x1)], [.int (0 : Int32), .int x1, .ref 88], σ) :=
  (aUn_eq (tkd G.1 G.2) tmi (aRun (tkd G.1 G.2) tmi tmt d) M_12 [] 3 (0, [some (.ref 88), some (.int x1)], [], σ)).trans rfl
set_option maxRecDepth 20000 in
theorem q_12_4409 (G : Nat × (Nat → Int32)) (d : Nat) (x1 : Int32) (s0 : Int32) (s1 : Int32) (σ : aH) : Lq G d M_12 (3, [some (.ref 88), some (.int x1)], [.int s0, .int s1, .ref 88], σ) = aCI (Rn G d 13 [.ref 88, .int s1, .int s0] σ) fun v2 σ1 => Lq G d M_12 (6, [some (.ref 88), some (.int x1)], [.int v2], σ1) :=
  (aUn_eq (tkd G.1 G.2) tmi (aRun (tkd G.1 G.2) tmi tmt d) M_12 [] 1 (3, [some (.ref 88), some (.int x1)], [.int s0, .int s1, .ref 88], σ)).trans rfl
