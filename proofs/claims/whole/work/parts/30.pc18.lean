/-! ===== the methods in pieces, as equations (by wip/gen/emit_eqs2.py) ===== -/
set_option maxRecDepth 20000 in
theorem q_70_5065 (G : Nat × (Nat → Int32)) (d : Nat) (x0 : Int32) (s0 : Int32) (s1 : Int32) (s2 : Int32) (s3 : Int32) (s4 : Int32) (s5 : Int32) (s6 : Int32) (σ : aH) : Lq G d M_70 (479, [some (.int x0)], [.int s0, .int s1, .int s2, .int s3, .int s4, .int s5, .int s6], σ) = aCL (Rn G d 71 [.int s6, .int s5, .int s4, .int s3, .int s2, .int s1, .int s0] σ) fun v2 σ1 => Lq G d M_70 (482, [some (.int x0)], [.long v2], σ1) :=
  (aUn_eq (tkd G.1 G.2) tmi (aRun (tkd G.1 G.2) tmi tmt d) M_70 [] 1 (479, [some (.int x0)], [.int s0, .int s1, .int s2, .int s3, .int s4, .int s5, .int s6], σ)).trans rfl
set_option maxRecDepth 20000 in
theorem q_70_5066 (G : Nat × (Nat → Int32)) (d : Nat) (x0 : Int32) (s0 : Int64) (σ : aH) : Lq G d M_70 (482, [some (.int x0)], [.long s0], σ) = some (.inl (some (.long s0)), σ) :=
  (aUn_eq (tkd G.1 G.2) tmi (aRun (tkd G.1 G.2) tmi tmt d) M_70 [] 1 (482, [some (.int x0)], [.long s0], σ)).trans rfl
set_option maxRecDepth 20000 in
theorem q_70_5067 (G : Nat × (Nat → Int32)) (d : Nat) (x0 : Int32) (σ : aH) : Lq G d M_70 (483, [some (.int x0)], [], σ) = Lq G d M_70 (496, [some (.int x0)], [.int (0 : Int32), .int (100 : Int32), .int (101 : Int32), .int (110 : Int32), .int (114 : Int32), .int (117 : Int32), .int (116 : Int32)], σ) :=
  (aUn_eq (tkd G.1 G.2) tmi (aRun (tkd G.1 G.2) tmi tmt d) M_70 [] 7 (483, [some (.int x0)], [], σ)).trans rfl
set_option maxRecDepth 20000 in
theorem q_70_5068 (G : Nat × (Nat → Int32)) (d : Nat) (x0 : Int32) (s0 : Int32) (s1 : Int32) (s2 : Int32) (s3 : Int32) (s4 : Int32) (s5 : Int32) (s6 : Int32) (σ : aH) : Lq G d M_70 (496, [some (.int x0)], [.int s0, .int s1, .int s2, .int s3, .int s4, .int s5, .int s6], σ) = aCL (Rn G d 71 [.int s6, .int s5, .int s4, .int s3, .int s2, .int s1, .int s0] σ) fun v2 σ1 => Lq G d M_70 (499, [some (.int x0)], [.long v2], σ1) :=
  (aUn_eq (tkd G.1 G.2) tmi (aRun (tkd G.1 G.2) tmi tmt d) M_70 [] 1 (496, [some (.int x0)], [.int s0, .int s1, .int s2, .int s3, .int s4, .int s5, .int s6], σ)).trans rfl
set_option maxRecDepth 20000 in
theorem q_70_5069 (G : Nat × (Nat → Int32)) (d : Nat) (x0 : Int32) (s0 : Int64) (σ : aH) : Lq G d M_70 (499, [some (.int x0)], [.long s0], σ) = some (.inl (some (.long s0)), σ) :=
  (aUn_eq (tkd G.1 G.2) tmi (aRun (tkd G.1 G.2) tmi tmt d) M_70 [] 1 (499, [some (.int x0)], [.long s0], σ)).trans rfl
set_option maxRecDepth 20000 in
theorem q_70_5070 (G : Nat × (Nat → Int32)) (d : Nat) (x0 : Int32) (σ : aH) : Lq G d M_70 (500, [some (.int x0)], [], σ) = Lq G d M_70 (512, [some (.int x0)], [.int (0 : Int32), .int (0 : Int32), .int (101 : Int32), .int (100 : Int32), .int (105 : Int32), .int (115 : Int32), .int (97 : Int32)], σ) :=
  (aUn_eq (tkd G.1 G.2) tmi (aRun (tkd G.1 G.2) tmi tmt d) M_70 [] 7 (500, [some (.int x0)], [], σ)).trans rfl
set_option maxRecDepth 20000 in
theorem q_70_5071 (G : Nat × (Nat → Int32)) (d : Nat) (x0 : Int32) (s0 : Int32) (s1 : Int32) (s2 : Int32) (s3 : Int32) (s4 : Int32) (s5 : Int32) (s6 : Int32) (σ : aH) : Lq G d M_70 (512, [some (.int x0)], [.int s0, .int s1, .int s2, .int s3, .int s4, .int s5, .int s6], σ) = aCL (Rn G d 71 [.int s6, .int s5, .int s4, .int s3, .int s2, .int s1, .int s0] σ) fun v2 σ1 => Lq G d M_70 (515, [some (.int x0)], [.long v2], σ1) :=
  (aUn_eq (tkd G.1 G.2) tmi (aRun (tkd G.1 G.2) tmi tmt d) M_70 [] 1 (512, [some (.int x0)], [.int s0, .int s1, .int s2, .int s3, .int s4, .int s5, .int s6], σ)).trans rfl
set_option maxRecDepth 20000 in
theorem q_70_5072 (G : Nat × (Nat → Int32)) (d : Nat) (x0 : Int32) (s0 : Int64) (σ : aH) : Lq G d M_70 (515, [some (.int x0)], [.long s0], σ) = some (.inl (some (.long s0)), σ) :=
  (aUn_eq (tkd G.1 G.2) tmi (aRun (tkd G.1 G.2) tmi tmt d) M_70 [] 1 (515, [some (.int x0)], [.long s0], σ)).trans rfl
set_option maxRecDepth 20000 in
theorem q_70_5073 (G : Nat × (Nat → Int32)) (d : Nat) (x0 : Int32) (σ : aH) : Lq G d M_70 (516, [some (.int x0)], [], σ) = Lq G d M_70 (528, [some (.int x0)], [.int (0 : Int32), .int (0 : Int32), .int (107 : Int32), .int (99 : Int32), .int (105 : Int32), .int (116 : Int32), .int (115 : Int32)], σ) :=
  (aUn_eq (tkd G.1 G.2) tmi (aRun (tkd G.1 G.2) tmi tmt d) M_70 [] 7 (516, [some (.int x0)], [], σ)).trans rfl
set_option maxRecDepth 20000 in
theorem q_70_5074 (G : Nat × (Nat → Int32)) (d : Nat) (x0 : Int32) (s0 : Int32) (s1 : Int32) (s2 : Int32) (s3 : Int32) (s4 : Int32) (s5 : Int32) (s6 : Int32) (σ : aH) : Lq G d M_70 (528, [some (.int x0)], [.int s0, .int s1, .int s2, .int s3, .int s4, .int s5, .int s6], σ) = aCL (Rn G d 71 [.int s6, .int s5, .int s4, .int s3, .int s2, .int s1, .int s0] σ) fun v2 σ1 => Lq G d M_70 (531, [some (.int x0)], [.long v2], σ1) :=
  (aUn_eq (tkd G.1 G.2) tmi (aRun (tkd G.1 G.2) tmi tmt d) M_70 [] 1 (528, [some (.int x0)], [.int s0, .int s1, .int s2, .int s3, .int s4, .int s5, .int s6], σ)).trans rfl
set_option maxRecDepth 20000 in
theorem q_70_5075 (G : Nat × (Nat → Int32)) (d : Nat) (x0 : Int32) (s0 : Int64) (σ : aH) : Lq G d M_70 (531, [some (.int x0)], [.long s0], σ) = some (.inl (some (.long s0)), σ) :=
  (aUn_eq (tkd G.1 G.2) tmi (aRun (tkd G.1 G.2) tmi tmt d) M_70 [] 1 (531, [some (.int x0)], [.long s0], σ)).trans rfl
set_option maxRecDepth 20000 in
theorem q_70_5076 (G : Nat × (Nat → Int32)) (d : Nat) (x0 : Int32) (σ : aH) : Lq G d M_70 (532, [some (.int x0)], [], σ) = Lq G d M_70 (542, [some (.int x0)], [.int (0 : Int32), .int (0 : Int32), .int (0 : Int32), .int (0 : Int32), .int (112 : Int32), .int (111 : Int32), .int (116 : Int32)], σ) :=
  (aUn_eq (tkd G.1 G.2) tmi (aRun (tkd G.1 G.2) tmi tmt d) M_70 [] 7 (532, [some (.int x0)], [], σ)).trans rfl
set_option maxRecDepth 20000 in
theorem q_70_5077 (G : Nat × (Nat → Int32)) (d : Nat) (x0 : Int32) (s0 : Int32) (s1 : Int32) (s2 : Int32) (s3 : Int32) (s4 : Int32) (s5 : Int32) (s6 : Int32) (σ : aH) : Lq G d M_70 (542, [some (.int x0)], [.int s0, .int s1, .int s2, .int s3, .int s4, .int s5, .int s6], σ) = aCL (Rn G d 71 [.int s6, .int s5, .int s4, .int s3, .int s2, .int s1, .int s0] σ) fun v2 σ1 => Lq G d M_70 (545, [some (.int x0)], [.long v2], σ1) :=
  (aUn_eq (tkd G.1 G.2) tmi (aRun (tkd G.1 G.2) tmi tmt d) M_70 [] 1 (542, [some (.int x0)], [.int s0, .int s1, .int s2, .int s3, .int s4, .int s5, .int s6], σ)).trans rfl
set_option maxRecDepth 20000 in
theorem q_70_5078 (G : Nat × (Nat → Int32)) (d : Nat) (x0 : Int32) (s0 : Int64) (σ : aH) : Lq G d M_70 (545, [some (.int x0)], [.long s0], σ) = some (.inl (some (.long s0)), σ) :=
  (aUn_eq (tkd G.1 G.2) tmi (aRun (tkd G.1 G.2) tmi tmt d) M_70 [] 1 (545, [some (.int x0)], [.long s0], σ)).trans rfl
set_option maxRecDepth 20000 in
theorem q_70_5079 (G : Nat × (Nat → Int32)) (d : Nat) (x0 : Int32) (σ : aH) : Lq G d M_70 (546, [some (.int x0)], [], σ) = Lq G d M_70 (556, [some (.int x0)], [.int (0 : Int32), .int (0 : Int32), .int (0 : Int32), .int (0 : Int32), .int (119 : Int32), .int (97 : Int32), .int (108 : Int32)], σ) :=
  (aUn_eq (tkd G.1 G.2) tmi (aRun (tkd G.1 G.2) tmi tmt d) M_70 [] 7 (546, [some (.int x0)], [], σ)).trans rfl
set_option maxRecDepth 20000 in
theorem q_70_5080 (G : Nat × (Nat → Int32)) (d : Nat) (x0 : Int32) (s0 : Int32) (s1 : Int32) (s2 : Int32) (s3 : Int32) (s4 : Int32) (s5 : Int32) (s6 : Int32) (σ : aH) : Lq G d M_70 (556, [some (.int x0)], [.int s0, .int s1, .int s2, .int s3, .int s4, .int s5, .int s6], σ) = aCL (Rn G d 71 [.int s6, .int s5, .int s4, .int s3, .int s2, .int s1, .int s0] σ) fun v2 σ1 => Lq G d M_70 (559, [some (.int x0)], [.long v2], σ1) :=
  (aUn_eq (tkd G.1 G.2) tmi (aRun (tkd G.1 G.2) tmi tmt d) M_70 [] 1 (556, [some (.int x0)], [.int s0, .int s1, .int s2, .int s3, .int s4, .int s5, .int s6], σ)).trans rfl
set_option maxRecDepth 20000 in
theorem q_70_5081 (G : Nat × (Nat → Int32)) (d : Nat) (x0 : Int32) (s0 : Int64) (σ : aH) : Lq G d M_70 (559, [some (.int x0)], [.long s0], σ) = some (.inl (some (.long s0)), σ) :=
  (aUn_eq (tkd G.1 G.2) tmi (aRun (tkd G.1 G.2) tmi tmt d) M_70 [] 1 (559, [some (.int x0)], [.long s0], σ)).trans rfl
set_option maxRecDepth 20000 in
theorem q_70_5082 (G : Nat × (Nat → Int32)) (d : Nat) (x0 : Int32) (σ : aH) : Lq G d M_70 (560, [some (.int x0)], [], σ) = Lq G d M_70 (572, [some (.int x0)], [.int (0 : Int32), .int (0 : Int32), .int (115 : Int32), .int (110 : Int32), .int (97 : Int32), .int (112 : Int32), .int (115 : Int32)], σ) :=
  (aUn_eq (tkd G.1 G.2) tmi (aRun (tkd G.1 G.2) tmi tmt d) M_70 [] 7 (560, [some (.int x0)], [], σ)).trans rfl
set_option maxRecDepth 20000 in
theorem q_70_5083 (G : Nat × (Nat → Int32)) (d : Nat) (x0 : Int32) (s0 : Int32) (s1 : Int32) (s2 : Int32) (s3 : Int32) (s4 : Int32) (s5 : Int32) (s6 : Int32) (σ : aH) : Lq G d M_70 (572, [some (.int x0)], [.int s0, .int s1, .int s2, .int s3, .int s4, .int s5, .int s6], σ) = aCL (Rn G d 71 [.int s6, .int s5, .int s4, .int s3, .int s2, .int s1, .int s0] σ) fun v2 σ1 => Lq G d M_70 (575, [some (.int x0)], [.long v2], σ1) :=
  (aUn_eq (tkd G.1 G.2) tmi (aRun (tkd G.1 G.2) tmi tmt d) M_70 [] 1 (572, [some (.int x0)], [.int s0, .int s1, .int s2, .int s3, .int s4, .int s5, .int s6], σ)).trans rfl
set_option maxRecDepth 20000 in
theorem q_70_5084 (G : Nat × (Nat → Int32)) (d : Nat) (x0 : Int32) (s0 : Int64) (σ : aH) : Lq G d M_70 (575, [some (.int x0)], [.long s0], σ) = some (.inl (some (.long s0)), σ) :=
  (aUn_eq (tkd G.1 G.2) tmi (aRun (tkd G.1 G.2) tmi tmt d) M_70 [] 1 (575, [some (.int x0)], [.long s0], σ)).trans rfl
set_option maxRecDepth 20000 in
theorem q_70_5085 (G : Nat × (Nat → Int32)) (d : Nat) (x0 : Int32) (σ : aH) : Lq G d M_70 (576, [some (.int x0)], [], σ) = Lq G d M_70 (587, [some (.int x0)], [.int (0 : Int32), .int (0 : Int32), .int (0 : Int32), .int (115 : Int32), .int (100 : Int32), .int (100 : Int32), .int (111 : Int32)], σ) :=
  (aUn_eq (tkd G.1 G.2) tmi (aRun (tkd G.1 G.2) tmi tmt d) M_70 [] 7 (576, [some (.int x0)], [], σ)).trans rfl
set_option maxRecDepth 20000 in
theorem q_70_5086 (G : Nat × (Nat → Int32)) (d : Nat) (x0 : Int32) (s0 : Int32) (s1 : Int32) (s2 : Int32) (s3 : Int32) (s4 : Int32) (s5 : Int32) (s6 : Int32) (σ : aH) : Lq G d M_70 (587, [some (.int x0)], [.int s0, .int s1, .int s2, .int s3, .int s4, .int s5, .int s6], σ) = aCL (Rn G d 71 [.int s6, .int s5, .int s4, .int s3, .int s2, .int s1, .int s0] σ) fun v2 σ1 => Lq G d M_70 (590, [some (.int x0)], [.long v2], σ1) :=
  (aUn_eq (tkd G.1 G.2) tmi (aRun (tkd G.1 G.2) tmi tmt d) M_70 [] 1 (587, [some (.int x0)], [.int s0, .int s1, .int s2, .int s3, .int s4, .int s5, .int s6], σ)).trans rfl
set_option maxRecDepth 20000 in
theorem q_70_5087 (G : Nat × (Nat → Int32)) (d : Nat) (x0 : Int32) (s0 : Int64) (σ : aH) : Lq G d M_70 (590, [some (.int x0)], [.long s0], σ) = some (.inl (some (.long s0)), σ) :=
  (aUn_eq (tkd G.1 G.2) tmi (aRun (tkd G.1 G.2) tmi tmt d) M_70 [] 1 (590, [some (.int x0)], [.long s0], σ)).trans rfl
set_option maxRecDepth 20000 in
theorem q_70_5088 (G : Nat × (Nat → Int32)) (d : Nat) (x0 : Int32) (σ : aH) : Lq G d M_70 (591, [some (.int x0)], [], σ) = Lq G d M_70 (601, [some (.int x0)], [.int (0 : Int32), .int (0 : Int32), .int (0 : Int32), .int (0 : Int32), .int (111 : Int32), .int (119 : Int32), .int (116 : Int32)], σ) :=
  (aUn_eq (tkd G.1 G.2) tmi (aRun (tkd G.1 G.2) tmi tmt d) M_70 [] 7 (591, [some (.int x0)], [], σ)).trans rfl
set_option maxRecDepth 20000 in
theorem q_70_5089 (G : Nat × (Nat → Int32)) (d : Nat) (x0 : Int32) (s0 : Int32) (s1 : Int32) (s2 : Int32) (s3 : Int32) (s4 : Int32) (s5 : Int32) (s6 : Int32) (σ : aH) : Lq G d M_70 (601, [some (.int x0)], [.int s0, .int s1, .int s2, .int s3, .int s4, .int s5, .int s6], σ) = aCL (Rn G d 71 [.int s6, .int s5, .int s4, .int s3, .int s2, .int s1, .int s0] σ) fun v2 σ1 => Lq G d M_70 (604, [some (.int x0)], [.long v2], σ1) :=
  (aUn_eq (tkd G.1 G.2) tmi (aRun (tkd G.1 G.2) tmi tmt d) M_70 [] 1 (601, [some (.int x0)], [.int s0, .int s1, .int s2, .int s3, .int s4, .int s5, .int s6], σ)).trans rfl
set_option maxRecDepth 20000 in
theorem q_70_5090 (G : Nat × (Nat → Int32)) (d : Nat) (x0 : Int32) (s0 : Int64) (σ : aH) : Lq G d M_70 (604, [some (.int x0)], [.long s0], σ) = some (.inl (some (.long s0)), σ) :=
  (aUn_eq (tkd G.1 G.2) tmi (aRun (tkd G.1 G.2) tmi tmt d) M_70 [] 1 (604, [some (.int x0)], [.long s0], σ)).trans rfl
set_option maxRecDepth 20000 in
theorem q_70_5091 (G : Nat × (Nat → Int32)) (d : Nat) (x0 : Int32) (σ : aH) : Lq G d M_70 (605, [some (.int x0)], [], σ) = Lq G d M_70 (618, [some (.int x0)], [.int (0 : Int32), .int (100 : Int32), .int (97 : Int32), .int (101 : Int32), .int (114 : Int32), .int (112 : Int32), .int (115 : Int32)], σ) :=
  (aUn_eq (tkd G.1 G.2) tmi (aRun (tkd G.1 G.2) tmi tmt d) M_70 [] 7 (605, [some (.int x0)], [], σ)).trans rfl
set_option maxRecDepth 20000 in
theorem q_70_5092 (G : Nat × (Nat → Int32)) (d : Nat) (x0 : Int32) (s0 : Int32) (s1 : Int32) (s2 : Int32) (s3 : Int32) (s4 : Int32) (s5 : Int32) (s6 : Int32) (σ : aH) : Lq G d M_70 (618, [some (.int x0)], [.int s0, .int s1, .int s2, .int s3, .int s4, .int s5, .int s6], σ) = aCL (Rn G d 71 [.int s6, .int s5, .int s4, .int s3, .int s2, .int s1, .int s0] σ) fun v2 σ1 => Lq G d M_70 (621, [some (.int x0)], [.long v2], σ1) :=
  (aUn_eq (tkd G.1 G.2) tmi (aRun (tkd G.1 G.2) tmi tmt d) M_70 [] 1 (618, [some (.int x0)], [.int s0, .int s1, .int s2, .int s3, .int s4, .int s5, .int s6], σ)).trans rfl
set_option maxRecDepth 20000 in
theorem q_70_5093 (G : Nat × (Nat → Int32)) (d : Nat) (x0 : Int32) (s0 : Int64) (σ : aH) : Lq G d M_70 (621, [some (.int x0)], [.long s0], σ) = some (.inl (some (.long s0)), σ) :=
  (aUn_eq (tkd G.1 G.2) tmi (aRun (tkd G.1 G.2) tmi tmt d) M_70 [] 1 (621, [some (.int x0)], [.long s0], σ)).trans rfl
set_option maxRecDepth 20000 in
theorem q_70_5094 (G : Nat × (Nat → Int32)) (d : Nat) (x0 : Int32) (σ : aH) : Lq G d M_70 (622, [some (.int x0)], [], σ) = Lq G d M_70 (633, [some (.int x0)], [.int (0 : Int32), .int (0 : Int32), .int (0 : Int32), .int (110 : Int32), .int (114 : Int32), .int (117 : Int32), .int (116 : Int32)], σ) :=
  (aUn_eq (tkd G.1 G.2) tmi (aRun (tkd G.1 G.2) tmi tmt d) M_70 [] 7 (622, [some (.int x0)], [], σ)).trans rfl
set_option maxRecDepth 20000 in
theorem q_70_5095 (G : Nat × (Nat → Int32)) (d : Nat) (x0 : Int32) (s0 : Int32) (s1 : Int32) (s2 : Int32) (s3 : Int32) (s4 : Int32) (s5 : Int32) (s6 : Int32) (σ : aH) : Lq G d M_70 (633, [some (.int x0)], [.int s0, .int s1, .int s2, .int s3, .int s4, .int s5, .int s6], σ) = aCL (Rn G d 71 [.int s6, .int s5, .int s4, .int s3, .int s2, .int s1, .int s0] σ) fun v2 σ1 => Lq G d M_70 (636, [some (.int x0)], [.long v2], σ1) :=
  (aUn_eq (tkd G.1 G.2) tmi (aRun (tkd G.1 G.2) tmi tmt d) M_70 [] 1 (633, [some (.int x0)], [.int s0, .int s1, .int s2, .int s3, .int s4, .int s5, .int s6], σ)).trans rfl
set_option maxRecDepth 20000 in
theorem q_70_5096 (G : Nat × (Nat → Int32)) (d : Nat) (x0 : Int32) (s0 : Int64) (σ : aH) : Lq G d M_70 (636, [some (.int x0)], [.long s0], σ) = some (.inl (some (.long s0)), σ) :=
  (aUn_eq (tkd G.1 G.2) tmi (aRun (tkd G.1 G.2) tmi tmt d) M_70 [] 1 (636, [some (.int x0)], [.long s0], σ)).trans rfl
set_option maxRecDepth 20000 in
theorem q_70_5097 (G : Nat × (Nat → Int32)) (d : Nat) (x0 : Int32) (σ : aH) : Lq G d M_70 (637, [some (.int x0)], [], σ) = Lq G d M_70 (649, [some (.int x0)], [.int (0 : Int32), .int (0 : Int32), .int (101 : Int32), .int (112 : Int32), .int (97 : Int32), .int (104 : Int32), .int (115 : Int32)], σ) :=
  (aUn_eq (tkd G.1 G.2) tmi (aRun (tkd G.1 G.2) tmi tmt d) M_70 [] 7 (637, [some (.int x0)], [], σ)).trans rfl
set_option maxRecDepth 20000 in
theorem q_70_5098 (G : Nat × (Nat → Int32)) (d : Nat) (x0 : Int32) (s0 : Int32) (s1 : Int32) (s2 : Int32) (s3 : Int32) (s4 : Int32) (s5 : Int32) (s6 : Int32) (σ : aH) : Lq G d M_70 (649, [some (.int x0)], [.int s0, .int s1, .int s2, .int s3, .int s4, .int s5, .int s6], σ) = aCL (Rn G d 71 [.int s6, .int s5, .int s4, .int s3, .int s2, .int s1, .int s0] σ) fun v2 σ1 => Lq G d M_70 (652, [some (.int x0)], [.long v2], σ1) :=
  (aUn_eq (tkd G.1 G.2) tmi (aRun (tkd G.1 G.2) tmi tmt d) M_70 [] 1 (649, [some (.int x0)], [.int s0, .int s1, .int s2, .int s3, .int s4, .int s5, .int s6], σ)).trans rfl
set_option maxRecDepth 20000 in
theorem q_70_5099 (G : Nat × (Nat → Int32)) (d : Nat) (x0 : Int32) (s0 : Int64) (σ : aH) : Lq G d M_70 (652, [some (.int x0)], [.long s0], σ) = some (.inl (some (.long s0)), σ) :=
  (aUn_eq (tkd G.1 G.2) tmi (aRun (tkd G.1 G.2) tmi tmt d) M_70 [] 1 (652, [some (.int x0)], [.long s0], σ)).trans rfl
set_option maxRecDepth 20000 in
theorem q_70_5100 (G : Nat × (Nat → Int32)) (d : Nat) (x0 : Int32) (σ : aH) : Lq G d M_70 (653, [some (.int x0)], [], σ) = Lq G d M_70 (664, [some (.int x0)], [.int (0 : Int32), .int (0 : Int32), .int (0 : Int32), .int (101 : Int32), .int (110 : Int32), .int (105 : Int32), .int (108 : Int32)], σ) :=
  (aUn_eq (tkd G.1 G.2) tmi (aRun (tkd G.1 G.2) tmi tmt d) M_70 [] 7 (653, [some (.int x0)], [], σ)).trans rfl
set_option maxRecDepth 20000 in
theorem q_70_5101 (G : Nat × (Nat → Int32)) (d : Nat) (x0 : Int32) (s0 : Int32) (s1 : Int32) (s2 : Int32) (s3 : Int32) (s4 : Int32) (s5 : Int32) (s6 : Int32) (σ : aH) : Lq G d M_70 (664, [some (.int x0)], [.int s0, .int s1, .int s2, .int s3, .int s4, .int s5, .int s6], σ) = aCL (Rn G d 71 [.int s6, .int s5, .int s4, .int s3, .int s2, .int s1, .int s0] σ) fun v2 σ1 => Lq G d M_70 (667, [some (.int x0)], [.long v2], σ1) :=
  (aUn_eq (tkd G.1 G.2) tmi (aRun (tkd G.1 G.2) tmi tmt d) M_70 [] 1 (664, [some (.int x0)], [.int s0, .int s1, .int s2, .int s3, .int s4, .int s5, .int s6], σ)).trans rfl
set_option maxRecDepth 20000 in
theorem q_70_5102 (G : Nat × (Nat → Int32)) (d : Nat) (x0 : Int32) (s0 : Int64) (σ : aH) : Lq G d M_70 (667, [some (.int x0)], [.long s0], σ) = some (.inl (some (.long s0)), σ) :=
  (aUn_eq (tkd G.1 G.2) tmi (aRun (tkd G.1 G.2) tmi tmt d) M_70 [] 1 (667, [some (.int x0)], [.long s0], σ)).trans rfl
set_option maxRecDepth 20000 in
theorem q_70_5103 (G : Nat × (Nat → Int32)) (d : Nat) (x0 : Int32) (σ : aH) : Lq G d M_70 (668, [some (.int x0)], [], σ) = Lq G d M_70 (678, [some (.int x0)], [.int (0 : Int32), .int (0 : Int32), .int (0 : Int32), .int (0 : Int32), .int (102 : Int32), .int (102 : Int32), .int (111 : Int32)], σ) :=
  (aUn_eq (tkd G.1 G.2) tmi (aRun (tkd G.1 G.2) tmi tmt d) M_70 [] 7 (668, [some (.int x0)], [], σ)).trans rfl
set_option maxRecDepth 20000 in
theorem q_70_5104 (G : Nat × (Nat → Int32)) (d : Nat) (x0 : Int32) (s0 : Int32) (s1 : Int32) (s2 : Int32) (s3 : Int32) (s4 : Int32) (s5 : Int32) (s6 : Int32) (σ : aH) : Lq G d M_70 (678, [some (.int x0)], [.int s0, .int s1, .int s2, .int s3, .int s4, .int s5, .int s6], σ) = aCL (Rn G d 71 [.int s6, .int s5, .int s4, .int s3, .int s2, .int s1, .int s0] σ) fun v2 σ1 => Lq G d M_70 (681, [some (.int x0)], [.long v2], σ1) :=
  (aUn_eq (tkd G.1 G.2) tmi (aRun (tkd G.1 G.2) tmi tmt d) M_70 [] 1 (678, [some (.int x0)], [.int s0, .int s1, .int s2, .int s3, .int s4, .int s5, .int s6], σ)).trans rfl
set_option maxRecDepth 20000 in
theorem q_70_5105 (G : Nat × (Nat → Int32)) (d : Nat) (x0 : Int32) (s0 : Int64) (σ : aH) : Lq G d M_70 (681, [some (.int x0)], [.long s0], σ) = some (.inl (some (.long s0)), σ) :=
  (aUn_eq (tkd G.1 G.2) tmi (aRun (tkd G.1 G.2) tmi tmt d) M_70 [] 1 (681, [some (.int x0)], [.long s0], σ)).trans rfl
set_option maxRecDepth 20000 in
theorem q_70_5106 (G : Nat × (Nat → Int32)) (d : Nat) (x0 : Int32) (σ : aH) : Lq G d M_70 (682, [some (.int x0)], [], σ) = Lq G d M_70 (692, [some (.int x0)], [.int (0 : Int32), .int (0 : Int32), .int (0 : Int32), .int (0 : Int32), .int (100 : Int32), .int (110 : Int32), .int (97 : Int32)], σ) :=
  (aUn_eq (tkd G.1 G.2) tmi (aRun (tkd G.1 G.2) tmi tmt d) M_70 [] 7 (682, [some (.int x0)], [], σ)).trans rfl
set_option maxRecDepth 20000 in
theorem q_70_5107 (G : Nat × (Nat → Int32)) (d : Nat) (x0 : Int32) (s0 : Int32) (s1 : Int32) (s2 : Int32) (s3 : Int32) (s4 : Int32) (s5 : Int32) (s6 : Int32) (σ : aH) : Lq G d M_70 (692, [some (.int x0)], [.int s0, .int s1, .int s2, .int s3, .int s4, .int s5, .int s6], σ) = aCL (Rn G d 71 [.int s6, .int s5, .int s4, .int s3, .int s2, .int s1, .int s0] σ) fun v2 σ1 => Lq G d M_70 (695, [some (.int x0)], [.long v2], σ1) :=
  (aUn_eq (tkd G.1 G.2) tmi (aRun (tkd G.1 G.2) tmi tmt d) M_70 [] 1 (692, [some (.int x0)], [.int s0, .int s1, .int s2, .int s3, .int s4, .int s5, .int s6], σ)).trans rfl
set_option maxRecDepth 20000 in
theorem q_70_5108 (G : Nat × (Nat → Int32)) (d : Nat) (x0 : Int32) (s0 : Int64) (σ : aH) : Lq G d M_70 (695, [some (.int x0)], [.long s0], σ) = some (.inl (some (.long s0)), σ) :=
  (aUn_eq (tkd G.1 G.2) tmi (aRun (tkd G.1 G.2) tmi tmt d) M_70 [] 1 (695, [some (.int x0)], [.long s0], σ)).trans rfl
set_option maxRecDepth 20000 in
theorem q_70_5109 (G : Nat × (Nat → Int32)) (d : Nat) (x0 : Int32) (σ : aH) : Lq G d M_70 (696, [some (.int x0)], [], σ) = Lq G d M_70 (705, [some (.int x0)], [.int (0 : Int32), .int (0 : Int32), .int (0 : Int32), .int (0 : Int32), .int (0 : Int32), .int (114 : Int32), .int (111 : Int32)], σ) :=
  (aUn_eq (tkd G.1 G.2) tmi (aRun (tkd G.1 G.2) tmi tmt d) M_70 [] 7 (696, [some (.int x0)], [], σ)).trans rfl
set_option maxRecDepth 20000 in
theorem q_70_5110 (G : Nat × (Nat → Int32)) (d : Nat) (x0 : Int32) (s0 : Int32) (s1 : Int32) (s2 : Int32) (s3 : Int32) (s4 : Int32) (s5 : Int32) (s6 : Int32) (σ : aH) : Lq G d M_70 (705, [some (.int x0)], [.int s0, .int s1, .int s2, .int s3, .int s4, .int s5, .int s6], σ) = aCL (Rn G d 71 [.int s6, .int s5, .int s4, .int s3, .int s2, .int s1, .int s0] σ) fun v2 σ1 => Lq G d M_70 (708, [some (.int x0)], [.long v2], σ1) :=
  (aUn_eq (tkd G.1 G.2) tmi (aRun (tkd G.1 G.2) tmi tmt d) M_70 [] 1 (705, [some (.int x0)], [.int s0, .int s1, .int s2, .int s3, .int s4, .int s5, .int s6], σ)).trans rfl
set_option maxRecDepth 20000 in
theorem q_70_5111 (G : Nat × (Nat → Int32)) (d : Nat) (x0 : Int32) (s0 : Int64) (σ : aH) : Lq G d M_70 (708, [some (.int x0)], [.long s0], σ) = some (.inl (some (.long s0)), σ) :=
  (aUn_eq (tkd G.1 G.2) tmi (aRun (tkd G.1 G.2) tmi tmt d) M_70 [] 1 (708, [some (.int x0)], [.long s0], σ)).trans rfl
set_option maxRecDepth 20000 in
theorem q_70_5112 (G : Nat × (Nat → Int32)) (d : Nat) (x0 : Int32) (σ : aH) : Lq G d M_70 (755, [some (.int x0)], [], σ) = Lq G d M_70 (765, [some (.int x0)], [.int (0 : Int32), .int (0 : Int32), .int (0 : Int32), .int (0 : Int32), .int (116 : Int32), .int (111 : Int32), .int (110 : Int32)], σ) :=
  (aUn_eq (tkd G.1 G.2) tmi (aRun (tkd G.1 G.2) tmi tmt d) M_70 [] 7 (755, [some (.int x0)], [], σ)).trans rfl
set_option maxRecDepth 20000 in
theorem q_70_5113 (G : Nat × (Nat → Int32)) (d : Nat) (x0 : Int32) (s0 : Int32) (s1 : Int32) (s2 : Int32) (s3 : Int32) (s4 : Int32) (s5 : Int32) (s6 : Int32) (σ : aH) : Lq G d M_70 (765, [some (.int x0)], [.int s0, .int s1, .int s2, .int s3, .int s4, .int s5, .int s6], σ) = aCL (Rn G d 71 [.int s6, .int s5, .int s4, .int s3, .int s2, .int s1, .int s0] σ) fun v2 σ1 => Lq G d M_70 (768, [some (.int x0)], [.long v2], σ1) :=
  (aUn_eq (tkd G.1 G.2) tmi (aRun (tkd G.1 G.2) tmi tmt d) M_70 [] 1 (765, [some (.int x0)], [.int s0, .int s1, .int s2, .int s3, .int s4, .int s5, .int s6], σ)).trans rfl
set_option maxRecDepth 20000 in
theorem q_70_5114 (G : Nat × (Nat → Int32)) (d : Nat) (x0 : Int32) (s0 : Int64) (σ : aH) : Lq G d M_70 (768, [some (.int x0)], [.long s0], σ) = some (.inl (some (.long s0)), σ) :=
  (aUn_eq (tkd G.1 G.2) tmi (aRun (tkd G.1 G.2) tmi tmt d) M_70 [] 1 (768, [some (.int x0)], [.long s0], σ)).trans rfl
set_option maxRecDepth 20000 in
theorem q_70_5115 (G : Nat × (Nat → Int32)) (d : Nat) (x0 : Int32) (σ : aH) : Lq G d M_70 (709, [some (.int x0)], [], σ) = Lq G d M_70 (721, [some (.int x0)], [.int (0 : Int32), .int (0 : Int32), .int (116 : Int32), .int (101 : Int32), .int (101 : Int32), .int (104 : Int32), .int (115 : Int32)], σ) :=
  (aUn_eq (tkd G.1 G.2) tmi (aRun (tkd G.1 G.2) tmi tmt d) M_70 [] 7 (709, [some (.int x0)], [], σ)).trans rfl
set_option maxRecDepth 20000 in
theorem q_70_5116 (G : Nat × (Nat → Int32)) (d : Nat) (x0 : Int32) (s0 : Int32) (s1 : Int32) (s2 : Int32) (s3 : Int32) (s4 : Int32) (s5 : Int32) (s6 : Int32) (σ : aH) : Lq G d M_70 (721, [some (.int x0)], [.int s0, .int s1, .int s2, .int s3, .int s4, .int s5, .int s6], σ) = aCL (Rn G d 71 [.int s6, .int s5, .int s4, .int s3, .int s2, .int s1, .int s0] σ) fun v2 σ1 => Lq G d M_70 (724, [some (.int x0)], [.long v2], σ1) :=
  (aUn_eq (tkd G.1 G.2) tmi (aRun (tkd G.1 G.2) tmi tmt d) M_70 [] 1 (721, [some (.int x0)], [.int s0, .int s1, .int s2, .int s3, .int s4, .int s5, .int s6], σ)).trans rfl
set_option maxRecDepth 20000 in
theorem q_70_5117 (G : Nat × (Nat → Int32)) (d : Nat) (x0 : Int32) (s0 : Int64) (σ : aH) : Lq G d M_70 (724, [some (.int x0)], [.long s0], σ) = some (.inl (some (.long s0)), σ) :=
  (aUn_eq (tkd G.1 G.2) tmi (aRun (tkd G.1 G.2) tmi tmt d) M_70 [] 1 (724, [some (.int x0)], [.long s0], σ)).trans rfl
set_option maxRecDepth 20000 in
theorem q_70_5118 (G : Nat × (Nat → Int32)) (d : Nat) (x0 : Int32) (σ : aH) : Lq G d M_70 (725, [some (.int x0)], [], σ) = Lq G d M_70 (736, [some (.int x0)], [.int (0 : Int32), .int (0 : Int32), .int (0 : Int32), .int (115 : Int32), .int (115 : Int32), .int (101 : Int32), .int (108 : Int32)], σ) :=
  (aUn_eq (tkd G.1 G.2) tmi (aRun (tkd G.1 G.2) tmi tmt d) M_70 [] 7 (725, [some (.int x0)], [], σ)).trans rfl
set_option maxRecDepth 20000 in
theorem q_70_5119 (G : Nat × (Nat → Int32)) (d : Nat) (x0 : Int32) (s0 : Int32) (s1 : Int32) (s2 : Int32) (s3 : Int32) (s4 : Int32) (s5 : Int32) (s6 : Int32) (σ : aH) : Lq G d M_70 (736, [some (.int x0)], [.int s0, .int s1, .int s2, .int s3, .int s4, .int s5, .int s6], σ) = aCL (Rn G d 71 [.int s6, .int s5, .int s4, .int s3, .int s2, .int s1, .int s0] σ) fun v2 σ1 => Lq G d M_70 (739, [some (.int x0)], [.long v2], σ1) :=
  (aUn_eq (tkd G.1 G.2) tmi (aRun (tkd G.1 G.2) tmi tmt d) M_70 [] 1 (736, [some (.int x0)], [.int s0, .int s1, .int s2, .int s3, .int s4, .int s5, .int s6], σ)).trans rfl
set_option maxRecDepth 20000 in
theorem q_70_5120 (G : Nat × (Nat → Int32)) (d : Nat) (x0 : Int32) (s0 : Int64) (σ : aH) : Lq G d M_70 (739, [some (.int x0)], [.long s0], σ) = some (.inl (some (.long s0)), σ) :=
  (aUn_eq (tkd G.1 G.2) tmi (aRun (tkd G.1 G.2) tmi tmt d) M_70 [] 1 (739, [some (.int x0)], [.long s0], σ)).trans rfl
set_option maxRecDepth 20000 in
theorem q_70_5121 (G : Nat × (Nat → Int32)) (d : Nat) (x0 : Int32) (σ : aH) : Lq G d M_70 (740, [some (.int x0)], [], σ) = Lq G d M_70 (751, [some (.int x0)], [.int (0 : Int32), .int (0 : Int32), .int (0 : Int32), .int (100 : Int32), .int (108 : Int32), .int (111 : Int32), .int (99 : Int32)], σ) :=
  (aUn_eq (tkd G.1 G.2) tmi (aRun (tkd G.1 G.2) tmi tmt d) M_70 [] 7 (740, [some (.int x0)], [], σ)).trans rfl
set_option maxRecDepth 20000 in
theorem q_70_5122 (G : Nat × (Nat → Int32)) (d : Nat) (x0 : Int32) (s0 : Int32) (s1 : Int32) (s2 : Int32) (s3 : Int32) (s4 : Int32) (s5 : Int32) (s6 : Int32) (σ : aH) : Lq G d M_70 (751, [some (.int x0)], [.int s0, .int s1, .int s2, .int s3, .int s4, .int s5, .int s6], σ) = aCL (Rn G d 71 [.int s6, .int s5, .int s4, .int s3, .int s2, .int s1, .int s0] σ) fun v2 σ1 => Lq G d M_70 (754, [some (.int x0)], [.long v2], σ1) :=
  (aUn_eq (tkd G.1 G.2) tmi (aRun (tkd G.1 G.2) tmi tmt d) M_70 [] 1 (751, [some (.int x0)], [.int s0, .int s1, .int s2, .int s3, .int s4, .int s5, .int s6], σ)).trans rfl
set_option maxRecDepth 20000 in
theorem q_70_5123 (G : Nat × (Nat → Int32)) (d : Nat) (x0 : Int32) (s0 : Int64) (σ : aH) : Lq G d M_70 (754, [some (.int x0)], [.long s0], σ) = some (.inl (some (.long s0)), σ) :=
  (aUn_eq (tkd G.1 G.2) tmi (aRun (tkd G.1 G.2) tmi tmt d) M_70 [] 1 (754, [some (.int x0)], [.long s0], σ)).trans rfl
set_option maxRecDepth 20000 in
theorem q_74_5124 (G : Nat × (Nat → Int32)) (d : Nat) (x1 : Int32) (x2 : Int32) (x3 : Int32) (σ : aH) : Lq G d M_74 (0, [some (.ref 33), some (.int x1), some (.int x2), some (.int x3)], [], σ) = Lq G d M_74 (2, [some (.ref 33), some (.int x1), some (.int x2), some (.int x3)], [.ref 33, .ref 33], σ) :=
  (aUn_eq (tkd G.1 G.2) tmi (aRun (tkd G.1 G.2) tmi tmt d) M_74 [] 2 (0, [some (.ref 33), some (.int x1), some (.int x2), some (.int x3)], [], σ)).trans rfl
set_option maxRecDepth 20000 in
theorem q_74_5125 (G : Nat × (Nat → Int32)) (d : Nat) (x1 : Int32) (x2 : Int32) (x3 : Int32) (σ : aH) : Lq G d M_74 (2, [some (.ref 33), some (.int x1), some (.int x2), some (.int x3)], [.ref 33, .ref 33], σ) = aCI (Rn G d 69 [.ref 33] σ) fun v2 σ1 => Lq G d M_74 (5, [some (.ref 33), some (.int x1), some (.int x2), some (.int x3)], [.int v2, .ref 33], σ1) :=
  (aUn_eq (tkd G.1 G.2) tmi (aRun (tkd G.1 G.2) tmi tmt d) M_74 [] 1 (2, [some (.ref 33), some (.int x1), some (.int x2), some (.int x3)], [.ref 33, .ref 33], σ)).trans rfl
set_option maxRecDepth 20000 in
theorem q_74_5126 (G : Nat × (Nat → Int32)) (d : Nat) (x1 : Int32) (x2 : Int32) (x3 : Int32) (s0 : Int32) (σ : aH) : Lq G d M_74 (5, [some (.ref 33), some (.int x1), some (.int x2), some (.int x3)], [.int s0, .ref 33], σ) = Lq G d M_74 (6, [some (.ref 33), some (.int x1), some (.int x2), some (.int x3)], [.int x1, .int s0, .ref 33], σ) :=
  (aUn_eq (tkd G.1 G.2) tmi (aRun (tkd G.1 G.2) tmi tmt d) M_74 [] 1 (5, [some (.ref 33), some (.int x1), some (.int x2), some (.int x3)], [.int s0, .ref 33], σ)).trans rfl
set_option maxRecDepth 20000 in
theorem q_74_5127 (G : Nat × (Nat → Int32)) (d : Nat) (x1 : Int32) (x2 : Int32) (x3 : Int32) (s0 : Int32) (s1 : Int32) (σ : aH) : Lq G d M_74 (6, [some (.ref 33), some (.int x1), some (.int x2), some (.int x3)], [.int s0, .int s1, .ref 33], σ) = if s1 = s0 then Lq G d M_74 (9, [some (.ref 33), some (.int x1), some (.int x2), some (.int x3)], [.ref 33], σ) else Lq G d M_74 (13, [some (.ref 33), some (.int x1), some (.int x2), some (.int x3)], [.ref 33], σ) :=
  (aUn_eq (tkd G.1 G.2) tmi (aRun (tkd G.1 G.2) tmi tmt d) M_74 [] 1 (6, [some (.ref 33), some (.int x1), some (.int x2), some (.int x3)], [.int s0, .int s1, .ref 33], σ)).trans rfl
set_option maxRecDepth 20000 in
theorem q_74_5128 (G : Nat × (Nat → Int32)) (d : Nat) (x1 : Int32) (x2 : Int32) (x3 : Int32) (σ : aH) : Lq G d M_74 (9, [some (.ref 33), some (.int x1), some (.int x2), some (.int x3)], [.ref 33], σ) = Lq G d M_74 (14, [some (.ref 33), some (.int x1), some (.int x2), some (.int x3)], [.int (1 : Int32), .ref 33], σ) :=
  (aUn_eq (tkd G.1 G.2) tmi (aRun (tkd G.1 G.2) tmi tmt d) M_74 [] 2 (9, [some (.ref 33), some (.int x1), some (.int x2), some (.int x3)], [.ref 33], σ)).trans rfl
set_option maxRecDepth 20000 in
theorem q_74_5129 (G : Nat × (Nat → Int32)) (d : Nat) (x1 : Int32) (x2 : Int32) (x3 : Int32) (s0 : Int32) (σ : aH) : Lq G d M_74 (14, [some (.ref 33), some (.int x1), some (.int x2), some (.int x3)], [.int s0, .ref 33], σ) = aCV (Rn G d 75 [.ref 33, .int s0] σ) fun σ1 => Lq G d M_74 (17, [some (.ref 33), some (.int x1), some (.int x2), some (.int x3)], [], σ1) :=
  (aUn_eq (tkd G.1 G.2) tmi (aRun (tkd G.1 G.2) tmi tmt d) M_74 [] 1 (14, [some (.ref 33), some (.int x1), some (.int x2), some (.int x3)], [.int s0, .ref 33], σ)).trans rfl
set_option maxRecDepth 20000 in
theorem q_74_5130 (G : Nat × (Nat → Int32)) (d : Nat) (x1 : Int32) (x2 : Int32) (x3 : Int32) (σ : aH) : Lq G d M_74 (17, [some (.ref 33), some (.int x1), some (.int x2), some (.int x3)], [], σ) = Lq G d M_74 (20, [some (.ref 33), some (.int x1), some (.int x2), some (.int x3)], [.int x3, .int x2, .ref 33], σ) :=
  (aUn_eq (tkd G.1 G.2) tmi (aRun (tkd G.1 G.2) tmi tmt d) M_74 [] 3 (17, [some (.ref 33), some (.int x1), some (.int x2), some (.int x3)], [], σ)).trans rfl
set_option maxRecDepth 20000 in
theorem q_74_5131 (G : Nat × (Nat → Int32)) (d : Nat) (x1 : Int32) (x2 : Int32) (x3 : Int32) (s0 : Int32) (s1 : Int32) (σ : aH) : Lq G d M_74 (20, [some (.ref 33), some (.int x1), some (.int x2), some (.int x3)], [.int s0, .int s1, .ref 33], σ) = aCI (Rn G d 76 [.ref 33, .int s1, .int s0] σ) fun v2 σ1 => Lq G d M_74 (23, [some (.ref 33), some (.int x1), some (.int x2), some (.int x3)], [.int v2], σ1) :=
  (aUn_eq (tkd G.1 G.2) tmi (aRun (tkd G.1 G.2) tmi tmt d) M_74 [] 1 (20, [some (.ref 33), some (.int x1), some (.int x2), some (.int x3)], [.int s0, .int s1, .ref 33], σ)).trans rfl
set_option maxRecDepth 20000 in
theorem q_74_5132 (G : Nat × (Nat → Int32)) (d : Nat) (x1 : Int32) (x2 : Int32) (x3 : Int32) (s0 : Int32) (σ : aH) : Lq G d M_74 (23, [some (.ref 33), some (.int x1), some (.int x2), some (.int x3)], [.int s0], σ) = some (.inl (some (.int s0)), σ) :=
  (aUn_eq (tkd G.1 G.2) tmi (aRun (tkd G.1 G.2) tmi tmt d) M_74 [] 1 (23, [some (.ref 33), some (.int x1), some (.int x2), some (.int x3)], [.int s0], σ)).trans rfl
set_option maxRecDepth 20000 in
theorem q_74_5133 (G : Nat × (Nat → Int32)) (d : Nat) (x1 : Int32) (x2 : Int32) (x3 : Int32) (σ : aH) : Lq G d M_74 (13, [some (.ref 33), some (.int x1), some (.int x2), some (.int x3)], [.ref 33], σ) = Lq G d M_74 (14, [some (.ref 33), some (.int x1), some (.int x2), some (.int x3)], [.int (0 : Int32), .ref 33], σ) :=
  (aUn_eq (tkd G.1 G.2) tmi (aRun (tkd G.1 G.2) tmi tmt d) M_74 [] 1 (13, [some (.ref 33), some (.int x1), some (.int x2), some (.int x3)], [.ref 33], σ)).trans rfl
set_option maxRecDepth 20000 in
theorem q_83_5134 (G : Nat × (Nat → Int32)) (d : Nat)  (σ : aH) : Lq G d M_83 (0, [some (.ref 33), none, none, none], [], σ) = Lq G d M_83 (6, [some (.ref 33), some (.int (σ.1 33 31)), none, none], [.ref 33], σ) :=
  (aUn_eq (tkd G.1 G.2) tmi (aRun (tkd G.1 G.2) tmi tmt d) M_83 [] 4 (0, [some (.ref 33), none, none, none], [], σ)).trans rfl
set_option maxRecDepth 20000 in
theorem q_83_5135 (G : Nat × (Nat → Int32)) (d : Nat) (x1 : Int32) (σ : aH) : Lq G d M_83 (6, [some (.ref 33), some (.int x1), none, none], [.ref 33], σ) = aCI (Rn G d 67 [.ref 33] σ) fun v2 σ1 => Lq G d M_83 (9, [some (.ref 33), some (.int x1), none, none], [.int v2], σ1) :=
  (aUn_eq (tkd G.1 G.2) tmi (aRun (tkd G.1 G.2) tmi tmt d) M_83 [] 1 (6, [some (.ref 33), some (.int x1), none, none], [.ref 33], σ)).trans rfl
set_option maxRecDepth 20000 in
theorem q_83_5136 (G : Nat × (Nat → Int32)) (d : Nat) (x1 : Int32) (s0 : Int32) (σ : aH) : Lq G d M_83 (9, [some (.ref 33), some (.int x1), none, none], [.int s0], σ) = if s0 = 0 then Lq G d M_83 (12, [some (.ref 33), some (.int x1), none, none], [], σ) else Lq G d M_83 (14, [some (.ref 33), some (.int x1), none, none], [], σ) :=
  (aUn_eq (tkd G.1 G.2) tmi (aRun (tkd G.1 G.2) tmi tmt d) M_83 [] 1 (9, [some (.ref 33), some (.int x1), none, none], [.int s0], σ)).trans rfl
set_option maxRecDepth 20000 in
theorem q_83_5137 (G : Nat × (Nat → Int32)) (d : Nat) (x1 : Int32) (σ : aH) : Lq G d M_83 (12, [some (.ref 33), some (.int x1), none, none], [], σ) = Lq G d M_83 (13, [some (.ref 33), some (.int x1), none, none], [.int x1], σ) :=
  (aUn_eq (tkd G.1 G.2) tmi (aRun (tkd G.1 G.2) tmi tmt d) M_83 [] 1 (12, [some (.ref 33), some (.int x1), none, none], [], σ)).trans rfl
set_option maxRecDepth 20000 in
theorem q_83_5138 (G : Nat × (Nat → Int32)) (d : Nat) (x1 : Int32) (s0 : Int32) (σ : aH) : Lq G d M_83 (13, [some (.ref 33), some (.int x1), none, none], [.int s0], σ) = some (.inl (some (.int s0)), σ) :=
  (aUn_eq (tkd G.1 G.2) tmi (aRun (tkd G.1 G.2) tmi tmt d) M_83 [] 1 (13, [some (.ref 33), some (.int x1), none, none], [.int s0], σ)).trans rfl
set_option maxRecDepth 20000 in
theorem q_83_5139 (G : Nat × (Nat → Int32)) (d : Nat) (x1 : Int32) (σ : aH) : Lq G d M_83 (14, [some (.ref 33), some (.int x1), none, none], [], σ) = Lq G d M_83 (25, [some (.ref 33), some (.int x1), none, none], [.ref 33], (aSI (aSI σ 33 32 (0 : Int32)) 33 33 (0 : Int32))) :=
  (aUn_eq (tkd G.1 G.2) tmi (aRun (tkd G.1 G.2) tmi tmt d) M_83 [] 7 (14, [some (.ref 33), some (.int x1), none, none], [], σ)).trans rfl
set_option maxRecDepth 20000 in
theorem q_83_5140 (G : Nat × (Nat → Int32)) (d : Nat) (x1 : Int32) (σ : aH) : Lq G d M_83 (25, [some (.ref 33), some (.int x1), none, none], [.ref 33], σ) = aCV (Rn G d 84 [.ref 33] σ) fun σ1 => Lq G d M_83 (28, [some (.ref 33), some (.int x1), none, none], [], σ1) :=
  (aUn_eq (tkd G.1 G.2) tmi (aRun (tkd G.1 G.2) tmi tmt d) M_83 [] 1 (25, [some (.ref 33), some (.int x1), none, none], [.ref 33], σ)).trans rfl
set_option maxRecDepth 20000 in
theorem q_83_5141 (G : Nat × (Nat → Int32)) (d : Nat) (x1 : Int32) (σ : aH) : Lq G d M_83 (28, [some (.ref 33), some (.int x1), none, none], [], σ) = Lq G d M_83 (30, [some (.ref 33), some (.int x1), none, none], [.int (1 : Int32), .ref 33], σ) :=
  (aUn_eq (tkd G.1 G.2) tmi (aRun (tkd G.1 G.2) tmi tmt d) M_83 [] 2 (28, [some (.ref 33), some (.int x1), none, none], [], σ)).trans rfl
set_option maxRecDepth 20000 in
theorem q_83_5142 (G : Nat × (Nat → Int32)) (d : Nat) (x1 : Int32) (s0 : Int32) (σ : aH) : Lq G d M_83 (30, [some (.ref 33), some (.int x1), none, none], [.int s0, .ref 33], σ) = aCV (Rn G d 86 [.ref 33, .int s0] σ) fun σ1 => Lq G d M_83 (33, [some (.ref 33), some (.int x1), none, none], [], σ1) :=
  (aUn_eq (tkd G.1 G.2) tmi (aRun (tkd G.1 G.2) tmi tmt d) M_83 [] 1 (30, [some (.ref 33), some (.int x1), none, none], [.int s0, .ref 33], σ)).trans rfl
set_option maxRecDepth 20000 in
theorem q_83_5143 (G : Nat × (Nat → Int32)) (d : Nat) (x1 : Int32) (σ : aH) : Lq G d M_83 (33, [some (.ref 33), some (.int x1), none, none], [], σ) = Lq G d M_83 (35, [some (.ref 33), some (.int x1), some (.int (1 : Int32)), none], [], σ) :=
  (aUn_eq (tkd G.1 G.2) tmi (aRun (tkd G.1 G.2) tmi tmt d) M_83 [] 2 (33, [some (.ref 33), some (.int x1), none, none], [], σ)).trans rfl
set_option maxRecDepth 20000 in
theorem q_83_5144 (G : Nat × (Nat → Int32)) (d : Nat) (x1 : Int32) (x2 : Int32) (σ : aH) : Lq G d M_83 (35, [some (.ref 33), some (.int x1), some (.int x2), none], [], σ) = Lq G d M_83 (36, [some (.ref 33), some (.int x1), some (.int x2), none], [.int x2], σ) :=
  (aUn_eq (tkd G.1 G.2) tmi (aRun (tkd G.1 G.2) tmi tmt d) M_83 [] 1 (35, [some (.ref 33), some (.int x1), some (.int x2), none], [], σ)).trans rfl
set_option maxRecDepth 20000 in
theorem q_83_5145 (G : Nat × (Nat → Int32)) (d : Nat) (x1 : Int32) (x2 : Int32) (s0 : Int32) (σ : aH) : Lq G d M_83 (36, [some (.ref 33), some (.int x1), some (.int x2), none], [.int s0], σ) = if s0 = 0 then Lq G d M_83 (357, [some (.ref 33), some (.int x1), some (.int x2), none], [], σ) else Lq G d M_83 (39, [some (.ref 33), some (.int x1), some (.int x2), none], [], σ) :=
  (aUn_eq (tkd G.1 G.2) tmi (aRun (tkd G.1 G.2) tmi tmt d) M_83 [] 1 (36, [some (.ref 33), some (.int x1), some (.int x2), none], [.int s0], σ)).trans rfl
set_option maxRecDepth 20000 in
theorem q_83_5146 (G : Nat × (Nat → Int32)) (d : Nat) (x1 : Int32) (x2 : Int32) (σ : aH) : Lq G d M_83 (357, [some (.ref 33), some (.int x1), some (.int x2), none], [], σ) = Lq G d M_83 (358, [some (.ref 33), some (.int x1), some (.int x2), none], [.ref 33], σ) :=
  (aUn_eq (tkd G.1 G.2) tmi (aRun (tkd G.1 G.2) tmi tmt d) M_83 [] 1 (357, [some (.ref 33), some (.int x1), some (.int x2), none], [], σ)).trans rfl
set_option maxRecDepth 20000 in
theorem q_83_5147 (G : Nat × (Nat → Int32)) (d : Nat) (x1 : Int32) (x2 : Int32) (σ : aH) : Lq G d M_83 (358, [some (.ref 33), some (.int x1), some (.int x2), none], [.ref 33], σ) = aCI (Rn G d 67 [.ref 33] σ) fun v2 σ1 => Lq G d M_83 (361, [some (.ref 33), some (.int x1), some (.int x2), none], [.int v2], σ1) :=
  (aUn_eq (tkd G.1 G.2) tmi (aRun (tkd G.1 G.2) tmi tmt d) M_83 [] 1 (358, [some (.ref 33), some (.int x1), some (.int x2), none], [.ref 33], σ)).trans rfl
set_option maxRecDepth 20000 in
theorem q_83_5148 (G : Nat × (Nat → Int32)) (d : Nat) (x1 : Int32) (x2 : Int32) (s0 : Int32) (σ : aH) : Lq G d M_83 (361, [some (.ref 33), some (.int x1), some (.int x2), none], [.int s0], σ) = if s0 = 0 then Lq G d M_83 (377, [some (.ref 33), some (.int x1), some (.int x2), none], [], σ) else Lq G d M_83 (364, [some (.ref 33), some (.int x1), some (.int x2), none], [], σ) :=
  (aUn_eq (tkd G.1 G.2) tmi (aRun (tkd G.1 G.2) tmi tmt d) M_83 [] 1 (361, [some (.ref 33), some (.int x1), some (.int x2), none], [.int s0], σ)).trans rfl
set_option maxRecDepth 20000 in
theorem q_83_5149 (G : Nat × (Nat → Int32)) (d : Nat) (x1 : Int32) (x2 : Int32) (σ : aH) : Lq G d M_83 (377, [some (.ref 33), some (.int x1), some (.int x2), none], [], σ) = Lq G d M_83 (379, [some (.ref 33), some (.int x1), some (.int x2), none], [.int (0 : Int32), .ref 33], σ) :=
  (aUn_eq (tkd G.1 G.2) tmi (aRun (tkd G.1 G.2) tmi tmt d) M_83 [] 2 (377, [some (.ref 33), some (.int x1), some (.int x2), none], [], σ)).trans rfl
set_option maxRecDepth 20000 in
theorem q_83_5150 (G : Nat × (Nat → Int32)) (d : Nat) (x1 : Int32) (x2 : Int32) (s0 : Int32) (σ : aH) : Lq G d M_83 (379, [some (.ref 33), some (.int x1), some (.int x2), none], [.int s0, .ref 33], σ) = aCV (Rn G d 90 [.ref 33, .int s0] σ) fun σ1 => Lq G d M_83 (382, [some (.ref 33), some (.int x1), some (.int x2), none], [], σ1) :=
  (aUn_eq (tkd G.1 G.2) tmi (aRun (tkd G.1 G.2) tmi tmt d) M_83 [] 1 (379, [some (.ref 33), some (.int x1), some (.int x2), none], [.int s0, .ref 33], σ)).trans rfl
set_option maxRecDepth 20000 in
theorem q_83_5151 (G : Nat × (Nat → Int32)) (d : Nat) (x1 : Int32) (x2 : Int32) (σ : aH) : Lq G d M_83 (382, [some (.ref 33), some (.int x1), some (.int x2), none], [], σ) = Lq G d M_83 (384, [some (.ref 33), some (.int x1), some (.int x2), none], [.int (0 : Int32), .ref 33], σ) :=
  (aUn_eq (tkd G.1 G.2) tmi (aRun (tkd G.1 G.2) tmi tmt d) M_83 [] 2 (382, [some (.ref 33), some (.int x1), some (.int x2), none], [], σ)).trans rfl
set_option maxRecDepth 20000 in
theorem q_83_5152 (G : Nat × (Nat → Int32)) (d : Nat) (x1 : Int32) (x2 : Int32) (s0 : Int32) (σ : aH) : Lq G d M_83 (384, [some (.ref 33), some (.int x1), some (.int x2), none], [.int s0, .ref 33], σ) = aCV (Rn G d 89 [.ref 33, .int s0] σ) fun σ1 => Lq G d M_83 (387, [some (.ref 33), some (.int x1), some (.int x2), none], [], σ1) :=
  (aUn_eq (tkd G.1 G.2) tmi (aRun (tkd G.1 G.2) tmi tmt d) M_83 [] 1 (384, [some (.ref 33), some (.int x1), some (.int x2), none], [.int s0, .ref 33], σ)).trans rfl
set_option maxRecDepth 20000 in
theorem q_83_5153 (G : Nat × (Nat → Int32)) (d : Nat) (x1 : Int32) (x2 : Int32) (σ : aH) : Lq G d M_83 (387, [some (.ref 33), some (.int x1), some (.int x2), none], [], σ) = Lq G d M_83 (388, [some (.ref 33), some (.int x1), some (.int x2), none], [.int x1], σ) :=
  (aUn_eq (tkd G.1 G.2) tmi (aRun (tkd G.1 G.2) tmi tmt d) M_83 [] 1 (387, [some (.ref 33), some (.int x1), some (.int x2), none], [], σ)).trans rfl
set_option maxRecDepth 20000 in
theorem q_83_5154 (G : Nat × (Nat → Int32)) (d : Nat) (x1 : Int32) (x2 : Int32) (s0 : Int32) (σ : aH) : Lq G d M_83 (388, [some (.ref 33), some (.int x1), some (.int x2), none], [.int s0], σ) = some (.inl (some (.int s0)), σ) :=
  (aUn_eq (tkd G.1 G.2) tmi (aRun (tkd G.1 G.2) tmi tmt d) M_83 [] 1 (388, [some (.ref 33), some (.int x1), some (.int x2), none], [.int s0], σ)).trans rfl
set_option maxRecDepth 20000 in
theorem q_83_5155 (G : Nat × (Nat → Int32)) (d : Nat) (x1 : Int32) (x2 : Int32) (σ : aH) : Lq G d M_83 (364, [some (.ref 33), some (.int x1), some (.int x2), none], [], σ) = Lq G d M_83 (369, [some (.ref 33), some (.int x1), some (.int x2), none], [.int (1 : Int32), .int (σ.1 33 33)], σ) :=
  (aUn_eq (tkd G.1 G.2) tmi (aRun (tkd G.1 G.2) tmi tmt d) M_83 [] 3 (364, [some (.ref 33), some (.int x1), some (.int x2), none], [], σ)).trans rfl
set_option maxRecDepth 20000 in
theorem q_83_5156 (G : Nat × (Nat → Int32)) (d : Nat) (x1 : Int32) (x2 : Int32) (s0 : Int32) (s1 : Int32) (σ : aH) : Lq G d M_83 (369, [some (.ref 33), some (.int x1), some (.int x2), none], [.int s0, .int s1], σ) = if s1 ≤ s0 then Lq G d M_83 (377, [some (.ref 33), some (.int x1), some (.int x2), none], [], σ) else Lq G d M_83 (372, [some (.ref 33), some (.int x1), some (.int x2), none], [], σ) :=
  (aUn_eq (tkd G.1 G.2) tmi (aRun (tkd G.1 G.2) tmi tmt d) M_83 [] 1 (369, [some (.ref 33), some (.int x1), some (.int x2), none], [.int s0, .int s1], σ)).trans rfl
set_option maxRecDepth 20000 in
theorem q_83_5157 (G : Nat × (Nat → Int32)) (d : Nat) (x1 : Int32) (x2 : Int32) (σ : aH) : Lq G d M_83 (372, [some (.ref 33), some (.int x1), some (.int x2), none], [], σ) = Lq G d M_83 (374, [some (.ref 33), some (.int x1), some (.int x2), none], [.int (1 : Int32), .ref 33], σ) :=
  (aUn_eq (tkd G.1 G.2) tmi (aRun (tkd G.1 G.2) tmi tmt d) M_83 [] 2 (372, [some (.ref 33), some (.int x1), some (.int x2), none], [], σ)).trans rfl
set_option maxRecDepth 20000 in
theorem q_83_5158 (G : Nat × (Nat → Int32)) (d : Nat) (x1 : Int32) (x2 : Int32) (s0 : Int32) (σ : aH) : Lq G d M_83 (374, [some (.ref 33), some (.int x1), some (.int x2), none], [.int s0, .ref 33], σ) = aCV (Rn G d 73 [.ref 33, .int s0] σ) fun σ1 => Lq G d M_83 (377, [some (.ref 33), some (.int x1), some (.int x2), none], [], σ1) :=
  (aUn_eq (tkd G.1 G.2) tmi (aRun (tkd G.1 G.2) tmi tmt d) M_83 [] 1 (374, [some (.ref 33), some (.int x1), some (.int x2), none], [.int s0, .ref 33], σ)).trans rfl
set_option maxRecDepth 20000 in
theorem q_83_5159 (G : Nat × (Nat → Int32)) (d : Nat) (x1 : Int32) (x2 : Int32) (σ : aH) : Lq G d M_83 (39, [some (.ref 33), some (.int x1), some (.int x2), none], [], σ) = Lq G d M_83 (40, [some (.ref 33), some (.int x1), some (.int x2), none], [.ref 33], σ) :=
  (aUn_eq (tkd G.1 G.2) tmi (aRun (tkd G.1 G.2) tmi tmt d) M_83 [] 1 (39, [some (.ref 33), some (.int x1), some (.int x2), none], [], σ)).trans rfl
set_option maxRecDepth 20000 in
theorem q_83_5160 (G : Nat × (Nat → Int32)) (d : Nat) (x1 : Int32) (x2 : Int32) (σ : aH) : Lq G d M_83 (40, [some (.ref 33), some (.int x1), some (.int x2), none], [.ref 33], σ) = aCI (Rn G d 67 [.ref 33] σ) fun v2 σ1 => Lq G d M_83 (43, [some (.ref 33), some (.int x1), some (.int x2), none], [.int v2], σ1) :=
  (aUn_eq (tkd G.1 G.2) tmi (aRun (tkd G.1 G.2) tmi tmt d) M_83 [] 1 (40, [some (.ref 33), some (.int x1), some (.int x2), none], [.ref 33], σ)).trans rfl
set_option maxRecDepth 20000 in
theorem q_83_5161 (G : Nat × (Nat → Int32)) (d : Nat) (x1 : Int32) (x2 : Int32) (s0 : Int32) (σ : aH) : Lq G d M_83 (43, [some (.ref 33), some (.int x1), some (.int x2), none], [.int s0], σ) = if s0 = 0 then Lq G d M_83 (357, [some (.ref 33), some (.int x1), some (.int x2), none], [], σ) else Lq G d M_83 (46, [some (.ref 33), some (.int x1), some (.int x2), none], [], σ) :=
  (aUn_eq (tkd G.1 G.2) tmi (aRun (tkd G.1 G.2) tmi tmt d) M_83 [] 1 (43, [some (.ref 33), some (.int x1), some (.int x2), none], [.int s0], σ)).trans rfl
set_option maxRecDepth 20000 in
theorem q_83_5162 (G : Nat × (Nat → Int32)) (d : Nat) (x1 : Int32) (x2 : Int32) (σ : aH) : Lq G d M_83 (46, [some (.ref 33), some (.int x1), some (.int x2), none], [], σ) = Lq G d M_83 (47, [some (.ref 33), some (.int x1), some (.int x2), none], [.ref 33], σ) :=
  (aUn_eq (tkd G.1 G.2) tmi (aRun (tkd G.1 G.2) tmi tmt d) M_83 [] 1 (46, [some (.ref 33), some (.int x1), some (.int x2), none], [], σ)).trans rfl
set_option maxRecDepth 20000 in
theorem q_83_5163 (G : Nat × (Nat → Int32)) (d : Nat) (x1 : Int32) (x2 : Int32) (σ : aH) : Lq G d M_83 (47, [some (.ref 33), some (.int x1), some (.int x2), none], [.ref 33], σ) = aCI (Rn G d 69 [.ref 33] σ) fun v2 σ1 => Lq G d M_83 (50, [some (.ref 33), some (.int x1), some (.int x2), none], [.int v2], σ1) :=
  (aUn_eq (tkd G.1 G.2) tmi (aRun (tkd G.1 G.2) tmi tmt d) M_83 [] 1 (47, [some (.ref 33), some (.int x1), some (.int x2), none], [.ref 33], σ)).trans rfl
set_option maxRecDepth 20000 in
theorem q_83_5164 (G : Nat × (Nat → Int32)) (d : Nat) (x1 : Int32) (x2 : Int32) (s0 : Int32) (σ : aH) : Lq G d M_83 (50, [some (.ref 33), some (.int x1), some (.int x2), none], [.int s0], σ) = Lq G d M_83 (54, [some (.ref 33), some (.int x1), some (.int x2), some (.int s0)], [.int (33 : Int32), .int s0], σ) :=
  (aUn_eq (tkd G.1 G.2) tmi (aRun (tkd G.1 G.2) tmi tmt d) M_83 [] 3 (50, [some (.ref 33), some (.int x1), some (.int x2), none], [.int s0], σ)).trans rfl
set_option maxRecDepth 20000 in
theorem q_83_5165 (G : Nat × (Nat → Int32)) (d : Nat) (x1 : Int32) (x2 : Int32) (x3 : Int32) (s0 : Int32) (s1 : Int32) (σ : aH) : Lq G d M_83 (54, [some (.ref 33), some (.int x1), some (.int x2), some (.int x3)], [.int s0, .int s1], σ) = if s1 = s0 then Lq G d M_83 (63, [some (.ref 33), some (.int x1), some (.int x2), some (.int x3)], [], σ) else Lq G d M_83 (57, [some (.ref 33), some (.int x1), some (.int x2), some (.int x3)], [], σ) :=
  (aUn_eq (tkd G.1 G.2) tmi (aRun (tkd G.1 G.2) tmi tmt d) M_83 [] 1 (54, [some (.ref 33), some (.int x1), some (.int x2), some (.int x3)], [.int s0, .int s1], σ)).trans rfl
set_option maxRecDepth 20000 in
theorem q_83_5166 (G : Nat × (Nat → Int32)) (d : Nat) (x1 : Int32) (x2 : Int32) (x3 : Int32) (σ : aH) : Lq G d M_83 (63, [some (.ref 33), some (.int x1), some (.int x2), some (.int x3)], [], σ) = Lq G d M_83 (67, [some (.ref 33), some (.int x1), some (.int x2), some (.int x3)], [.int (33 : Int32), .int x3, .ref 33], σ) :=
  (aUn_eq (tkd G.1 G.2) tmi (aRun (tkd G.1 G.2) tmi tmt d) M_83 [] 3 (63, [some (.ref 33), some (.int x1), some (.int x2), some (.int x3)], [], σ)).trans rfl
set_option maxRecDepth 20000 in
theorem q_83_5167 (G : Nat × (Nat → Int32)) (d : Nat) (x1 : Int32) (x2 : Int32) (x3 : Int32) (s0 : Int32) (s1 : Int32) (σ : aH) : Lq G d M_83 (67, [some (.ref 33), some (.int x1), some (.int x2), some (.int x3)], [.int s0, .int s1, .ref 33], σ) = if s1 = s0 then Lq G d M_83 (70, [some (.ref 33), some (.int x1), some (.int x2), some (.int x3)], [.ref 33], σ) else Lq G d M_83 (74, [some (.ref 33), some (.int x1), some (.int x2), some (.int x3)], [.ref 33], σ) :=
  (aUn_eq (tkd G.1 G.2) tmi (aRun (tkd G.1 G.2) tmi tmt d) M_83 [] 1 (67, [some (.ref 33), some (.int x1), some (.int x2), some (.int x3)], [.int s0, .int s1, .ref 33], σ)).trans rfl
set_option maxRecDepth 20000 in
theorem q_83_5168 (G : Nat × (Nat → Int32)) (d : Nat) (x1 : Int32) (x2 : Int32) (x3 : Int32) (σ : aH) : Lq G d M_83 (70, [some (.ref 33), some (.int x1), some (.int x2), some (.int x3)], [.ref 33], σ) = Lq G d M_83 (75, [some (.ref 33), some (.int x1), some (.int x2), some (.int x3)], [.int (2 : Int32), .ref 33], σ) :=
  (aUn_eq (tkd G.1 G.2) tmi (aRun (tkd G.1 G.2) tmi tmt d) M_83 [] 2 (70, [some (.ref 33), some (.int x1), some (.int x2), some (.int x3)], [.ref 33], σ)).trans rfl
set_option maxRecDepth 20000 in
theorem q_83_5169 (G : Nat × (Nat → Int32)) (d : Nat) (x1 : Int32) (x2 : Int32) (x3 : Int32) (s0 : Int32) (σ : aH) : Lq G d M_83 (75, [some (.ref 33), some (.int x1), some (.int x2), some (.int x3)], [.int s0, .ref 33], σ) = aCV (Rn G d 90 [.ref 33, .int s0] σ) fun σ1 => Lq G d M_83 (78, [some (.ref 33), some (.int x1), some (.int x2), some (.int x3)], [], σ1) :=
  (aUn_eq (tkd G.1 G.2) tmi (aRun (tkd G.1 G.2) tmi tmt d) M_83 [] 1 (75, [some (.ref 33), some (.int x1), some (.int x2), some (.int x3)], [.int s0, .ref 33], σ)).trans rfl
set_option maxRecDepth 20000 in
theorem q_83_5170 (G : Nat × (Nat → Int32)) (d : Nat) (x1 : Int32) (x2 : Int32) (x3 : Int32) (σ : aH) : Lq G d M_83 (78, [some (.ref 33), some (.int x1), some (.int x2), some (.int x3)], [], σ) = Lq G d M_83 (82, [some (.ref 33), some (.int x1), some (.int x2), some (.int x3)], [.int (33 : Int32), .int x3, .ref 33], σ) :=
  (aUn_eq (tkd G.1 G.2) tmi (aRun (tkd G.1 G.2) tmi tmt d) M_83 [] 3 (78, [some (.ref 33), some (.int x1), some (.int x2), some (.int x3)], [], σ)).trans rfl
set_option maxRecDepth 20000 in
theorem q_83_5171 (G : Nat × (Nat → Int32)) (d : Nat) (x1 : Int32) (x2 : Int32) (x3 : Int32) (s0 : Int32) (s1 : Int32) (σ : aH) : Lq G d M_83 (82, [some (.ref 33), some (.int x1), some (.int x2), some (.int x3)], [.int s0, .int s1, .ref 33], σ) = if s1 = s0 then Lq G d M_83 (85, [some (.ref 33), some (.int x1), some (.int x2), some (.int x3)], [.ref 33], σ) else Lq G d M_83 (89, [some (.ref 33), some (.int x1), some (.int x2), some (.int x3)], [.ref 33], σ) :=
  (aUn_eq (tkd G.1 G.2) tmi (aRun (tkd G.1 G.2) tmi tmt d) M_83 [] 1 (82, [some (.ref 33), some (.int x1), some (.int x2), some (.int x3)], [.int s0, .int s1, .ref 33], σ)).trans rfl
set_option maxRecDepth 20000 in
theorem q_83_5172 (G : Nat × (Nat → Int32)) (d : Nat) (x1 : Int32) (x2 : Int32) (x3 : Int32) (σ : aH) : Lq G d M_83 (85, [some (.ref 33), some (.int x1), some (.int x2), some (.int x3)], [.ref 33], σ) = Lq G d M_83 (90, [some (.ref 33), some (.int x1), some (.int x2), some (.int x3)], [.int (4 : Int32), .ref 33], σ) :=
  (aUn_eq (tkd G.1 G.2) tmi (aRun (tkd G.1 G.2) tmi tmt d) M_83 [] 2 (85, [some (.ref 33), some (.int x1), some (.int x2), some (.int x3)], [.ref 33], σ)).trans rfl
set_option maxRecDepth 20000 in
theorem q_83_5173 (G : Nat × (Nat → Int32)) (d : Nat) (x1 : Int32) (x2 : Int32) (x3 : Int32) (s0 : Int32) (σ : aH) : Lq G d M_83 (90, [some (.ref 33), some (.int x1), some (.int x2), some (.int x3)], [.int s0, .ref 33], σ) = aCV (Rn G d 87 [.ref 33, .int s0] σ) fun σ1 => Lq G d M_83 (93, [some (.ref 33), some (.int x1), some (.int x2), some (.int x3)], [], σ1) :=
  (aUn_eq (tkd G.1 G.2) tmi (aRun (tkd G.1 G.2) tmi tmt d) M_83 [] 1 (90, [some (.ref 33), some (.int x1), some (.int x2), some (.int x3)], [.int s0, .ref 33], σ)).trans rfl
set_option maxRecDepth 20000 in
theorem q_83_5174 (G : Nat × (Nat → Int32)) (d : Nat) (x1 : Int32) (x2 : Int32) (x3 : Int32) (σ : aH) : Lq G d M_83 (93, [some (.ref 33), some (.int x1), some (.int x2), some (.int x3)], [], σ) = Lq G d M_83 (102, [some (.ref 33), some (.int x1), some (.int x2), some (.int x3)], [.int (0 : Int32), .int (σ.1 33 33), .ref 49], σ) :=
  (aUn_eq (tkd G.1 G.2) tmi (aRun (tkd G.1 G.2) tmi tmt d) M_83 [] 5 (93, [some (.ref 33), some (.int x1), some (.int x2), some (.int x3)], [], σ)).trans rfl
set_option maxRecDepth 20000 in
theorem q_83_5175 (G : Nat × (Nat → Int32)) (d : Nat) (x1 : Int32) (x2 : Int32) (x3 : Int32) (s0 : Int32) (s1 : Int32) (σ : aH) : Lq G d M_83 (102, [some (.ref 33), some (.int x1), some (.int x2), some (.int x3)], [.int s0, .int s1, .ref 49], σ) = aIx (s1) 9 fun j1 => Lq G d M_83 (103, [some (.ref 33), some (.int x1), some (.int x2), some (.int x3)], [], (aSI σ 49 j1 (vp_nar .boolean s0))) :=
  (aUn_eq (tkd G.1 G.2) tmi (aRun (tkd G.1 G.2) tmi tmt d) M_83 [] 1 (102, [some (.ref 33), some (.int x1), some (.int x2), some (.int x3)], [.int s0, .int s1, .ref 49], σ)).trans rfl
set_option maxRecDepth 20000 in
theorem q_83_5176 (G : Nat × (Nat → Int32)) (d : Nat) (x1 : Int32) (x2 : Int32) (x3 : Int32) (σ : aH) : Lq G d M_83 (103, [some (.ref 33), some (.int x1), some (.int x2), some (.int x3)], [], σ) = Lq G d M_83 (104, [some (.ref 33), some (.int x1), some (.int x2), some (.int x3)], [.ref 33], σ) :=
  (aUn_eq (tkd G.1 G.2) tmi (aRun (tkd G.1 G.2) tmi tmt d) M_83 [] 1 (103, [some (.ref 33), some (.int x1), some (.int x2), some (.int x3)], [], σ)).trans rfl
set_option maxRecDepth 20000 in
theorem q_83_5177 (G : Nat × (Nat → Int32)) (d : Nat) (x1 : Int32) (x2 : Int32) (x3 : Int32) (σ : aH) : Lq G d M_83 (104, [some (.ref 33), some (.int x1), some (.int x2), some (.int x3)], [.ref 33], σ) = aCV (Rn G d 63 [.ref 33] σ) fun σ1 => Lq G d M_83 (107, [some (.ref 33), some (.int x1), some (.int x2), some (.int x3)], [], σ1) :=
  (aUn_eq (tkd G.1 G.2) tmi (aRun (tkd G.1 G.2) tmi tmt d) M_83 [] 1 (104, [some (.ref 33), some (.int x1), some (.int x2), some (.int x3)], [.ref 33], σ)).trans rfl
set_option maxRecDepth 20000 in
theorem q_83_5178 (G : Nat × (Nat → Int32)) (d : Nat) (x1 : Int32) (x2 : Int32) (x3 : Int32) (σ : aH) : Lq G d M_83 (107, [some (.ref 33), some (.int x1), some (.int x2), some (.int x3)], [], σ) = Lq G d M_83 (109, [some (.ref 33), some (.int x1), some (.int x2), some (.int x3)], [.int (1 : Int32), .ref 33], σ) :=
  (aUn_eq (tkd G.1 G.2) tmi (aRun (tkd G.1 G.2) tmi tmt d) M_83 [] 2 (107, [some (.ref 33), some (.int x1), some (.int x2), some (.int x3)], [], σ)).trans rfl
set_option maxRecDepth 20000 in
theorem q_83_5179 (G : Nat × (Nat → Int32)) (d : Nat) (x1 : Int32) (x2 : Int32) (x3 : Int32) (s0 : Int32) (σ : aH) : Lq G d M_83 (109, [some (.ref 33), some (.int x1), some (.int x2), some (.int x3)], [.int s0, .ref 33], σ) = aCV (Rn G d 86 [.ref 33, .int s0] σ) fun σ1 => Lq G d M_83 (112, [some (.ref 33), some (.int x1), some (.int x2), some (.int x3)], [], σ1) :=
  (aUn_eq (tkd G.1 G.2) tmi (aRun (tkd G.1 G.2) tmi tmt d) M_83 [] 1 (109, [some (.ref 33), some (.int x1), some (.int x2), some (.int x3)], [.int s0, .ref 33], σ)).trans rfl
set_option maxRecDepth 20000 in
theorem q_83_5180 (G : Nat × (Nat → Int32)) (d : Nat) (x1 : Int32) (x2 : Int32) (x3 : Int32) (σ : aH) : Lq G d M_83 (112, [some (.ref 33), some (.int x1), some (.int x2), some (.int x3)], [], σ) = Lq G d M_83 (35, [some (.ref 33), some (.int x1), some (.int x2), none], [], σ) :=
  (aUn_eq (tkd G.1 G.2) tmi (aRun (tkd G.1 G.2) tmi tmt d) M_83 [] 2 (112, [some (.ref 33), some (.int x1), some (.int x2), some (.int x3)], [], σ)).trans rfl
set_option maxRecDepth 20000 in
theorem q_83_5181 (G : Nat × (Nat → Int32)) (d : Nat) (x1 : Int32) (x2 : Int32) (x3 : Int32) (σ : aH) : Lq G d M_83 (89, [some (.ref 33), some (.int x1), some (.int x2), some (.int x3)], [.ref 33], σ) = Lq G d M_83 (90, [some (.ref 33), some (.int x1), some (.int x2), some (.int x3)], [.int (5 : Int32), .ref 33], σ) :=
  (aUn_eq (tkd G.1 G.2) tmi (aRun (tkd G.1 G.2) tmi tmt d) M_83 [] 1 (89, [some (.ref 33), some (.int x1), some (.int x2), some (.int x3)], [.ref 33], σ)).trans rfl
set_option maxRecDepth 20000 in
theorem q_83_5182 (G : Nat × (Nat → Int32)) (d : Nat) (x1 : Int32) (x2 : Int32) (x3 : Int32) (σ : aH) : Lq G d M_83 (74, [some (.ref 33), some (.int x1), some (.int x2), some (.int x3)], [.ref 33], σ) = Lq G d M_83 (75, [some (.ref 33), some (.int x1), some (.int x2), some (.int x3)], [.int (1 : Int32), .ref 33], σ) :=
  (aUn_eq (tkd G.1 G.2) tmi (aRun (tkd G.1 G.2) tmi tmt d) M_83 [] 1 (74, [some (.ref 33), some (.int x1), some (.int x2), some (.int x3)], [.ref 33], σ)).trans rfl
set_option maxRecDepth 20000 in
theorem q_83_5183 (G : Nat × (Nat → Int32)) (d : Nat) (x1 : Int32) (x2 : Int32) (x3 : Int32) (σ : aH) : Lq G d M_83 (57, [some (.ref 33), some (.int x1), some (.int x2), some (.int x3)], [], σ) = Lq G d M_83 (60, [some (.ref 33), some (.int x1), some (.int x2), some (.int x3)], [.int (34 : Int32), .int x3], σ) :=
  (aUn_eq (tkd G.1 G.2) tmi (aRun (tkd G.1 G.2) tmi tmt d) M_83 [] 2 (57, [some (.ref 33), some (.int x1), some (.int x2), some (.int x3)], [], σ)).trans rfl
set_option maxRecDepth 20000 in
theorem q_83_5184 (G : Nat × (Nat → Int32)) (d : Nat) (x1 : Int32) (x2 : Int32) (x3 : Int32) (s0 : Int32) (s1 : Int32) (σ : aH) : Lq G d M_83 (60, [some (.ref 33), some (.int x1), some (.int x2), some (.int x3)], [.int s0, .int s1], σ) = if s1 = s0 then Lq G d M_83 (63, [some (.ref 33), some (.int x1), some (.int x2), some (.int x3)], [], σ) else Lq G d M_83 (115, [some (.ref 33), some (.int x1), some (.int x2), some (.int x3)], [], σ) :=
  (aUn_eq (tkd G.1 G.2) tmi (aRun (tkd G.1 G.2) tmi tmt d) M_83 [] 1 (60, [some (.ref 33), some (.int x1), some (.int x2), some (.int x3)], [.int s0, .int s1], σ)).trans rfl
set_option maxRecDepth 20000 in
theorem q_83_5185 (G : Nat × (Nat → Int32)) (d : Nat) (x1 : Int32) (x2 : Int32) (x3 : Int32) (σ : aH) : Lq G d M_83 (115, [some (.ref 33), some (.int x1), some (.int x2), some (.int x3)], [], σ) = Lq G d M_83 (118, [some (.ref 33), some (.int x1), some (.int x2), some (.int x3)], [.int (60 : Int32), .ref 33], σ) :=
  (aUn_eq (tkd G.1 G.2) tmi (aRun (tkd G.1 G.2) tmi tmt d) M_83 [] 2 (115, [some (.ref 33), some (.int x1), some (.int x2), some (.int x3)], [], σ)).trans rfl
set_option maxRecDepth 20000 in
theorem q_83_5186 (G : Nat × (Nat → Int32)) (d : Nat) (x1 : Int32) (x2 : Int32) (x3 : Int32) (s0 : Int32) (σ : aH) : Lq G d M_83 (118, [some (.ref 33), some (.int x1), some (.int x2), some (.int x3)], [.int s0, .ref 33], σ) = aCI (Rn G d 85 [.ref 33, .int s0] σ) fun v2 σ1 => Lq G d M_83 (121, [some (.ref 33), some (.int x1), some (.int x2), some (.int x3)], [.int v2], σ1) :=
  (aUn_eq (tkd G.1 G.2) tmi (aRun (tkd G.1 G.2) tmi tmt d) M_83 [] 1 (118, [some (.ref 33), some (.int x1), some (.int x2), some (.int x3)], [.int s0, .ref 33], σ)).trans rfl
set_option maxRecDepth 20000 in
theorem q_83_5187 (G : Nat × (Nat → Int32)) (d : Nat) (x1 : Int32) (x2 : Int32) (x3 : Int32) (s0 : Int32) (σ : aH) : Lq G d M_83 (121, [some (.ref 33), some (.int x1), some (.int x2), some (.int x3)], [.int s0], σ) = if s0 = 0 then Lq G d M_83 (124, [some (.ref 33), some (.int x1), some (.int x2), some (.int x3)], [], σ) else Lq G d M_83 (133, [some (.ref 33), some (.int x1), some (.int x2), some (.int x3)], [], σ) :=
  (aUn_eq (tkd G.1 G.2) tmi (aRun (tkd G.1 G.2) tmi tmt d) M_83 [] 1 (121, [some (.ref 33), some (.int x1), some (.int x2), some (.int x3)], [.int s0], σ)).trans rfl
set_option maxRecDepth 20000 in
theorem q_83_5188 (G : Nat × (Nat → Int32)) (d : Nat) (x1 : Int32) (x2 : Int32) (x3 : Int32) (σ : aH) : Lq G d M_83 (124, [some (.ref 33), some (.int x1), some (.int x2), some (.int x3)], [], σ) = Lq G d M_83 (127, [some (.ref 33), some (.int x1), some (.int x2), some (.int x3)], [.int (61 : Int32), .ref 33], σ) :=
  (aUn_eq (tkd G.1 G.2) tmi (aRun (tkd G.1 G.2) tmi tmt d) M_83 [] 2 (124, [some (.ref 33), some (.int x1), some (.int x2), some (.int x3)], [], σ)).trans rfl
set_option maxRecDepth 20000 in
theorem q_83_5189 (G : Nat × (Nat → Int32)) (d : Nat) (x1 : Int32) (x2 : Int32) (x3 : Int32) (s0 : Int32) (σ : aH) : Lq G d M_83 (127, [some (.ref 33), some (.int x1), some (.int x2), some (.int x3)], [.int s0, .ref 33], σ) = aCI (Rn G d 85 [.ref 33, .int s0] σ) fun v2 σ1 => Lq G d M_83 (130, [some (.ref 33), some (.int x1), some (.int x2), some (.int x3)], [.int v2], σ1) :=
  (aUn_eq (tkd G.1 G.2) tmi (aRun (tkd G.1 G.2) tmi tmt d) M_83 [] 1 (127, [some (.ref 33), some (.int x1), some (.int x2), some (.int x3)], [.int s0, .ref 33], σ)).trans rfl
set_option maxRecDepth 20000 in
theorem q_83_5190 (G : Nat × (Nat → Int32)) (d : Nat) (x1 : Int32) (x2 : Int32) (x3 : Int32) (s0 : Int32) (σ : aH) : Lq G d M_83 (130, [some (.ref 33), some (.int x1), some (.int x2), some (.int x3)], [.int s0], σ) = if s0 = 0 then Lq G d M_83 (192, [some (.ref 33), some (.int x1), some (.int x2), some (.int x3)], [], σ) else Lq G d M_83 (133, [some (.ref 33), some (.int x1), some (.int x2), some (.int x3)], [], σ) :=
  (aUn_eq (tkd G.1 G.2) tmi (aRun (tkd G.1 G.2) tmi tmt d) M_83 [] 1 (130, [some (.ref 33), some (.int x1), some (.int x2), some (.int x3)], [.int s0], σ)).trans rfl
set_option maxRecDepth 20000 in
theorem q_83_5191 (G : Nat × (Nat → Int32)) (d : Nat) (x1 : Int32) (x2 : Int32) (x3 : Int32) (σ : aH) : Lq G d M_83 (192, [some (.ref 33), some (.int x1), some (.int x2), some (.int x3)], [], σ) = Lq G d M_83 (195, [some (.ref 33), some (.int x1), some (.int x2), some (.int x3)], [.int (43 : Int32), .ref 33], σ) :=
  (aUn_eq (tkd G.1 G.2) tmi (aRun (tkd G.1 G.2) tmi tmt d) M_83 [] 2 (192, [some (.ref 33), some (.int x1), some (.int x2), some (.int x3)], [], σ)).trans rfl
set_option maxRecDepth 20000 in
theorem q_83_5192 (G : Nat × (Nat → Int32)) (d : Nat) (x1 : Int32) (x2 : Int32) (x3 : Int32) (s0 : Int32) (σ : aH) : Lq G d M_83 (195, [some (.ref 33), some (.int x1), some (.int x2), some (.int x3)], [.int s0, .ref 33], σ) = aCI (Rn G d 85 [.ref 33, .int s0] σ) fun v2 σ1 => Lq G d M_83 (198, [some (.ref 33), some (.int x1), some (.int x2), some (.int x3)], [.int v2], σ1) :=
  (aUn_eq (tkd G.1 G.2) tmi (aRun (tkd G.1 G.2) tmi tmt d) M_83 [] 1 (195, [some (.ref 33), some (.int x1), some (.int x2), some (.int x3)], [.int s0, .ref 33], σ)).trans rfl
set_option maxRecDepth 20000 in
theorem q_83_5193 (G : Nat × (Nat → Int32)) (d : Nat) (x1 : Int32) (x2 : Int32) (x3 : Int32) (s0 : Int32) (σ : aH) : Lq G d M_83 (198, [some (.ref 33), some (.int x1), some (.int x2), some (.int x3)], [.int s0], σ) = if s0 = 0 then Lq G d M_83 (201, [some (.ref 33), some (.int x1), some (.int x2), some (.int x3)], [], σ) else Lq G d M_83 (210, [some (.ref 33), some (.int x1), some (.int x2), some (.int x3)], [], σ) :=
  (aUn_eq (tkd G.1 G.2) tmi (aRun (tkd G.1 G.2) tmi tmt d) M_83 [] 1 (198, [some (.ref 33), some (.int x1), some (.int x2), some (.int x3)], [.int s0], σ)).trans rfl
set_option maxRecDepth 20000 in
theorem q_83_5194 (G : Nat × (Nat → Int32)) (d : Nat) (x1 : Int32) (x2 : Int32) (x3 : Int32) (σ : aH) : Lq G d M_83 (201, [some (.ref 33), some (.int x1), some (.int x2), some (.int x3)], [], σ) = Lq G d M_83 (204, [some (.ref 33), some (.int x1), some (.int x2), some (.int x3)], [.int (45 : Int32), .ref 33], σ) :=
  (aUn_eq (tkd G.1 G.2) tmi (aRun (tkd G.1 G.2) tmi tmt d) M_83 [] 2 (201, [some (.ref 33), some (.int x1), some (.int x2), some (.int x3)], [], σ)).trans rfl
set_option maxRecDepth 20000 in
theorem q_83_5195 (G : Nat × (Nat → Int32)) (d : Nat) (x1 : Int32) (x2 : Int32) (x3 : Int32) (s0 : Int32) (σ : aH) : Lq G d M_83 (204, [some (.ref 33), some (.int x1), some (.int x2), some (.int x3)], [.int s0, .ref 33], σ) = aCI (Rn G d 85 [.ref 33, .int s0] σ) fun v2 σ1 => Lq G d M_83 (207, [some (.ref 33), some (.int x1), some (.int x2), some (.int x3)], [.int v2], σ1) :=
  (aUn_eq (tkd G.1 G.2) tmi (aRun (tkd G.1 G.2) tmi tmt d) M_83 [] 1 (204, [some (.ref 33), some (.int x1), some (.int x2), some (.int x3)], [.int s0, .ref 33], σ)).trans rfl
set_option maxRecDepth 20000 in
theorem q_83_5196 (G : Nat × (Nat → Int32)) (d : Nat) (x1 : Int32) (x2 : Int32) (x3 : Int32) (s0 : Int32) (σ : aH) : Lq G d M_83 (207, [some (.ref 33), some (.int x1), some (.int x2), some (.int x3)], [.int s0], σ) = if s0 = 0 then Lq G d M_83 (247, [some (.ref 33), some (.int x1), some (.int x2), some (.int x3)], [], σ) else Lq G d M_83 (210, [some (.ref 33), some (.int x1), some (.int x2), some (.int x3)], [], σ) :=
  (aUn_eq (tkd G.1 G.2) tmi (aRun (tkd G.1 G.2) tmi tmt d) M_83 [] 1 (207, [some (.ref 33), some (.int x1), some (.int x2), some (.int x3)], [.int s0], σ)).trans rfl
set_option maxRecDepth 20000 in
theorem q_83_5197 (G : Nat × (Nat → Int32)) (d : Nat) (x1 : Int32) (x2 : Int32) (x3 : Int32) (σ : aH) : Lq G d M_83 (247, [some (.ref 33), some (.int x1), some (.int x2), some (.int x3)], [], σ) = Lq G d M_83 (250, [some (.ref 33), some (.int x1), some (.int x2), some (.int x3)], [.int (42 : Int32), .ref 33], σ) :=
  (aUn_eq (tkd G.1 G.2) tmi (aRun (tkd G.1 G.2) tmi tmt d) M_83 [] 2 (247, [some (.ref 33), some (.int x1), some (.int x2), some (.int x3)], [], σ)).trans rfl
set_option maxRecDepth 20000 in
theorem q_83_5198 (G : Nat × (Nat → Int32)) (d : Nat) (x1 : Int32) (x2 : Int32) (x3 : Int32) (s0 : Int32) (σ : aH) : Lq G d M_83 (250, [some (.ref 33), some (.int x1), some (.int x2), some (.int x3)], [.int s0, .ref 33], σ) = aCI (Rn G d 85 [.ref 33, .int s0] σ) fun v2 σ1 => Lq G d M_83 (253, [some (.ref 33), some (.int x1), some (.int x2), some (.int x3)], [.int v2], σ1) :=
  (aUn_eq (tkd G.1 G.2) tmi (aRun (tkd G.1 G.2) tmi tmt d) M_83 [] 1 (250, [some (.ref 33), some (.int x1), some (.int x2), some (.int x3)], [.int s0, .ref 33], σ)).trans rfl
set_option maxRecDepth 20000 in
theorem q_83_5199 (G : Nat × (Nat → Int32)) (d : Nat) (x1 : Int32) (x2 : Int32) (x3 : Int32) (s0 : Int32) (σ : aH) : Lq G d M_83 (253, [some (.ref 33), some (.int x1), some (.int x2), some (.int x3)], [.int s0], σ) = if s0 = 0 then Lq G d M_83 (256, [some (.ref 33), some (.int x1), some (.int x2), some (.int x3)], [], σ) else Lq G d M_83 (265, [some (.ref 33), some (.int x1), some (.int x2), some (.int x3)], [], σ) :=
  (aUn_eq (tkd G.1 G.2) tmi (aRun (tkd G.1 G.2) tmi tmt d) M_83 [] 1 (253, [some (.ref 33), some (.int x1), some (.int x2), some (.int x3)], [.int s0], σ)).trans rfl
set_option maxRecDepth 20000 in
theorem q_83_5200 (G : Nat × (Nat → Int32)) (d : Nat) (x1 : Int32) (x2 : Int32) (x3 : Int32) (σ : aH) : Lq G d M_83 (256, [some (.ref 33), some (.int x1), some (.int x2), some (.int x3)], [], σ) = Lq G d M_83 (259, [some (.ref 33), some (.int x1), some (.int x2), some (.int x3)], [.int (47 : Int32), .ref 33], σ) :=
  (aUn_eq (tkd G.1 G.2) tmi (aRun (tkd G.1 G.2) tmi tmt d) M_83 [] 2 (256, [some (.ref 33), some (.int x1), some (.int x2), some (.int x3)], [], σ)).trans rfl
set_option maxRecDepth 20000 in
theorem q_83_5201 (G : Nat × (Nat → Int32)) (d : Nat) (x1 : Int32) (x2 : Int32) (x3 : Int32) (s0 : Int32) (σ : aH) : Lq G d M_83 (259, [some (.ref 33), some (.int x1), some (.int x2), some (.int x3)], [.int s0, .ref 33], σ) = aCI (Rn G d 85 [.ref 33, .int s0] σ) fun v2 σ1 => Lq G d M_83 (262, [some (.ref 33), some (.int x1), some (.int x2), some (.int x3)], [.int v2], σ1) :=
  (aUn_eq (tkd G.1 G.2) tmi (aRun (tkd G.1 G.2) tmi tmt d) M_83 [] 1 (259, [some (.ref 33), some (.int x1), some (.int x2), some (.int x3)], [.int s0, .ref 33], σ)).trans rfl
set_option maxRecDepth 20000 in
theorem q_83_5202 (G : Nat × (Nat → Int32)) (d : Nat) (x1 : Int32) (x2 : Int32) (x3 : Int32) (s0 : Int32) (σ : aH) : Lq G d M_83 (262, [some (.ref 33), some (.int x1), some (.int x2), some (.int x3)], [.int s0], σ) = if s0 = 0 then Lq G d M_83 (303, [some (.ref 33), some (.int x1), some (.int x2), some (.int x3)], [], σ) else Lq G d M_83 (265, [some (.ref 33), some (.int x1), some (.int x2), some (.int x3)], [], σ) :=
  (aUn_eq (tkd G.1 G.2) tmi (aRun (tkd G.1 G.2) tmi tmt d) M_83 [] 1 (262, [some (.ref 33), some (.int x1), some (.int x2), some (.int x3)], [.int s0], σ)).trans rfl
set_option maxRecDepth 20000 in
theorem q_83_5203 (G : Nat × (Nat → Int32)) (d : Nat) (x1 : Int32) (x2 : Int32) (x3 : Int32) (σ : aH) : Lq G d M_83 (303, [some (.ref 33), some (.int x1), some (.int x2), some (.int x3)], [], σ) = Lq G d M_83 (306, [some (.ref 33), some (.int x1), some (.int x2), some (.int x3)], [.int (41 : Int32), .ref 33], σ) :=
  (aUn_eq (tkd G.1 G.2) tmi (aRun (tkd G.1 G.2) tmi tmt d) M_83 [] 2 (303, [some (.ref 33), some (.int x1), some (.int x2), some (.int x3)], [], σ)).trans rfl
set_option maxRecDepth 20000 in
theorem q_83_5204 (G : Nat × (Nat → Int32)) (d : Nat) (x1 : Int32) (x2 : Int32) (x3 : Int32) (s0 : Int32) (σ : aH) : Lq G d M_83 (306, [some (.ref 33), some (.int x1), some (.int x2), some (.int x3)], [.int s0, .ref 33], σ) = aCI (Rn G d 85 [.ref 33, .int s0] σ) fun v2 σ1 => Lq G d M_83 (309, [some (.ref 33), some (.int x1), some (.int x2), some (.int x3)], [.int v2], σ1) :=
  (aUn_eq (tkd G.1 G.2) tmi (aRun (tkd G.1 G.2) tmi tmt d) M_83 [] 1 (306, [some (.ref 33), some (.int x1), some (.int x2), some (.int x3)], [.int s0, .ref 33], σ)).trans rfl
set_option maxRecDepth 20000 in
theorem q_83_5205 (G : Nat × (Nat → Int32)) (d : Nat) (x1 : Int32) (x2 : Int32) (x3 : Int32) (s0 : Int32) (σ : aH) : Lq G d M_83 (309, [some (.ref 33), some (.int x1), some (.int x2), some (.int x3)], [.int s0], σ) = if s0 = 0 then Lq G d M_83 (352, [some (.ref 33), some (.int x1), some (.int x2), some (.int x3)], [], σ) else Lq G d M_83 (312, [some (.ref 33), some (.int x1), some (.int x2), some (.int x3)], [], σ) :=
  (aUn_eq (tkd G.1 G.2) tmi (aRun (tkd G.1 G.2) tmi tmt d) M_83 [] 1 (309, [some (.ref 33), some (.int x1), some (.int x2), some (.int x3)], [.int s0], σ)).trans rfl
set_option maxRecDepth 20000 in
theorem q_83_5206 (G : Nat × (Nat → Int32)) (d : Nat) (x1 : Int32) (x2 : Int32) (x3 : Int32) (σ : aH) : Lq G d M_83 (352, [some (.ref 33), some (.int x1), some (.int x2), some (.int x3)], [], σ) = Lq G d M_83 (35, [some (.ref 33), some (.int x1), some (.int (0 : Int32)), none], [], σ) :=
  (aUn_eq (tkd G.1 G.2) tmi (aRun (tkd G.1 G.2) tmi tmt d) M_83 [] 3 (352, [some (.ref 33), some (.int x1), some (.int x2), some (.int x3)], [], σ)).trans rfl
set_option maxRecDepth 20000 in
theorem q_83_5207 (G : Nat × (Nat → Int32)) (d : Nat) (x1 : Int32) (x2 : Int32) (x3 : Int32) (σ : aH) : Lq G d M_83 (312, [some (.ref 33), some (.int x1), some (.int x2), some (.int x3)], [], σ) = Lq G d M_83 (317, [some (.ref 33), some (.int x1), some (.int x2), some (.int x3)], [.int (1 : Int32), .int (σ.1 33 33)], σ) :=
  (aUn_eq (tkd G.1 G.2) tmi (aRun (tkd G.1 G.2) tmi tmt d) M_83 [] 3 (312, [some (.ref 33), some (.int x1), some (.int x2), some (.int x3)], [], σ)).trans rfl
set_option maxRecDepth 20000 in
theorem q_83_5208 (G : Nat × (Nat → Int32)) (d : Nat) (x1 : Int32) (x2 : Int32) (x3 : Int32) (s0 : Int32) (s1 : Int32) (σ : aH) : Lq G d M_83 (317, [some (.ref 33), some (.int x1), some (.int x2), some (.int x3)], [.int s0, .int s1], σ) = if s1 ≤ s0 then Lq G d M_83 (352, [some (.ref 33), some (.int x1), some (.int x2), some (.int x3)], [], σ) else Lq G d M_83 (320, [some (.ref 33), some (.int x1), some (.int x2), some (.int x3)], [], σ) :=
  (aUn_eq (tkd G.1 G.2) tmi (aRun (tkd G.1 G.2) tmi tmt d) M_83 [] 1 (317, [some (.ref 33), some (.int x1), some (.int x2), some (.int x3)], [.int s0, .int s1], σ)).trans rfl
set_option maxRecDepth 20000 in
theorem q_83_5209 (G : Nat × (Nat → Int32)) (d : Nat) (x1 : Int32) (x2 : Int32) (x3 : Int32) (σ : aH) : Lq G d M_83 (320, [some (.ref 33), some (.int x1), some (.int x2), some (.int x3)], [], σ) = Lq G d M_83 (322, [some (.ref 33), some (.int x1), some (.int x2), some (.int x3)], [.int (0 : Int32), .ref 33], σ) :=
  (aUn_eq (tkd G.1 G.2) tmi (aRun (tkd G.1 G.2) tmi tmt d) M_83 [] 2 (320, [some (.ref 33), some (.int x1), some (.int x2), some (.int x3)], [], σ)).trans rfl
set_option maxRecDepth 20000 in
theorem q_83_5210 (G : Nat × (Nat → Int32)) (d : Nat) (x1 : Int32) (x2 : Int32) (x3 : Int32) (s0 : Int32) (σ : aH) : Lq G d M_83 (322, [some (.ref 33), some (.int x1), some (.int x2), some (.int x3)], [.int s0, .ref 33], σ) = aCV (Rn G d 90 [.ref 33, .int s0] σ) fun σ1 => Lq G d M_83 (325, [some (.ref 33), some (.int x1), some (.int x2), some (.int x3)], [], σ1) :=
  (aUn_eq (tkd G.1 G.2) tmi (aRun (tkd G.1 G.2) tmi tmt d) M_83 [] 1 (322, [some (.ref 33), some (.int x1), some (.int x2), some (.int x3)], [.int s0, .ref 33], σ)).trans rfl
set_option maxRecDepth 20000 in
theorem q_83_5211 (G : Nat × (Nat → Int32)) (d : Nat) (x1 : Int32) (x2 : Int32) (x3 : Int32) (σ : aH) : Lq G d M_83 (325, [some (.ref 33), some (.int x1), some (.int x2), some (.int x3)], [], σ) = Lq G d M_83 (345, [some (.ref 33), some (.int x1), some (.int x2), some (.int x3)], [], (aSI (aSI σ 33 32 ((σ.1 33 32) - (1 : Int32))) 33 33 ((σ.1 33 33) - (1 : Int32)))) :=
  (aUn_eq (tkd G.1 G.2) tmi (aRun (tkd G.1 G.2) tmi tmt d) M_83 [] 12 (325, [some (.ref 33), some (.int x1), some (.int x2), some (.int x3)], [], σ)).trans rfl
set_option maxRecDepth 20000 in
theorem q_83_5212 (G : Nat × (Nat → Int32)) (d : Nat) (x1 : Int32) (x2 : Int32) (x3 : Int32) (σ : aH) : Lq G d M_83 (345, [some (.ref 33), some (.int x1), some (.int x2), some (.int x3)], [], σ) = Lq G d M_83 (346, [some (.ref 33), some (.int x1), some (.int x2), some (.int x3)], [.ref 33], σ) :=
  (aUn_eq (tkd G.1 G.2) tmi (aRun (tkd G.1 G.2) tmi tmt d) M_83 [] 1 (345, [some (.ref 33), some (.int x1), some (.int x2), some (.int x3)], [], σ)).trans rfl
set_option maxRecDepth 20000 in
theorem q_83_5213 (G : Nat × (Nat → Int32)) (d : Nat) (x1 : Int32) (x2 : Int32) (x3 : Int32) (σ : aH) : Lq G d M_83 (346, [some (.ref 33), some (.int x1), some (.int x2), some (.int x3)], [.ref 33], σ) = aCV (Rn G d 63 [.ref 33] σ) fun σ1 => Lq G d M_83 (349, [some (.ref 33), some (.int x1), some (.int x2), some (.int x3)], [], σ1) :=
  (aUn_eq (tkd G.1 G.2) tmi (aRun (tkd G.1 G.2) tmi tmt d) M_83 [] 1 (346, [some (.ref 33), some (.int x1), some (.int x2), some (.int x3)], [.ref 33], σ)).trans rfl
set_option maxRecDepth 20000 in
theorem q_83_5214 (G : Nat × (Nat → Int32)) (d : Nat) (x1 : Int32) (x2 : Int32) (x3 : Int32) (σ : aH) : Lq G d M_83 (349, [some (.ref 33), some (.int x1), some (.int x2), some (.int x3)], [], σ) = Lq G d M_83 (35, [some (.ref 33), some (.int x1), some (.int x2), none], [], σ) :=
  (aUn_eq (tkd G.1 G.2) tmi (aRun (tkd G.1 G.2) tmi tmt d) M_83 [] 2 (349, [some (.ref 33), some (.int x1), some (.int x2), some (.int x3)], [], σ)).trans rfl
set_option maxRecDepth 20000 in
theorem q_83_5215 (G : Nat × (Nat → Int32)) (d : Nat) (x1 : Int32) (x2 : Int32) (x3 : Int32) (σ : aH) : Lq G d M_83 (265, [some (.ref 33), some (.int x1), some (.int x2), some (.int x3)], [], σ) = Lq G d M_83 (268, [some (.ref 33), some (.int x1), some (.int x2), some (.int x3)], [.int (6 : Int32), .ref 33], σ) :=
  (aUn_eq (tkd G.1 G.2) tmi (aRun (tkd G.1 G.2) tmi tmt d) M_83 [] 2 (265, [some (.ref 33), some (.int x1), some (.int x2), some (.int x3)], [], σ)).trans rfl
set_option maxRecDepth 20000 in
theorem q_83_5216 (G : Nat × (Nat → Int32)) (d : Nat) (x1 : Int32) (x2 : Int32) (x3 : Int32) (s0 : Int32) (σ : aH) : Lq G d M_83 (268, [some (.ref 33), some (.int x1), some (.int x2), some (.int x3)], [.int s0, .ref 33], σ) = aCV (Rn G d 90 [.ref 33, .int s0] σ) fun σ1 => Lq G d M_83 (271, [some (.ref 33), some (.int x1), some (.int x2), some (.int x3)], [], σ1) :=
  (aUn_eq (tkd G.1 G.2) tmi (aRun (tkd G.1 G.2) tmi tmt d) M_83 [] 1 (268, [some (.ref 33), some (.int x1), some (.int x2), some (.int x3)], [.int s0, .ref 33], σ)).trans rfl
set_option maxRecDepth 20000 in
theorem q_83_5217 (G : Nat × (Nat → Int32)) (d : Nat) (x1 : Int32) (x2 : Int32) (x3 : Int32) (σ : aH) : Lq G d M_83 (271, [some (.ref 33), some (.int x1), some (.int x2), some (.int x3)], [], σ) = Lq G d M_83 (275, [some (.ref 33), some (.int x1), some (.int x2), some (.int x3)], [.int (42 : Int32), .ref 33, .ref 33], σ) :=
  (aUn_eq (tkd G.1 G.2) tmi (aRun (tkd G.1 G.2) tmi tmt d) M_83 [] 3 (271, [some (.ref 33), some (.int x1), some (.int x2), some (.int x3)], [], σ)).trans rfl
set_option maxRecDepth 20000 in
theorem q_83_5218 (G : Nat × (Nat → Int32)) (d : Nat) (x1 : Int32) (x2 : Int32) (x3 : Int32) (s0 : Int32) (σ : aH) : Lq G d M_83 (275, [some (.ref 33), some (.int x1), some (.int x2), some (.int x3)], [.int s0, .ref 33, .ref 33], σ) = aCI (Rn G d 85 [.ref 33, .int s0] σ) fun v2 σ1 => Lq G d M_83 (278, [some (.ref 33), some (.int x1), some (.int x2), some (.int x3)], [.int v2, .ref 33], σ1) :=
  (aUn_eq (tkd G.1 G.2) tmi (aRun (tkd G.1 G.2) tmi tmt d) M_83 [] 1 (275, [some (.ref 33), some (.int x1), some (.int x2), some (.int x3)], [.int s0, .ref 33, .ref 33], σ)).trans rfl
set_option maxRecDepth 20000 in
theorem q_83_5219 (G : Nat × (Nat → Int32)) (d : Nat) (x1 : Int32) (x2 : Int32) (x3 : Int32) (s0 : Int32) (σ : aH) : Lq G d M_83 (278, [some (.ref 33), some (.int x1), some (.int x2), some (.int x3)], [.int s0, .ref 33], σ) = if s0 = 0 then Lq G d M_83 (286, [some (.ref 33), some (.int x1), some (.int x2), some (.int x3)], [.ref 33], σ) else Lq G d M_83 (281, [some (.ref 33), some (.int x1), some (.int x2), some (.int x3)], [.ref 33], σ) :=
  (aUn_eq (tkd G.1 G.2) tmi (aRun (tkd G.1 G.2) tmi tmt d) M_83 [] 1 (278, [some (.ref 33), some (.int x1), some (.int x2), some (.int x3)], [.int s0, .ref 33], σ)).trans rfl
set_option maxRecDepth 20000 in
theorem q_83_5220 (G : Nat × (Nat → Int32)) (d : Nat) (x1 : Int32) (x2 : Int32) (x3 : Int32) (σ : aH) : Lq G d M_83 (286, [some (.ref 33), some (.int x1), some (.int x2), some (.int x3)], [.ref 33], σ) = Lq G d M_83 (288, [some (.ref 33), some (.int x1), some (.int x2), some (.int x3)], [.int (11 : Int32), .ref 33], σ) :=
  (aUn_eq (tkd G.1 G.2) tmi (aRun (tkd G.1 G.2) tmi tmt d) M_83 [] 1 (286, [some (.ref 33), some (.int x1), some (.int x2), some (.int x3)], [.ref 33], σ)).trans rfl
set_option maxRecDepth 20000 in
theorem q_83_5221 (G : Nat × (Nat → Int32)) (d : Nat) (x1 : Int32) (x2 : Int32) (x3 : Int32) (s0 : Int32) (σ : aH) : Lq G d M_83 (288, [some (.ref 33), some (.int x1), some (.int x2), some (.int x3)], [.int s0, .ref 33], σ) = aCV (Rn G d 87 [.ref 33, .int s0] σ) fun σ1 => Lq G d M_83 (291, [some (.ref 33), some (.int x1), some (.int x2), some (.int x3)], [], σ1) :=
  (aUn_eq (tkd G.1 G.2) tmi (aRun (tkd G.1 G.2) tmi tmt d) M_83 [] 1 (288, [some (.ref 33), some (.int x1), some (.int x2), some (.int x3)], [.int s0, .ref 33], σ)).trans rfl
set_option maxRecDepth 20000 in
theorem q_83_5222 (G : Nat × (Nat → Int32)) (d : Nat) (x1 : Int32) (x2 : Int32) (x3 : Int32) (σ : aH) : Lq G d M_83 (291, [some (.ref 33), some (.int x1), some (.int x2), some (.int x3)], [], σ) = Lq G d M_83 (292, [some (.ref 33), some (.int x1), some (.int x2), some (.int x3)], [.ref 33], σ) :=
  (aUn_eq (tkd G.1 G.2) tmi (aRun (tkd G.1 G.2) tmi tmt d) M_83 [] 1 (291, [some (.ref 33), some (.int x1), some (.int x2), some (.int x3)], [], σ)).trans rfl
set_option maxRecDepth 20000 in
theorem q_83_5223 (G : Nat × (Nat → Int32)) (d : Nat) (x1 : Int32) (x2 : Int32) (x3 : Int32) (σ : aH) : Lq G d M_83 (292, [some (.ref 33), some (.int x1), some (.int x2), some (.int x3)], [.ref 33], σ) = aCV (Rn G d 63 [.ref 33] σ) fun σ1 => Lq G d M_83 (295, [some (.ref 33), some (.int x1), some (.int x2), some (.int x3)], [], σ1) :=
  (aUn_eq (tkd G.1 G.2) tmi (aRun (tkd G.1 G.2) tmi tmt d) M_83 [] 1 (292, [some (.ref 33), some (.int x1), some (.int x2), some (.int x3)], [.ref 33], σ)).trans rfl
set_option maxRecDepth 20000 in
theorem q_83_5224 (G : Nat × (Nat → Int32)) (d : Nat) (x1 : Int32) (x2 : Int32) (x3 : Int32) (σ : aH) : Lq G d M_83 (295, [some (.ref 33), some (.int x1), some (.int x2), some (.int x3)], [], σ) = Lq G d M_83 (297, [some (.ref 33), some (.int x1), some (.int x2), some (.int x3)], [.int (0 : Int32), .ref 33], σ) :=
  (aUn_eq (tkd G.1 G.2) tmi (aRun (tkd G.1 G.2) tmi tmt d) M_83 [] 2 (295, [some (.ref 33), some (.int x1), some (.int x2), some (.int x3)], [], σ)).trans rfl
set_option maxRecDepth 20000 in
theorem q_83_5225 (G : Nat × (Nat → Int32)) (d : Nat) (x1 : Int32) (x2 : Int32) (x3 : Int32) (s0 : Int32) (σ : aH) : Lq G d M_83 (297, [some (.ref 33), some (.int x1), some (.int x2), some (.int x3)], [.int s0, .ref 33], σ) = aCV (Rn G d 86 [.ref 33, .int s0] σ) fun σ1 => Lq G d M_83 (300, [some (.ref 33), some (.int x1), some (.int x2), some (.int x3)], [], σ1) :=
  (aUn_eq (tkd G.1 G.2) tmi (aRun (tkd G.1 G.2) tmi tmt d) M_83 [] 1 (297, [some (.ref 33), some (.int x1), some (.int x2), some (.int x3)], [.int s0, .ref 33], σ)).trans rfl
set_option maxRecDepth 20000 in
theorem q_83_5226 (G : Nat × (Nat → Int32)) (d : Nat) (x1 : Int32) (x2 : Int32) (x3 : Int32) (σ : aH) : Lq G d M_83 (300, [some (.ref 33), some (.int x1), some (.int x2), some (.int x3)], [], σ) = Lq G d M_83 (35, [some (.ref 33), some (.int x1), some (.int x2), none], [], σ) :=
  (aUn_eq (tkd G.1 G.2) tmi (aRun (tkd G.1 G.2) tmi tmt d) M_83 [] 2 (300, [some (.ref 33), some (.int x1), some (.int x2), some (.int x3)], [], σ)).trans rfl
set_option maxRecDepth 20000 in
theorem q_83_5227 (G : Nat × (Nat → Int32)) (d : Nat) (x1 : Int32) (x2 : Int32) (x3 : Int32) (σ : aH) : Lq G d M_83 (281, [some (.ref 33), some (.int x1), some (.int x2), some (.int x3)], [.ref 33], σ) = Lq G d M_83 (288, [some (.ref 33), some (.int x1), some (.int x2), some (.int x3)], [.int (10 : Int32), .ref 33], σ) :=
  (aUn_eq (tkd G.1 G.2) tmi (aRun (tkd G.1 G.2) tmi tmt d) M_83 [] 2 (281, [some (.ref 33), some (.int x1), some (.int x2), some (.int x3)], [.ref 33], σ)).trans rfl
set_option maxRecDepth 20000 in
theorem q_83_5228 (G : Nat × (Nat → Int32)) (d : Nat) (x1 : Int32) (x2 : Int32) (x3 : Int32) (σ : aH) : Lq G d M_83 (210, [some (.ref 33), some (.int x1), some (.int x2), some (.int x3)], [], σ) = Lq G d M_83 (212, [some (.ref 33), some (.int x1), some (.int x2), some (.int x3)], [.int (5 : Int32), .ref 33], σ) :=
  (aUn_eq (tkd G.1 G.2) tmi (aRun (tkd G.1 G.2) tmi tmt d) M_83 [] 2 (210, [some (.ref 33), some (.int x1), some (.int x2), some (.int x3)], [], σ)).trans rfl
set_option maxRecDepth 20000 in
theorem q_83_5229 (G : Nat × (Nat → Int32)) (d : Nat) (x1 : Int32) (x2 : Int32) (x3 : Int32) (s0 : Int32) (σ : aH) : Lq G d M_83 (212, [some (.ref 33), some (.int x1), some (.int x2), some (.int x3)], [.int s0, .ref 33], σ) = aCV (Rn G d 90 [.ref 33, .int s0] σ) fun σ1 => Lq G d M_83 (215, [some (.ref 33), some (.int x1), some (.int x2), some (.int x3)], [], σ1) :=
  (aUn_eq (tkd G.1 G.2) tmi (aRun (tkd G.1 G.2) tmi tmt d) M_83 [] 1 (212, [some (.ref 33), some (.int x1), some (.int x2), some (.int x3)], [.int s0, .ref 33], σ)).trans rfl
set_option maxRecDepth 20000 in
theorem q_83_5230 (G : Nat × (Nat → Int32)) (d : Nat) (x1 : Int32) (x2 : Int32) (x3 : Int32) (σ : aH) : Lq G d M_83 (215, [some (.ref 33), some (.int x1), some (.int x2), some (.int x3)], [], σ) = Lq G d M_83 (219, [some (.ref 33), some (.int x1), some (.int x2), some (.int x3)], [.int (43 : Int32), .ref 33, .ref 33], σ) :=
  (aUn_eq (tkd G.1 G.2) tmi (aRun (tkd G.1 G.2) tmi tmt d) M_83 [] 3 (215, [some (.ref 33), some (.int x1), some (.int x2), some (.int x3)], [], σ)).trans rfl
set_option maxRecDepth 20000 in
theorem q_83_5231 (G : Nat × (Nat → Int32)) (d : Nat) (x1 : Int32) (x2 : Int32) (x3 : Int32) (s0 : Int32) (σ : aH) : Lq G d M_83 (219, [some (.ref 33), some (.int x1), some (.int x2), some (.int x3)], [.int s0, .ref 33, .ref 33], σ) = aCI (Rn G d 85 [.ref 33, .int s0] σ) fun v2 σ1 => Lq G d M_83 (222, [some (.ref 33), some (.int x1), some (.int x2), some (.int x3)], [.int v2, .ref 33], σ1) :=
  (aUn_eq (tkd G.1 G.2) tmi (aRun (tkd G.1 G.2) tmi tmt d) M_83 [] 1 (219, [some (.ref 33), some (.int x1), some (.int x2), some (.int x3)], [.int s0, .ref 33, .ref 33], σ)).trans rfl
set_option maxRecDepth 20000 in
theorem q_83_5232 (G : Nat × (Nat → Int32)) (d : Nat) (x1 : Int32) (x2 : Int32) (x3 : Int32) (s0 : Int32) (σ : aH) : Lq G d M_83 (222, [some (.ref 33), some (.int x1), some (.int x2), some (.int x3)], [.int s0, .ref 33], σ) = if s0 = 0 then Lq G d M_83 (230, [some (.ref 33), some (.int x1), some (.int x2), some (.int x3)], [.ref 33], σ) else Lq G d M_83 (225, [some (.ref 33), some (.int x1), some (.int x2), some (.int x3)], [.ref 33], σ) :=
  (aUn_eq (tkd G.1 G.2) tmi (aRun (tkd G.1 G.2) tmi tmt d) M_83 [] 1 (222, [some (.ref 33), some (.int x1), some (.int x2), some (.int x3)], [.int s0, .ref 33], σ)).trans rfl
set_option maxRecDepth 20000 in
theorem q_83_5233 (G : Nat × (Nat → Int32)) (d : Nat) (x1 : Int32) (x2 : Int32) (x3 : Int32) (σ : aH) : Lq G d M_83 (230, [some (.ref 33), some (.int x1), some (.int x2), some (.int x3)], [.ref 33], σ) = Lq G d M_83 (232, [some (.ref 33), some (.int x1), some (.int x2), some (.int x3)], [.int (9 : Int32), .ref 33], σ) :=
  (aUn_eq (tkd G.1 G.2) tmi (aRun (tkd G.1 G.2) tmi tmt d) M_83 [] 1 (230, [some (.ref 33), some (.int x1), some (.int x2), some (.int x3)], [.ref 33], σ)).trans rfl
set_option maxRecDepth 20000 in
theorem q_83_5234 (G : Nat × (Nat → Int32)) (d : Nat) (x1 : Int32) (x2 : Int32) (x3 : Int32) (s0 : Int32) (σ : aH) : Lq G d M_83 (232, [some (.ref 33), some (.int x1), some (.int x2), some (.int x3)], [.int s0, .ref 33], σ) = aCV (Rn G d 87 [.ref 33, .int s0] σ) fun σ1 => Lq G d M_83 (235, [some (.ref 33), some (.int x1), some (.int x2), some (.int x3)], [], σ1) :=
  (aUn_eq (tkd G.1 G.2) tmi (aRun (tkd G.1 G.2) tmi tmt d) M_83 [] 1 (232, [some (.ref 33), some (.int x1), some (.int x2), some (.int x3)], [.int s0, .ref 33], σ)).trans rfl
set_option maxRecDepth 20000 in
theorem q_83_5235 (G : Nat × (Nat → Int32)) (d : Nat) (x1 : Int32) (x2 : Int32) (x3 : Int32) (σ : aH) : Lq G d M_83 (235, [some (.ref 33), some (.int x1), some (.int x2), some (.int x3)], [], σ) = Lq G d M_83 (236, [some (.ref 33), some (.int x1), some (.int x2), some (.int x3)], [.ref 33], σ) :=
  (aUn_eq (tkd G.1 G.2) tmi (aRun (tkd G.1 G.2) tmi tmt d) M_83 [] 1 (235, [some (.ref 33), some (.int x1), some (.int x2), some (.int x3)], [], σ)).trans rfl
set_option maxRecDepth 20000 in
theorem q_83_5236 (G : Nat × (Nat → Int32)) (d : Nat) (x1 : Int32) (x2 : Int32) (x3 : Int32) (σ : aH) : Lq G d M_83 (236, [some (.ref 33), some (.int x1), some (.int x2), some (.int x3)], [.ref 33], σ) = aCV (Rn G d 63 [.ref 33] σ) fun σ1 => Lq G d M_83 (239, [some (.ref 33), some (.int x1), some (.int x2), some (.int x3)], [], σ1) :=
  (aUn_eq (tkd G.1 G.2) tmi (aRun (tkd G.1 G.2) tmi tmt d) M_83 [] 1 (236, [some (.ref 33), some (.int x1), some (.int x2), some (.int x3)], [.ref 33], σ)).trans rfl
set_option maxRecDepth 20000 in
theorem q_83_5237 (G : Nat × (Nat → Int32)) (d : Nat) (x1 : Int32) (x2 : Int32) (x3 : Int32) (σ : aH) : Lq G d M_83 (239, [some (.ref 33), some (.int x1), some (.int x2), some (.int x3)], [], σ) = Lq G d M_83 (241, [some (.ref 33), some (.int x1), some (.int x2), some (.int x3)], [.int (0 : Int32), .ref 33], σ) :=
  (aUn_eq (tkd G.1 G.2) tmi (aRun (tkd G.1 G.2) tmi tmt d) M_83 [] 2 (239, [some (.ref 33), some (.int x1), some (.int x2), some (.int x3)], [], σ)).trans rfl
set_option maxRecDepth 20000 in
theorem q_83_5238 (G : Nat × (Nat → Int32)) (d : Nat) (x1 : Int32) (x2 : Int32) (x3 : Int32) (s0 : Int32) (σ : aH) : Lq G d M_83 (241, [some (.ref 33), some (.int x1), some (.int x2), some (.int x3)], [.int s0, .ref 33], σ) = aCV (Rn G d 86 [.ref 33, .int s0] σ) fun σ1 => Lq G d M_83 (244, [some (.ref 33), some (.int x1), some (.int x2), some (.int x3)], [], σ1) :=
  (aUn_eq (tkd G.1 G.2) tmi (aRun (tkd G.1 G.2) tmi tmt d) M_83 [] 1 (241, [some (.ref 33), some (.int x1), some (.int x2), some (.int x3)], [.int s0, .ref 33], σ)).trans rfl
set_option maxRecDepth 20000 in
theorem q_83_5239 (G : Nat × (Nat → Int32)) (d : Nat) (x1 : Int32) (x2 : Int32) (x3 : Int32) (σ : aH) : Lq G d M_83 (244, [some (.ref 33), some (.int x1), some (.int x2), some (.int x3)], [], σ) = Lq G d M_83 (35, [some (.ref 33), some (.int x1), some (.int x2), none], [], σ) :=
  (aUn_eq (tkd G.1 G.2) tmi (aRun (tkd G.1 G.2) tmi tmt d) M_83 [] 2 (244, [some (.ref 33), some (.int x1), some (.int x2), some (.int x3)], [], σ)).trans rfl
set_option maxRecDepth 20000 in
theorem q_83_5240 (G : Nat × (Nat → Int32)) (d : Nat) (x1 : Int32) (x2 : Int32) (x3 : Int32) (σ : aH) : Lq G d M_83 (225, [some (.ref 33), some (.int x1), some (.int x2), some (.int x3)], [.ref 33], σ) = Lq G d M_83 (232, [some (.ref 33), some (.int x1), some (.int x2), some (.int x3)], [.int (8 : Int32), .ref 33], σ) :=
  (aUn_eq (tkd G.1 G.2) tmi (aRun (tkd G.1 G.2) tmi tmt d) M_83 [] 2 (225, [some (.ref 33), some (.int x1), some (.int x2), some (.int x3)], [.ref 33], σ)).trans rfl
set_option maxRecDepth 20000 in
theorem q_83_5241 (G : Nat × (Nat → Int32)) (d : Nat) (x1 : Int32) (x2 : Int32) (x3 : Int32) (σ : aH) : Lq G d M_83 (133, [some (.ref 33), some (.int x1), some (.int x2), some (.int x3)], [], σ) = Lq G d M_83 (141, [some (.ref 33), some (.int x1), some (.int x2), some (.int x3)], [.int (σ.1 33 33), .ref 49], σ) :=
  (aUn_eq (tkd G.1 G.2) tmi (aRun (tkd G.1 G.2) tmi tmt d) M_83 [] 4 (133, [some (.ref 33), some (.int x1), some (.int x2), some (.int x3)], [], σ)).trans rfl
set_option maxRecDepth 20000 in
theorem q_83_5242 (G : Nat × (Nat → Int32)) (d : Nat) (x1 : Int32) (x2 : Int32) (x3 : Int32) (s0 : Int32) (σ : aH) : Lq G d M_83 (141, [some (.ref 33), some (.int x1), some (.int x2), some (.int x3)], [.int s0, .ref 49], σ) = aIx (s0) 9 fun j1 => Lq G d M_83 (142, [some (.ref 33), some (.int x1), some (.int x2), some (.int x3)], [.int (σ.1 49 j1)], σ) :=
  (aUn_eq (tkd G.1 G.2) tmi (aRun (tkd G.1 G.2) tmi tmt d) M_83 [] 1 (141, [some (.ref 33), some (.int x1), some (.int x2), some (.int x3)], [.int s0, .ref 49], σ)).trans rfl
set_option maxRecDepth 20000 in
theorem q_83_5243 (G : Nat × (Nat → Int32)) (d : Nat) (x1 : Int32) (x2 : Int32) (x3 : Int32) (s0 : Int32) (σ : aH) : Lq G d M_83 (142, [some (.ref 33), some (.int x1), some (.int x2), some (.int x3)], [.int s0], σ) = if s0 = 0 then Lq G d M_83 (145, [some (.ref 33), some (.int x1), some (.int x2), some (.int x3)], [], σ) else Lq G d M_83 (192, [some (.ref 33), some (.int x1), some (.int x2), some (.int x3)], [], σ) :=
  (aUn_eq (tkd G.1 G.2) tmi (aRun (tkd G.1 G.2) tmi tmt d) M_83 [] 1 (142, [some (.ref 33), some (.int x1), some (.int x2), some (.int x3)], [.int s0], σ)).trans rfl
set_option maxRecDepth 20000 in
theorem q_83_5244 (G : Nat × (Nat → Int32)) (d : Nat) (x1 : Int32) (x2 : Int32) (x3 : Int32) (σ : aH) : Lq G d M_83 (145, [some (.ref 33), some (.int x1), some (.int x2), some (.int x3)], [], σ) = Lq G d M_83 (147, [some (.ref 33), some (.int x1), some (.int x2), some (.int x3)], [.int (4 : Int32), .ref 33], σ) :=
  (aUn_eq (tkd G.1 G.2) tmi (aRun (tkd G.1 G.2) tmi tmt d) M_83 [] 2 (145, [some (.ref 33), some (.int x1), some (.int x2), some (.int x3)], [], σ)).trans rfl
set_option maxRecDepth 20000 in
theorem q_83_5245 (G : Nat × (Nat → Int32)) (d : Nat) (x1 : Int32) (x2 : Int32) (x3 : Int32) (s0 : Int32) (σ : aH) : Lq G d M_83 (147, [some (.ref 33), some (.int x1), some (.int x2), some (.int x3)], [.int s0, .ref 33], σ) = aCV (Rn G d 90 [.ref 33, .int s0] σ) fun σ1 => Lq G d M_83 (150, [some (.ref 33), some (.int x1), some (.int x2), some (.int x3)], [], σ1) :=
  (aUn_eq (tkd G.1 G.2) tmi (aRun (tkd G.1 G.2) tmi tmt d) M_83 [] 1 (147, [some (.ref 33), some (.int x1), some (.int x2), some (.int x3)], [.int s0, .ref 33], σ)).trans rfl
set_option maxRecDepth 20000 in
theorem q_83_5246 (G : Nat × (Nat → Int32)) (d : Nat) (x1 : Int32) (x2 : Int32) (x3 : Int32) (σ : aH) : Lq G d M_83 (150, [some (.ref 33), some (.int x1), some (.int x2), some (.int x3)], [], σ) = Lq G d M_83 (154, [some (.ref 33), some (.int x1), some (.int x2), some (.int x3)], [.int (60 : Int32), .ref 33, .ref 33], σ) :=
  (aUn_eq (tkd G.1 G.2) tmi (aRun (tkd G.1 G.2) tmi tmt d) M_83 [] 3 (150, [some (.ref 33), some (.int x1), some (.int x2), some (.int x3)], [], σ)).trans rfl
set_option maxRecDepth 20000 in
theorem q_83_5247 (G : Nat × (Nat → Int32)) (d : Nat) (x1 : Int32) (x2 : Int32) (x3 : Int32) (s0 : Int32) (σ : aH) : Lq G d M_83 (154, [some (.ref 33), some (.int x1), some (.int x2), some (.int x3)], [.int s0, .ref 33, .ref 33], σ) = aCI (Rn G d 85 [.ref 33, .int s0] σ) fun v2 σ1 => Lq G d M_83 (157, [some (.ref 33), some (.int x1), some (.int x2), some (.int x3)], [.int v2, .ref 33], σ1) :=
  (aUn_eq (tkd G.1 G.2) tmi (aRun (tkd G.1 G.2) tmi tmt d) M_83 [] 1 (154, [some (.ref 33), some (.int x1), some (.int x2), some (.int x3)], [.int s0, .ref 33, .ref 33], σ)).trans rfl
set_option maxRecDepth 20000 in
theorem q_83_5248 (G : Nat × (Nat → Int32)) (d : Nat) (x1 : Int32) (x2 : Int32) (x3 : Int32) (s0 : Int32) (σ : aH) : Lq G d M_83 (157, [some (.ref 33), some (.int x1), some (.int x2), some (.int x3)], [.int s0, .ref 33], σ) = if s0 = 0 then Lq G d M_83 (165, [some (.ref 33), some (.int x1), some (.int x2), some (.int x3)], [.ref 33], σ) else Lq G d M_83 (160, [some (.ref 33), some (.int x1), some (.int x2), some (.int x3)], [.ref 33], σ) :=
  (aUn_eq (tkd G.1 G.2) tmi (aRun (tkd G.1 G.2) tmi tmt d) M_83 [] 1 (157, [some (.ref 33), some (.int x1), some (.int x2), some (.int x3)], [.int s0, .ref 33], σ)).trans rfl
set_option maxRecDepth 20000 in
theorem q_83_5249 (G : Nat × (Nat → Int32)) (d : Nat) (x1 : Int32) (x2 : Int32) (x3 : Int32) (σ : aH) : Lq G d M_83 (165, [some (.ref 33), some (.int x1), some (.int x2), some (.int x3)], [.ref 33], σ) = Lq G d M_83 (167, [some (.ref 33), some (.int x1), some (.int x2), some (.int x3)], [.int (7 : Int32), .ref 33], σ) :=
  (aUn_eq (tkd G.1 G.2) tmi (aRun (tkd G.1 G.2) tmi tmt d) M_83 [] 1 (165, [some (.ref 33), some (.int x1), some (.int x2), some (.int x3)], [.ref 33], σ)).trans rfl
set_option maxRecDepth 20000 in
theorem q_83_5250 (G : Nat × (Nat → Int32)) (d : Nat) (x1 : Int32) (x2 : Int32) (x3 : Int32) (s0 : Int32) (σ : aH) : Lq G d M_83 (167, [some (.ref 33), some (.int x1), some (.int x2), some (.int x3)], [.int s0, .ref 33], σ) = aCV (Rn G d 87 [.ref 33, .int s0] σ) fun σ1 => Lq G d M_83 (170, [some (.ref 33), some (.int x1), some (.int x2), some (.int x3)], [], σ1) :=
  (aUn_eq (tkd G.1 G.2) tmi (aRun (tkd G.1 G.2) tmi tmt d) M_83 [] 1 (167, [some (.ref 33), some (.int x1), some (.int x2), some (.int x3)], [.int s0, .ref 33], σ)).trans rfl
set_option maxRecDepth 20000 in
theorem q_83_5251 (G : Nat × (Nat → Int32)) (d : Nat) (x1 : Int32) (x2 : Int32) (x3 : Int32) (σ : aH) : Lq G d M_83 (170, [some (.ref 33), some (.int x1), some (.int x2), some (.int x3)], [], σ) = Lq G d M_83 (179, [some (.ref 33), some (.int x1), some (.int x2), some (.int x3)], [.int (1 : Int32), .int (σ.1 33 33), .ref 49], σ) :=
  (aUn_eq (tkd G.1 G.2) tmi (aRun (tkd G.1 G.2) tmi tmt d) M_83 [] 5 (170, [some (.ref 33), some (.int x1), some (.int x2), some (.int x3)], [], σ)).trans rfl
set_option maxRecDepth 20000 in
theorem q_83_5252 (G : Nat × (Nat → Int32)) (d : Nat) (x1 : Int32) (x2 : Int32) (x3 : Int32) (s0 : Int32) (s1 : Int32) (σ : aH) : Lq G d M_83 (179, [some (.ref 33), some (.int x1), some (.int x2), some (.int x3)], [.int s0, .int s1, .ref 49], σ) = aIx (s1) 9 fun j1 => Lq G d M_83 (180, [some (.ref 33), some (.int x1), some (.int x2), some (.int x3)], [], (aSI σ 49 j1 (vp_nar .boolean s0))) :=
  (aUn_eq (tkd G.1 G.2) tmi (aRun (tkd G.1 G.2) tmi tmt d) M_83 [] 1 (179, [some (.ref 33), some (.int x1), some (.int x2), some (.int x3)], [.int s0, .int s1, .ref 49], σ)).trans rfl
set_option maxRecDepth 20000 in
theorem q_83_5253 (G : Nat × (Nat → Int32)) (d : Nat) (x1 : Int32) (x2 : Int32) (x3 : Int32) (σ : aH) : Lq G d M_83 (180, [some (.ref 33), some (.int x1), some (.int x2), some (.int x3)], [], σ) = Lq G d M_83 (181, [some (.ref 33), some (.int x1), some (.int x2), some (.int x3)], [.ref 33], σ) :=
  (aUn_eq (tkd G.1 G.2) tmi (aRun (tkd G.1 G.2) tmi tmt d) M_83 [] 1 (180, [some (.ref 33), some (.int x1), some (.int x2), some (.int x3)], [], σ)).trans rfl
set_option maxRecDepth 20000 in
theorem q_83_5254 (G : Nat × (Nat → Int32)) (d : Nat) (x1 : Int32) (x2 : Int32) (x3 : Int32) (σ : aH) : Lq G d M_83 (181, [some (.ref 33), some (.int x1), some (.int x2), some (.int x3)], [.ref 33], σ) = aCV (Rn G d 63 [.ref 33] σ) fun σ1 => Lq G d M_83 (184, [some (.ref 33), some (.int x1), some (.int x2), some (.int x3)], [], σ1) :=
  (aUn_eq (tkd G.1 G.2) tmi (aRun (tkd G.1 G.2) tmi tmt d) M_83 [] 1 (181, [some (.ref 33), some (.int x1), some (.int x2), some (.int x3)], [.ref 33], σ)).trans rfl
set_option maxRecDepth 20000 in
theorem q_83_5255 (G : Nat × (Nat → Int32)) (d : Nat) (x1 : Int32) (x2 : Int32) (x3 : Int32) (σ : aH) : Lq G d M_83 (184, [some (.ref 33), some (.int x1), some (.int x2), some (.int x3)], [], σ) = Lq G d M_83 (186, [some (.ref 33), some (.int x1), some (.int x2), some (.int x3)], [.int (0 : Int32), .ref 33], σ) :=
  (aUn_eq (tkd G.1 G.2) tmi (aRun (tkd G.1 G.2) tmi tmt d) M_83 [] 2 (184, [some (.ref 33), some (.int x1), some (.int x2), some (.int x3)], [], σ)).trans rfl
set_option maxRecDepth 20000 in
theorem q_83_5256 (G : Nat × (Nat → Int32)) (d : Nat) (x1 : Int32) (x2 : Int32) (x3 : Int32) (s0 : Int32) (σ : aH) : Lq G d M_83 (186, [some (.ref 33), some (.int x1), some (.int x2), some (.int x3)], [.int s0, .ref 33], σ) = aCV (Rn G d 86 [.ref 33, .int s0] σ) fun σ1 => Lq G d M_83 (189, [some (.ref 33), some (.int x1), some (.int x2), some (.int x3)], [], σ1) :=
  (aUn_eq (tkd G.1 G.2) tmi (aRun (tkd G.1 G.2) tmi tmt d) M_83 [] 1 (186, [some (.ref 33), some (.int x1), some (.int x2), some (.int x3)], [.int s0, .ref 33], σ)).trans rfl
set_option maxRecDepth 20000 in
theorem q_83_5257 (G : Nat × (Nat → Int32)) (d : Nat) (x1 : Int32) (x2 : Int32) (x3 : Int32) (σ : aH) : Lq G d M_83 (189, [some (.ref 33), some (.int x1), some (.int x2), some (.int x3)], [], σ) = Lq G d M_83 (35, [some (.ref 33), some (.int x1), some (.int x2), none], [], σ) :=
  (aUn_eq (tkd G.1 G.2) tmi (aRun (tkd G.1 G.2) tmi tmt d) M_83 [] 2 (189, [some (.ref 33), some (.int x1), some (.int x2), some (.int x3)], [], σ)).trans rfl
set_option maxRecDepth 20000 in
theorem q_83_5258 (G : Nat × (Nat → Int32)) (d : Nat) (x1 : Int32) (x2 : Int32) (x3 : Int32) (σ : aH) : Lq G d M_83 (160, [some (.ref 33), some (.int x1), some (.int x2), some (.int x3)], [.ref 33], σ) = Lq G d M_83 (167, [some (.ref 33), some (.int x1), some (.int x2), some (.int x3)], [.int (6 : Int32), .ref 33], σ) :=
  (aUn_eq (tkd G.1 G.2) tmi (aRun (tkd G.1 G.2) tmi tmt d) M_83 [] 2 (160, [some (.ref 33), some (.int x1), some (.int x2), some (.int x3)], [.ref 33], σ)).trans rfl
set_option maxRecDepth 20000 in
theorem q_99_5259 (G : Nat × (Nat → Int32)) (d : Nat) (x1 : Int32) (σ : aH) : Lq G d M_99 (0, [some (.ref 1), some (.int x1)], [], σ) = Lq G d M_99 (5, [some (.ref 1), some (.int x1)], [.int (2 : Int32), .int (σ.1 1 4)], σ) :=
  (aUn_eq (tkd G.1 G.2) tmi (aRun (tkd G.1 G.2) tmi tmt d) M_99 [] 3 (0, [some (.ref 1), some (.int x1)], [], σ)).trans rfl
set_option maxRecDepth 20000 in
theorem q_99_5260 (G : Nat × (Nat → Int32)) (d : Nat) (x1 : Int32) (s0 : Int32) (s1 : Int32) (σ : aH) : Lq G d M_99 (5, [some (.ref 1), some (.int x1)], [.int s0, .int s1], σ) = if s1 = s0 then Lq G d M_99 (8, [some (.ref 1), some (.int x1)], [], σ) else Lq G d M_99 (31, [some (.ref 1), some (.int x1)], [], σ) :=
  (aUn_eq (tkd G.1 G.2) tmi (aRun (tkd G.1 G.2) tmi tmt d) M_99 [] 1 (5, [some (.ref 1), some (.int x1)], [.int s0, .int s1], σ)).trans rfl
set_option maxRecDepth 20000 in
theorem q_99_5261 (G : Nat × (Nat → Int32)) (d : Nat) (x1 : Int32) (σ : aH) : Lq G d M_99 (8, [some (.ref 1), some (.int x1)], [], σ) = Lq G d M_99 (15, [some (.ref 1), some (.int x1)], [.int (9999 : Int32), .int (σ.1 1 5)], σ) :=
  (aUn_eq (tkd G.1 G.2) tmi (aRun (tkd G.1 G.2) tmi tmt d) M_99 [] 3 (8, [some (.ref 1), some (.int x1)], [], σ)).trans rfl
set_option maxRecDepth 20000 in
theorem q_99_5262 (G : Nat × (Nat → Int32)) (d : Nat) (x1 : Int32) (s0 : Int32) (s1 : Int32) (σ : aH) : Lq G d M_99 (15, [some (.ref 1), some (.int x1)], [.int s0, .int s1], σ) = if s0 < s1 then Lq G d M_99 (31, [some (.ref 1), some (.int x1)], [], σ) else Lq G d M_99 (18, [some (.ref 1), some (.int x1)], [], σ) :=
  (aUn_eq (tkd G.1 G.2) tmi (aRun (tkd G.1 G.2) tmi tmt d) M_99 [] 1 (15, [some (.ref 1), some (.int x1)], [.int s0, .int s1], σ)).trans rfl
set_option maxRecDepth 20000 in
theorem q_99_5263 (G : Nat × (Nat → Int32)) (d : Nat) (x1 : Int32) (σ : aH) : Lq G d M_99 (31, [some (.ref 1), some (.int x1)], [], σ) = Lq G d M_99 (36, [some (.ref 1), some (.int x1)], [.int (9999 : Int32), .int (0 : Int32), .ref 1], σ) :=
  (aUn_eq (tkd G.1 G.2) tmi (aRun (tkd G.1 G.2) tmi tmt d) M_99 [] 3 (31, [some (.ref 1), some (.int x1)], [], σ)).trans rfl
set_option maxRecDepth 20000 in
theorem q_99_5264 (G : Nat × (Nat → Int32)) (d : Nat) (x1 : Int32) (s0 : Int32) (s1 : Int32) (σ : aH) : Lq G d M_99 (36, [some (.ref 1), some (.int x1)], [.int s0, .int s1, .ref 1], σ) = aCI (Rn G d 36 [.ref 1, .int s1, .int s0] σ) fun v2 σ1 => Lq G d M_99 (39, [some (.ref 1), some (.int x1)], [.int v2], σ1) :=
  (aUn_eq (tkd G.1 G.2) tmi (aRun (tkd G.1 G.2) tmi tmt d) M_99 [] 1 (36, [some (.ref 1), some (.int x1)], [.int s0, .int s1, .ref 1], σ)).trans rfl
set_option maxRecDepth 20000 in
theorem q_99_5265 (G : Nat × (Nat → Int32)) (d : Nat) (x1 : Int32) (s0 : Int32) (σ : aH) : Lq G d M_99 (39, [some (.ref 1), some (.int x1)], [.int s0], σ) = some (.inl (some (.int s0)), σ) :=
  (aUn_eq (tkd G.1 G.2) tmi (aRun (tkd G.1 G.2) tmi tmt d) M_99 [] 1 (39, [some (.ref 1), some (.int x1)], [.int s0], σ)).trans rfl
set_option maxRecDepth 20000 in
theorem q_99_5266 (G : Nat × (Nat → Int32)) (d : Nat) (x1 : Int32) (σ : aH) : Lq G d M_99 (18, [some (.ref 1), some (.int x1)], [], σ) = Lq G d M_99 (23, [some (.ref 1), some (.int x1)], [.int x1, .int (σ.1 1 5)], σ) :=
  (aUn_eq (tkd G.1 G.2) tmi (aRun (tkd G.1 G.2) tmi tmt d) M_99 [] 3 (18, [some (.ref 1), some (.int x1)], [], σ)).trans rfl
set_option maxRecDepth 20000 in
theorem q_99_5267 (G : Nat × (Nat → Int32)) (d : Nat) (x1 : Int32) (s0 : Int32) (s1 : Int32) (σ : aH) : Lq G d M_99 (23, [some (.ref 1), some (.int x1)], [.int s0, .int s1], σ) = if s1 < s0 then Lq G d M_99 (31, [some (.ref 1), some (.int x1)], [], σ) else Lq G d M_99 (26, [some (.ref 1), some (.int x1)], [], σ) :=
  (aUn_eq (tkd G.1 G.2) tmi (aRun (tkd G.1 G.2) tmi tmt d) M_99 [] 1 (23, [some (.ref 1), some (.int x1)], [.int s0, .int s1], σ)).trans rfl
set_option maxRecDepth 20000 in
theorem q_99_5268 (G : Nat × (Nat → Int32)) (d : Nat) (x1 : Int32) (σ : aH) : Lq G d M_99 (26, [some (.ref 1), some (.int x1)], [], σ) = Lq G d M_99 (28, [some (.ref 1), some (.int x1)], [.int (4 : Int32), .ref 1], σ) :=
  (aUn_eq (tkd G.1 G.2) tmi (aRun (tkd G.1 G.2) tmi tmt d) M_99 [] 2 (26, [some (.ref 1), some (.int x1)], [], σ)).trans rfl
set_option maxRecDepth 20000 in
theorem q_99_5269 (G : Nat × (Nat → Int32)) (d : Nat) (x1 : Int32) (s0 : Int32) (σ : aH) : Lq G d M_99 (28, [some (.ref 1), some (.int x1)], [.int s0, .ref 1], σ) = aCV (Rn G d 30 [.ref 1, .int s0] σ) fun σ1 => Lq G d M_99 (31, [some (.ref 1), some (.int x1)], [], σ1) :=
  (aUn_eq (tkd G.1 G.2) tmi (aRun (tkd G.1 G.2) tmi tmt d) M_99 [] 1 (28, [some (.ref 1), some (.int x1)], [.int s0, .ref 1], σ)).trans rfl
set_option maxRecDepth 20000 in
theorem q_102_5270 (G : Nat × (Nat → Int32)) (d : Nat) (x3 : Int32) (σ : aH) : Lq G d M_102 (0, [some (.ref 1), some (.ref 3), some (.ref 13), some (.int x3), none, none], [], σ) = Lq G d M_102 (3, [some (.ref 1), some (.ref 3), some (.ref 13), some (.int x3), some (.int (0 : Int32)), none], [], σ) :=
  (aUn_eq (tkd G.1 G.2) tmi (aRun (tkd G.1 G.2) tmi tmt d) M_102 [] 2 (0, [some (.ref 1), some (.ref 3), some (.ref 13), some (.int x3), none, none], [], σ)).trans rfl
set_option maxRecDepth 20000 in
theorem q_102_5271 (G : Nat × (Nat → Int32)) (d : Nat) (x3 : Int32) (x4 : Int32) (σ : aH) : Lq G d M_102 (3, [some (.ref 1), some (.ref 3), some (.ref 13), some (.int x3), some (.int x4), none], [], σ) = Lq G d M_102 (7, [some (.ref 1), some (.ref 3), some (.ref 13), some (.int x3), some (.int x4), none], [.int (12 : Int32), .int x4], σ) :=
  (aUn_eq (tkd G.1 G.2) tmi (aRun (tkd G.1 G.2) tmi tmt d) M_102 [] 2 (3, [some (.ref 1), some (.ref 3), some (.ref 13), some (.int x3), some (.int x4), none], [], σ)).trans rfl
set_option maxRecDepth 20000 in
theorem q_102_5272 (G : Nat × (Nat → Int32)) (d : Nat) (x3 : Int32) (x4 : Int32) (s0 : Int32) (s1 : Int32) (σ : aH) : Lq G d M_102 (7, [some (.ref 1), some (.ref 3), some (.ref 13), some (.int x3), some (.int x4), none], [.int s0, .int s1], σ) = if s0 < s1 then Lq G d M_102 (82, [some (.ref 1), some (.ref 3), some (.ref 13), some (.int x3), some (.int x4), none], [], σ) else Lq G d M_102 (10, [some (.ref 1), some (.ref 3), some (.ref 13), some (.int x3), some (.int x4), none], [], σ) :=
  (aUn_eq (tkd G.1 G.2) tmi (aRun (tkd G.1 G.2) tmi tmt d) M_102 [] 1 (7, [some (.ref 1), some (.ref 3), some (.ref 13), some (.int x3), some (.int x4), none], [.int s0, .int s1], σ)).trans rfl
set_option maxRecDepth 20000 in
theorem q_102_5273 (G : Nat × (Nat → Int32)) (d : Nat) (x3 : Int32) (x4 : Int32) (σ : aH) : Lq G d M_102 (82, [some (.ref 1), some (.ref 3), some (.ref 13), some (.int x3), some (.int x4), none], [], σ) = some (.inl none, σ) :=
  (aUn_eq (tkd G.1 G.2) tmi (aRun (tkd G.1 G.2) tmi tmt d) M_102 [] 1 (82, [some (.ref 1), some (.ref 3), some (.ref 13), some (.int x3), some (.int x4), none], [], σ)).trans rfl
set_option maxRecDepth 20000 in
theorem q_102_5274 (G : Nat × (Nat → Int32)) (d : Nat) (x3 : Int32) (x4 : Int32) (σ : aH) : Lq G d M_102 (10, [some (.ref 1), some (.ref 3), some (.ref 13), some (.int x3), some (.int x4), none], [], σ) = Lq G d M_102 (14, [some (.ref 1), some (.ref 3), some (.ref 13), some (.int x3), some (.int x4), none], [.int (σ.1 1 2)], σ) :=
  (aUn_eq (tkd G.1 G.2) tmi (aRun (tkd G.1 G.2) tmi tmt d) M_102 [] 2 (10, [some (.ref 1), some (.ref 3), some (.ref 13), some (.int x3), some (.int x4), none], [], σ)).trans rfl
set_option maxRecDepth 20000 in
theorem q_102_5275 (G : Nat × (Nat → Int32)) (d : Nat) (x3 : Int32) (x4 : Int32) (s0 : Int32) (σ : aH) : Lq G d M_102 (14, [some (.ref 1), some (.ref 3), some (.ref 13), some (.int x3), some (.int x4), none], [.int s0], σ) = if s0 = 0 then Lq G d M_102 (17, [some (.ref 1), some (.ref 3), some (.ref 13), some (.int x3), some (.int x4), none], [], σ) else Lq G d M_102 (82, [some (.ref 1), some (.ref 3), some (.ref 13), some (.int x3), some (.int x4), none], [], σ) :=
  (aUn_eq (tkd G.1 G.2) tmi (aRun (tkd G.1 G.2) tmi tmt d) M_102 [] 1 (14, [some (.ref 1), some (.ref 3), some (.ref 13), some (.int x3), some (.int x4), none], [.int s0], σ)).trans rfl
set_option maxRecDepth 20000 in
theorem q_102_5276 (G : Nat × (Nat → Int32)) (d : Nat) (x3 : Int32) (x4 : Int32) (σ : aH) : Lq G d M_102 (17, [some (.ref 1), some (.ref 3), some (.ref 13), some (.int x3), some (.int x4), none], [], σ) = Lq G d M_102 (22, [some (.ref 1), some (.ref 3), some (.ref 13), some (.int x3), some (.int x4), none], [.int (2 : Int32), .int (σ.1 1 4)], σ) :=
  (aUn_eq (tkd G.1 G.2) tmi (aRun (tkd G.1 G.2) tmi tmt d) M_102 [] 3 (17, [some (.ref 1), some (.ref 3), some (.ref 13), some (.int x3), some (.int x4), none], [], σ)).trans rfl
set_option maxRecDepth 20000 in
theorem q_102_5277 (G : Nat × (Nat → Int32)) (d : Nat) (x3 : Int32) (x4 : Int32) (s0 : Int32) (s1 : Int32) (σ : aH) : Lq G d M_102 (22, [some (.ref 1), some (.ref 3), some (.ref 13), some (.int x3), some (.int x4), none], [.int s0, .int s1], σ) = if s1 = s0 then Lq G d M_102 (25, [some (.ref 1), some (.ref 3), some (.ref 13), some (.int x3), some (.int x4), none], [], σ) else Lq G d M_102 (82, [some (.ref 1), some (.ref 3), some (.ref 13), some (.int x3), some (.int x4), none], [], σ) :=
  (aUn_eq (tkd G.1 G.2) tmi (aRun (tkd G.1 G.2) tmi tmt d) M_102 [] 1 (22, [some (.ref 1), some (.ref 3), some (.ref 13), some (.int x3), some (.int x4), none], [.int s0, .int s1], σ)).trans rfl
set_option maxRecDepth 20000 in
theorem q_102_5278 (G : Nat × (Nat → Int32)) (d : Nat) (x3 : Int32) (x4 : Int32) (σ : aH) : Lq G d M_102 (25, [some (.ref 1), some (.ref 3), some (.ref 13), some (.int x3), some (.int x4), none], [], σ) = Lq G d M_102 (31, [some (.ref 1), some (.ref 3), some (.ref 13), some (.int x3), some (.int x4), none], [.int (6 : Int32), .int (σ.1 1 5)], σ) :=
  (aUn_eq (tkd G.1 G.2) tmi (aRun (tkd G.1 G.2) tmi tmt d) M_102 [] 3 (25, [some (.ref 1), some (.ref 3), some (.ref 13), some (.int x3), some (.int x4), none], [], σ)).trans rfl
set_option maxRecDepth 20000 in
theorem q_102_5279 (G : Nat × (Nat → Int32)) (d : Nat) (x3 : Int32) (x4 : Int32) (s0 : Int32) (s1 : Int32) (σ : aH) : Lq G d M_102 (31, [some (.ref 1), some (.ref 3), some (.ref 13), some (.int x3), some (.int x4), none], [.int s0, .int s1], σ) = if s0 < s1 then Lq G d M_102 (49, [some (.ref 1), some (.ref 3), some (.ref 13), some (.int x3), some (.int x4), none], [], σ) else Lq G d M_102 (34, [some (.ref 1), some (.ref 3), some (.ref 13), some (.int x3), some (.int x4), none], [], σ) :=
  (aUn_eq (tkd G.1 G.2) tmi (aRun (tkd G.1 G.2) tmi tmt d) M_102 [] 1 (31, [some (.ref 1), some (.ref 3), some (.ref 13), some (.int x3), some (.int x4), none], [.int s0, .int s1], σ)).trans rfl
set_option maxRecDepth 20000 in
theorem q_102_5280 (G : Nat × (Nat → Int32)) (d : Nat) (x3 : Int32) (x4 : Int32) (σ : aH) : Lq G d M_102 (49, [some (.ref 1), some (.ref 3), some (.ref 13), some (.int x3), some (.int x4), none], [], σ) = Lq G d M_102 (53, [some (.ref 1), some (.ref 3), some (.ref 13), some (.int x3), some (.int x4), none], [.int (6 : Int32), .int (0 : Int32), .ref 1], σ) :=
  (aUn_eq (tkd G.1 G.2) tmi (aRun (tkd G.1 G.2) tmi tmt d) M_102 [] 3 (49, [some (.ref 1), some (.ref 3), some (.ref 13), some (.int x3), some (.int x4), none], [], σ)).trans rfl
set_option maxRecDepth 20000 in
theorem q_102_5281 (G : Nat × (Nat → Int32)) (d : Nat) (x3 : Int32) (x4 : Int32) (s0 : Int32) (s1 : Int32) (σ : aH) : Lq G d M_102 (53, [some (.ref 1), some (.ref 3), some (.ref 13), some (.int x3), some (.int x4), none], [.int s0, .int s1, .ref 1], σ) = aCI (Rn G d 36 [.ref 1, .int s1, .int s0] σ) fun v2 σ1 => Lq G d M_102 (56, [some (.ref 1), some (.ref 3), some (.ref 13), some (.int x3), some (.int x4), none], [.int v2], σ1) :=
  (aUn_eq (tkd G.1 G.2) tmi (aRun (tkd G.1 G.2) tmi tmt d) M_102 [] 1 (53, [some (.ref 1), some (.ref 3), some (.ref 13), some (.int x3), some (.int x4), none], [.int s0, .int s1, .ref 1], σ)).trans rfl
set_option maxRecDepth 20000 in
theorem q_102_5282 (G : Nat × (Nat → Int32)) (d : Nat) (x3 : Int32) (x4 : Int32) (s0 : Int32) (σ : aH) : Lq G d M_102 (56, [some (.ref 1), some (.ref 3), some (.ref 13), some (.int x3), some (.int x4), none], [.int s0], σ) = Lq G d M_102 (62, [some (.ref 1), some (.ref 3), some (.ref 13), some (.int x3), some (.int x4), some (.int s0)], [.int (σ.1 1 2)], σ) :=
  (aUn_eq (tkd G.1 G.2) tmi (aRun (tkd G.1 G.2) tmi tmt d) M_102 [] 3 (56, [some (.ref 1), some (.ref 3), some (.ref 13), some (.int x3), some (.int x4), none], [.int s0], σ)).trans rfl
set_option maxRecDepth 20000 in
theorem q_102_5283 (G : Nat × (Nat → Int32)) (d : Nat) (x3 : Int32) (x4 : Int32) (x5 : Int32) (s0 : Int32) (σ : aH) : Lq G d M_102 (62, [some (.ref 1), some (.ref 3), some (.ref 13), some (.int x3), some (.int x4), some (.int x5)], [.int s0], σ) = if s0 = 0 then Lq G d M_102 (65, [some (.ref 1), some (.ref 3), some (.ref 13), some (.int x3), some (.int x4), some (.int x5)], [], σ) else Lq G d M_102 (76, [some (.ref 1), some (.ref 3), some (.ref 13), some (.int x3), some (.int x4), some (.int x5)], [], σ) :=
  (aUn_eq (tkd G.1 G.2) tmi (aRun (tkd G.1 G.2) tmi tmt d) M_102 [] 1 (62, [some (.ref 1), some (.ref 3), some (.ref 13), some (.int x3), some (.int x4), some (.int x5)], [.int s0], σ)).trans rfl
set_option maxRecDepth 20000 in
theorem q_102_5284 (G : Nat × (Nat → Int32)) (d : Nat) (x3 : Int32) (x4 : Int32) (x5 : Int32) (σ : aH) : Lq G d M_102 (65, [some (.ref 1), some (.ref 3), some (.ref 13), some (.int x3), some (.int x4), some (.int x5)], [], σ) = Lq G d M_102 (73, [some (.ref 1), some (.ref 3), some (.ref 13), some (.int x3), some (.int x4), some (.int x5)], [.int (x5 - (3 : Int32)), .int x4, .int x3, .ref 13], σ) :=
  (aUn_eq (tkd G.1 G.2) tmi (aRun (tkd G.1 G.2) tmi tmt d) M_102 [] 6 (65, [some (.ref 1), some (.ref 3), some (.ref 13), some (.int x3), some (.int x4), some (.int x5)], [], σ)).trans rfl
set_option maxRecDepth 20000 in
theorem q_102_5285 (G : Nat × (Nat → Int32)) (d : Nat) (x3 : Int32) (x4 : Int32) (x5 : Int32) (s0 : Int32) (s1 : Int32) (s2 : Int32) (σ : aH) : Lq G d M_102 (73, [some (.ref 1), some (.ref 3), some (.ref 13), some (.int x3), some (.int x4), some (.int x5)], [.int s0, .int s1, .int s2, .ref 13], σ) = aCV (Rn G d 101 [.ref 13, .int s2, .int s1, .int s0] σ) fun σ1 => Lq G d M_102 (76, [some (.ref 1), some (.ref 3), some (.ref 13), some (.int x3), some (.int x4), some (.int x5)], [], σ1) :=
  (aUn_eq (tkd G.1 G.2) tmi (aRun (tkd G.1 G.2) tmi tmt d) M_102 [] 1 (73, [some (.ref 1), some (.ref 3), some (.ref 13), some (.int x3), some (.int x4), some (.int x5)], [.int s0, .int s1, .int s2, .ref 13], σ)).trans rfl
set_option maxRecDepth 20000 in
theorem q_102_5286 (G : Nat × (Nat → Int32)) (d : Nat) (x3 : Int32) (x4 : Int32) (x5 : Int32) (σ : aH) : Lq G d M_102 (76, [some (.ref 1), some (.ref 3), some (.ref 13), some (.int x3), some (.int x4), some (.int x5)], [], σ) = Lq G d M_102 (3, [some (.ref 1), some (.ref 3), some (.ref 13), some (.int x3), some (.int (x4 + (1 : Int32))), none], [], σ) :=
  (aUn_eq (tkd G.1 G.2) tmi (aRun (tkd G.1 G.2) tmi tmt d) M_102 [] 2 (76, [some (.ref 1), some (.ref 3), some (.ref 13), some (.int x3), some (.int x4), some (.int x5)], [], σ)).trans rfl
set_option maxRecDepth 20000 in
theorem q_102_5287 (G : Nat × (Nat → Int32)) (d : Nat) (x3 : Int32) (x4 : Int32) (σ : aH) : Lq G d M_102 (34, [some (.ref 1), some (.ref 3), some (.ref 13), some (.int x3), some (.int x4), none], [], σ) = Lq G d M_102 (38, [some (.ref 1), some (.ref 3), some (.ref 13), some (.int x3), some (.int x4), none], [.int x4, .int (3 : Int32), .ref 3], σ) :=
  (aUn_eq (tkd G.1 G.2) tmi (aRun (tkd G.1 G.2) tmi tmt d) M_102 [] 3 (34, [some (.ref 1), some (.ref 3), some (.ref 13), some (.int x3), some (.int x4), none], [], σ)).trans rfl
set_option maxRecDepth 20000 in
theorem q_102_5288 (G : Nat × (Nat → Int32)) (d : Nat) (x3 : Int32) (x4 : Int32) (s0 : Int32) (s1 : Int32) (σ : aH) : Lq G d M_102 (38, [some (.ref 1), some (.ref 3), some (.ref 13), some (.int x3), some (.int x4), none], [.int s0, .int s1, .ref 3], σ) = aCI (Rn G d 103 [.ref 3, .int s1, .int s0] σ) fun v2 σ1 => Lq G d M_102 (41, [some (.ref 1), some (.ref 3), some (.ref 13), some (.int x3), some (.int x4), none], [.int v2], σ1) :=
  (aUn_eq (tkd G.1 G.2) tmi (aRun (tkd G.1 G.2) tmi tmt d) M_102 [] 1 (38, [some (.ref 1), some (.ref 3), some (.ref 13), some (.int x3), some (.int x4), none], [.int s0, .int s1, .ref 3], σ)).trans rfl
set_option maxRecDepth 20000 in
theorem q_102_5289 (G : Nat × (Nat → Int32)) (d : Nat) (x3 : Int32) (x4 : Int32) (s0 : Int32) (σ : aH) : Lq G d M_102 (41, [some (.ref 1), some (.ref 3), some (.ref 13), some (.int x3), some (.int x4), none], [.int s0], σ) = if s0 = 0 then Lq G d M_102 (44, [some (.ref 1), some (.ref 3), some (.ref 13), some (.int x3), some (.int x4), none], [], σ) else Lq G d M_102 (49, [some (.ref 1), some (.ref 3), some (.ref 13), some (.int x3), some (.int x4), none], [], σ) :=
  (aUn_eq (tkd G.1 G.2) tmi (aRun (tkd G.1 G.2) tmi tmt d) M_102 [] 1 (41, [some (.ref 1), some (.ref 3), some (.ref 13), some (.int x3), some (.int x4), none], [.int s0], σ)).trans rfl
set_option maxRecDepth 20000 in
theorem q_102_5290 (G : Nat × (Nat → Int32)) (d : Nat) (x3 : Int32) (x4 : Int32) (σ : aH) : Lq G d M_102 (44, [some (.ref 1), some (.ref 3), some (.ref 13), some (.int x3), some (.int x4), none], [], σ) = Lq G d M_102 (46, [some (.ref 1), some (.ref 3), some (.ref 13), some (.int x3), some (.int x4), none], [.int (4 : Int32), .ref 1], σ) :=
  (aUn_eq (tkd G.1 G.2) tmi (aRun (tkd G.1 G.2) tmi tmt d) M_102 [] 2 (44, [some (.ref 1), some (.ref 3), some (.ref 13), some (.int x3), some (.int x4), none], [], σ)).trans rfl
set_option maxRecDepth 20000 in
theorem q_102_5291 (G : Nat × (Nat → Int32)) (d : Nat) (x3 : Int32) (x4 : Int32) (s0 : Int32) (σ : aH) : Lq G d M_102 (46, [some (.ref 1), some (.ref 3), some (.ref 13), some (.int x3), some (.int x4), none], [.int s0, .ref 1], σ) = aCV (Rn G d 30 [.ref 1, .int s0] σ) fun σ1 => Lq G d M_102 (49, [some (.ref 1), some (.ref 3), some (.ref 13), some (.int x3), some (.int x4), none], [], σ1) :=
  (aUn_eq (tkd G.1 G.2) tmi (aRun (tkd G.1 G.2) tmi tmt d) M_102 [] 1 (46, [some (.ref 1), some (.ref 3), some (.ref 13), some (.int x3), some (.int x4), none], [.int s0, .ref 1], σ)).trans rfl
set_option maxRecDepth 20000 in
theorem q_105_5292 (G : Nat × (Nat → Int32)) (d : Nat) (x1 : Int32) (σ : aH) : Lq G d M_105 (0, [some (.ref 1), some (.int x1), none, none], [], σ) = Lq G d M_105 (3, [some (.ref 1), some (.int x1), none, none], [.ref 128, .ref 1], σ) :=
  (aUn_eq (tkd G.1 G.2) tmi (aRun (tkd G.1 G.2) tmi tmt d) M_105 [] 2 (0, [some (.ref 1), some (.int x1), none, none], [], σ)).trans rfl
set_option maxRecDepth 20000 in
theorem q_105_5293 (G : Nat × (Nat → Int32)) (d : Nat) (x1 : Int32) (σ : aH) : Lq G d M_105 (3, [some (.ref 1), some (.int x1), none, none], [.ref 128, .ref 1], σ) = aCI (Rn G d 39 [.ref 1, .ref 128] σ) fun v2 σ1 => Lq G d M_105 (6, [some (.ref 1), some (.int x1), none, none], [.int v2], σ1) :=
  (aUn_eq (tkd G.1 G.2) tmi (aRun (tkd G.1 G.2) tmi tmt d) M_105 [] 1 (3, [some (.ref 1), some (.int x1), none, none], [.ref 128, .ref 1], σ)).trans rfl
set_option maxRecDepth 20000 in
theorem q_105_5294 (G : Nat × (Nat → Int32)) (d : Nat) (x1 : Int32) (s0 : Int32) (σ : aH) : Lq G d M_105 (6, [some (.ref 1), some (.int x1), none, none], [.int s0], σ) = Lq G d M_105 (10, [some (.ref 1), some (.int x1), some (.int s0), none], [.int x1, .int (0 : Int32), .ref 1], σ) :=
  (aUn_eq (tkd G.1 G.2) tmi (aRun (tkd G.1 G.2) tmi tmt d) M_105 [] 4 (6, [some (.ref 1), some (.int x1), none, none], [.int s0], σ)).trans rfl
set_option maxRecDepth 20000 in
theorem q_105_5295 (G : Nat × (Nat → Int32)) (d : Nat) (x1 : Int32) (x2 : Int32) (s0 : Int32) (s1 : Int32) (σ : aH) : Lq G d M_105 (10, [some (.ref 1), some (.int x1), some (.int x2), none], [.int s0, .int s1, .ref 1], σ) = aCI (Rn G d 36 [.ref 1, .int s1, .int s0] σ) fun v2 σ1 => Lq G d M_105 (13, [some (.ref 1), some (.int x1), some (.int x2), none], [.int v2], σ1) :=
  (aUn_eq (tkd G.1 G.2) tmi (aRun (tkd G.1 G.2) tmi tmt d) M_105 [] 1 (10, [some (.ref 1), some (.int x1), some (.int x2), none], [.int s0, .int s1, .ref 1], σ)).trans rfl
set_option maxRecDepth 20000 in
theorem q_105_5296 (G : Nat × (Nat → Int32)) (d : Nat) (x1 : Int32) (x2 : Int32) (s0 : Int32) (σ : aH) : Lq G d M_105 (13, [some (.ref 1), some (.int x1), some (.int x2), none], [.int s0], σ) = Lq G d M_105 (15, [some (.ref 1), some (.int x1), some (.int x2), some (.int s0)], [.int x2], σ) :=
  (aUn_eq (tkd G.1 G.2) tmi (aRun (tkd G.1 G.2) tmi tmt d) M_105 [] 2 (13, [some (.ref 1), some (.int x1), some (.int x2), none], [.int s0], σ)).trans rfl
set_option maxRecDepth 20000 in
theorem q_105_5297 (G : Nat × (Nat → Int32)) (d : Nat) (x1 : Int32) (x2 : Int32) (x3 : Int32) (s0 : Int32) (σ : aH) : Lq G d M_105 (15, [some (.ref 1), some (.int x1), some (.int x2), some (.int x3)], [.int s0], σ) = if s0 = 0 then Lq G d M_105 (23, [some (.ref 1), some (.int x1), some (.int x2), some (.int x3)], [], σ) else Lq G d M_105 (18, [some (.ref 1), some (.int x1), some (.int x2), some (.int x3)], [], σ) :=
  (aUn_eq (tkd G.1 G.2) tmi (aRun (tkd G.1 G.2) tmi tmt d) M_105 [] 1 (15, [some (.ref 1), some (.int x1), some (.int x2), some (.int x3)], [.int s0], σ)).trans rfl
set_option maxRecDepth 20000 in
theorem q_105_5298 (G : Nat × (Nat → Int32)) (d : Nat) (x1 : Int32) (x2 : Int32) (x3 : Int32) (σ : aH) : Lq G d M_105 (23, [some (.ref 1), some (.int x1), some (.int x2), some (.int x3)], [], σ) = Lq G d M_105 (24, [some (.ref 1), some (.int x1), some (.int x2), some (.int x3)], [.int x3], σ) :=
  (aUn_eq (tkd G.1 G.2) tmi (aRun (tkd G.1 G.2) tmi tmt d) M_105 [] 1 (23, [some (.ref 1), some (.int x1), some (.int x2), some (.int x3)], [], σ)).trans rfl
set_option maxRecDepth 20000 in
theorem q_105_5299 (G : Nat × (Nat → Int32)) (d : Nat) (x1 : Int32) (x2 : Int32) (x3 : Int32) (s0 : Int32) (σ : aH) : Lq G d M_105 (24, [some (.ref 1), some (.int x1), some (.int x2), some (.int x3)], [.int s0], σ) = some (.inl (some (.int s0)), σ) :=
  (aUn_eq (tkd G.1 G.2) tmi (aRun (tkd G.1 G.2) tmi tmt d) M_105 [] 1 (24, [some (.ref 1), some (.int x1), some (.int x2), some (.int x3)], [.int s0], σ)).trans rfl
set_option maxRecDepth 20000 in
theorem q_105_5300 (G : Nat × (Nat → Int32)) (d : Nat) (x1 : Int32) (x2 : Int32) (x3 : Int32) (σ : aH) : Lq G d M_105 (18, [some (.ref 1), some (.int x1), some (.int x2), some (.int x3)], [], σ) = Lq G d M_105 (24, [some (.ref 1), some (.int x1), some (.int x2), some (.int x3)], [.int (-x3)], σ) :=
  (aUn_eq (tkd G.1 G.2) tmi (aRun (tkd G.1 G.2) tmi tmt d) M_105 [] 3 (18, [some (.ref 1), some (.int x1), some (.int x2), some (.int x3)], [], σ)).trans rfl
set_option maxRecDepth 20000 in
theorem q_124_5301 (G : Nat × (Nat → Int32)) (d : Nat) (x2 : Int32) (σ : aH) : Lq G d M_124 (0, [some (.ref 17), some (.ref 3), some (.int x2), none, none, none, none, none], [], σ) = Lq G d M_124 (6, [some (.ref 17), some (.ref 3), some (.int x2), some (.int (0 : Int32)), none, none, none, none], [.int (x2 + (1 : Int32)), .ref 3], σ) :=
  (aUn_eq (tkd G.1 G.2) tmi (aRun (tkd G.1 G.2) tmi tmt d) M_124 [] 6 (0, [some (.ref 17), some (.ref 3), some (.int x2), none, none, none, none, none], [], σ)).trans rfl
set_option maxRecDepth 20000 in
theorem q_124_5302 (G : Nat × (Nat → Int32)) (d : Nat) (x2 : Int32) (x3 : Int32) (s0 : Int32) (σ : aH) : Lq G d M_124 (6, [some (.ref 17), some (.ref 3), some (.int x2), some (.int x3), none, none, none, none], [.int s0, .ref 3], σ) = aCI (Rn G d 125 [.ref 3, .int s0] σ) fun v2 σ1 => Lq G d M_124 (9, [some (.ref 17), some (.ref 3), some (.int x2), some (.int x3), none, none, none, none], [.int v2], σ1) :=
  (aUn_eq (tkd G.1 G.2) tmi (aRun (tkd G.1 G.2) tmi tmt d) M_124 [] 1 (6, [some (.ref 17), some (.ref 3), some (.int x2), some (.int x3), none, none, none, none], [.int s0, .ref 3], σ)).trans rfl
set_option maxRecDepth 20000 in
theorem q_124_5303 (G : Nat × (Nat → Int32)) (d : Nat) (x2 : Int32) (x3 : Int32) (s0 : Int32) (σ : aH) : Lq G d M_124 (9, [some (.ref 17), some (.ref 3), some (.int x2), some (.int x3), none, none, none, none], [.int s0], σ) = Lq G d M_124 (13, [some (.ref 17), some (.ref 3), some (.int x2), some (.int x3), some (.int s0), none, none, none], [.int x2, .ref 3], σ) :=
  (aUn_eq (tkd G.1 G.2) tmi (aRun (tkd G.1 G.2) tmi tmt d) M_124 [] 3 (9, [some (.ref 17), some (.ref 3), some (.int x2), some (.int x3), none, none, none, none], [.int s0], σ)).trans rfl
set_option maxRecDepth 20000 in
theorem q_124_5304 (G : Nat × (Nat → Int32)) (d : Nat) (x2 : Int32) (x3 : Int32) (x4 : Int32) (s0 : Int32) (σ : aH) : Lq G d M_124 (13, [some (.ref 17), some (.ref 3), some (.int x2), some (.int x3), some (.int x4), none, none, none], [.int s0, .ref 3], σ) = aCI (Rn G d 125 [.ref 3, .int s0] σ) fun v2 σ1 => Lq G d M_124 (16, [some (.ref 17), some (.ref 3), some (.int x2), some (.int x3), some (.int x4), none, none, none], [.int v2], σ1) :=
  (aUn_eq (tkd G.1 G.2) tmi (aRun (tkd G.1 G.2) tmi tmt d) M_124 [] 1 (13, [some (.ref 17), some (.ref 3), some (.int x2), some (.int x3), some (.int x4), none, none, none], [.int s0, .ref 3], σ)).trans rfl
set_option maxRecDepth 20000 in
theorem q_124_5305 (G : Nat × (Nat → Int32)) (d : Nat) (x2 : Int32) (x3 : Int32) (x4 : Int32) (s0 : Int32) (σ : aH) : Lq G d M_124 (16, [some (.ref 17), some (.ref 3), some (.int x2), some (.int x3), some (.int x4), none, none, none], [.int s0], σ) = Lq G d M_124 (18, [some (.ref 17), some (.ref 3), none, some (.int x3), some (.int x4), some (.int s0), none, none], [], σ) :=
  (aUn_eq (tkd G.1 G.2) tmi (aRun (tkd G.1 G.2) tmi tmt d) M_124 [] 1 (16, [some (.ref 17), some (.ref 3), some (.int x2), some (.int x3), some (.int x4), none, none, none], [.int s0], σ)).trans rfl
set_option maxRecDepth 20000 in
theorem q_124_5306 (G : Nat × (Nat → Int32)) (d : Nat) (x3 : Int32) (x4 : Int32) (x5 : Int32) (σ : aH) : Lq G d M_124 (18, [some (.ref 17), some (.ref 3), none, some (.int x3), some (.int x4), some (.int x5), none, none], [], σ) = Lq G d M_124 (22, [some (.ref 17), some (.ref 3), none, some (.int x3), some (.int x4), some (.int x5), none, none], [.int x4, .int x5], σ) :=
  (aUn_eq (tkd G.1 G.2) tmi (aRun (tkd G.1 G.2) tmi tmt d) M_124 [] 2 (18, [some (.ref 17), some (.ref 3), none, some (.int x3), some (.int x4), some (.int x5), none, none], [], σ)).trans rfl
set_option maxRecDepth 20000 in
theorem q_124_5307 (G : Nat × (Nat → Int32)) (d : Nat) (x3 : Int32) (x4 : Int32) (x5 : Int32) (s0 : Int32) (s1 : Int32) (σ : aH) : Lq G d M_124 (22, [some (.ref 17), some (.ref 3), none, some (.int x3), some (.int x4), some (.int x5), none, none], [.int s0, .int s1], σ) = if s0 ≤ s1 then Lq G d M_124 (171, [some (.ref 17), some (.ref 3), none, some (.int x3), some (.int x4), some (.int x5), none, none], [], σ) else Lq G d M_124 (25, [some (.ref 17), some (.ref 3), none, some (.int x3), some (.int x4), some (.int x5), none, none], [], σ) :=
  (aUn_eq (tkd G.1 G.2) tmi (aRun (tkd G.1 G.2) tmi tmt d) M_124 [] 1 (22, [some (.ref 17), some (.ref 3), none, some (.int x3), some (.int x4), some (.int x5), none, none], [.int s0, .int s1], σ)).trans rfl
set_option maxRecDepth 20000 in
theorem q_124_5308 (G : Nat × (Nat → Int32)) (d : Nat) (x3 : Int32) (x4 : Int32) (x5 : Int32) (σ : aH) : Lq G d M_124 (171, [some (.ref 17), some (.ref 3), none, some (.int x3), some (.int x4), some (.int x5), none, none], [], σ) = Lq G d M_124 (176, [some (.ref 17), some (.ref 3), none, some (.int x3), some (.int x4), some (.int x5), none, none], [.int (0 : Int32), .ref 23], σ) :=
  (aUn_eq (tkd G.1 G.2) tmi (aRun (tkd G.1 G.2) tmi tmt d) M_124 [] 3 (171, [some (.ref 17), some (.ref 3), none, some (.int x3), some (.int x4), some (.int x5), none, none], [], σ)).trans rfl
set_option maxRecDepth 20000 in
theorem q_124_5309 (G : Nat × (Nat → Int32)) (d : Nat) (x3 : Int32) (x4 : Int32) (x5 : Int32) (s0 : Int32) (σ : aH) : Lq G d M_124 (176, [some (.ref 17), some (.ref 3), none, some (.int x3), some (.int x4), some (.int x5), none, none], [.int s0, .ref 23], σ) = aCI (Rn G d 32 [.ref 23, .int s0] σ) fun v2 σ1 => Lq G d M_124 (179, [some (.ref 17), some (.ref 3), none, some (.int x3), some (.int x4), some (.int x5), none, none], [.int v2], σ1) :=
  (aUn_eq (tkd G.1 G.2) tmi (aRun (tkd G.1 G.2) tmi tmt d) M_124 [] 1 (176, [some (.ref 17), some (.ref 3), none, some (.int x3), some (.int x4), some (.int x5), none, none], [.int s0, .ref 23], σ)).trans rfl
set_option maxRecDepth 20000 in
theorem q_124_5310 (G : Nat × (Nat → Int32)) (d : Nat) (x3 : Int32) (x4 : Int32) (x5 : Int32) (s0 : Int32) (σ : aH) : Lq G d M_124 (179, [some (.ref 17), some (.ref 3), none, some (.int x3), some (.int x4), some (.int x5), none, none], [.int s0], σ) = some (.inl (some (.int s0)), σ) :=
  (aUn_eq (tkd G.1 G.2) tmi (aRun (tkd G.1 G.2) tmi tmt d) M_124 [] 1 (179, [some (.ref 17), some (.ref 3), none, some (.int x3), some (.int x4), some (.int x5), none, none], [.int s0], σ)).trans rfl
set_option maxRecDepth 20000 in
theorem q_124_5311 (G : Nat × (Nat → Int32)) (d : Nat) (x3 : Int32) (x4 : Int32) (x5 : Int32) (σ : aH) : Lq G d M_124 (25, [some (.ref 17), some (.ref 3), none, some (.int x3), some (.int x4), some (.int x5), none, none], [], σ) = Lq G d M_124 (28, [some (.ref 17), some (.ref 3), none, some (.int x3), some (.int x4), some (.int x5), none, none], [.int x5, .ref 3], σ) :=
  (aUn_eq (tkd G.1 G.2) tmi (aRun (tkd G.1 G.2) tmi tmt d) M_124 [] 2 (25, [some (.ref 17), some (.ref 3), none, some (.int x3), some (.int x4), some (.int x5), none, none], [], σ)).trans rfl
set_option maxRecDepth 20000 in
theorem q_124_5312 (G : Nat × (Nat → Int32)) (d : Nat) (x3 : Int32) (x4 : Int32) (x5 : Int32) (s0 : Int32) (σ : aH) : Lq G d M_124 (28, [some (.ref 17), some (.ref 3), none, some (.int x3), some (.int x4), some (.int x5), none, none], [.int s0, .ref 3], σ) = aCI (Rn G d 126 [.ref 3, .int s0] σ) fun v2 σ1 => Lq G d M_124 (31, [some (.ref 17), some (.ref 3), none, some (.int x3), some (.int x4), some (.int x5), none, none], [.int v2], σ1) :=
  (aUn_eq (tkd G.1 G.2) tmi (aRun (tkd G.1 G.2) tmi tmt d) M_124 [] 1 (28, [some (.ref 17), some (.ref 3), none, some (.int x3), some (.int x4), some (.int x5), none, none], [.int s0, .ref 3], σ)).trans rfl
set_option maxRecDepth 20000 in
theorem q_124_5313 (G : Nat × (Nat → Int32)) (d : Nat) (x3 : Int32) (x4 : Int32) (x5 : Int32) (s0 : Int32) (σ : aH) : Lq G d M_124 (31, [some (.ref 17), some (.ref 3), none, some (.int x3), some (.int x4), some (.int x5), none, none], [.int s0], σ) = Lq G d M_124 (35, [some (.ref 17), some (.ref 3), none, some (.int x3), some (.int x4), some (.int x5), some (.int s0), none], [.int s0], σ) :=
  (aUn_eq (tkd G.1 G.2) tmi (aRun (tkd G.1 G.2) tmi tmt d) M_124 [] 2 (31, [some (.ref 17), some (.ref 3), none, some (.int x3), some (.int x4), some (.int x5), none, none], [.int s0], σ)).trans rfl
set_option maxRecDepth 20000 in
theorem q_124_5314 (G : Nat × (Nat → Int32)) (d : Nat) (x3 : Int32) (x4 : Int32) (x5 : Int32) (x6 : Int32) (s0 : Int32) (σ : aH) : Lq G d M_124 (35, [some (.ref 17), some (.ref 3), none, some (.int x3), some (.int x4), some (.int x5), some (.int x6), none], [.int s0], σ) = if s0 < 0 then Lq G d M_124 (90, [some (.ref 17), some (.ref 3), none, some (.int x3), some (.int x4), some (.int x5), some (.int x6), none], [], σ) else Lq G d M_124 (38, [some (.ref 17), some (.ref 3), none, some (.int x3), some (.int x4), some (.int x5), some (.int x6), none], [], σ) :=
  (aUn_eq (tkd G.1 G.2) tmi (aRun (tkd G.1 G.2) tmi tmt d) M_124 [] 1 (35, [some (.ref 17), some (.ref 3), none, some (.int x3), some (.int x4), some (.int x5), some (.int x6), none], [.int s0], σ)).trans rfl
set_option maxRecDepth 20000 in
theorem q_124_5315 (G : Nat × (Nat → Int32)) (d : Nat) (x3 : Int32) (x4 : Int32) (x5 : Int32) (x6 : Int32) (σ : aH) : Lq G d M_124 (90, [some (.ref 17), some (.ref 3), none, some (.int x3), some (.int x4), some (.int x5), some (.int x6), none], [], σ) = Lq G d M_124 (94, [some (.ref 17), some (.ref 3), none, some (.int x3), some (.int x4), some (.int x5), some (.int x6), none], [.int (-3 : Int32), .int x6], σ) :=
  (aUn_eq (tkd G.1 G.2) tmi (aRun (tkd G.1 G.2) tmi tmt d) M_124 [] 2 (90, [some (.ref 17), some (.ref 3), none, some (.int x3), some (.int x4), some (.int x5), some (.int x6), none], [], σ)).trans rfl
set_option maxRecDepth 20000 in
theorem q_124_5316 (G : Nat × (Nat → Int32)) (d : Nat) (x3 : Int32) (x4 : Int32) (x5 : Int32) (x6 : Int32) (s0 : Int32) (s1 : Int32) (σ : aH) : Lq G d M_124 (94, [some (.ref 17), some (.ref 3), none, some (.int x3), some (.int x4), some (.int x5), some (.int x6), none], [.int s0, .int s1], σ) = if s1 = s0 then Lq G d M_124 (97, [some (.ref 17), some (.ref 3), none, some (.int x3), some (.int x4), some (.int x5), some (.int x6), none], [], σ) else Lq G d M_124 (128, [some (.ref 17), some (.ref 3), none, some (.int x3), some (.int x4), some (.int x5), some (.int x6), none], [], σ) :=
  (aUn_eq (tkd G.1 G.2) tmi (aRun (tkd G.1 G.2) tmi tmt d) M_124 [] 1 (94, [some (.ref 17), some (.ref 3), none, some (.int x3), some (.int x4), some (.int x5), some (.int x6), none], [.int s0, .int s1], σ)).trans rfl
set_option maxRecDepth 20000 in
theorem q_124_5317 (G : Nat × (Nat → Int32)) (d : Nat) (x3 : Int32) (x4 : Int32) (x5 : Int32) (x6 : Int32) (σ : aH) : Lq G d M_124 (97, [some (.ref 17), some (.ref 3), none, some (.int x3), some (.int x4), some (.int x5), some (.int x6), none], [], σ) = Lq G d M_124 (111, [some (.ref 17), some (.ref 3), none, some (.int x3), some (.int x4), some (.int x5), some (.int x6), none], [.int (x3 - (1 : Int32)), .ref 23, .int (x3 - (1 : Int32)), .ref 23], σ) :=
  (aUn_eq (tkd G.1 G.2) tmi (aRun (tkd G.1 G.2) tmi tmt d) M_124 [] 10 (97, [some (.ref 17), some (.ref 3), none, some (.int x3), some (.int x4), some (.int x5), some (.int x6), none], [], σ)).trans rfl
set_option maxRecDepth 20000 in
theorem q_124_5318 (G : Nat × (Nat → Int32)) (d : Nat) (x3 : Int32) (x4 : Int32) (x5 : Int32) (x6 : Int32) (s0 : Int32) (s2 : Int32) (σ : aH) : Lq G d M_124 (111, [some (.ref 17), some (.ref 3), none, some (.int x3), some (.int x4), some (.int x5), some (.int x6), none], [.int s0, .ref 23, .int s2, .ref 23], σ) = aCI (Rn G d 32 [.ref 23, .int s0] σ) fun v2 σ1 => Lq G d M_124 (114, [some (.ref 17), some (.ref 3), none, some (.int x3), some (.int x4), some (.int x5), some (.int x6), none], [.int v2, .int s2, .ref 23], σ1) :=
  (aUn_eq (tkd G.1 G.2) tmi (aRun (tkd G.1 G.2) tmi tmt d) M_124 [] 1 (111, [some (.ref 17), some (.ref 3), none, some (.int x3), some (.int x4), some (.int x5), some (.int x6), none], [.int s0, .ref 23, .int s2, .ref 23], σ)).trans rfl
set_option maxRecDepth 20000 in
theorem q_124_5319 (G : Nat × (Nat → Int32)) (d : Nat) (x3 : Int32) (x4 : Int32) (x5 : Int32) (x6 : Int32) (s0 : Int32) (s1 : Int32) (σ : aH) : Lq G d M_124 (114, [some (.ref 17), some (.ref 3), none, some (.int x3), some (.int x4), some (.int x5), some (.int x6), none], [.int s0, .int s1, .ref 23], σ) = if s0 = 0 then Lq G d M_124 (117, [some (.ref 17), some (.ref 3), none, some (.int x3), some (.int x4), some (.int x5), some (.int x6), none], [.int s1, .ref 23], σ) else Lq G d M_124 (121, [some (.ref 17), some (.ref 3), none, some (.int x3), some (.int x4), some (.int x5), some (.int x6), none], [.int s1, .ref 23], σ) :=
  (aUn_eq (tkd G.1 G.2) tmi (aRun (tkd G.1 G.2) tmi tmt d) M_124 [] 1 (114, [some (.ref 17), some (.ref 3), none, some (.int x3), some (.int x4), some (.int x5), some (.int x6), none], [.int s0, .int s1, .ref 23], σ)).trans rfl
set_option maxRecDepth 20000 in
theorem q_124_5320 (G : Nat × (Nat → Int32)) (d : Nat) (x3 : Int32) (x4 : Int32) (x5 : Int32) (x6 : Int32) (s0 : Int32) (σ : aH) : Lq G d M_124 (117, [some (.ref 17), some (.ref 3), none, some (.int x3), some (.int x4), some (.int x5), some (.int x6), none], [.int s0, .ref 23], σ) = Lq G d M_124 (122, [some (.ref 17), some (.ref 3), none, some (.int x3), some (.int x4), some (.int x5), some (.int x6), none], [.int (1 : Int32), .int s0, .ref 23], σ) :=
  (aUn_eq (tkd G.1 G.2) tmi (aRun (tkd G.1 G.2) tmi tmt d) M_124 [] 2 (117, [some (.ref 17), some (.ref 3), none, some (.int x3), some (.int x4), some (.int x5), some (.int x6), none], [.int s0, .ref 23], σ)).trans rfl
set_option maxRecDepth 20000 in
theorem q_124_5321 (G : Nat × (Nat → Int32)) (d : Nat) (x3 : Int32) (x4 : Int32) (x5 : Int32) (x6 : Int32) (s0 : Int32) (s1 : Int32) (σ : aH) : Lq G d M_124 (122, [some (.ref 17), some (.ref 3), none, some (.int x3), some (.int x4), some (.int x5), some (.int x6), none], [.int s0, .int s1, .ref 23], σ) = aCV (Rn G d 24 [.ref 23, .int s1, .int s0] σ) fun σ1 => Lq G d M_124 (125, [some (.ref 17), some (.ref 3), none, some (.int x3), some (.int x4), some (.int x5), some (.int x6), none], [], σ1) :=
  (aUn_eq (tkd G.1 G.2) tmi (aRun (tkd G.1 G.2) tmi tmt d) M_124 [] 1 (122, [some (.ref 17), some (.ref 3), none, some (.int x3), some (.int x4), some (.int x5), some (.int x6), none], [.int s0, .int s1, .ref 23], σ)).trans rfl
set_option maxRecDepth 20000 in
theorem q_124_5322 (G : Nat × (Nat → Int32)) (d : Nat) (x3 : Int32) (x4 : Int32) (x5 : Int32) (x6 : Int32) (σ : aH) : Lq G d M_124 (125, [some (.ref 17), some (.ref 3), none, some (.int x3), some (.int x4), some (.int x5), some (.int x6), none], [], σ) = Lq G d M_124 (18, [some (.ref 17), some (.ref 3), none, some (.int x3), some (.int x4), some (.int (x5 + (1 : Int32))), none, none], [], σ) :=
  (aUn_eq (tkd G.1 G.2) tmi (aRun (tkd G.1 G.2) tmi tmt d) M_124 [] 3 (125, [some (.ref 17), some (.ref 3), none, some (.int x3), some (.int x4), some (.int x5), some (.int x6), none], [], σ)).trans rfl
set_option maxRecDepth 20000 in
theorem q_124_5323 (G : Nat × (Nat → Int32)) (d : Nat) (x3 : Int32) (x4 : Int32) (x5 : Int32) (x6 : Int32) (s0 : Int32) (σ : aH) : Lq G d M_124 (121, [some (.ref 17), some (.ref 3), none, some (.int x3), some (.int x4), some (.int x5), some (.int x6), none], [.int s0, .ref 23], σ) = Lq G d M_124 (122, [some (.ref 17), some (.ref 3), none, some (.int x3), some (.int x4), some (.int x5), some (.int x6), none], [.int (0 : Int32), .int s0, .ref 23], σ) :=
  (aUn_eq (tkd G.1 G.2) tmi (aRun (tkd G.1 G.2) tmi tmt d) M_124 [] 1 (121, [some (.ref 17), some (.ref 3), none, some (.int x3), some (.int x4), some (.int x5), some (.int x6), none], [.int s0, .ref 23], σ)).trans rfl
set_option maxRecDepth 20000 in
theorem q_124_5324 (G : Nat × (Nat → Int32)) (d : Nat) (x3 : Int32) (x4 : Int32) (x5 : Int32) (x6 : Int32) (σ : aH) : Lq G d M_124 (128, [some (.ref 17), some (.ref 3), none, some (.int x3), some (.int x4), some (.int x5), some (.int x6), none], [], σ) = Lq G d M_124 (148, [some (.ref 17), some (.ref 3), none, some (.int (x3 + (-1 : Int32))), some (.int x4), some (.int x5), some (.int x6), none], [.int ((x3 + (-1 : Int32)) - (1 : Int32)), .ref 23, .int (-x6), .int ((x3 + (-1 : Int32)) - (1 : Int32)), .ref 23], σ) :=
  (aUn_eq (tkd G.1 G.2) tmi (aRun (tkd G.1 G.2) tmi tmt d) M_124 [] 13 (128, [some (.ref 17), some (.ref 3), none, some (.int x3), some (.int x4), some (.int x5), some (.int x6), none], [], σ)).trans rfl
set_option maxRecDepth 20000 in
theorem q_124_5325 (G : Nat × (Nat → Int32)) (d : Nat) (x3 : Int32) (x4 : Int32) (x5 : Int32) (x6 : Int32) (s0 : Int32) (s2 : Int32) (s3 : Int32) (σ : aH) : Lq G d M_124 (148, [some (.ref 17), some (.ref 3), none, some (.int x3), some (.int x4), some (.int x5), some (.int x6), none], [.int s0, .ref 23, .int s2, .int s3, .ref 23], σ) = aCI (Rn G d 32 [.ref 23, .int s0] σ) fun v2 σ1 => Lq G d M_124 (151, [some (.ref 17), some (.ref 3), none, some (.int x3), some (.int x4), some (.int x5), some (.int x6), none], [.int v2, .int s2, .int s3, .ref 23], σ1) :=
  (aUn_eq (tkd G.1 G.2) tmi (aRun (tkd G.1 G.2) tmi tmt d) M_124 [] 1 (148, [some (.ref 17), some (.ref 3), none, some (.int x3), some (.int x4), some (.int x5), some (.int x6), none], [.int s0, .ref 23, .int s2, .int s3, .ref 23], σ)).trans rfl
set_option maxRecDepth 20000 in
theorem q_124_5326 (G : Nat × (Nat → Int32)) (d : Nat) (x3 : Int32) (x4 : Int32) (x5 : Int32) (x6 : Int32) (s0 : Int32) (s1 : Int32) (s2 : Int32) (σ : aH) : Lq G d M_124 (151, [some (.ref 17), some (.ref 3), none, some (.int x3), some (.int x4), some (.int x5), some (.int x6), none], [.int s0, .int s1, .int s2, .ref 23], σ) = Lq G d M_124 (156, [some (.ref 17), some (.ref 3), none, some (.int x3), some (.int x4), some (.int x5), some (.int x6), none], [.int x3, .ref 23, .int s0, .int s1, .int s2, .ref 23], σ) :=
  (aUn_eq (tkd G.1 G.2) tmi (aRun (tkd G.1 G.2) tmi tmt d) M_124 [] 3 (151, [some (.ref 17), some (.ref 3), none, some (.int x3), some (.int x4), some (.int x5), some (.int x6), none], [.int s0, .int s1, .int s2, .ref 23], σ)).trans rfl
set_option maxRecDepth 20000 in
theorem q_124_5327 (G : Nat × (Nat → Int32)) (d : Nat) (x3 : Int32) (x4 : Int32) (x5 : Int32) (x6 : Int32) (s0 : Int32) (s2 : Int32) (s3 : Int32) (s4 : Int32) (σ : aH) : Lq G d M_124 (156, [some (.ref 17), some (.ref 3), none, some (.int x3), some (.int x4), some (.int x5), some (.int x6), none], [.int s0, .ref 23, .int s2, .int s3, .int s4, .ref 23], σ) = aCI (Rn G d 32 [.ref 23, .int s0] σ) fun v2 σ1 => Lq G d M_124 (159, [some (.ref 17), some (.ref 3), none, some (.int x3), some (.int x4), some (.int x5), some (.int x6), none], [.int v2, .int s2, .int s3, .int s4, .ref 23], σ1) :=
  (aUn_eq (tkd G.1 G.2) tmi (aRun (tkd G.1 G.2) tmi tmt d) M_124 [] 1 (156, [some (.ref 17), some (.ref 3), none, some (.int x3), some (.int x4), some (.int x5), some (.int x6), none], [.int s0, .ref 23, .int s2, .int s3, .int s4, .ref 23], σ)).trans rfl
set_option maxRecDepth 20000 in
theorem q_124_5328 (G : Nat × (Nat → Int32)) (d : Nat) (x3 : Int32) (x4 : Int32) (x5 : Int32) (x6 : Int32) (s0 : Int32) (s1 : Int32) (s2 : Int32) (s3 : Int32) (σ : aH) : Lq G d M_124 (159, [some (.ref 17), some (.ref 3), none, some (.int x3), some (.int x4), some (.int x5), some (.int x6), none], [.int s0, .int s1, .int s2, .int s3, .ref 23], σ) = aCI (Rn G d 127 [.int s2, .int s1, .int s0] σ) fun v2 σ1 => Lq G d M_124 (162, [some (.ref 17), some (.ref 3), none, some (.int x3), some (.int x4), some (.int x5), some (.int x6), none], [.int v2, .int s3, .ref 23], σ1) :=
  (aUn_eq (tkd G.1 G.2) tmi (aRun (tkd G.1 G.2) tmi tmt d) M_124 [] 1 (159, [some (.ref 17), some (.ref 3), none, some (.int x3), some (.int x4), some (.int x5), some (.int x6), none], [.int s0, .int s1, .int s2, .int s3, .ref 23], σ)).trans rfl
set_option maxRecDepth 20000 in
theorem q_124_5329 (G : Nat × (Nat → Int32)) (d : Nat) (x3 : Int32) (x4 : Int32) (x5 : Int32) (x6 : Int32) (s0 : Int32) (s1 : Int32) (σ : aH) : Lq G d M_124 (162, [some (.ref 17), some (.ref 3), none, some (.int x3), some (.int x4), some (.int x5), some (.int x6), none], [.int s0, .int s1, .ref 23], σ) = aCV (Rn G d 24 [.ref 23, .int s1, .int s0] σ) fun σ1 => Lq G d M_124 (165, [some (.ref 17), some (.ref 3), none, some (.int x3), some (.int x4), some (.int x5), some (.int x6), none], [], σ1) :=
  (aUn_eq (tkd G.1 G.2) tmi (aRun (tkd G.1 G.2) tmi tmt d) M_124 [] 1 (162, [some (.ref 17), some (.ref 3), none, some (.int x3), some (.int x4), some (.int x5), some (.int x6), none], [.int s0, .int s1, .ref 23], σ)).trans rfl
set_option maxRecDepth 20000 in
theorem q_124_5330 (G : Nat × (Nat → Int32)) (d : Nat) (x3 : Int32) (x4 : Int32) (x5 : Int32) (x6 : Int32) (σ : aH) : Lq G d M_124 (165, [some (.ref 17), some (.ref 3), none, some (.int x3), some (.int x4), some (.int x5), some (.int x6), none], [], σ) = Lq G d M_124 (18, [some (.ref 17), some (.ref 3), none, some (.int x3), some (.int x4), some (.int (x5 + (1 : Int32))), none, none], [], σ) :=
  (aUn_eq (tkd G.1 G.2) tmi (aRun (tkd G.1 G.2) tmi tmt d) M_124 [] 2 (165, [some (.ref 17), some (.ref 3), none, some (.int x3), some (.int x4), some (.int x5), some (.int x6), none], [], σ)).trans rfl
set_option maxRecDepth 20000 in
theorem q_124_5331 (G : Nat × (Nat → Int32)) (d : Nat) (x3 : Int32) (x4 : Int32) (x5 : Int32) (x6 : Int32) (σ : aH) : Lq G d M_124 (38, [some (.ref 17), some (.ref 3), none, some (.int x3), some (.int x4), some (.int x5), some (.int x6), none], [], σ) = Lq G d M_124 (43, [some (.ref 17), some (.ref 3), none, some (.int x3), some (.int x4), some (.int x5), some (.int x6), none], [.int (10000 : Int32), .int x6], σ) :=
  (aUn_eq (tkd G.1 G.2) tmi (aRun (tkd G.1 G.2) tmi tmt d) M_124 [] 2 (38, [some (.ref 17), some (.ref 3), none, some (.int x3), some (.int x4), some (.int x5), some (.int x6), none], [], σ)).trans rfl
set_option maxRecDepth 20000 in
theorem q_124_5332 (G : Nat × (Nat → Int32)) (d : Nat) (x3 : Int32) (x4 : Int32) (x5 : Int32) (x6 : Int32) (s0 : Int32) (s1 : Int32) (σ : aH) : Lq G d M_124 (43, [some (.ref 17), some (.ref 3), none, some (.int x3), some (.int x4), some (.int x5), some (.int x6), none], [.int s0, .int s1], σ) = if s1 < s0 then Lq G d M_124 (50, [some (.ref 17), some (.ref 3), none, some (.int x3), some (.int x4), some (.int x5), some (.int x6), none], [], σ) else Lq G d M_124 (46, [some (.ref 17), some (.ref 3), none, some (.int x3), some (.int x4), some (.int x5), some (.int x6), none], [], σ) :=
  (aUn_eq (tkd G.1 G.2) tmi (aRun (tkd G.1 G.2) tmi tmt d) M_124 [] 1 (43, [some (.ref 17), some (.ref 3), none, some (.int x3), some (.int x4), some (.int x5), some (.int x6), none], [.int s0, .int s1], σ)).trans rfl
set_option maxRecDepth 20000 in
theorem q_124_5333 (G : Nat × (Nat → Int32)) (d : Nat) (x3 : Int32) (x4 : Int32) (x5 : Int32) (x6 : Int32) (σ : aH) : Lq G d M_124 (50, [some (.ref 17), some (.ref 3), none, some (.int x3), some (.int x4), some (.int x5), some (.int x6), none], [], σ) = Lq G d M_124 (60, [some (.ref 17), some (.ref 3), none, some (.int x3), some (.int x4), some (.int x5), some (.int x6), some (.int (0 : Int32))], [.int (0 : Int32), .int x3, .ref 23], σ) :=
  (aUn_eq (tkd G.1 G.2) tmi (aRun (tkd G.1 G.2) tmi tmt d) M_124 [] 6 (50, [some (.ref 17), some (.ref 3), none, some (.int x3), some (.int x4), some (.int x5), some (.int x6), none], [], σ)).trans rfl
set_option maxRecDepth 20000 in
theorem q_124_5334 (G : Nat × (Nat → Int32)) (d : Nat) (x3 : Int32) (x4 : Int32) (x5 : Int32) (x6 : Int32) (x7 : Int32) (s0 : Int32) (s1 : Int32) (σ : aH) : Lq G d M_124 (60, [some (.ref 17), some (.ref 3), none, some (.int x3), some (.int x4), some (.int x5), some (.int x6), some (.int x7)], [.int s0, .int s1, .ref 23], σ) = if s0 = 0 then Lq G d M_124 (79, [some (.ref 17), some (.ref 3), none, some (.int x3), some (.int x4), some (.int x5), some (.int x6), some (.int x7)], [.int s1, .ref 23], σ) else Lq G d M_124 (63, [some (.ref 17), some (.ref 3), none, some (.int x3), some (.int x4), some (.int x5), some (.int x6), some (.int x7)], [.int s1, .ref 23], σ) :=
  (aUn_eq (tkd G.1 G.2) tmi (aRun (tkd G.1 G.2) tmi tmt d) M_124 [] 1 (60, [some (.ref 17), some (.ref 3), none, some (.int x3), some (.int x4), some (.int x5), some (.int x6), some (.int x7)], [.int s0, .int s1, .ref 23], σ)).trans rfl
set_option maxRecDepth 20000 in
theorem q_124_5335 (G : Nat × (Nat → Int32)) (d : Nat) (x3 : Int32) (x4 : Int32) (x5 : Int32) (x6 : Int32) (x7 : Int32) (s0 : Int32) (σ : aH) : Lq G d M_124 (79, [some (.ref 17), some (.ref 3), none, some (.int x3), some (.int x4), some (.int x5), some (.int x6), some (.int x7)], [.int s0, .ref 23], σ) = Lq G d M_124 (81, [some (.ref 17), some (.ref 3), none, some (.int x3), some (.int x4), some (.int x5), some (.int x6), some (.int x7)], [.int x6, .int s0, .ref 23], σ) :=
  (aUn_eq (tkd G.1 G.2) tmi (aRun (tkd G.1 G.2) tmi tmt d) M_124 [] 1 (79, [some (.ref 17), some (.ref 3), none, some (.int x3), some (.int x4), some (.int x5), some (.int x6), some (.int x7)], [.int s0, .ref 23], σ)).trans rfl
set_option maxRecDepth 20000 in
theorem q_124_5336 (G : Nat × (Nat → Int32)) (d : Nat) (x3 : Int32) (x4 : Int32) (x5 : Int32) (x6 : Int32) (x7 : Int32) (s0 : Int32) (s1 : Int32) (σ : aH) : Lq G d M_124 (81, [some (.ref 17), some (.ref 3), none, some (.int x3), some (.int x4), some (.int x5), some (.int x6), some (.int x7)], [.int s0, .int s1, .ref 23], σ) = aCV (Rn G d 24 [.ref 23, .int s1, .int s0] σ) fun σ1 => Lq G d M_124 (84, [some (.ref 17), some (.ref 3), none, some (.int x3), some (.int x4), some (.int x5), some (.int x6), some (.int x7)], [], σ1) :=
  (aUn_eq (tkd G.1 G.2) tmi (aRun (tkd G.1 G.2) tmi tmt d) M_124 [] 1 (81, [some (.ref 17), some (.ref 3), none, some (.int x3), some (.int x4), some (.int x5), some (.int x6), some (.int x7)], [.int s0, .int s1, .ref 23], σ)).trans rfl
set_option maxRecDepth 20000 in
theorem q_124_5337 (G : Nat × (Nat → Int32)) (d : Nat) (x3 : Int32) (x4 : Int32) (x5 : Int32) (x6 : Int32) (x7 : Int32) (σ : aH) : Lq G d M_124 (84, [some (.ref 17), some (.ref 3), none, some (.int x3), some (.int x4), some (.int x5), some (.int x6), some (.int x7)], [], σ) = Lq G d M_124 (168, [some (.ref 17), some (.ref 3), none, some (.int (x3 + (1 : Int32))), some (.int x4), some (.int (x5 + (1 : Int32))), some (.int x6), some (.int x7)], [], σ) :=
  (aUn_eq (tkd G.1 G.2) tmi (aRun (tkd G.1 G.2) tmi tmt d) M_124 [] 3 (84, [some (.ref 17), some (.ref 3), none, some (.int x3), some (.int x4), some (.int x5), some (.int x6), some (.int x7)], [], σ)).trans rfl
set_option maxRecDepth 20000 in
theorem q_124_5338 (G : Nat × (Nat → Int32)) (d : Nat) (x3 : Int32) (x4 : Int32) (x5 : Int32) (x6 : Int32) (x7 : Int32) (σ : aH) : Lq G d M_124 (168, [some (.ref 17), some (.ref 3), none, some (.int x3), some (.int x4), some (.int x5), some (.int x6), some (.int x7)], [], σ) = Lq G d M_124 (18, [some (.ref 17), some (.ref 3), none, some (.int x3), some (.int x4), some (.int x5), none, none], [], σ) :=
  (aUn_eq (tkd G.1 G.2) tmi (aRun (tkd G.1 G.2) tmi tmt d) M_124 [] 1 (168, [some (.ref 17), some (.ref 3), none, some (.int x3), some (.int x4), some (.int x5), some (.int x6), some (.int x7)], [], σ)).trans rfl
set_option maxRecDepth 20000 in
theorem q_124_5339 (G : Nat × (Nat → Int32)) (d : Nat) (x3 : Int32) (x4 : Int32) (x5 : Int32) (x6 : Int32) (x7 : Int32) (s0 : Int32) (σ : aH) : Lq G d M_124 (63, [some (.ref 17), some (.ref 3), none, some (.int x3), some (.int x4), some (.int x5), some (.int x6), some (.int x7)], [.int s0, .ref 23], σ) = Lq G d M_124 (73, [some (.ref 17), some (.ref 3), none, some (.int x3), some (.int x4), some (.int x5), some (.int x6), some (.int x7)], [.int (x6 - (10000 : Int32)), .ref 22, .int s0, .ref 23], σ) :=
  (aUn_eq (tkd G.1 G.2) tmi (aRun (tkd G.1 G.2) tmi tmt d) M_124 [] 5 (63, [some (.ref 17), some (.ref 3), none, some (.int x3), some (.int x4), some (.int x5), some (.int x6), some (.int x7)], [.int s0, .ref 23], σ)).trans rfl
set_option maxRecDepth 20000 in
theorem q_124_5340 (G : Nat × (Nat → Int32)) (d : Nat) (x3 : Int32) (x4 : Int32) (x5 : Int32) (x6 : Int32) (x7 : Int32) (s0 : Int32) (s2 : Int32) (σ : aH) : Lq G d M_124 (73, [some (.ref 17), some (.ref 3), none, some (.int x3), some (.int x4), some (.int x5), some (.int x6), some (.int x7)], [.int s0, .ref 22, .int s2, .ref 23], σ) = aCI (Rn G d 32 [.ref 22, .int s0] σ) fun v2 σ1 => Lq G d M_124 (76, [some (.ref 17), some (.ref 3), none, some (.int x3), some (.int x4), some (.int x5), some (.int x6), some (.int x7)], [.int v2, .int s2, .ref 23], σ1) :=
  (aUn_eq (tkd G.1 G.2) tmi (aRun (tkd G.1 G.2) tmi tmt d) M_124 [] 1 (73, [some (.ref 17), some (.ref 3), none, some (.int x3), some (.int x4), some (.int x5), some (.int x6), some (.int x7)], [.int s0, .ref 22, .int s2, .ref 23], σ)).trans rfl
set_option maxRecDepth 20000 in
theorem q_124_5341 (G : Nat × (Nat → Int32)) (d : Nat) (x3 : Int32) (x4 : Int32) (x5 : Int32) (x6 : Int32) (x7 : Int32) (s0 : Int32) (s1 : Int32) (σ : aH) : Lq G d M_124 (76, [some (.ref 17), some (.ref 3), none, some (.int x3), some (.int x4), some (.int x5), some (.int x6), some (.int x7)], [.int s0, .int s1, .ref 23], σ) = Lq G d M_124 (81, [some (.ref 17), some (.ref 3), none, some (.int x3), some (.int x4), some (.int x5), some (.int x6), some (.int x7)], [.int s0, .int s1, .ref 23], σ) :=
  (aUn_eq (tkd G.1 G.2) tmi (aRun (tkd G.1 G.2) tmi tmt d) M_124 [] 1 (76, [some (.ref 17), some (.ref 3), none, some (.int x3), some (.int x4), some (.int x5), some (.int x6), some (.int x7)], [.int s0, .int s1, .ref 23], σ)).trans rfl
set_option maxRecDepth 20000 in
theorem q_124_5342 (G : Nat × (Nat → Int32)) (d : Nat) (x3 : Int32) (x4 : Int32) (x5 : Int32) (x6 : Int32) (σ : aH) : Lq G d M_124 (46, [some (.ref 17), some (.ref 3), none, some (.int x3), some (.int x4), some (.int x5), some (.int x6), none], [], σ) = Lq G d M_124 (60, [some (.ref 17), some (.ref 3), none, some (.int x3), some (.int x4), some (.int x5), some (.int x6), some (.int (1 : Int32))], [.int (1 : Int32), .int x3, .ref 23], σ) :=
  (aUn_eq (tkd G.1 G.2) tmi (aRun (tkd G.1 G.2) tmi tmt d) M_124 [] 7 (46, [some (.ref 17), some (.ref 3), none, some (.int x3), some (.int x4), some (.int x5), some (.int x6), none], [], σ)).trans rfl
set_option maxRecDepth 20000 in
theorem q_171_5343 (G : Nat × (Nat → Int32)) (d : Nat) (x0 : Int32) (x1 : Int32) (x2 : Int32) (σ : aH) : Lq G d M_171 (0, [some (.int x0), some (.int x1), some (.int x2), none, none, none, none], [], σ) = Lq G d M_171 (21, [some (.int x0), some (.int x1), some (.int x2), some (.long ((x0).toInt64 * (x1).toInt64)), none, some (.long (((((1000000 : Int32) - x0)).toInt64 * (1000 : Int64)) * (x2).toInt64)), none], [], σ) :=
  (aUn_eq (tkd G.1 G.2) tmi (aRun (tkd G.1 G.2) tmi tmt d) M_171 [] 16 (0, [some (.int x0), some (.int x1), some (.int x2), none, none, none, none], [], σ)).trans rfl
set_option maxRecDepth 20000 in
theorem q_171_5344 (G : Nat × (Nat → Int32)) (d : Nat) (x0 : Int32) (x1 : Int32) (x2 : Int32) (x3 : Int64) (x5 : Int64) (σ : aH) : Lq G d M_171 (21, [some (.int x0), some (.int x1), some (.int x2), some (.long x3), none, some (.long x5), none], [], σ) = Lq G d M_171 (27, [some (.int x0), some (.int x1), some (.int x2), some (.long x3), none, some (.long x5), none], [.int (lg_cmp (x3 + x5) (0 : Int64))], σ) :=
  (aUn_eq (tkd G.1 G.2) tmi (aRun (tkd G.1 G.2) tmi tmt d) M_171 [] 5 (21, [some (.int x0), some (.int x1), some (.int x2), some (.long x3), none, some (.long x5), none], [], σ)).trans rfl
set_option maxRecDepth 20000 in
theorem q_171_5345 (G : Nat × (Nat → Int32)) (d : Nat) (x0 : Int32) (x1 : Int32) (x2 : Int32) (x3 : Int64) (x5 : Int64) (s0 : Int32) (σ : aH) : Lq G d M_171 (27, [some (.int x0), some (.int x1), some (.int x2), some (.long x3), none, some (.long x5), none], [.int s0], σ) = if s0 = 0 then Lq G d M_171 (30, [some (.int x0), some (.int x1), some (.int x2), some (.long x3), none, some (.long x5), none], [], σ) else Lq G d M_171 (34, [some (.int x0), some (.int x1), some (.int x2), some (.long x3), none, some (.long x5), none], [], σ) :=
  (aUn_eq (tkd G.1 G.2) tmi (aRun (tkd G.1 G.2) tmi tmt d) M_171 [] 1 (27, [some (.int x0), some (.int x1), some (.int x2), some (.long x3), none, some (.long x5), none], [.int s0], σ)).trans rfl
set_option maxRecDepth 20000 in
theorem q_171_5346 (G : Nat × (Nat → Int32)) (d : Nat) (x0 : Int32) (x1 : Int32) (x2 : Int32) (x3 : Int64) (x5 : Int64) (σ : aH) : Lq G d M_171 (30, [some (.int x0), some (.int x1), some (.int x2), some (.long x3), none, some (.long x5), none], [], σ) = Lq G d M_171 (45, [some (.int x0), some (.int x1), some (.int x2), some (.long x3), none, some (.long x5), none], [.int (0 : Int32)], σ) :=
  (aUn_eq (tkd G.1 G.2) tmi (aRun (tkd G.1 G.2) tmi tmt d) M_171 [] 2 (30, [some (.int x0), some (.int x1), some (.int x2), some (.long x3), none, some (.long x5), none], [], σ)).trans rfl
set_option maxRecDepth 20000 in
theorem q_171_5347 (G : Nat × (Nat → Int32)) (d : Nat) (x0 : Int32) (x1 : Int32) (x2 : Int32) (x3 : Int64) (x5 : Int64) (s0 : Int32) (σ : aH) : Lq G d M_171 (45, [some (.int x0), some (.int x1), some (.int x2), some (.long x3), none, some (.long x5), none], [.int s0], σ) = some (.inl (some (.int s0)), σ) :=
  (aUn_eq (tkd G.1 G.2) tmi (aRun (tkd G.1 G.2) tmi tmt d) M_171 [] 1 (45, [some (.int x0), some (.int x1), some (.int x2), some (.long x3), none, some (.long x5), none], [.int s0], σ)).trans rfl
