/-! ===== the methods in pieces, as equations (by wip/gen/emit_eqs2.py) ===== -/
set_option maxRecDepth 20000 in
theorem q_171_5348 (G : Nat × (Nat → Int32)) (d : Nat) (x0 : Int32) (x1 : Int32) (x2 : Int32) (x3 : Int64) (x5 : Int64) (σ : aH) : Lq G d M_171 (34, [some (.int x0), some (.int x1), some (.int x2), some (.long x3), none, some (.long x5), none], [], σ) = Lq G d M_171 (43, [some (.int x0), some (.int x1), some (.int x2), some (.long x3), none, some (.long x5), none], [.long (x3 + x5), .long (x3 * (1000000 : Int64))], σ) :=
  (aUn_eq (tkd G.1 G.2) tmi (aRun (tkd G.1 G.2) tmi tmt d) M_171 [] 6 (34, [some (.int x0), some (.int x1), some (.int x2), some (.long x3), none, some (.long x5), none], [], σ)).trans rfl
set_option maxRecDepth 20000 in
theorem q_171_5349 (G : Nat × (Nat → Int32)) (d : Nat) (x0 : Int32) (x1 : Int32) (x2 : Int32) (x3 : Int64) (x5 : Int64) (s0 : Int64) (s1 : Int64) (σ : aH) : Lq G d M_171 (43, [some (.int x0), some (.int x1), some (.int x2), some (.long x3), none, some (.long x5), none], [.long s0, .long s1], σ) = aNzL (s0) (Lq G d M_171 (44, [some (.int x0), some (.int x1), some (.int x2), some (.long x3), none, some (.long x5), none], [.long (s1 / s0)], σ)) :=
  (aUn_eq (tkd G.1 G.2) tmi (aRun (tkd G.1 G.2) tmi tmt d) M_171 [] 1 (43, [some (.int x0), some (.int x1), some (.int x2), some (.long x3), none, some (.long x5), none], [.long s0, .long s1], σ)).trans rfl
set_option maxRecDepth 20000 in
theorem q_171_5350 (G : Nat × (Nat → Int32)) (d : Nat) (x0 : Int32) (x1 : Int32) (x2 : Int32) (x3 : Int64) (x5 : Int64) (s0 : Int64) (σ : aH) : Lq G d M_171 (44, [some (.int x0), some (.int x1), some (.int x2), some (.long x3), none, some (.long x5), none], [.long s0], σ) = Lq G d M_171 (45, [some (.int x0), some (.int x1), some (.int x2), some (.long x3), none, some (.long x5), none], [.int (s0).toInt32], σ) :=
  (aUn_eq (tkd G.1 G.2) tmi (aRun (tkd G.1 G.2) tmi tmt d) M_171 [] 1 (44, [some (.int x0), some (.int x1), some (.int x2), some (.long x3), none, some (.long x5), none], [.long s0], σ)).trans rfl
set_option maxRecDepth 20000 in
theorem q_134_5351 (G : Nat × (Nat → Int32)) (d : Nat) (x1 : Int32) (x2 : Int32) (σ : aH) : Lq G d M_134 (0, [some (.ref 33), some (.int x1), some (.int x2), none], [], σ) = Lq G d M_134 (11, [some (.ref 33), some (.int x1), some (.int x2), none], [.int (((17 : Int32) * x1) + (16 : Int32)), .ref 40], σ) :=
  (aUn_eq (tkd G.1 G.2) tmi (aRun (tkd G.1 G.2) tmi tmt d) M_134 [] 7 (0, [some (.ref 33), some (.int x1), some (.int x2), none], [], σ)).trans rfl
set_option maxRecDepth 20000 in
theorem q_134_5352 (G : Nat × (Nat → Int32)) (d : Nat) (x1 : Int32) (x2 : Int32) (s0 : Int32) (σ : aH) : Lq G d M_134 (11, [some (.ref 33), some (.int x1), some (.int x2), none], [.int s0, .ref 40], σ) = aIx (s0) 1020 fun j1 => Lq G d M_134 (12, [some (.ref 33), some (.int x1), some (.int x2), none], [.int (σ.1 40 j1)], σ) :=
  (aUn_eq (tkd G.1 G.2) tmi (aRun (tkd G.1 G.2) tmi tmt d) M_134 [] 1 (11, [some (.ref 33), some (.int x1), some (.int x2), none], [.int s0, .ref 40], σ)).trans rfl
set_option maxRecDepth 20000 in
theorem q_134_5353 (G : Nat × (Nat → Int32)) (d : Nat) (x1 : Int32) (x2 : Int32) (s0 : Int32) (σ : aH) : Lq G d M_134 (12, [some (.ref 33), some (.int x1), some (.int x2), none], [.int s0], σ) = Lq G d M_134 (14, [some (.ref 33), some (.int x1), some (.int x2), some (.int s0)], [.int x2], σ) :=
  (aUn_eq (tkd G.1 G.2) tmi (aRun (tkd G.1 G.2) tmi tmt d) M_134 [] 2 (12, [some (.ref 33), some (.int x1), some (.int x2), none], [.int s0], σ)).trans rfl
set_option maxRecDepth 20000 in
theorem q_134_5354 (G : Nat × (Nat → Int32)) (d : Nat) (x1 : Int32) (x2 : Int32) (x3 : Int32) (s0 : Int32) (σ : aH) : Lq G d M_134 (14, [some (.ref 33), some (.int x1), some (.int x2), some (.int x3)], [.int s0], σ) = if s0 = (0 : Int32) then Lq G d M_134 (76, [some (.ref 33), some (.int x1), some (.int x2), some (.int x3)], [], σ) else if s0 = (1 : Int32) then Lq G d M_134 (83, [some (.ref 33), some (.int x1), some (.int x2), some (.int x3)], [], σ) else if s0 = (2 : Int32) then Lq G d M_134 (90, [some (.ref 33), some (.int x1), some (.int x2), some (.int x3)], [], σ) else if s0 = (3 : Int32) then Lq G d M_134 (103, [some (.ref 33), some (.int x1), some (.int x2), some (.int x3)], [], σ) else if s0 = (4 : Int32) then Lq G d M_134 (116, [some (.ref 33), some (.int x1), some (.int x2), some (.int x3)], [], σ) else if s0 = (5 : Int32) then Lq G d M_134 (142, [some (.ref 33), some (.int x1), some (.int x2), some (.int x3)], [], σ) else if s0 = (6 : Int32) then Lq G d M_134 (142, [some (.ref 33), some (.int x1), some (.int x2), some (.int x3)], [], σ) else if s0 = (7 : Int32) then Lq G d M_134 (142, [some (.ref 33), some (.int x1), some (.int x2), some (.int x3)], [], σ) else if s0 = (8 : Int32) then Lq G d M_134 (142, [some (.ref 33), some (.int x1), some (.int x2), some (.int x3)], [], σ) else if s0 = (9 : Int32) then Lq G d M_134 (142, [some (.ref 33), some (.int x1), some (.int x2), some (.int x3)], [], σ) else if s0 = (10 : Int32) then Lq G d M_134 (142, [some (.ref 33), some (.int x1), some (.int x2), some (.int x3)], [], σ) else if s0 = (11 : Int32) then Lq G d M_134 (129, [some (.ref 33), some (.int x1), some (.int x2), some (.int x3)], [], σ) else Lq G d M_134 (142, [some (.ref 33), some (.int x1), some (.int x2), some (.int x3)], [], σ) :=
  (aUn_eq (tkd G.1 G.2) tmi (aRun (tkd G.1 G.2) tmi tmt d) M_134 [] 1 (14, [some (.ref 33), some (.int x1), some (.int x2), some (.int x3)], [.int s0], σ)).trans rfl
set_option maxRecDepth 20000 in
theorem q_134_5355 (G : Nat × (Nat → Int32)) (d : Nat) (x1 : Int32) (x2 : Int32) (x3 : Int32) (σ : aH) : Lq G d M_134 (76, [some (.ref 33), some (.int x1), some (.int x2), some (.int x3)], [], σ) = Lq G d M_134 (79, [some (.ref 33), some (.int x1), some (.int x2), some (.int x3)], [.int (0 : Int32), .int x1, .ref 33], σ) :=
  (aUn_eq (tkd G.1 G.2) tmi (aRun (tkd G.1 G.2) tmi tmt d) M_134 [] 3 (76, [some (.ref 33), some (.int x1), some (.int x2), some (.int x3)], [], σ)).trans rfl
set_option maxRecDepth 20000 in
theorem q_134_5356 (G : Nat × (Nat → Int32)) (d : Nat) (x1 : Int32) (x2 : Int32) (x3 : Int32) (s0 : Int32) (s1 : Int32) (σ : aH) : Lq G d M_134 (79, [some (.ref 33), some (.int x1), some (.int x2), some (.int x3)], [.int s0, .int s1, .ref 33], σ) = aCI (Rn G d 135 [.ref 33, .int s1, .int s0] σ) fun v2 σ1 => Lq G d M_134 (82, [some (.ref 33), some (.int x1), some (.int x2), some (.int x3)], [.int v2], σ1) :=
  (aUn_eq (tkd G.1 G.2) tmi (aRun (tkd G.1 G.2) tmi tmt d) M_134 [] 1 (79, [some (.ref 33), some (.int x1), some (.int x2), some (.int x3)], [.int s0, .int s1, .ref 33], σ)).trans rfl
set_option maxRecDepth 20000 in
theorem q_134_5357 (G : Nat × (Nat → Int32)) (d : Nat) (x1 : Int32) (x2 : Int32) (x3 : Int32) (s0 : Int32) (σ : aH) : Lq G d M_134 (82, [some (.ref 33), some (.int x1), some (.int x2), some (.int x3)], [.int s0], σ) = some (.inl (some (.int s0)), σ) :=
  (aUn_eq (tkd G.1 G.2) tmi (aRun (tkd G.1 G.2) tmi tmt d) M_134 [] 1 (82, [some (.ref 33), some (.int x1), some (.int x2), some (.int x3)], [.int s0], σ)).trans rfl
set_option maxRecDepth 20000 in
theorem q_134_5358 (G : Nat × (Nat → Int32)) (d : Nat) (x1 : Int32) (x2 : Int32) (x3 : Int32) (σ : aH) : Lq G d M_134 (83, [some (.ref 33), some (.int x1), some (.int x2), some (.int x3)], [], σ) = Lq G d M_134 (86, [some (.ref 33), some (.int x1), some (.int x2), some (.int x3)], [.int (1 : Int32), .int x1, .ref 33], σ) :=
  (aUn_eq (tkd G.1 G.2) tmi (aRun (tkd G.1 G.2) tmi tmt d) M_134 [] 3 (83, [some (.ref 33), some (.int x1), some (.int x2), some (.int x3)], [], σ)).trans rfl
set_option maxRecDepth 20000 in
theorem q_134_5359 (G : Nat × (Nat → Int32)) (d : Nat) (x1 : Int32) (x2 : Int32) (x3 : Int32) (s0 : Int32) (s1 : Int32) (σ : aH) : Lq G d M_134 (86, [some (.ref 33), some (.int x1), some (.int x2), some (.int x3)], [.int s0, .int s1, .ref 33], σ) = aCI (Rn G d 135 [.ref 33, .int s1, .int s0] σ) fun v2 σ1 => Lq G d M_134 (89, [some (.ref 33), some (.int x1), some (.int x2), some (.int x3)], [.int v2], σ1) :=
  (aUn_eq (tkd G.1 G.2) tmi (aRun (tkd G.1 G.2) tmi tmt d) M_134 [] 1 (86, [some (.ref 33), some (.int x1), some (.int x2), some (.int x3)], [.int s0, .int s1, .ref 33], σ)).trans rfl
set_option maxRecDepth 20000 in
theorem q_134_5360 (G : Nat × (Nat → Int32)) (d : Nat) (x1 : Int32) (x2 : Int32) (x3 : Int32) (s0 : Int32) (σ : aH) : Lq G d M_134 (89, [some (.ref 33), some (.int x1), some (.int x2), some (.int x3)], [.int s0], σ) = some (.inl (some (.int s0)), σ) :=
  (aUn_eq (tkd G.1 G.2) tmi (aRun (tkd G.1 G.2) tmi tmt d) M_134 [] 1 (89, [some (.ref 33), some (.int x1), some (.int x2), some (.int x3)], [.int s0], σ)).trans rfl
set_option maxRecDepth 20000 in
theorem q_134_5361 (G : Nat × (Nat → Int32)) (d : Nat) (x1 : Int32) (x2 : Int32) (x3 : Int32) (σ : aH) : Lq G d M_134 (90, [some (.ref 33), some (.int x1), some (.int x2), some (.int x3)], [], σ) = Lq G d M_134 (101, [some (.ref 33), some (.int x1), some (.int x2), some (.int x3)], [.int (((17 : Int32) * x1) + (12 : Int32)), .ref 40], σ) :=
  (aUn_eq (tkd G.1 G.2) tmi (aRun (tkd G.1 G.2) tmi tmt d) M_134 [] 7 (90, [some (.ref 33), some (.int x1), some (.int x2), some (.int x3)], [], σ)).trans rfl
set_option maxRecDepth 20000 in
theorem q_134_5362 (G : Nat × (Nat → Int32)) (d : Nat) (x1 : Int32) (x2 : Int32) (x3 : Int32) (s0 : Int32) (σ : aH) : Lq G d M_134 (101, [some (.ref 33), some (.int x1), some (.int x2), some (.int x3)], [.int s0, .ref 40], σ) = aIx (s0) 1020 fun j1 => Lq G d M_134 (102, [some (.ref 33), some (.int x1), some (.int x2), some (.int x3)], [.int (σ.1 40 j1)], σ) :=
  (aUn_eq (tkd G.1 G.2) tmi (aRun (tkd G.1 G.2) tmi tmt d) M_134 [] 1 (101, [some (.ref 33), some (.int x1), some (.int x2), some (.int x3)], [.int s0, .ref 40], σ)).trans rfl
set_option maxRecDepth 20000 in
theorem q_134_5363 (G : Nat × (Nat → Int32)) (d : Nat) (x1 : Int32) (x2 : Int32) (x3 : Int32) (s0 : Int32) (σ : aH) : Lq G d M_134 (102, [some (.ref 33), some (.int x1), some (.int x2), some (.int x3)], [.int s0], σ) = some (.inl (some (.int s0)), σ) :=
  (aUn_eq (tkd G.1 G.2) tmi (aRun (tkd G.1 G.2) tmi tmt d) M_134 [] 1 (102, [some (.ref 33), some (.int x1), some (.int x2), some (.int x3)], [.int s0], σ)).trans rfl
set_option maxRecDepth 20000 in
theorem q_134_5364 (G : Nat × (Nat → Int32)) (d : Nat) (x1 : Int32) (x2 : Int32) (x3 : Int32) (σ : aH) : Lq G d M_134 (103, [some (.ref 33), some (.int x1), some (.int x2), some (.int x3)], [], σ) = Lq G d M_134 (114, [some (.ref 33), some (.int x1), some (.int x2), some (.int x3)], [.int (((17 : Int32) * x1) + (13 : Int32)), .ref 40], σ) :=
  (aUn_eq (tkd G.1 G.2) tmi (aRun (tkd G.1 G.2) tmi tmt d) M_134 [] 7 (103, [some (.ref 33), some (.int x1), some (.int x2), some (.int x3)], [], σ)).trans rfl
set_option maxRecDepth 20000 in
theorem q_134_5365 (G : Nat × (Nat → Int32)) (d : Nat) (x1 : Int32) (x2 : Int32) (x3 : Int32) (s0 : Int32) (σ : aH) : Lq G d M_134 (114, [some (.ref 33), some (.int x1), some (.int x2), some (.int x3)], [.int s0, .ref 40], σ) = aIx (s0) 1020 fun j1 => Lq G d M_134 (115, [some (.ref 33), some (.int x1), some (.int x2), some (.int x3)], [.int (σ.1 40 j1)], σ) :=
  (aUn_eq (tkd G.1 G.2) tmi (aRun (tkd G.1 G.2) tmi tmt d) M_134 [] 1 (114, [some (.ref 33), some (.int x1), some (.int x2), some (.int x3)], [.int s0, .ref 40], σ)).trans rfl
set_option maxRecDepth 20000 in
theorem q_134_5366 (G : Nat × (Nat → Int32)) (d : Nat) (x1 : Int32) (x2 : Int32) (x3 : Int32) (s0 : Int32) (σ : aH) : Lq G d M_134 (115, [some (.ref 33), some (.int x1), some (.int x2), some (.int x3)], [.int s0], σ) = some (.inl (some (.int s0)), σ) :=
  (aUn_eq (tkd G.1 G.2) tmi (aRun (tkd G.1 G.2) tmi tmt d) M_134 [] 1 (115, [some (.ref 33), some (.int x1), some (.int x2), some (.int x3)], [.int s0], σ)).trans rfl
set_option maxRecDepth 20000 in
theorem q_134_5367 (G : Nat × (Nat → Int32)) (d : Nat) (x1 : Int32) (x2 : Int32) (x3 : Int32) (σ : aH) : Lq G d M_134 (116, [some (.ref 33), some (.int x1), some (.int x2), some (.int x3)], [], σ) = Lq G d M_134 (127, [some (.ref 33), some (.int x1), some (.int x2), some (.int x3)], [.int (((17 : Int32) * x1) + (14 : Int32)), .ref 40], σ) :=
  (aUn_eq (tkd G.1 G.2) tmi (aRun (tkd G.1 G.2) tmi tmt d) M_134 [] 7 (116, [some (.ref 33), some (.int x1), some (.int x2), some (.int x3)], [], σ)).trans rfl
set_option maxRecDepth 20000 in
theorem q_134_5368 (G : Nat × (Nat → Int32)) (d : Nat) (x1 : Int32) (x2 : Int32) (x3 : Int32) (s0 : Int32) (σ : aH) : Lq G d M_134 (127, [some (.ref 33), some (.int x1), some (.int x2), some (.int x3)], [.int s0, .ref 40], σ) = aIx (s0) 1020 fun j1 => Lq G d M_134 (128, [some (.ref 33), some (.int x1), some (.int x2), some (.int x3)], [.int (σ.1 40 j1)], σ) :=
  (aUn_eq (tkd G.1 G.2) tmi (aRun (tkd G.1 G.2) tmi tmt d) M_134 [] 1 (127, [some (.ref 33), some (.int x1), some (.int x2), some (.int x3)], [.int s0, .ref 40], σ)).trans rfl
set_option maxRecDepth 20000 in
theorem q_134_5369 (G : Nat × (Nat → Int32)) (d : Nat) (x1 : Int32) (x2 : Int32) (x3 : Int32) (s0 : Int32) (σ : aH) : Lq G d M_134 (128, [some (.ref 33), some (.int x1), some (.int x2), some (.int x3)], [.int s0], σ) = some (.inl (some (.int s0)), σ) :=
  (aUn_eq (tkd G.1 G.2) tmi (aRun (tkd G.1 G.2) tmi tmt d) M_134 [] 1 (128, [some (.ref 33), some (.int x1), some (.int x2), some (.int x3)], [.int s0], σ)).trans rfl
set_option maxRecDepth 20000 in
theorem q_134_5370 (G : Nat × (Nat → Int32)) (d : Nat) (x1 : Int32) (x2 : Int32) (x3 : Int32) (σ : aH) : Lq G d M_134 (142, [some (.ref 33), some (.int x1), some (.int x2), some (.int x3)], [], σ) = Lq G d M_134 (154, [some (.ref 33), some (.int x1), some (.int x2), some (.int x3)], [.int ((((6 : Int32) * x3) + x2) - (5 : Int32)), .ref 35], σ) :=
  (aUn_eq (tkd G.1 G.2) tmi (aRun (tkd G.1 G.2) tmi tmt d) M_134 [] 9 (142, [some (.ref 33), some (.int x1), some (.int x2), some (.int x3)], [], σ)).trans rfl
set_option maxRecDepth 20000 in
theorem q_134_5371 (G : Nat × (Nat → Int32)) (d : Nat) (x1 : Int32) (x2 : Int32) (x3 : Int32) (s0 : Int32) (σ : aH) : Lq G d M_134 (154, [some (.ref 33), some (.int x1), some (.int x2), some (.int x3)], [.int s0, .ref 35], σ) = aIx (s0) 120 fun j1 => Lq G d M_134 (155, [some (.ref 33), some (.int x1), some (.int x2), some (.int x3)], [.int (σ.1 35 j1)], σ) :=
  (aUn_eq (tkd G.1 G.2) tmi (aRun (tkd G.1 G.2) tmi tmt d) M_134 [] 1 (154, [some (.ref 33), some (.int x1), some (.int x2), some (.int x3)], [.int s0, .ref 35], σ)).trans rfl
set_option maxRecDepth 20000 in
theorem q_134_5372 (G : Nat × (Nat → Int32)) (d : Nat) (x1 : Int32) (x2 : Int32) (x3 : Int32) (s0 : Int32) (σ : aH) : Lq G d M_134 (155, [some (.ref 33), some (.int x1), some (.int x2), some (.int x3)], [.int s0], σ) = some (.inl (some (.int s0)), σ) :=
  (aUn_eq (tkd G.1 G.2) tmi (aRun (tkd G.1 G.2) tmi tmt d) M_134 [] 1 (155, [some (.ref 33), some (.int x1), some (.int x2), some (.int x3)], [.int s0], σ)).trans rfl
set_option maxRecDepth 20000 in
theorem q_134_5373 (G : Nat × (Nat → Int32)) (d : Nat) (x1 : Int32) (x2 : Int32) (x3 : Int32) (σ : aH) : Lq G d M_134 (129, [some (.ref 33), some (.int x1), some (.int x2), some (.int x3)], [], σ) = Lq G d M_134 (140, [some (.ref 33), some (.int x1), some (.int x2), some (.int x3)], [.int (((17 : Int32) * x1) + (15 : Int32)), .ref 40], σ) :=
  (aUn_eq (tkd G.1 G.2) tmi (aRun (tkd G.1 G.2) tmi tmt d) M_134 [] 7 (129, [some (.ref 33), some (.int x1), some (.int x2), some (.int x3)], [], σ)).trans rfl
set_option maxRecDepth 20000 in
theorem q_134_5374 (G : Nat × (Nat → Int32)) (d : Nat) (x1 : Int32) (x2 : Int32) (x3 : Int32) (s0 : Int32) (σ : aH) : Lq G d M_134 (140, [some (.ref 33), some (.int x1), some (.int x2), some (.int x3)], [.int s0, .ref 40], σ) = aIx (s0) 1020 fun j1 => Lq G d M_134 (141, [some (.ref 33), some (.int x1), some (.int x2), some (.int x3)], [.int (σ.1 40 j1)], σ) :=
  (aUn_eq (tkd G.1 G.2) tmi (aRun (tkd G.1 G.2) tmi tmt d) M_134 [] 1 (140, [some (.ref 33), some (.int x1), some (.int x2), some (.int x3)], [.int s0, .ref 40], σ)).trans rfl
set_option maxRecDepth 20000 in
theorem q_134_5375 (G : Nat × (Nat → Int32)) (d : Nat) (x1 : Int32) (x2 : Int32) (x3 : Int32) (s0 : Int32) (σ : aH) : Lq G d M_134 (141, [some (.ref 33), some (.int x1), some (.int x2), some (.int x3)], [.int s0], σ) = some (.inl (some (.int s0)), σ) :=
  (aUn_eq (tkd G.1 G.2) tmi (aRun (tkd G.1 G.2) tmi tmt d) M_134 [] 1 (141, [some (.ref 33), some (.int x1), some (.int x2), some (.int x3)], [.int s0], σ)).trans rfl
set_option maxRecDepth 20000 in
theorem q_136_5376 (G : Nat × (Nat → Int32)) (d : Nat) (x0 : Int32) (x1 : Int32) (x2 : Int32) (σ : aH) : Lq G d M_136 (0, [some (.int x0), some (.int x1), some (.int x2)], [], σ) = Lq G d M_136 (1, [some (.int x0), some (.int x1), some (.int x2)], [.int x0], σ) :=
  (aUn_eq (tkd G.1 G.2) tmi (aRun (tkd G.1 G.2) tmi tmt d) M_136 [] 1 (0, [some (.int x0), some (.int x1), some (.int x2)], [], σ)).trans rfl
set_option maxRecDepth 20000 in
theorem q_136_5377 (G : Nat × (Nat → Int32)) (d : Nat) (x0 : Int32) (x1 : Int32) (x2 : Int32) (s0 : Int32) (σ : aH) : Lq G d M_136 (1, [some (.int x0), some (.int x1), some (.int x2)], [.int s0], σ) = if s0 = (4 : Int32) then Lq G d M_136 (44, [some (.int x0), some (.int x1), some (.int x2)], [], σ) else if s0 = (5 : Int32) then Lq G d M_136 (58, [some (.int x0), some (.int x1), some (.int x2)], [], σ) else if s0 = (6 : Int32) then Lq G d M_136 (72, [some (.int x0), some (.int x1), some (.int x2)], [], σ) else if s0 = (7 : Int32) then Lq G d M_136 (83, [some (.int x0), some (.int x1), some (.int x2)], [], σ) else if s0 = (8 : Int32) then Lq G d M_136 (94, [some (.int x0), some (.int x1), some (.int x2)], [], σ) else if s0 = (9 : Int32) then Lq G d M_136 (98, [some (.int x0), some (.int x1), some (.int x2)], [], σ) else if s0 = (10 : Int32) then Lq G d M_136 (102, [some (.int x0), some (.int x1), some (.int x2)], [], σ) else Lq G d M_136 (106, [some (.int x0), some (.int x1), some (.int x2)], [], σ) :=
  (aUn_eq (tkd G.1 G.2) tmi (aRun (tkd G.1 G.2) tmi tmt d) M_136 [] 1 (1, [some (.int x0), some (.int x1), some (.int x2)], [.int s0], σ)).trans rfl
set_option maxRecDepth 20000 in
theorem q_136_5378 (G : Nat × (Nat → Int32)) (d : Nat) (x0 : Int32) (x1 : Int32) (x2 : Int32) (σ : aH) : Lq G d M_136 (44, [some (.int x0), some (.int x1), some (.int x2)], [], σ) = Lq G d M_136 (45, [some (.int x0), some (.int x1), some (.int x2)], [.int x1], σ) :=
  (aUn_eq (tkd G.1 G.2) tmi (aRun (tkd G.1 G.2) tmi tmt d) M_136 [] 1 (44, [some (.int x0), some (.int x1), some (.int x2)], [], σ)).trans rfl
set_option maxRecDepth 20000 in
theorem q_136_5379 (G : Nat × (Nat → Int32)) (d : Nat) (x0 : Int32) (x1 : Int32) (x2 : Int32) (s0 : Int32) (σ : aH) : Lq G d M_136 (45, [some (.int x0), some (.int x1), some (.int x2)], [.int s0], σ) = if s0 = 0 then Lq G d M_136 (56, [some (.int x0), some (.int x1), some (.int x2)], [], σ) else Lq G d M_136 (48, [some (.int x0), some (.int x1), some (.int x2)], [], σ) :=
  (aUn_eq (tkd G.1 G.2) tmi (aRun (tkd G.1 G.2) tmi tmt d) M_136 [] 1 (45, [some (.int x0), some (.int x1), some (.int x2)], [.int s0], σ)).trans rfl
set_option maxRecDepth 20000 in
theorem q_136_5380 (G : Nat × (Nat → Int32)) (d : Nat) (x0 : Int32) (x1 : Int32) (x2 : Int32) (σ : aH) : Lq G d M_136 (56, [some (.int x0), some (.int x1), some (.int x2)], [], σ) = Lq G d M_136 (57, [some (.int x0), some (.int x1), some (.int x2)], [.int (0 : Int32)], σ) :=
  (aUn_eq (tkd G.1 G.2) tmi (aRun (tkd G.1 G.2) tmi tmt d) M_136 [] 1 (56, [some (.int x0), some (.int x1), some (.int x2)], [], σ)).trans rfl
set_option maxRecDepth 20000 in
theorem q_136_5381 (G : Nat × (Nat → Int32)) (d : Nat) (x0 : Int32) (x1 : Int32) (x2 : Int32) (s0 : Int32) (σ : aH) : Lq G d M_136 (57, [some (.int x0), some (.int x1), some (.int x2)], [.int s0], σ) = some (.inl (some (.int s0)), σ) :=
  (aUn_eq (tkd G.1 G.2) tmi (aRun (tkd G.1 G.2) tmi tmt d) M_136 [] 1 (57, [some (.int x0), some (.int x1), some (.int x2)], [.int s0], σ)).trans rfl
set_option maxRecDepth 20000 in
theorem q_136_5382 (G : Nat × (Nat → Int32)) (d : Nat) (x0 : Int32) (x1 : Int32) (x2 : Int32) (σ : aH) : Lq G d M_136 (48, [some (.int x0), some (.int x1), some (.int x2)], [], σ) = Lq G d M_136 (49, [some (.int x0), some (.int x1), some (.int x2)], [.int x2], σ) :=
  (aUn_eq (tkd G.1 G.2) tmi (aRun (tkd G.1 G.2) tmi tmt d) M_136 [] 1 (48, [some (.int x0), some (.int x1), some (.int x2)], [], σ)).trans rfl
set_option maxRecDepth 20000 in
theorem q_136_5383 (G : Nat × (Nat → Int32)) (d : Nat) (x0 : Int32) (x1 : Int32) (x2 : Int32) (s0 : Int32) (σ : aH) : Lq G d M_136 (49, [some (.int x0), some (.int x1), some (.int x2)], [.int s0], σ) = if s0 = 0 then Lq G d M_136 (56, [some (.int x0), some (.int x1), some (.int x2)], [], σ) else Lq G d M_136 (52, [some (.int x0), some (.int x1), some (.int x2)], [], σ) :=
  (aUn_eq (tkd G.1 G.2) tmi (aRun (tkd G.1 G.2) tmi tmt d) M_136 [] 1 (49, [some (.int x0), some (.int x1), some (.int x2)], [.int s0], σ)).trans rfl
set_option maxRecDepth 20000 in
theorem q_136_5384 (G : Nat × (Nat → Int32)) (d : Nat) (x0 : Int32) (x1 : Int32) (x2 : Int32) (σ : aH) : Lq G d M_136 (52, [some (.int x0), some (.int x1), some (.int x2)], [], σ) = Lq G d M_136 (57, [some (.int x0), some (.int x1), some (.int x2)], [.int (1 : Int32)], σ) :=
  (aUn_eq (tkd G.1 G.2) tmi (aRun (tkd G.1 G.2) tmi tmt d) M_136 [] 2 (52, [some (.int x0), some (.int x1), some (.int x2)], [], σ)).trans rfl
set_option maxRecDepth 20000 in
theorem q_136_5385 (G : Nat × (Nat → Int32)) (d : Nat) (x0 : Int32) (x1 : Int32) (x2 : Int32) (σ : aH) : Lq G d M_136 (58, [some (.int x0), some (.int x1), some (.int x2)], [], σ) = Lq G d M_136 (59, [some (.int x0), some (.int x1), some (.int x2)], [.int x1], σ) :=
  (aUn_eq (tkd G.1 G.2) tmi (aRun (tkd G.1 G.2) tmi tmt d) M_136 [] 1 (58, [some (.int x0), some (.int x1), some (.int x2)], [], σ)).trans rfl
set_option maxRecDepth 20000 in
theorem q_136_5386 (G : Nat × (Nat → Int32)) (d : Nat) (x0 : Int32) (x1 : Int32) (x2 : Int32) (s0 : Int32) (σ : aH) : Lq G d M_136 (59, [some (.int x0), some (.int x1), some (.int x2)], [.int s0], σ) = if s0 = 0 then Lq G d M_136 (62, [some (.int x0), some (.int x1), some (.int x2)], [], σ) else Lq G d M_136 (66, [some (.int x0), some (.int x1), some (.int x2)], [], σ) :=
  (aUn_eq (tkd G.1 G.2) tmi (aRun (tkd G.1 G.2) tmi tmt d) M_136 [] 1 (59, [some (.int x0), some (.int x1), some (.int x2)], [.int s0], σ)).trans rfl
set_option maxRecDepth 20000 in
theorem q_136_5387 (G : Nat × (Nat → Int32)) (d : Nat) (x0 : Int32) (x1 : Int32) (x2 : Int32) (σ : aH) : Lq G d M_136 (62, [some (.int x0), some (.int x1), some (.int x2)], [], σ) = Lq G d M_136 (63, [some (.int x0), some (.int x1), some (.int x2)], [.int x2], σ) :=
  (aUn_eq (tkd G.1 G.2) tmi (aRun (tkd G.1 G.2) tmi tmt d) M_136 [] 1 (62, [some (.int x0), some (.int x1), some (.int x2)], [], σ)).trans rfl
set_option maxRecDepth 20000 in
theorem q_136_5388 (G : Nat × (Nat → Int32)) (d : Nat) (x0 : Int32) (x1 : Int32) (x2 : Int32) (s0 : Int32) (σ : aH) : Lq G d M_136 (63, [some (.int x0), some (.int x1), some (.int x2)], [.int s0], σ) = if s0 = 0 then Lq G d M_136 (70, [some (.int x0), some (.int x1), some (.int x2)], [], σ) else Lq G d M_136 (66, [some (.int x0), some (.int x1), some (.int x2)], [], σ) :=
  (aUn_eq (tkd G.1 G.2) tmi (aRun (tkd G.1 G.2) tmi tmt d) M_136 [] 1 (63, [some (.int x0), some (.int x1), some (.int x2)], [.int s0], σ)).trans rfl
set_option maxRecDepth 20000 in
theorem q_136_5389 (G : Nat × (Nat → Int32)) (d : Nat) (x0 : Int32) (x1 : Int32) (x2 : Int32) (σ : aH) : Lq G d M_136 (70, [some (.int x0), some (.int x1), some (.int x2)], [], σ) = Lq G d M_136 (71, [some (.int x0), some (.int x1), some (.int x2)], [.int (0 : Int32)], σ) :=
  (aUn_eq (tkd G.1 G.2) tmi (aRun (tkd G.1 G.2) tmi tmt d) M_136 [] 1 (70, [some (.int x0), some (.int x1), some (.int x2)], [], σ)).trans rfl
set_option maxRecDepth 20000 in
theorem q_136_5390 (G : Nat × (Nat → Int32)) (d : Nat) (x0 : Int32) (x1 : Int32) (x2 : Int32) (s0 : Int32) (σ : aH) : Lq G d M_136 (71, [some (.int x0), some (.int x1), some (.int x2)], [.int s0], σ) = some (.inl (some (.int s0)), σ) :=
  (aUn_eq (tkd G.1 G.2) tmi (aRun (tkd G.1 G.2) tmi tmt d) M_136 [] 1 (71, [some (.int x0), some (.int x1), some (.int x2)], [.int s0], σ)).trans rfl
set_option maxRecDepth 20000 in
theorem q_136_5391 (G : Nat × (Nat → Int32)) (d : Nat) (x0 : Int32) (x1 : Int32) (x2 : Int32) (σ : aH) : Lq G d M_136 (66, [some (.int x0), some (.int x1), some (.int x2)], [], σ) = Lq G d M_136 (71, [some (.int x0), some (.int x1), some (.int x2)], [.int (1 : Int32)], σ) :=
  (aUn_eq (tkd G.1 G.2) tmi (aRun (tkd G.1 G.2) tmi tmt d) M_136 [] 2 (66, [some (.int x0), some (.int x1), some (.int x2)], [], σ)).trans rfl
set_option maxRecDepth 20000 in
theorem q_136_5392 (G : Nat × (Nat → Int32)) (d : Nat) (x0 : Int32) (x1 : Int32) (x2 : Int32) (σ : aH) : Lq G d M_136 (72, [some (.int x0), some (.int x1), some (.int x2)], [], σ) = Lq G d M_136 (74, [some (.int x0), some (.int x1), some (.int x2)], [.int x2, .int x1], σ) :=
  (aUn_eq (tkd G.1 G.2) tmi (aRun (tkd G.1 G.2) tmi tmt d) M_136 [] 2 (72, [some (.int x0), some (.int x1), some (.int x2)], [], σ)).trans rfl
set_option maxRecDepth 20000 in
theorem q_136_5393 (G : Nat × (Nat → Int32)) (d : Nat) (x0 : Int32) (x1 : Int32) (x2 : Int32) (s0 : Int32) (s1 : Int32) (σ : aH) : Lq G d M_136 (74, [some (.int x0), some (.int x1), some (.int x2)], [.int s0, .int s1], σ) = if s0 ≤ s1 then Lq G d M_136 (81, [some (.int x0), some (.int x1), some (.int x2)], [], σ) else Lq G d M_136 (77, [some (.int x0), some (.int x1), some (.int x2)], [], σ) :=
  (aUn_eq (tkd G.1 G.2) tmi (aRun (tkd G.1 G.2) tmi tmt d) M_136 [] 1 (74, [some (.int x0), some (.int x1), some (.int x2)], [.int s0, .int s1], σ)).trans rfl
set_option maxRecDepth 20000 in
theorem q_136_5394 (G : Nat × (Nat → Int32)) (d : Nat) (x0 : Int32) (x1 : Int32) (x2 : Int32) (σ : aH) : Lq G d M_136 (81, [some (.int x0), some (.int x1), some (.int x2)], [], σ) = Lq G d M_136 (82, [some (.int x0), some (.int x1), some (.int x2)], [.int (0 : Int32)], σ) :=
  (aUn_eq (tkd G.1 G.2) tmi (aRun (tkd G.1 G.2) tmi tmt d) M_136 [] 1 (81, [some (.int x0), some (.int x1), some (.int x2)], [], σ)).trans rfl
set_option maxRecDepth 20000 in
theorem q_136_5395 (G : Nat × (Nat → Int32)) (d : Nat) (x0 : Int32) (x1 : Int32) (x2 : Int32) (s0 : Int32) (σ : aH) : Lq G d M_136 (82, [some (.int x0), some (.int x1), some (.int x2)], [.int s0], σ) = some (.inl (some (.int s0)), σ) :=
  (aUn_eq (tkd G.1 G.2) tmi (aRun (tkd G.1 G.2) tmi tmt d) M_136 [] 1 (82, [some (.int x0), some (.int x1), some (.int x2)], [.int s0], σ)).trans rfl
set_option maxRecDepth 20000 in
theorem q_136_5396 (G : Nat × (Nat → Int32)) (d : Nat) (x0 : Int32) (x1 : Int32) (x2 : Int32) (σ : aH) : Lq G d M_136 (77, [some (.int x0), some (.int x1), some (.int x2)], [], σ) = Lq G d M_136 (82, [some (.int x0), some (.int x1), some (.int x2)], [.int (1 : Int32)], σ) :=
  (aUn_eq (tkd G.1 G.2) tmi (aRun (tkd G.1 G.2) tmi tmt d) M_136 [] 2 (77, [some (.int x0), some (.int x1), some (.int x2)], [], σ)).trans rfl
set_option maxRecDepth 20000 in
theorem q_136_5397 (G : Nat × (Nat → Int32)) (d : Nat) (x0 : Int32) (x1 : Int32) (x2 : Int32) (σ : aH) : Lq G d M_136 (83, [some (.int x0), some (.int x1), some (.int x2)], [], σ) = Lq G d M_136 (85, [some (.int x0), some (.int x1), some (.int x2)], [.int x2, .int x1], σ) :=
  (aUn_eq (tkd G.1 G.2) tmi (aRun (tkd G.1 G.2) tmi tmt d) M_136 [] 2 (83, [some (.int x0), some (.int x1), some (.int x2)], [], σ)).trans rfl
set_option maxRecDepth 20000 in
theorem q_136_5398 (G : Nat × (Nat → Int32)) (d : Nat) (x0 : Int32) (x1 : Int32) (x2 : Int32) (s0 : Int32) (s1 : Int32) (σ : aH) : Lq G d M_136 (85, [some (.int x0), some (.int x1), some (.int x2)], [.int s0, .int s1], σ) = if s1 = s0 then Lq G d M_136 (88, [some (.int x0), some (.int x1), some (.int x2)], [], σ) else Lq G d M_136 (92, [some (.int x0), some (.int x1), some (.int x2)], [], σ) :=
  (aUn_eq (tkd G.1 G.2) tmi (aRun (tkd G.1 G.2) tmi tmt d) M_136 [] 1 (85, [some (.int x0), some (.int x1), some (.int x2)], [.int s0, .int s1], σ)).trans rfl
set_option maxRecDepth 20000 in
theorem q_136_5399 (G : Nat × (Nat → Int32)) (d : Nat) (x0 : Int32) (x1 : Int32) (x2 : Int32) (σ : aH) : Lq G d M_136 (88, [some (.int x0), some (.int x1), some (.int x2)], [], σ) = Lq G d M_136 (93, [some (.int x0), some (.int x1), some (.int x2)], [.int (1 : Int32)], σ) :=
  (aUn_eq (tkd G.1 G.2) tmi (aRun (tkd G.1 G.2) tmi tmt d) M_136 [] 2 (88, [some (.int x0), some (.int x1), some (.int x2)], [], σ)).trans rfl
set_option maxRecDepth 20000 in
theorem q_136_5400 (G : Nat × (Nat → Int32)) (d : Nat) (x0 : Int32) (x1 : Int32) (x2 : Int32) (s0 : Int32) (σ : aH) : Lq G d M_136 (93, [some (.int x0), some (.int x1), some (.int x2)], [.int s0], σ) = some (.inl (some (.int s0)), σ) :=
  (aUn_eq (tkd G.1 G.2) tmi (aRun (tkd G.1 G.2) tmi tmt d) M_136 [] 1 (93, [some (.int x0), some (.int x1), some (.int x2)], [.int s0], σ)).trans rfl
set_option maxRecDepth 20000 in
theorem q_136_5401 (G : Nat × (Nat → Int32)) (d : Nat) (x0 : Int32) (x1 : Int32) (x2 : Int32) (σ : aH) : Lq G d M_136 (92, [some (.int x0), some (.int x1), some (.int x2)], [], σ) = Lq G d M_136 (93, [some (.int x0), some (.int x1), some (.int x2)], [.int (0 : Int32)], σ) :=
  (aUn_eq (tkd G.1 G.2) tmi (aRun (tkd G.1 G.2) tmi tmt d) M_136 [] 1 (92, [some (.int x0), some (.int x1), some (.int x2)], [], σ)).trans rfl
set_option maxRecDepth 20000 in
theorem q_136_5402 (G : Nat × (Nat → Int32)) (d : Nat) (x0 : Int32) (x1 : Int32) (x2 : Int32) (σ : aH) : Lq G d M_136 (94, [some (.int x0), some (.int x1), some (.int x2)], [], σ) = Lq G d M_136 (97, [some (.int x0), some (.int x1), some (.int x2)], [.int (x1 + x2)], σ) :=
  (aUn_eq (tkd G.1 G.2) tmi (aRun (tkd G.1 G.2) tmi tmt d) M_136 [] 3 (94, [some (.int x0), some (.int x1), some (.int x2)], [], σ)).trans rfl
set_option maxRecDepth 20000 in
theorem q_136_5403 (G : Nat × (Nat → Int32)) (d : Nat) (x0 : Int32) (x1 : Int32) (x2 : Int32) (s0 : Int32) (σ : aH) : Lq G d M_136 (97, [some (.int x0), some (.int x1), some (.int x2)], [.int s0], σ) = some (.inl (some (.int s0)), σ) :=
  (aUn_eq (tkd G.1 G.2) tmi (aRun (tkd G.1 G.2) tmi tmt d) M_136 [] 1 (97, [some (.int x0), some (.int x1), some (.int x2)], [.int s0], σ)).trans rfl
set_option maxRecDepth 20000 in
theorem q_136_5404 (G : Nat × (Nat → Int32)) (d : Nat) (x0 : Int32) (x1 : Int32) (x2 : Int32) (σ : aH) : Lq G d M_136 (98, [some (.int x0), some (.int x1), some (.int x2)], [], σ) = Lq G d M_136 (101, [some (.int x0), some (.int x1), some (.int x2)], [.int (x1 - x2)], σ) :=
  (aUn_eq (tkd G.1 G.2) tmi (aRun (tkd G.1 G.2) tmi tmt d) M_136 [] 3 (98, [some (.int x0), some (.int x1), some (.int x2)], [], σ)).trans rfl
set_option maxRecDepth 20000 in
theorem q_136_5405 (G : Nat × (Nat → Int32)) (d : Nat) (x0 : Int32) (x1 : Int32) (x2 : Int32) (s0 : Int32) (σ : aH) : Lq G d M_136 (101, [some (.int x0), some (.int x1), some (.int x2)], [.int s0], σ) = some (.inl (some (.int s0)), σ) :=
  (aUn_eq (tkd G.1 G.2) tmi (aRun (tkd G.1 G.2) tmi tmt d) M_136 [] 1 (101, [some (.int x0), some (.int x1), some (.int x2)], [.int s0], σ)).trans rfl
set_option maxRecDepth 20000 in
theorem q_136_5406 (G : Nat × (Nat → Int32)) (d : Nat) (x0 : Int32) (x1 : Int32) (x2 : Int32) (σ : aH) : Lq G d M_136 (102, [some (.int x0), some (.int x1), some (.int x2)], [], σ) = Lq G d M_136 (105, [some (.int x0), some (.int x1), some (.int x2)], [.int (x1 * x2)], σ) :=
  (aUn_eq (tkd G.1 G.2) tmi (aRun (tkd G.1 G.2) tmi tmt d) M_136 [] 3 (102, [some (.int x0), some (.int x1), some (.int x2)], [], σ)).trans rfl
set_option maxRecDepth 20000 in
theorem q_136_5407 (G : Nat × (Nat → Int32)) (d : Nat) (x0 : Int32) (x1 : Int32) (x2 : Int32) (s0 : Int32) (σ : aH) : Lq G d M_136 (105, [some (.int x0), some (.int x1), some (.int x2)], [.int s0], σ) = some (.inl (some (.int s0)), σ) :=
  (aUn_eq (tkd G.1 G.2) tmi (aRun (tkd G.1 G.2) tmi tmt d) M_136 [] 1 (105, [some (.int x0), some (.int x1), some (.int x2)], [.int s0], σ)).trans rfl
set_option maxRecDepth 20000 in
theorem q_136_5408 (G : Nat × (Nat → Int32)) (d : Nat) (x0 : Int32) (x1 : Int32) (x2 : Int32) (σ : aH) : Lq G d M_136 (106, [some (.int x0), some (.int x1), some (.int x2)], [], σ) = Lq G d M_136 (107, [some (.int x0), some (.int x1), some (.int x2)], [.int x2], σ) :=
  (aUn_eq (tkd G.1 G.2) tmi (aRun (tkd G.1 G.2) tmi tmt d) M_136 [] 1 (106, [some (.int x0), some (.int x1), some (.int x2)], [], σ)).trans rfl
set_option maxRecDepth 20000 in
theorem q_136_5409 (G : Nat × (Nat → Int32)) (d : Nat) (x0 : Int32) (x1 : Int32) (x2 : Int32) (s0 : Int32) (σ : aH) : Lq G d M_136 (107, [some (.int x0), some (.int x1), some (.int x2)], [.int s0], σ) = if s0 = 0 then Lq G d M_136 (110, [some (.int x0), some (.int x1), some (.int x2)], [], σ) else Lq G d M_136 (114, [some (.int x0), some (.int x1), some (.int x2)], [], σ) :=
  (aUn_eq (tkd G.1 G.2) tmi (aRun (tkd G.1 G.2) tmi tmt d) M_136 [] 1 (107, [some (.int x0), some (.int x1), some (.int x2)], [.int s0], σ)).trans rfl
set_option maxRecDepth 20000 in
theorem q_136_5410 (G : Nat × (Nat → Int32)) (d : Nat) (x0 : Int32) (x1 : Int32) (x2 : Int32) (σ : aH) : Lq G d M_136 (110, [some (.int x0), some (.int x1), some (.int x2)], [], σ) = Lq G d M_136 (117, [some (.int x0), some (.int x1), some (.int x2)], [.int (0 : Int32)], σ) :=
  (aUn_eq (tkd G.1 G.2) tmi (aRun (tkd G.1 G.2) tmi tmt d) M_136 [] 2 (110, [some (.int x0), some (.int x1), some (.int x2)], [], σ)).trans rfl
set_option maxRecDepth 20000 in
theorem q_136_5411 (G : Nat × (Nat → Int32)) (d : Nat) (x0 : Int32) (x1 : Int32) (x2 : Int32) (s0 : Int32) (σ : aH) : Lq G d M_136 (117, [some (.int x0), some (.int x1), some (.int x2)], [.int s0], σ) = some (.inl (some (.int s0)), σ) :=
  (aUn_eq (tkd G.1 G.2) tmi (aRun (tkd G.1 G.2) tmi tmt d) M_136 [] 1 (117, [some (.int x0), some (.int x1), some (.int x2)], [.int s0], σ)).trans rfl
set_option maxRecDepth 20000 in
theorem q_136_5412 (G : Nat × (Nat → Int32)) (d : Nat) (x0 : Int32) (x1 : Int32) (x2 : Int32) (σ : aH) : Lq G d M_136 (114, [some (.int x0), some (.int x1), some (.int x2)], [], σ) = Lq G d M_136 (116, [some (.int x0), some (.int x1), some (.int x2)], [.int x2, .int x1], σ) :=
  (aUn_eq (tkd G.1 G.2) tmi (aRun (tkd G.1 G.2) tmi tmt d) M_136 [] 2 (114, [some (.int x0), some (.int x1), some (.int x2)], [], σ)).trans rfl
set_option maxRecDepth 20000 in
theorem q_136_5413 (G : Nat × (Nat → Int32)) (d : Nat) (x0 : Int32) (x1 : Int32) (x2 : Int32) (s0 : Int32) (s1 : Int32) (σ : aH) : Lq G d M_136 (116, [some (.int x0), some (.int x1), some (.int x2)], [.int s0, .int s1], σ) = aNz (s0) (Lq G d M_136 (117, [some (.int x0), some (.int x1), some (.int x2)], [.int (s1 / s0)], σ)) :=
  (aUn_eq (tkd G.1 G.2) tmi (aRun (tkd G.1 G.2) tmi tmt d) M_136 [] 1 (116, [some (.int x0), some (.int x1), some (.int x2)], [.int s0, .int s1], σ)).trans rfl
set_option maxRecDepth 20000 in
theorem q_223_5414 (G : Nat × (Nat → Int32)) (d : Nat) (x0 : Int32) (x1 : Int32) (x2 : Int32) (σ : aH) : Lq G d M_223 (0, [some (.int x0), some (.int x1), some (.int x2), none], [], σ) = Lq G d M_223 (3, [some (.int x0), some (.int x1), some (.int x2), none], [.int x2, .int x1, .int (1 : Int32)], σ) :=
  (aUn_eq (tkd G.1 G.2) tmi (aRun (tkd G.1 G.2) tmi tmt d) M_223 [] 3 (0, [some (.int x0), some (.int x1), some (.int x2), none], [], σ)).trans rfl
set_option maxRecDepth 20000 in
theorem q_223_5415 (G : Nat × (Nat → Int32)) (d : Nat) (x0 : Int32) (x1 : Int32) (x2 : Int32) (s0 : Int32) (s1 : Int32) (s2 : Int32) (σ : aH) : Lq G d M_223 (3, [some (.int x0), some (.int x1), some (.int x2), none], [.int s0, .int s1, .int s2], σ) = aCI (Rn G d 152 [.int s1, .int s0] σ) fun v2 σ1 => Lq G d M_223 (6, [some (.int x0), some (.int x1), some (.int x2), none], [.int v2, .int s2], σ1) :=
  (aUn_eq (tkd G.1 G.2) tmi (aRun (tkd G.1 G.2) tmi tmt d) M_223 [] 1 (3, [some (.int x0), some (.int x1), some (.int x2), none], [.int s0, .int s1, .int s2], σ)).trans rfl
set_option maxRecDepth 20000 in
theorem q_223_5416 (G : Nat × (Nat → Int32)) (d : Nat) (x0 : Int32) (x1 : Int32) (x2 : Int32) (s0 : Int32) (s1 : Int32) (σ : aH) : Lq G d M_223 (6, [some (.int x0), some (.int x1), some (.int x2), none], [.int s0, .int s1], σ) = Lq G d M_223 (10, [some (.int x0), some (.int x1), some (.int x2), none], [.int (s0 / (1000 : Int32)), .int s1], σ) :=
  (aUn_eq (tkd G.1 G.2) tmi (aRun (tkd G.1 G.2) tmi tmt d) M_223 [] 2 (6, [some (.int x0), some (.int x1), some (.int x2), none], [.int s0, .int s1], σ)).trans rfl
set_option maxRecDepth 20000 in
theorem q_223_5417 (G : Nat × (Nat → Int32)) (d : Nat) (x0 : Int32) (x1 : Int32) (x2 : Int32) (s0 : Int32) (s1 : Int32) (σ : aH) : Lq G d M_223 (10, [some (.int x0), some (.int x1), some (.int x2), none], [.int s0, .int s1], σ) = aCI (Rn G d 19 [.int s1, .int s0] σ) fun v2 σ1 => Lq G d M_223 (13, [some (.int x0), some (.int x1), some (.int x2), none], [.int v2], σ1) :=
  (aUn_eq (tkd G.1 G.2) tmi (aRun (tkd G.1 G.2) tmi tmt d) M_223 [] 1 (10, [some (.int x0), some (.int x1), some (.int x2), none], [.int s0, .int s1], σ)).trans rfl
set_option maxRecDepth 20000 in
theorem q_223_5418 (G : Nat × (Nat → Int32)) (d : Nat) (x0 : Int32) (x1 : Int32) (x2 : Int32) (s0 : Int32) (σ : aH) : Lq G d M_223 (13, [some (.int x0), some (.int x1), some (.int x2), none], [.int s0], σ) = Lq G d M_223 (24, [some (.int x0), some (.int x1), some (.int x2), some (.int s0)], [.long (((x0).toInt64 * (s0).toInt64) / (1000 : Int64)), .long (1 : Int64)], σ) :=
  (aUn_eq (tkd G.1 G.2) tmi (aRun (tkd G.1 G.2) tmi tmt d) M_223 [] 9 (13, [some (.int x0), some (.int x1), some (.int x2), none], [.int s0], σ)).trans rfl
set_option maxRecDepth 20000 in
theorem q_223_5419 (G : Nat × (Nat → Int32)) (d : Nat) (x0 : Int32) (x1 : Int32) (x2 : Int32) (x3 : Int32) (s0 : Int64) (s1 : Int64) (σ : aH) : Lq G d M_223 (24, [some (.int x0), some (.int x1), some (.int x2), some (.int x3)], [.long s0, .long s1], σ) = aCL (Rn G d 224 [.long s1, .long s0] σ) fun v2 σ1 => Lq G d M_223 (27, [some (.int x0), some (.int x1), some (.int x2), some (.int x3)], [.long v2], σ1) :=
  (aUn_eq (tkd G.1 G.2) tmi (aRun (tkd G.1 G.2) tmi tmt d) M_223 [] 1 (24, [some (.int x0), some (.int x1), some (.int x2), some (.int x3)], [.long s0, .long s1], σ)).trans rfl
set_option maxRecDepth 20000 in
theorem q_223_5420 (G : Nat × (Nat → Int32)) (d : Nat) (x0 : Int32) (x1 : Int32) (x2 : Int32) (x3 : Int32) (s0 : Int64) (σ : aH) : Lq G d M_223 (27, [some (.int x0), some (.int x1), some (.int x2), some (.int x3)], [.long s0], σ) = Lq G d M_223 (28, [some (.int x0), some (.int x1), some (.int x2), some (.int x3)], [.int (s0).toInt32], σ) :=
  (aUn_eq (tkd G.1 G.2) tmi (aRun (tkd G.1 G.2) tmi tmt d) M_223 [] 1 (27, [some (.int x0), some (.int x1), some (.int x2), some (.int x3)], [.long s0], σ)).trans rfl
set_option maxRecDepth 20000 in
theorem q_223_5421 (G : Nat × (Nat → Int32)) (d : Nat) (x0 : Int32) (x1 : Int32) (x2 : Int32) (x3 : Int32) (s0 : Int32) (σ : aH) : Lq G d M_223 (28, [some (.int x0), some (.int x1), some (.int x2), some (.int x3)], [.int s0], σ) = some (.inl (some (.int s0)), σ) :=
  (aUn_eq (tkd G.1 G.2) tmi (aRun (tkd G.1 G.2) tmi tmt d) M_223 [] 1 (28, [some (.int x0), some (.int x1), some (.int x2), some (.int x3)], [.int s0], σ)).trans rfl
set_option maxRecDepth 20000 in
theorem q_13_5422 (G : Nat × (Nat → Int32)) (d : Nat) (x1 : Int32) (x2 : Int32) (σ : aH) : Lq G d M_13 (0, [some (.ref 70), some (.int x1), some (.int x2)], [], σ) = Lq G d M_13 (1, [some (.ref 70), some (.int x1), some (.int x2)], [.ref 70], σ) :=
  (aUn_eq (tkd G.1 G.2) tmi (aRun (tkd G.1 G.2) tmi tmt d) M_13 [] 1 (0, [some (.ref 70), some (.int x1), some (.int x2)], [], σ)).trans rfl
set_option maxRecDepth 20000 in
theorem q_13_5423 (G : Nat × (Nat → Int32)) (d : Nat) (x1 : Int32) (x2 : Int32) (σ : aH) : Lq G d M_13 (1, [some (.ref 70), some (.int x1), some (.int x2)], [.ref 70], σ) = aCI (Rn G d 14 [.ref 70] σ) fun v2 σ1 => Lq G d M_13 (4, [some (.ref 70), some (.int x1), some (.int x2)], [.int v2], σ1) :=
  (aUn_eq (tkd G.1 G.2) tmi (aRun (tkd G.1 G.2) tmi tmt d) M_13 [] 1 (1, [some (.ref 70), some (.int x1), some (.int x2)], [.ref 70], σ)).trans rfl
set_option maxRecDepth 20000 in
theorem q_13_5424 (G : Nat × (Nat → Int32)) (d : Nat) (x1 : Int32) (x2 : Int32) (s0 : Int32) (σ : aH) : Lq G d M_13 (4, [some (.ref 70), some (.int x1), some (.int x2)], [.int s0], σ) = if s0 = 0 then Lq G d M_13 (23, [some (.ref 70), some (.int x1), some (.int x2)], [], σ) else Lq G d M_13 (7, [some (.ref 70), some (.int x1), some (.int x2)], [], σ) :=
  (aUn_eq (tkd G.1 G.2) tmi (aRun (tkd G.1 G.2) tmi tmt d) M_13 [] 1 (4, [some (.ref 70), some (.int x1), some (.int x2)], [.int s0], σ)).trans rfl
set_option maxRecDepth 20000 in
theorem q_13_5425 (G : Nat × (Nat → Int32)) (d : Nat) (x1 : Int32) (x2 : Int32) (σ : aH) : Lq G d M_13 (23, [some (.ref 70), some (.int x1), some (.int x2)], [], σ) = Lq G d M_13 (30, [some (.ref 70), some (.int x1), some (.int x2)], [.ref 70, .int x2, .int x1, .ref 71], σ) :=
  (aUn_eq (tkd G.1 G.2) tmi (aRun (tkd G.1 G.2) tmi tmt d) M_13 [] 5 (23, [some (.ref 70), some (.int x1), some (.int x2)], [], σ)).trans rfl
set_option maxRecDepth 20000 in
theorem q_13_5426 (G : Nat × (Nat → Int32)) (d : Nat) (x1 : Int32) (x2 : Int32) (s1 : Int32) (s2 : Int32) (σ : aH) : Lq G d M_13 (30, [some (.ref 70), some (.int x1), some (.int x2)], [.ref 70, .int s1, .int s2, .ref 71], σ) = aCI (Rn G d 15 [.ref 70] σ) fun v2 σ1 => Lq G d M_13 (33, [some (.ref 70), some (.int x1), some (.int x2)], [.int v2, .int s1, .int s2, .ref 71], σ1) :=
  (aUn_eq (tkd G.1 G.2) tmi (aRun (tkd G.1 G.2) tmi tmt d) M_13 [] 1 (30, [some (.ref 70), some (.int x1), some (.int x2)], [.ref 70, .int s1, .int s2, .ref 71], σ)).trans rfl
set_option maxRecDepth 20000 in
theorem q_13_5427 (G : Nat × (Nat → Int32)) (d : Nat) (x1 : Int32) (x2 : Int32) (s0 : Int32) (s1 : Int32) (s2 : Int32) (σ : aH) : Lq G d M_13 (33, [some (.ref 70), some (.int x1), some (.int x2)], [.int s0, .int s1, .int s2, .ref 71], σ) = none :=
  (aUn_eq (tkd G.1 G.2) tmi (aRun (tkd G.1 G.2) tmi tmt d) M_13 [] 1 (33, [some (.ref 70), some (.int x1), some (.int x2)], [.int s0, .int s1, .int s2, .ref 71], σ)).trans rfl
set_option maxRecDepth 20000 in
theorem q_13_5428 (G : Nat × (Nat → Int32)) (d : Nat) (x1 : Int32) (x2 : Int32) (σ : aH) : Lq G d M_13 (7, [some (.ref 70), some (.int x1), some (.int x2)], [], σ) = Lq G d M_13 (14, [some (.ref 70), some (.int x1), some (.int x2)], [.ref 70, .int x2, .int x1, .ref 71], σ) :=
  (aUn_eq (tkd G.1 G.2) tmi (aRun (tkd G.1 G.2) tmi tmt d) M_13 [] 5 (7, [some (.ref 70), some (.int x1), some (.int x2)], [], σ)).trans rfl
set_option maxRecDepth 20000 in
theorem q_13_5429 (G : Nat × (Nat → Int32)) (d : Nat) (x1 : Int32) (x2 : Int32) (s1 : Int32) (s2 : Int32) (σ : aH) : Lq G d M_13 (14, [some (.ref 70), some (.int x1), some (.int x2)], [.ref 70, .int s1, .int s2, .ref 71], σ) = aCI (Rn G d 15 [.ref 70] σ) fun v2 σ1 => Lq G d M_13 (17, [some (.ref 70), some (.int x1), some (.int x2)], [.int v2, .int s1, .int s2, .ref 71], σ1) :=
  (aUn_eq (tkd G.1 G.2) tmi (aRun (tkd G.1 G.2) tmi tmt d) M_13 [] 1 (14, [some (.ref 70), some (.int x1), some (.int x2)], [.ref 70, .int s1, .int s2, .ref 71], σ)).trans rfl
set_option maxRecDepth 20000 in
theorem q_13_5430 (G : Nat × (Nat → Int32)) (d : Nat) (x1 : Int32) (x2 : Int32) (s0 : Int32) (s1 : Int32) (s2 : Int32) (σ : aH) : Lq G d M_13 (17, [some (.ref 70), some (.int x1), some (.int x2)], [.int s0, .int s1, .int s2, .ref 71], σ) = aCI (Rn G d 17 [.ref 71, .int s2, .int s1, .int s0] σ) fun v2 σ1 => Lq G d M_13 (20, [some (.ref 70), some (.int x1), some (.int x2)], [.int v2], σ1) :=
  (aUn_eq (tkd G.1 G.2) tmi (aRun (tkd G.1 G.2) tmi tmt d) M_13 [] 1 (17, [some (.ref 70), some (.int x1), some (.int x2)], [.int s0, .int s1, .int s2, .ref 71], σ)).trans rfl
set_option maxRecDepth 20000 in
theorem q_13_5431 (G : Nat × (Nat → Int32)) (d : Nat) (x1 : Int32) (x2 : Int32) (s0 : Int32) (σ : aH) : Lq G d M_13 (20, [some (.ref 70), some (.int x1), some (.int x2)], [.int s0], σ) = Lq G d M_13 (36, [some (.ref 70), some (.int x1), some (.int x2)], [.int s0], σ) :=
  (aUn_eq (tkd G.1 G.2) tmi (aRun (tkd G.1 G.2) tmi tmt d) M_13 [] 1 (20, [some (.ref 70), some (.int x1), some (.int x2)], [.int s0], σ)).trans rfl
set_option maxRecDepth 20000 in
theorem q_13_5432 (G : Nat × (Nat → Int32)) (d : Nat) (x1 : Int32) (x2 : Int32) (s0 : Int32) (σ : aH) : Lq G d M_13 (36, [some (.ref 70), some (.int x1), some (.int x2)], [.int s0], σ) = some (.inl (some (.int s0)), σ) :=
  (aUn_eq (tkd G.1 G.2) tmi (aRun (tkd G.1 G.2) tmi tmt d) M_13 [] 1 (36, [some (.ref 70), some (.int x1), some (.int x2)], [.int s0], σ)).trans rfl
set_option maxRecDepth 20000 in
theorem q_13_5433 (G : Nat × (Nat → Int32)) (d : Nat) (x1 : Int32) (x2 : Int32) (σ : aH) : Lq G d M_13 (0, [some (.ref 72), some (.int x1), some (.int x2)], [], σ) = Lq G d M_13 (1, [some (.ref 72), some (.int x1), some (.int x2)], [.ref 72], σ) :=
  (aUn_eq (tkd G.1 G.2) tmi (aRun (tkd G.1 G.2) tmi tmt d) M_13 [] 1 (0, [some (.ref 72), some (.int x1), some (.int x2)], [], σ)).trans rfl
set_option maxRecDepth 20000 in
theorem q_13_5434 (G : Nat × (Nat → Int32)) (d : Nat) (x1 : Int32) (x2 : Int32) (σ : aH) : Lq G d M_13 (1, [some (.ref 72), some (.int x1), some (.int x2)], [.ref 72], σ) = aCI (Rn G d 14 [.ref 72] σ) fun v2 σ1 => Lq G d M_13 (4, [some (.ref 72), some (.int x1), some (.int x2)], [.int v2], σ1) :=
  (aUn_eq (tkd G.1 G.2) tmi (aRun (tkd G.1 G.2) tmi tmt d) M_13 [] 1 (1, [some (.ref 72), some (.int x1), some (.int x2)], [.ref 72], σ)).trans rfl
set_option maxRecDepth 20000 in
theorem q_13_5435 (G : Nat × (Nat → Int32)) (d : Nat) (x1 : Int32) (x2 : Int32) (s0 : Int32) (σ : aH) : Lq G d M_13 (4, [some (.ref 72), some (.int x1), some (.int x2)], [.int s0], σ) = if s0 = 0 then Lq G d M_13 (23, [some (.ref 72), some (.int x1), some (.int x2)], [], σ) else Lq G d M_13 (7, [some (.ref 72), some (.int x1), some (.int x2)], [], σ) :=
  (aUn_eq (tkd G.1 G.2) tmi (aRun (tkd G.1 G.2) tmi tmt d) M_13 [] 1 (4, [some (.ref 72), some (.int x1), some (.int x2)], [.int s0], σ)).trans rfl
set_option maxRecDepth 20000 in
theorem q_13_5436 (G : Nat × (Nat → Int32)) (d : Nat) (x1 : Int32) (x2 : Int32) (σ : aH) : Lq G d M_13 (23, [some (.ref 72), some (.int x1), some (.int x2)], [], σ) = Lq G d M_13 (30, [some (.ref 72), some (.int x1), some (.int x2)], [.ref 72, .int x2, .int x1, .ref 73], σ) :=
  (aUn_eq (tkd G.1 G.2) tmi (aRun (tkd G.1 G.2) tmi tmt d) M_13 [] 5 (23, [some (.ref 72), some (.int x1), some (.int x2)], [], σ)).trans rfl
set_option maxRecDepth 20000 in
theorem q_13_5437 (G : Nat × (Nat → Int32)) (d : Nat) (x1 : Int32) (x2 : Int32) (s1 : Int32) (s2 : Int32) (σ : aH) : Lq G d M_13 (30, [some (.ref 72), some (.int x1), some (.int x2)], [.ref 72, .int s1, .int s2, .ref 73], σ) = aCI (Rn G d 15 [.ref 72] σ) fun v2 σ1 => Lq G d M_13 (33, [some (.ref 72), some (.int x1), some (.int x2)], [.int v2, .int s1, .int s2, .ref 73], σ1) :=
  (aUn_eq (tkd G.1 G.2) tmi (aRun (tkd G.1 G.2) tmi tmt d) M_13 [] 1 (30, [some (.ref 72), some (.int x1), some (.int x2)], [.ref 72, .int s1, .int s2, .ref 73], σ)).trans rfl
set_option maxRecDepth 20000 in
theorem q_13_5438 (G : Nat × (Nat → Int32)) (d : Nat) (x1 : Int32) (x2 : Int32) (s0 : Int32) (s1 : Int32) (s2 : Int32) (σ : aH) : Lq G d M_13 (33, [some (.ref 72), some (.int x1), some (.int x2)], [.int s0, .int s1, .int s2, .ref 73], σ) = none :=
  (aUn_eq (tkd G.1 G.2) tmi (aRun (tkd G.1 G.2) tmi tmt d) M_13 [] 1 (33, [some (.ref 72), some (.int x1), some (.int x2)], [.int s0, .int s1, .int s2, .ref 73], σ)).trans rfl
set_option maxRecDepth 20000 in
theorem q_13_5439 (G : Nat × (Nat → Int32)) (d : Nat) (x1 : Int32) (x2 : Int32) (σ : aH) : Lq G d M_13 (7, [some (.ref 72), some (.int x1), some (.int x2)], [], σ) = Lq G d M_13 (14, [some (.ref 72), some (.int x1), some (.int x2)], [.ref 72, .int x2, .int x1, .ref 73], σ) :=
  (aUn_eq (tkd G.1 G.2) tmi (aRun (tkd G.1 G.2) tmi tmt d) M_13 [] 5 (7, [some (.ref 72), some (.int x1), some (.int x2)], [], σ)).trans rfl
set_option maxRecDepth 20000 in
theorem q_13_5440 (G : Nat × (Nat → Int32)) (d : Nat) (x1 : Int32) (x2 : Int32) (s1 : Int32) (s2 : Int32) (σ : aH) : Lq G d M_13 (14, [some (.ref 72), some (.int x1), some (.int x2)], [.ref 72, .int s1, .int s2, .ref 73], σ) = aCI (Rn G d 15 [.ref 72] σ) fun v2 σ1 => Lq G d M_13 (17, [some (.ref 72), some (.int x1), some (.int x2)], [.int v2, .int s1, .int s2, .ref 73], σ1) :=
  (aUn_eq (tkd G.1 G.2) tmi (aRun (tkd G.1 G.2) tmi tmt d) M_13 [] 1 (14, [some (.ref 72), some (.int x1), some (.int x2)], [.ref 72, .int s1, .int s2, .ref 73], σ)).trans rfl
set_option maxRecDepth 20000 in
theorem q_13_5441 (G : Nat × (Nat → Int32)) (d : Nat) (x1 : Int32) (x2 : Int32) (s0 : Int32) (s1 : Int32) (s2 : Int32) (σ : aH) : Lq G d M_13 (17, [some (.ref 72), some (.int x1), some (.int x2)], [.int s0, .int s1, .int s2, .ref 73], σ) = aCI (Rn G d 17 [.ref 73, .int s2, .int s1, .int s0] σ) fun v2 σ1 => Lq G d M_13 (20, [some (.ref 72), some (.int x1), some (.int x2)], [.int v2], σ1) :=
  (aUn_eq (tkd G.1 G.2) tmi (aRun (tkd G.1 G.2) tmi tmt d) M_13 [] 1 (17, [some (.ref 72), some (.int x1), some (.int x2)], [.int s0, .int s1, .int s2, .ref 73], σ)).trans rfl
set_option maxRecDepth 20000 in
theorem q_13_5442 (G : Nat × (Nat → Int32)) (d : Nat) (x1 : Int32) (x2 : Int32) (s0 : Int32) (σ : aH) : Lq G d M_13 (20, [some (.ref 72), some (.int x1), some (.int x2)], [.int s0], σ) = Lq G d M_13 (36, [some (.ref 72), some (.int x1), some (.int x2)], [.int s0], σ) :=
  (aUn_eq (tkd G.1 G.2) tmi (aRun (tkd G.1 G.2) tmi tmt d) M_13 [] 1 (20, [some (.ref 72), some (.int x1), some (.int x2)], [.int s0], σ)).trans rfl
set_option maxRecDepth 20000 in
theorem q_13_5443 (G : Nat × (Nat → Int32)) (d : Nat) (x1 : Int32) (x2 : Int32) (s0 : Int32) (σ : aH) : Lq G d M_13 (36, [some (.ref 72), some (.int x1), some (.int x2)], [.int s0], σ) = some (.inl (some (.int s0)), σ) :=
  (aUn_eq (tkd G.1 G.2) tmi (aRun (tkd G.1 G.2) tmi tmt d) M_13 [] 1 (36, [some (.ref 72), some (.int x1), some (.int x2)], [.int s0], σ)).trans rfl
set_option maxRecDepth 20000 in
theorem q_13_5444 (G : Nat × (Nat → Int32)) (d : Nat) (x1 : Int32) (x2 : Int32) (σ : aH) : Lq G d M_13 (0, [some (.ref 74), some (.int x1), some (.int x2)], [], σ) = Lq G d M_13 (1, [some (.ref 74), some (.int x1), some (.int x2)], [.ref 74], σ) :=
  (aUn_eq (tkd G.1 G.2) tmi (aRun (tkd G.1 G.2) tmi tmt d) M_13 [] 1 (0, [some (.ref 74), some (.int x1), some (.int x2)], [], σ)).trans rfl
set_option maxRecDepth 20000 in
theorem q_13_5445 (G : Nat × (Nat → Int32)) (d : Nat) (x1 : Int32) (x2 : Int32) (σ : aH) : Lq G d M_13 (1, [some (.ref 74), some (.int x1), some (.int x2)], [.ref 74], σ) = aCI (Rn G d 14 [.ref 74] σ) fun v2 σ1 => Lq G d M_13 (4, [some (.ref 74), some (.int x1), some (.int x2)], [.int v2], σ1) :=
  (aUn_eq (tkd G.1 G.2) tmi (aRun (tkd G.1 G.2) tmi tmt d) M_13 [] 1 (1, [some (.ref 74), some (.int x1), some (.int x2)], [.ref 74], σ)).trans rfl
set_option maxRecDepth 20000 in
theorem q_13_5446 (G : Nat × (Nat → Int32)) (d : Nat) (x1 : Int32) (x2 : Int32) (s0 : Int32) (σ : aH) : Lq G d M_13 (4, [some (.ref 74), some (.int x1), some (.int x2)], [.int s0], σ) = if s0 = 0 then Lq G d M_13 (23, [some (.ref 74), some (.int x1), some (.int x2)], [], σ) else Lq G d M_13 (7, [some (.ref 74), some (.int x1), some (.int x2)], [], σ) :=
  (aUn_eq (tkd G.1 G.2) tmi (aRun (tkd G.1 G.2) tmi tmt d) M_13 [] 1 (4, [some (.ref 74), some (.int x1), some (.int x2)], [.int s0], σ)).trans rfl
set_option maxRecDepth 20000 in
theorem q_13_5447 (G : Nat × (Nat → Int32)) (d : Nat) (x1 : Int32) (x2 : Int32) (σ : aH) : Lq G d M_13 (23, [some (.ref 74), some (.int x1), some (.int x2)], [], σ) = Lq G d M_13 (30, [some (.ref 74), some (.int x1), some (.int x2)], [.ref 74, .int x2, .int x1, .ref 75], σ) :=
  (aUn_eq (tkd G.1 G.2) tmi (aRun (tkd G.1 G.2) tmi tmt d) M_13 [] 5 (23, [some (.ref 74), some (.int x1), some (.int x2)], [], σ)).trans rfl
set_option maxRecDepth 20000 in
theorem q_13_5448 (G : Nat × (Nat → Int32)) (d : Nat) (x1 : Int32) (x2 : Int32) (s1 : Int32) (s2 : Int32) (σ : aH) : Lq G d M_13 (30, [some (.ref 74), some (.int x1), some (.int x2)], [.ref 74, .int s1, .int s2, .ref 75], σ) = aCI (Rn G d 15 [.ref 74] σ) fun v2 σ1 => Lq G d M_13 (33, [some (.ref 74), some (.int x1), some (.int x2)], [.int v2, .int s1, .int s2, .ref 75], σ1) :=
  (aUn_eq (tkd G.1 G.2) tmi (aRun (tkd G.1 G.2) tmi tmt d) M_13 [] 1 (30, [some (.ref 74), some (.int x1), some (.int x2)], [.ref 74, .int s1, .int s2, .ref 75], σ)).trans rfl
set_option maxRecDepth 20000 in
theorem q_13_5449 (G : Nat × (Nat → Int32)) (d : Nat) (x1 : Int32) (x2 : Int32) (s0 : Int32) (s1 : Int32) (s2 : Int32) (σ : aH) : Lq G d M_13 (33, [some (.ref 74), some (.int x1), some (.int x2)], [.int s0, .int s1, .int s2, .ref 75], σ) = none :=
  (aUn_eq (tkd G.1 G.2) tmi (aRun (tkd G.1 G.2) tmi tmt d) M_13 [] 1 (33, [some (.ref 74), some (.int x1), some (.int x2)], [.int s0, .int s1, .int s2, .ref 75], σ)).trans rfl
set_option maxRecDepth 20000 in
theorem q_13_5450 (G : Nat × (Nat → Int32)) (d : Nat) (x1 : Int32) (x2 : Int32) (σ : aH) : Lq G d M_13 (7, [some (.ref 74), some (.int x1), some (.int x2)], [], σ) = Lq G d M_13 (14, [some (.ref 74), some (.int x1), some (.int x2)], [.ref 74, .int x2, .int x1, .ref 75], σ) :=
  (aUn_eq (tkd G.1 G.2) tmi (aRun (tkd G.1 G.2) tmi tmt d) M_13 [] 5 (7, [some (.ref 74), some (.int x1), some (.int x2)], [], σ)).trans rfl
set_option maxRecDepth 20000 in
theorem q_13_5451 (G : Nat × (Nat → Int32)) (d : Nat) (x1 : Int32) (x2 : Int32) (s1 : Int32) (s2 : Int32) (σ : aH) : Lq G d M_13 (14, [some (.ref 74), some (.int x1), some (.int x2)], [.ref 74, .int s1, .int s2, .ref 75], σ) = aCI (Rn G d 15 [.ref 74] σ) fun v2 σ1 => Lq G d M_13 (17, [some (.ref 74), some (.int x1), some (.int x2)], [.int v2, .int s1, .int s2, .ref 75], σ1) :=
  (aUn_eq (tkd G.1 G.2) tmi (aRun (tkd G.1 G.2) tmi tmt d) M_13 [] 1 (14, [some (.ref 74), some (.int x1), some (.int x2)], [.ref 74, .int s1, .int s2, .ref 75], σ)).trans rfl
set_option maxRecDepth 20000 in
theorem q_13_5452 (G : Nat × (Nat → Int32)) (d : Nat) (x1 : Int32) (x2 : Int32) (s0 : Int32) (s1 : Int32) (s2 : Int32) (σ : aH) : Lq G d M_13 (17, [some (.ref 74), some (.int x1), some (.int x2)], [.int s0, .int s1, .int s2, .ref 75], σ) = aCI (Rn G d 17 [.ref 75, .int s2, .int s1, .int s0] σ) fun v2 σ1 => Lq G d M_13 (20, [some (.ref 74), some (.int x1), some (.int x2)], [.int v2], σ1) :=
  (aUn_eq (tkd G.1 G.2) tmi (aRun (tkd G.1 G.2) tmi tmt d) M_13 [] 1 (17, [some (.ref 74), some (.int x1), some (.int x2)], [.int s0, .int s1, .int s2, .ref 75], σ)).trans rfl
set_option maxRecDepth 20000 in
theorem q_13_5453 (G : Nat × (Nat → Int32)) (d : Nat) (x1 : Int32) (x2 : Int32) (s0 : Int32) (σ : aH) : Lq G d M_13 (20, [some (.ref 74), some (.int x1), some (.int x2)], [.int s0], σ) = Lq G d M_13 (36, [some (.ref 74), some (.int x1), some (.int x2)], [.int s0], σ) :=
  (aUn_eq (tkd G.1 G.2) tmi (aRun (tkd G.1 G.2) tmi tmt d) M_13 [] 1 (20, [some (.ref 74), some (.int x1), some (.int x2)], [.int s0], σ)).trans rfl
set_option maxRecDepth 20000 in
theorem q_13_5454 (G : Nat × (Nat → Int32)) (d : Nat) (x1 : Int32) (x2 : Int32) (s0 : Int32) (σ : aH) : Lq G d M_13 (36, [some (.ref 74), some (.int x1), some (.int x2)], [.int s0], σ) = some (.inl (some (.int s0)), σ) :=
  (aUn_eq (tkd G.1 G.2) tmi (aRun (tkd G.1 G.2) tmi tmt d) M_13 [] 1 (36, [some (.ref 74), some (.int x1), some (.int x2)], [.int s0], σ)).trans rfl
set_option maxRecDepth 20000 in
theorem q_13_5455 (G : Nat × (Nat → Int32)) (d : Nat) (x1 : Int32) (x2 : Int32) (σ : aH) : Lq G d M_13 (0, [some (.ref 76), some (.int x1), some (.int x2)], [], σ) = Lq G d M_13 (1, [some (.ref 76), some (.int x1), some (.int x2)], [.ref 76], σ) :=
  (aUn_eq (tkd G.1 G.2) tmi (aRun (tkd G.1 G.2) tmi tmt d) M_13 [] 1 (0, [some (.ref 76), some (.int x1), some (.int x2)], [], σ)).trans rfl
set_option maxRecDepth 20000 in
theorem q_13_5456 (G : Nat × (Nat → Int32)) (d : Nat) (x1 : Int32) (x2 : Int32) (σ : aH) : Lq G d M_13 (1, [some (.ref 76), some (.int x1), some (.int x2)], [.ref 76], σ) = aCI (Rn G d 14 [.ref 76] σ) fun v2 σ1 => Lq G d M_13 (4, [some (.ref 76), some (.int x1), some (.int x2)], [.int v2], σ1) :=
  (aUn_eq (tkd G.1 G.2) tmi (aRun (tkd G.1 G.2) tmi tmt d) M_13 [] 1 (1, [some (.ref 76), some (.int x1), some (.int x2)], [.ref 76], σ)).trans rfl
set_option maxRecDepth 20000 in
theorem q_13_5457 (G : Nat × (Nat → Int32)) (d : Nat) (x1 : Int32) (x2 : Int32) (s0 : Int32) (σ : aH) : Lq G d M_13 (4, [some (.ref 76), some (.int x1), some (.int x2)], [.int s0], σ) = if s0 = 0 then Lq G d M_13 (23, [some (.ref 76), some (.int x1), some (.int x2)], [], σ) else Lq G d M_13 (7, [some (.ref 76), some (.int x1), some (.int x2)], [], σ) :=
  (aUn_eq (tkd G.1 G.2) tmi (aRun (tkd G.1 G.2) tmi tmt d) M_13 [] 1 (4, [some (.ref 76), some (.int x1), some (.int x2)], [.int s0], σ)).trans rfl
set_option maxRecDepth 20000 in
theorem q_13_5458 (G : Nat × (Nat → Int32)) (d : Nat) (x1 : Int32) (x2 : Int32) (σ : aH) : Lq G d M_13 (23, [some (.ref 76), some (.int x1), some (.int x2)], [], σ) = Lq G d M_13 (30, [some (.ref 76), some (.int x1), some (.int x2)], [.ref 76, .int x2, .int x1, .ref 77], σ) :=
  (aUn_eq (tkd G.1 G.2) tmi (aRun (tkd G.1 G.2) tmi tmt d) M_13 [] 5 (23, [some (.ref 76), some (.int x1), some (.int x2)], [], σ)).trans rfl
set_option maxRecDepth 20000 in
theorem q_13_5459 (G : Nat × (Nat → Int32)) (d : Nat) (x1 : Int32) (x2 : Int32) (s1 : Int32) (s2 : Int32) (σ : aH) : Lq G d M_13 (30, [some (.ref 76), some (.int x1), some (.int x2)], [.ref 76, .int s1, .int s2, .ref 77], σ) = aCI (Rn G d 15 [.ref 76] σ) fun v2 σ1 => Lq G d M_13 (33, [some (.ref 76), some (.int x1), some (.int x2)], [.int v2, .int s1, .int s2, .ref 77], σ1) :=
  (aUn_eq (tkd G.1 G.2) tmi (aRun (tkd G.1 G.2) tmi tmt d) M_13 [] 1 (30, [some (.ref 76), some (.int x1), some (.int x2)], [.ref 76, .int s1, .int s2, .ref 77], σ)).trans rfl
set_option maxRecDepth 20000 in
theorem q_13_5460 (G : Nat × (Nat → Int32)) (d : Nat) (x1 : Int32) (x2 : Int32) (s0 : Int32) (s1 : Int32) (s2 : Int32) (σ : aH) : Lq G d M_13 (33, [some (.ref 76), some (.int x1), some (.int x2)], [.int s0, .int s1, .int s2, .ref 77], σ) = none :=
  (aUn_eq (tkd G.1 G.2) tmi (aRun (tkd G.1 G.2) tmi tmt d) M_13 [] 1 (33, [some (.ref 76), some (.int x1), some (.int x2)], [.int s0, .int s1, .int s2, .ref 77], σ)).trans rfl
set_option maxRecDepth 20000 in
theorem q_13_5461 (G : Nat × (Nat → Int32)) (d : Nat) (x1 : Int32) (x2 : Int32) (σ : aH) : Lq G d M_13 (7, [some (.ref 76), some (.int x1), some (.int x2)], [], σ) = Lq G d M_13 (14, [some (.ref 76), some (.int x1), some (.int x2)], [.ref 76, .int x2, .int x1, .ref 77], σ) :=
  (aUn_eq (tkd G.1 G.2) tmi (aRun (tkd G.1 G.2) tmi tmt d) M_13 [] 5 (7, [some (.ref 76), some (.int x1), some (.int x2)], [], σ)).trans rfl
set_option maxRecDepth 20000 in
theorem q_13_5462 (G : Nat × (Nat → Int32)) (d : Nat) (x1 : Int32) (x2 : Int32) (s1 : Int32) (s2 : Int32) (σ : aH) : Lq G d M_13 (14, [some (.ref 76), some (.int x1), some (.int x2)], [.ref 76, .int s1, .int s2, .ref 77], σ) = aCI (Rn G d 15 [.ref 76] σ) fun v2 σ1 => Lq G d M_13 (17, [some (.ref 76), some (.int x1), some (.int x2)], [.int v2, .int s1, .int s2, .ref 77], σ1) :=
  (aUn_eq (tkd G.1 G.2) tmi (aRun (tkd G.1 G.2) tmi tmt d) M_13 [] 1 (14, [some (.ref 76), some (.int x1), some (.int x2)], [.ref 76, .int s1, .int s2, .ref 77], σ)).trans rfl
set_option maxRecDepth 20000 in
theorem q_13_5463 (G : Nat × (Nat → Int32)) (d : Nat) (x1 : Int32) (x2 : Int32) (s0 : Int32) (s1 : Int32) (s2 : Int32) (σ : aH) : Lq G d M_13 (17, [some (.ref 76), some (.int x1), some (.int x2)], [.int s0, .int s1, .int s2, .ref 77], σ) = aCI (Rn G d 17 [.ref 77, .int s2, .int s1, .int s0] σ) fun v2 σ1 => Lq G d M_13 (20, [some (.ref 76), some (.int x1), some (.int x2)], [.int v2], σ1) :=
  (aUn_eq (tkd G.1 G.2) tmi (aRun (tkd G.1 G.2) tmi tmt d) M_13 [] 1 (17, [some (.ref 76), some (.int x1), some (.int x2)], [.int s0, .int s1, .int s2, .ref 77], σ)).trans rfl
set_option maxRecDepth 20000 in
theorem q_13_5464 (G : Nat × (Nat → Int32)) (d : Nat) (x1 : Int32) (x2 : Int32) (s0 : Int32) (σ : aH) : Lq G d M_13 (20, [some (.ref 76), some (.int x1), some (.int x2)], [.int s0], σ) = Lq G d M_13 (36, [some (.ref 76), some (.int x1), some (.int x2)], [.int s0], σ) :=
  (aUn_eq (tkd G.1 G.2) tmi (aRun (tkd G.1 G.2) tmi tmt d) M_13 [] 1 (20, [some (.ref 76), some (.int x1), some (.int x2)], [.int s0], σ)).trans rfl
set_option maxRecDepth 20000 in
theorem q_13_5465 (G : Nat × (Nat → Int32)) (d : Nat) (x1 : Int32) (x2 : Int32) (s0 : Int32) (σ : aH) : Lq G d M_13 (36, [some (.ref 76), some (.int x1), some (.int x2)], [.int s0], σ) = some (.inl (some (.int s0)), σ) :=
  (aUn_eq (tkd G.1 G.2) tmi (aRun (tkd G.1 G.2) tmi tmt d) M_13 [] 1 (36, [some (.ref 76), some (.int x1), some (.int x2)], [.int s0], σ)).trans rfl
set_option maxRecDepth 20000 in
theorem q_13_5466 (G : Nat × (Nat → Int32)) (d : Nat) (x1 : Int32) (x2 : Int32) (σ : aH) : Lq G d M_13 (0, [some (.ref 78), some (.int x1), some (.int x2)], [], σ) = Lq G d M_13 (1, [some (.ref 78), some (.int x1), some (.int x2)], [.ref 78], σ) :=
  (aUn_eq (tkd G.1 G.2) tmi (aRun (tkd G.1 G.2) tmi tmt d) M_13 [] 1 (0, [some (.ref 78), some (.int x1), some (.int x2)], [], σ)).trans rfl
set_option maxRecDepth 20000 in
theorem q_13_5467 (G : Nat × (Nat → Int32)) (d : Nat) (x1 : Int32) (x2 : Int32) (σ : aH) : Lq G d M_13 (1, [some (.ref 78), some (.int x1), some (.int x2)], [.ref 78], σ) = aCI (Rn G d 14 [.ref 78] σ) fun v2 σ1 => Lq G d M_13 (4, [some (.ref 78), some (.int x1), some (.int x2)], [.int v2], σ1) :=
  (aUn_eq (tkd G.1 G.2) tmi (aRun (tkd G.1 G.2) tmi tmt d) M_13 [] 1 (1, [some (.ref 78), some (.int x1), some (.int x2)], [.ref 78], σ)).trans rfl
set_option maxRecDepth 20000 in
theorem q_13_5468 (G : Nat × (Nat → Int32)) (d : Nat) (x1 : Int32) (x2 : Int32) (s0 : Int32) (σ : aH) : Lq G d M_13 (4, [some (.ref 78), some (.int x1), some (.int x2)], [.int s0], σ) = if s0 = 0 then Lq G d M_13 (23, [some (.ref 78), some (.int x1), some (.int x2)], [], σ) else Lq G d M_13 (7, [some (.ref 78), some (.int x1), some (.int x2)], [], σ) :=
  (aUn_eq (tkd G.1 G.2) tmi (aRun (tkd G.1 G.2) tmi tmt d) M_13 [] 1 (4, [some (.ref 78), some (.int x1), some (.int x2)], [.int s0], σ)).trans rfl
set_option maxRecDepth 20000 in
theorem q_13_5469 (G : Nat × (Nat → Int32)) (d : Nat) (x1 : Int32) (x2 : Int32) (σ : aH) : Lq G d M_13 (23, [some (.ref 78), some (.int x1), some (.int x2)], [], σ) = Lq G d M_13 (30, [some (.ref 78), some (.int x1), some (.int x2)], [.ref 78, .int x2, .int x1, .ref 79], σ) :=
  (aUn_eq (tkd G.1 G.2) tmi (aRun (tkd G.1 G.2) tmi tmt d) M_13 [] 5 (23, [some (.ref 78), some (.int x1), some (.int x2)], [], σ)).trans rfl
set_option maxRecDepth 20000 in
theorem q_13_5470 (G : Nat × (Nat → Int32)) (d : Nat) (x1 : Int32) (x2 : Int32) (s1 : Int32) (s2 : Int32) (σ : aH) : Lq G d M_13 (30, [some (.ref 78), some (.int x1), some (.int x2)], [.ref 78, .int s1, .int s2, .ref 79], σ) = aCI (Rn G d 15 [.ref 78] σ) fun v2 σ1 => Lq G d M_13 (33, [some (.ref 78), some (.int x1), some (.int x2)], [.int v2, .int s1, .int s2, .ref 79], σ1) :=
  (aUn_eq (tkd G.1 G.2) tmi (aRun (tkd G.1 G.2) tmi tmt d) M_13 [] 1 (30, [some (.ref 78), some (.int x1), some (.int x2)], [.ref 78, .int s1, .int s2, .ref 79], σ)).trans rfl
set_option maxRecDepth 20000 in
theorem q_13_5471 (G : Nat × (Nat → Int32)) (d : Nat) (x1 : Int32) (x2 : Int32) (s0 : Int32) (s1 : Int32) (s2 : Int32) (σ : aH) : Lq G d M_13 (33, [some (.ref 78), some (.int x1), some (.int x2)], [.int s0, .int s1, .int s2, .ref 79], σ) = none :=
  (aUn_eq (tkd G.1 G.2) tmi (aRun (tkd G.1 G.2) tmi tmt d) M_13 [] 1 (33, [some (.ref 78), some (.int x1), some (.int x2)], [.int s0, .int s1, .int s2, .ref 79], σ)).trans rfl
set_option maxRecDepth 20000 in
theorem q_13_5472 (G : Nat × (Nat → Int32)) (d : Nat) (x1 : Int32) (x2 : Int32) (σ : aH) : Lq G d M_13 (7, [some (.ref 78), some (.int x1), some (.int x2)], [], σ) = Lq G d M_13 (14, [some (.ref 78), some (.int x1), some (.int x2)], [.ref 78, .int x2, .int x1, .ref 79], σ) :=
  (aUn_eq (tkd G.1 G.2) tmi (aRun (tkd G.1 G.2) tmi tmt d) M_13 [] 5 (7, [some (.ref 78), some (.int x1), some (.int x2)], [], σ)).trans rfl
set_option maxRecDepth 20000 in
theorem q_13_5473 (G : Nat × (Nat → Int32)) (d : Nat) (x1 : Int32) (x2 : Int32) (s1 : Int32) (s2 : Int32) (σ : aH) : Lq G d M_13 (14, [some (.ref 78), some (.int x1), some (.int x2)], [.ref 78, .int s1, .int s2, .ref 79], σ) = aCI (Rn G d 15 [.ref 78] σ) fun v2 σ1 => Lq G d M_13 (17, [some (.ref 78), some (.int x1), some (.int x2)], [.int v2, .int s1, .int s2, .ref 79], σ1) :=
  (aUn_eq (tkd G.1 G.2) tmi (aRun (tkd G.1 G.2) tmi tmt d) M_13 [] 1 (14, [some (.ref 78), some (.int x1), some (.int x2)], [.ref 78, .int s1, .int s2, .ref 79], σ)).trans rfl
set_option maxRecDepth 20000 in
theorem q_13_5474 (G : Nat × (Nat → Int32)) (d : Nat) (x1 : Int32) (x2 : Int32) (s0 : Int32) (s1 : Int32) (s2 : Int32) (σ : aH) : Lq G d M_13 (17, [some (.ref 78), some (.int x1), some (.int x2)], [.int s0, .int s1, .int s2, .ref 79], σ) = aCI (Rn G d 17 [.ref 79, .int s2, .int s1, .int s0] σ) fun v2 σ1 => Lq G d M_13 (20, [some (.ref 78), some (.int x1), some (.int x2)], [.int v2], σ1) :=
  (aUn_eq (tkd G.1 G.2) tmi (aRun (tkd G.1 G.2) tmi tmt d) M_13 [] 1 (17, [some (.ref 78), some (.int x1), some (.int x2)], [.int s0, .int s1, .int s2, .ref 79], σ)).trans rfl
set_option maxRecDepth 20000 in
theorem q_13_5475 (G : Nat × (Nat → Int32)) (d : Nat) (x1 : Int32) (x2 : Int32) (s0 : Int32) (σ : aH) : Lq G d M_13 (20, [some (.ref 78), some (.int x1), some (.int x2)], [.int s0], σ) = Lq G d M_13 (36, [some (.ref 78), some (.int x1), some (.int x2)], [.int s0], σ) :=
  (aUn_eq (tkd G.1 G.2) tmi (aRun (tkd G.1 G.2) tmi tmt d) M_13 [] 1 (20, [some (.ref 78), some (.int x1), some (.int x2)], [.int s0], σ)).trans rfl
set_option maxRecDepth 20000 in
theorem q_13_5476 (G : Nat × (Nat → Int32)) (d : Nat) (x1 : Int32) (x2 : Int32) (s0 : Int32) (σ : aH) : Lq G d M_13 (36, [some (.ref 78), some (.int x1), some (.int x2)], [.int s0], σ) = some (.inl (some (.int s0)), σ) :=
  (aUn_eq (tkd G.1 G.2) tmi (aRun (tkd G.1 G.2) tmi tmt d) M_13 [] 1 (36, [some (.ref 78), some (.int x1), some (.int x2)], [.int s0], σ)).trans rfl
set_option maxRecDepth 20000 in
theorem q_13_5477 (G : Nat × (Nat → Int32)) (d : Nat) (x1 : Int32) (x2 : Int32) (σ : aH) : Lq G d M_13 (0, [some (.ref 80), some (.int x1), some (.int x2)], [], σ) = Lq G d M_13 (1, [some (.ref 80), some (.int x1), some (.int x2)], [.ref 80], σ) :=
  (aUn_eq (tkd G.1 G.2) tmi (aRun (tkd G.1 G.2) tmi tmt d) M_13 [] 1 (0, [some (.ref 80), some (.int x1), some (.int x2)], [], σ)).trans rfl
set_option maxRecDepth 20000 in
theorem q_13_5478 (G : Nat × (Nat → Int32)) (d : Nat) (x1 : Int32) (x2 : Int32) (σ : aH) : Lq G d M_13 (1, [some (.ref 80), some (.int x1), some (.int x2)], [.ref 80], σ) = aCI (Rn G d 14 [.ref 80] σ) fun v2 σ1 => Lq G d M_13 (4, [some (.ref 80), some (.int x1), some (.int x2)], [.int v2], σ1) :=
  (aUn_eq (tkd G.1 G.2) tmi (aRun (tkd G.1 G.2) tmi tmt d) M_13 [] 1 (1, [some (.ref 80), some (.int x1), some (.int x2)], [.ref 80], σ)).trans rfl
set_option maxRecDepth 20000 in
theorem q_13_5479 (G : Nat × (Nat → Int32)) (d : Nat) (x1 : Int32) (x2 : Int32) (s0 : Int32) (σ : aH) : Lq G d M_13 (4, [some (.ref 80), some (.int x1), some (.int x2)], [.int s0], σ) = if s0 = 0 then Lq G d M_13 (23, [some (.ref 80), some (.int x1), some (.int x2)], [], σ) else Lq G d M_13 (7, [some (.ref 80), some (.int x1), some (.int x2)], [], σ) :=
  (aUn_eq (tkd G.1 G.2) tmi (aRun (tkd G.1 G.2) tmi tmt d) M_13 [] 1 (4, [some (.ref 80), some (.int x1), some (.int x2)], [.int s0], σ)).trans rfl
set_option maxRecDepth 20000 in
theorem q_13_5480 (G : Nat × (Nat → Int32)) (d : Nat) (x1 : Int32) (x2 : Int32) (σ : aH) : Lq G d M_13 (23, [some (.ref 80), some (.int x1), some (.int x2)], [], σ) = Lq G d M_13 (30, [some (.ref 80), some (.int x1), some (.int x2)], [.ref 80, .int x2, .int x1, .ref 81], σ) :=
  (aUn_eq (tkd G.1 G.2) tmi (aRun (tkd G.1 G.2) tmi tmt d) M_13 [] 5 (23, [some (.ref 80), some (.int x1), some (.int x2)], [], σ)).trans rfl
set_option maxRecDepth 20000 in
theorem q_13_5481 (G : Nat × (Nat → Int32)) (d : Nat) (x1 : Int32) (x2 : Int32) (s1 : Int32) (s2 : Int32) (σ : aH) : Lq G d M_13 (30, [some (.ref 80), some (.int x1), some (.int x2)], [.ref 80, .int s1, .int s2, .ref 81], σ) = aCI (Rn G d 15 [.ref 80] σ) fun v2 σ1 => Lq G d M_13 (33, [some (.ref 80), some (.int x1), some (.int x2)], [.int v2, .int s1, .int s2, .ref 81], σ1) :=
  (aUn_eq (tkd G.1 G.2) tmi (aRun (tkd G.1 G.2) tmi tmt d) M_13 [] 1 (30, [some (.ref 80), some (.int x1), some (.int x2)], [.ref 80, .int s1, .int s2, .ref 81], σ)).trans rfl
set_option maxRecDepth 20000 in
theorem q_13_5482 (G : Nat × (Nat → Int32)) (d : Nat) (x1 : Int32) (x2 : Int32) (s0 : Int32) (s1 : Int32) (s2 : Int32) (σ : aH) : Lq G d M_13 (33, [some (.ref 80), some (.int x1), some (.int x2)], [.int s0, .int s1, .int s2, .ref 81], σ) = none :=
  (aUn_eq (tkd G.1 G.2) tmi (aRun (tkd G.1 G.2) tmi tmt d) M_13 [] 1 (33, [some (.ref 80), some (.int x1), some (.int x2)], [.int s0, .int s1, .int s2, .ref 81], σ)).trans rfl
set_option maxRecDepth 20000 in
theorem q_13_5483 (G : Nat × (Nat → Int32)) (d : Nat) (x1 : Int32) (x2 : Int32) (σ : aH) : Lq G d M_13 (7, [some (.ref 80), some (.int x1), some (.int x2)], [], σ) = Lq G d M_13 (14, [some (.ref 80), some (.int x1), some (.int x2)], [.ref 80, .int x2, .int x1, .ref 81], σ) :=
  (aUn_eq (tkd G.1 G.2) tmi (aRun (tkd G.1 G.2) tmi tmt d) M_13 [] 5 (7, [some (.ref 80), some (.int x1), some (.int x2)], [], σ)).trans rfl
set_option maxRecDepth 20000 in
theorem q_13_5484 (G : Nat × (Nat → Int32)) (d : Nat) (x1 : Int32) (x2 : Int32) (s1 : Int32) (s2 : Int32) (σ : aH) : Lq G d M_13 (14, [some (.ref 80), some (.int x1), some (.int x2)], [.ref 80, .int s1, .int s2, .ref 81], σ) = aCI (Rn G d 15 [.ref 80] σ) fun v2 σ1 => Lq G d M_13 (17, [some (.ref 80), some (.int x1), some (.int x2)], [.int v2, .int s1, .int s2, .ref 81], σ1) :=
  (aUn_eq (tkd G.1 G.2) tmi (aRun (tkd G.1 G.2) tmi tmt d) M_13 [] 1 (14, [some (.ref 80), some (.int x1), some (.int x2)], [.ref 80, .int s1, .int s2, .ref 81], σ)).trans rfl
set_option maxRecDepth 20000 in
theorem q_13_5485 (G : Nat × (Nat → Int32)) (d : Nat) (x1 : Int32) (x2 : Int32) (s0 : Int32) (s1 : Int32) (s2 : Int32) (σ : aH) : Lq G d M_13 (17, [some (.ref 80), some (.int x1), some (.int x2)], [.int s0, .int s1, .int s2, .ref 81], σ) = aCI (Rn G d 17 [.ref 81, .int s2, .int s1, .int s0] σ) fun v2 σ1 => Lq G d M_13 (20, [some (.ref 80), some (.int x1), some (.int x2)], [.int v2], σ1) :=
  (aUn_eq (tkd G.1 G.2) tmi (aRun (tkd G.1 G.2) tmi tmt d) M_13 [] 1 (17, [some (.ref 80), some (.int x1), some (.int x2)], [.int s0, .int s1, .int s2, .ref 81], σ)).trans rfl
set_option maxRecDepth 20000 in
theorem q_13_5486 (G : Nat × (Nat → Int32)) (d : Nat) (x1 : Int32) (x2 : Int32) (s0 : Int32) (σ : aH) : Lq G d M_13 (20, [some (.ref 80), some (.int x1), some (.int x2)], [.int s0], σ) = Lq G d M_13 (36, [some (.ref 80), some (.int x1), some (.int x2)], [.int s0], σ) :=
  (aUn_eq (tkd G.1 G.2) tmi (aRun (tkd G.1 G.2) tmi tmt d) M_13 [] 1 (20, [some (.ref 80), some (.int x1), some (.int x2)], [.int s0], σ)).trans rfl
set_option maxRecDepth 20000 in
theorem q_13_5487 (G : Nat × (Nat → Int32)) (d : Nat) (x1 : Int32) (x2 : Int32) (s0 : Int32) (σ : aH) : Lq G d M_13 (36, [some (.ref 80), some (.int x1), some (.int x2)], [.int s0], σ) = some (.inl (some (.int s0)), σ) :=
  (aUn_eq (tkd G.1 G.2) tmi (aRun (tkd G.1 G.2) tmi tmt d) M_13 [] 1 (36, [some (.ref 80), some (.int x1), some (.int x2)], [.int s0], σ)).trans rfl
set_option maxRecDepth 20000 in
theorem q_13_5488 (G : Nat × (Nat → Int32)) (d : Nat) (x1 : Int32) (x2 : Int32) (σ : aH) : Lq G d M_13 (0, [some (.ref 82), some (.int x1), some (.int x2)], [], σ) = Lq G d M_13 (1, [some (.ref 82), some (.int x1), some (.int x2)], [.ref 82], σ) :=
  (aUn_eq (tkd G.1 G.2) tmi (aRun (tkd G.1 G.2) tmi tmt d) M_13 [] 1 (0, [some (.ref 82), some (.int x1), some (.int x2)], [], σ)).trans rfl
set_option maxRecDepth 20000 in
theorem q_13_5489 (G : Nat × (Nat → Int32)) (d : Nat) (x1 : Int32) (x2 : Int32) (σ : aH) : Lq G d M_13 (1, [some (.ref 82), some (.int x1), some (.int x2)], [.ref 82], σ) = aCI (Rn G d 14 [.ref 82] σ) fun v2 σ1 => Lq G d M_13 (4, [some (.ref 82), some (.int x1), some (.int x2)], [.int v2], σ1) :=
  (aUn_eq (tkd G.1 G.2) tmi (aRun (tkd G.1 G.2) tmi tmt d) M_13 [] 1 (1, [some (.ref 82), some (.int x1), some (.int x2)], [.ref 82], σ)).trans rfl
set_option maxRecDepth 20000 in
theorem q_13_5490 (G : Nat × (Nat → Int32)) (d : Nat) (x1 : Int32) (x2 : Int32) (s0 : Int32) (σ : aH) : Lq G d M_13 (4, [some (.ref 82), some (.int x1), some (.int x2)], [.int s0], σ) = if s0 = 0 then Lq G d M_13 (23, [some (.ref 82), some (.int x1), some (.int x2)], [], σ) else Lq G d M_13 (7, [some (.ref 82), some (.int x1), some (.int x2)], [], σ) :=
  (aUn_eq (tkd G.1 G.2) tmi (aRun (tkd G.1 G.2) tmi tmt d) M_13 [] 1 (4, [some (.ref 82), some (.int x1), some (.int x2)], [.int s0], σ)).trans rfl
set_option maxRecDepth 20000 in
theorem q_13_5491 (G : Nat × (Nat → Int32)) (d : Nat) (x1 : Int32) (x2 : Int32) (σ : aH) : Lq G d M_13 (23, [some (.ref 82), some (.int x1), some (.int x2)], [], σ) = Lq G d M_13 (30, [some (.ref 82), some (.int x1), some (.int x2)], [.ref 82, .int x2, .int x1, .ref 83], σ) :=
  (aUn_eq (tkd G.1 G.2) tmi (aRun (tkd G.1 G.2) tmi tmt d) M_13 [] 5 (23, [some (.ref 82), some (.int x1), some (.int x2)], [], σ)).trans rfl
set_option maxRecDepth 20000 in
theorem q_13_5492 (G : Nat × (Nat → Int32)) (d : Nat) (x1 : Int32) (x2 : Int32) (s1 : Int32) (s2 : Int32) (σ : aH) : Lq G d M_13 (30, [some (.ref 82), some (.int x1), some (.int x2)], [.ref 82, .int s1, .int s2, .ref 83], σ) = aCI (Rn G d 15 [.ref 82] σ) fun v2 σ1 => Lq G d M_13 (33, [some (.ref 82), some (.int x1), some (.int x2)], [.int v2, .int s1, .int s2, .ref 83], σ1) :=
  (aUn_eq (tkd G.1 G.2) tmi (aRun (tkd G.1 G.2) tmi tmt d) M_13 [] 1 (30, [some (.ref 82), some (.int x1), some (.int x2)], [.ref 82, .int s1, .int s2, .ref 83], σ)).trans rfl
set_option maxRecDepth 20000 in
theorem q_13_5493 (G : Nat × (Nat → Int32)) (d : Nat) (x1 : Int32) (x2 : Int32) (s0 : Int32) (s1 : Int32) (s2 : Int32) (σ : aH) : Lq G d M_13 (33, [some (.ref 82), some (.int x1), some (.int x2)], [.int s0, .int s1, .int s2, .ref 83], σ) = none :=
  (aUn_eq (tkd G.1 G.2) tmi (aRun (tkd G.1 G.2) tmi tmt d) M_13 [] 1 (33, [some (.ref 82), some (.int x1), some (.int x2)], [.int s0, .int s1, .int s2, .ref 83], σ)).trans rfl
set_option maxRecDepth 20000 in
theorem q_13_5494 (G : Nat × (Nat → Int32)) (d : Nat) (x1 : Int32) (x2 : Int32) (σ : aH) : Lq G d M_13 (7, [some (.ref 82), some (.int x1), some (.int x2)], [], σ) = Lq G d M_13 (14, [some (.ref 82), some (.int x1), some (.int x2)], [.ref 82, .int x2, .int x1, .ref 83], σ) :=
  (aUn_eq (tkd G.1 G.2) tmi (aRun (tkd G.1 G.2) tmi tmt d) M_13 [] 5 (7, [some (.ref 82), some (.int x1), some (.int x2)], [], σ)).trans rfl
set_option maxRecDepth 20000 in
theorem q_13_5495 (G : Nat × (Nat → Int32)) (d : Nat) (x1 : Int32) (x2 : Int32) (s1 : Int32) (s2 : Int32) (σ : aH) : Lq G d M_13 (14, [some (.ref 82), some (.int x1), some (.int x2)], [.ref 82, .int s1, .int s2, .ref 83], σ) = aCI (Rn G d 15 [.ref 82] σ) fun v2 σ1 => Lq G d M_13 (17, [some (.ref 82), some (.int x1), some (.int x2)], [.int v2, .int s1, .int s2, .ref 83], σ1) :=
  (aUn_eq (tkd G.1 G.2) tmi (aRun (tkd G.1 G.2) tmi tmt d) M_13 [] 1 (14, [some (.ref 82), some (.int x1), some (.int x2)], [.ref 82, .int s1, .int s2, .ref 83], σ)).trans rfl
set_option maxRecDepth 20000 in
theorem q_13_5496 (G : Nat × (Nat → Int32)) (d : Nat) (x1 : Int32) (x2 : Int32) (s0 : Int32) (s1 : Int32) (s2 : Int32) (σ : aH) : Lq G d M_13 (17, [some (.ref 82), some (.int x1), some (.int x2)], [.int s0, .int s1, .int s2, .ref 83], σ) = aCI (Rn G d 17 [.ref 83, .int s2, .int s1, .int s0] σ) fun v2 σ1 => Lq G d M_13 (20, [some (.ref 82), some (.int x1), some (.int x2)], [.int v2], σ1) :=
  (aUn_eq (tkd G.1 G.2) tmi (aRun (tkd G.1 G.2) tmi tmt d) M_13 [] 1 (17, [some (.ref 82), some (.int x1), some (.int x2)], [.int s0, .int s1, .int s2, .ref 83], σ)).trans rfl
set_option maxRecDepth 20000 in
theorem q_13_5497 (G : Nat × (Nat → Int32)) (d : Nat) (x1 : Int32) (x2 : Int32) (s0 : Int32) (σ : aH) : Lq G d M_13 (20, [some (.ref 82), some (.int x1), some (.int x2)], [.int s0], σ) = Lq G d M_13 (36, [some (.ref 82), some (.int x1), some (.int x2)], [.int s0], σ) :=
  (aUn_eq (tkd G.1 G.2) tmi (aRun (tkd G.1 G.2) tmi tmt d) M_13 [] 1 (20, [some (.ref 82), some (.int x1), some (.int x2)], [.int s0], σ)).trans rfl
set_option maxRecDepth 20000 in
theorem q_13_5498 (G : Nat × (Nat → Int32)) (d : Nat) (x1 : Int32) (x2 : Int32) (s0 : Int32) (σ : aH) : Lq G d M_13 (36, [some (.ref 82), some (.int x1), some (.int x2)], [.int s0], σ) = some (.inl (some (.int s0)), σ) :=
  (aUn_eq (tkd G.1 G.2) tmi (aRun (tkd G.1 G.2) tmi tmt d) M_13 [] 1 (36, [some (.ref 82), some (.int x1), some (.int x2)], [.int s0], σ)).trans rfl
set_option maxRecDepth 20000 in
theorem q_13_5499 (G : Nat × (Nat → Int32)) (d : Nat) (x1 : Int32) (x2 : Int32) (σ : aH) : Lq G d M_13 (0, [some (.ref 84), some (.int x1), some (.int x2)], [], σ) = Lq G d M_13 (1, [some (.ref 84), some (.int x1), some (.int x2)], [.ref 84], σ) :=
  (aUn_eq (tkd G.1 G.2) tmi (aRun (tkd G.1 G.2) tmi tmt d) M_13 [] 1 (0, [some (.ref 84), some (.int x1), some (.int x2)], [], σ)).trans rfl
set_option maxRecDepth 20000 in
theorem q_13_5500 (G : Nat × (Nat → Int32)) (d : Nat) (x1 : Int32) (x2 : Int32) (σ : aH) : Lq G d M_13 (1, [some (.ref 84), some (.int x1), some (.int x2)], [.ref 84], σ) = aCI (Rn G d 14 [.ref 84] σ) fun v2 σ1 => Lq G d M_13 (4, [some (.ref 84), some (.int x1), some (.int x2)], [.int v2], σ1) :=
  (aUn_eq (tkd G.1 G.2) tmi (aRun (tkd G.1 G.2) tmi tmt d) M_13 [] 1 (1, [some (.ref 84), some (.int x1), some (.int x2)], [.ref 84], σ)).trans rfl
set_option maxRecDepth 20000 in
theorem q_13_5501 (G : Nat × (Nat → Int32)) (d : Nat) (x1 : Int32) (x2 : Int32) (s0 : Int32) (σ : aH) : Lq G d M_13 (4, [some (.ref 84), some (.int x1), some (.int x2)], [.int s0], σ) = if s0 = 0 then Lq G d M_13 (23, [some (.ref 84), some (.int x1), some (.int x2)], [], σ) else Lq G d M_13 (7, [some (.ref 84), some (.int x1), some (.int x2)], [], σ) :=
  (aUn_eq (tkd G.1 G.2) tmi (aRun (tkd G.1 G.2) tmi tmt d) M_13 [] 1 (4, [some (.ref 84), some (.int x1), some (.int x2)], [.int s0], σ)).trans rfl
set_option maxRecDepth 20000 in
theorem q_13_5502 (G : Nat × (Nat → Int32)) (d : Nat) (x1 : Int32) (x2 : Int32) (σ : aH) : Lq G d M_13 (23, [some (.ref 84), some (.int x1), some (.int x2)], [], σ) = Lq G d M_13 (30, [some (.ref 84), some (.int x1), some (.int x2)], [.ref 84, .int x2, .int x1, .ref 85], σ) :=
  (aUn_eq (tkd G.1 G.2) tmi (aRun (tkd G.1 G.2) tmi tmt d) M_13 [] 5 (23, [some (.ref 84), some (.int x1), some (.int x2)], [], σ)).trans rfl
set_option maxRecDepth 20000 in
theorem q_13_5503 (G : Nat × (Nat → Int32)) (d : Nat) (x1 : Int32) (x2 : Int32) (s1 : Int32) (s2 : Int32) (σ : aH) : Lq G d M_13 (30, [some (.ref 84), some (.int x1), some (.int x2)], [.ref 84, .int s1, .int s2, .ref 85], σ) = aCI (Rn G d 15 [.ref 84] σ) fun v2 σ1 => Lq G d M_13 (33, [some (.ref 84), some (.int x1), some (.int x2)], [.int v2, .int s1, .int s2, .ref 85], σ1) :=
  (aUn_eq (tkd G.1 G.2) tmi (aRun (tkd G.1 G.2) tmi tmt d) M_13 [] 1 (30, [some (.ref 84), some (.int x1), some (.int x2)], [.ref 84, .int s1, .int s2, .ref 85], σ)).trans rfl
set_option maxRecDepth 20000 in
theorem q_13_5504 (G : Nat × (Nat → Int32)) (d : Nat) (x1 : Int32) (x2 : Int32) (s0 : Int32) (s1 : Int32) (s2 : Int32) (σ : aH) : Lq G d M_13 (33, [some (.ref 84), some (.int x1), some (.int x2)], [.int s0, .int s1, .int s2, .ref 85], σ) = none :=
  (aUn_eq (tkd G.1 G.2) tmi (aRun (tkd G.1 G.2) tmi tmt d) M_13 [] 1 (33, [some (.ref 84), some (.int x1), some (.int x2)], [.int s0, .int s1, .int s2, .ref 85], σ)).trans rfl
set_option maxRecDepth 20000 in
theorem q_13_5505 (G : Nat × (Nat → Int32)) (d : Nat) (x1 : Int32) (x2 : Int32) (σ : aH) : Lq G d M_13 (7, [some (.ref 84), some (.int x1), some (.int x2)], [], σ) = Lq G d M_13 (14, [some (.ref 84), some (.int x1), some (.int x2)], [.ref 84, .int x2, .int x1, .ref 85], σ) :=
  (aUn_eq (tkd G.1 G.2) tmi (aRun (tkd G.1 G.2) tmi tmt d) M_13 [] 5 (7, [some (.ref 84), some (.int x1), some (.int x2)], [], σ)).trans rfl
set_option maxRecDepth 20000 in
theorem q_13_5506 (G : Nat × (Nat → Int32)) (d : Nat) (x1 : Int32) (x2 : Int32) (s1 : Int32) (s2 : Int32) (σ : aH) : Lq G d M_13 (14, [some (.ref 84), some (.int x1), some (.int x2)], [.ref 84, .int s1, .int s2, .ref 85], σ) = aCI (Rn G d 15 [.ref 84] σ) fun v2 σ1 => Lq G d M_13 (17, [some (.ref 84), some (.int x1), some (.int x2)], [.int v2, .int s1, .int s2, .ref 85], σ1) :=
  (aUn_eq (tkd G.1 G.2) tmi (aRun (tkd G.1 G.2) tmi tmt d) M_13 [] 1 (14, [some (.ref 84), some (.int x1), some (.int x2)], [.ref 84, .int s1, .int s2, .ref 85], σ)).trans rfl
set_option maxRecDepth 20000 in
theorem q_13_5507 (G : Nat × (Nat → Int32)) (d : Nat) (x1 : Int32) (x2 : Int32) (s0 : Int32) (s1 : Int32) (s2 : Int32) (σ : aH) : Lq G d M_13 (17, [some (.ref 84), some (.int x1), some (.int x2)], [.int s0, .int s1, .int s2, .ref 85], σ) = aCI (Rn G d 17 [.ref 85, .int s2, .int s1, .int s0] σ) fun v2 σ1 => Lq G d M_13 (20, [some (.ref 84), some (.int x1), some (.int x2)], [.int v2], σ1) :=
  (aUn_eq (tkd G.1 G.2) tmi (aRun (tkd G.1 G.2) tmi tmt d) M_13 [] 1 (17, [some (.ref 84), some (.int x1), some (.int x2)], [.int s0, .int s1, .int s2, .ref 85], σ)).trans rfl
set_option maxRecDepth 20000 in
theorem q_13_5508 (G : Nat × (Nat → Int32)) (d : Nat) (x1 : Int32) (x2 : Int32) (s0 : Int32) (σ : aH) : Lq G d M_13 (20, [some (.ref 84), some (.int x1), some (.int x2)], [.int s0], σ) = Lq G d M_13 (36, [some (.ref 84), some (.int x1), some (.int x2)], [.int s0], σ) :=
  (aUn_eq (tkd G.1 G.2) tmi (aRun (tkd G.1 G.2) tmi tmt d) M_13 [] 1 (20, [some (.ref 84), some (.int x1), some (.int x2)], [.int s0], σ)).trans rfl
set_option maxRecDepth 20000 in
theorem q_13_5509 (G : Nat × (Nat → Int32)) (d : Nat) (x1 : Int32) (x2 : Int32) (s0 : Int32) (σ : aH) : Lq G d M_13 (36, [some (.ref 84), some (.int x1), some (.int x2)], [.int s0], σ) = some (.inl (some (.int s0)), σ) :=
  (aUn_eq (tkd G.1 G.2) tmi (aRun (tkd G.1 G.2) tmi tmt d) M_13 [] 1 (36, [some (.ref 84), some (.int x1), some (.int x2)], [.int s0], σ)).trans rfl
set_option maxRecDepth 20000 in
theorem q_13_5510 (G : Nat × (Nat → Int32)) (d : Nat) (x1 : Int32) (x2 : Int32) (σ : aH) : Lq G d M_13 (0, [some (.ref 86), some (.int x1), some (.int x2)], [], σ) = Lq G d M_13 (1, [some (.ref 86), some (.int x1), some (.int x2)], [.ref 86], σ) :=
  (aUn_eq (tkd G.1 G.2) tmi (aRun (tkd G.1 G.2) tmi tmt d) M_13 [] 1 (0, [some (.ref 86), some (.int x1), some (.int x2)], [], σ)).trans rfl
set_option maxRecDepth 20000 in
theorem q_13_5511 (G : Nat × (Nat → Int32)) (d : Nat) (x1 : Int32) (x2 : Int32) (σ : aH) : Lq G d M_13 (1, [some (.ref 86), some (.int x1), some (.int x2)], [.ref 86], σ) = aCI (Rn G d 14 [.ref 86] σ) fun v2 σ1 => Lq G d M_13 (4, [some (.ref 86), some (.int x1), some (.int x2)], [.int v2], σ1) :=
  (aUn_eq (tkd G.1 G.2) tmi (aRun (tkd G.1 G.2) tmi tmt d) M_13 [] 1 (1, [some (.ref 86), some (.int x1), some (.int x2)], [.ref 86], σ)).trans rfl
set_option maxRecDepth 20000 in
theorem q_13_5512 (G : Nat × (Nat → Int32)) (d : Nat) (x1 : Int32) (x2 : Int32) (s0 : Int32) (σ : aH) : Lq G d M_13 (4, [some (.ref 86), some (.int x1), some (.int x2)], [.int s0], σ) = if s0 = 0 then Lq G d M_13 (23, [some (.ref 86), some (.int x1), some (.int x2)], [], σ) else Lq G d M_13 (7, [some (.ref 86), some (.int x1), some (.int x2)], [], σ) :=
  (aUn_eq (tkd G.1 G.2) tmi (aRun (tkd G.1 G.2) tmi tmt d) M_13 [] 1 (4, [some (.ref 86), some (.int x1), some (.int x2)], [.int s0], σ)).trans rfl
set_option maxRecDepth 20000 in
theorem q_13_5513 (G : Nat × (Nat → Int32)) (d : Nat) (x1 : Int32) (x2 : Int32) (σ : aH) : Lq G d M_13 (23, [some (.ref 86), some (.int x1), some (.int x2)], [], σ) = Lq G d M_13 (30, [some (.ref 86), some (.int x1), some (.int x2)], [.ref 86, .int x2, .int x1, .ref 87], σ) :=
  (aUn_eq (tkd G.1 G.2) tmi (aRun (tkd G.1 G.2) tmi tmt d) M_13 [] 5 (23, [some (.ref 86), some (.int x1), some (.int x2)], [], σ)).trans rfl
set_option maxRecDepth 20000 in
theorem q_13_5514 (G : Nat × (Nat → Int32)) (d : Nat) (x1 : Int32) (x2 : Int32) (s1 : Int32) (s2 : Int32) (σ : aH) : Lq G d M_13 (30, [some (.ref 86), some (.int x1), some (.int x2)], [.ref 86, .int s1, .int s2, .ref 87], σ) = aCI (Rn G d 15 [.ref 86] σ) fun v2 σ1 => Lq G d M_13 (33, [some (.ref 86), some (.int x1), some (.int x2)], [.int v2, .int s1, .int s2, .ref 87], σ1) :=
  (aUn_eq (tkd G.1 G.2) tmi (aRun (tkd G.1 G.2) tmi tmt d) M_13 [] 1 (30, [some (.ref 86), some (.int x1), some (.int x2)], [.ref 86, .int s1, .int s2, .ref 87], σ)).trans rfl
set_option maxRecDepth 20000 in
theorem q_13_5515 (G : Nat × (Nat → Int32)) (d : Nat) (x1 : Int32) (x2 : Int32) (s0 : Int32) (s1 : Int32) (s2 : Int32) (σ : aH) : Lq G d M_13 (33, [some (.ref 86), some (.int x1), some (.int x2)], [.int s0, .int s1, .int s2, .ref 87], σ) = none :=
  (aUn_eq (tkd G.1 G.2) tmi (aRun (tkd G.1 G.2) tmi tmt d) M_13 [] 1 (33, [some (.ref 86), some (.int x1), some (.int x2)], [.int s0, .int s1, .int s2, .ref 87], σ)).trans rfl
set_option maxRecDepth 20000 in
theorem q_13_5516 (G : Nat × (Nat → Int32)) (d : Nat) (x1 : Int32) (x2 : Int32) (σ : aH) : Lq G d M_13 (7, [some (.ref 86), some (.int x1), some (.int x2)], [], σ) = Lq G d M_13 (14, [some (.ref 86), some (.int x1), some (.int x2)], [.ref 86, .int x2, .int x1, .ref 87], σ) :=
  (aUn_eq (tkd G.1 G.2) tmi (aRun (tkd G.1 G.2) tmi tmt d) M_13 [] 5 (7, [some (.ref 86), some (.int x1), some (.int x2)], [], σ)).trans rfl
set_option maxRecDepth 20000 in
theorem q_13_5517 (G : Nat × (Nat → Int32)) (d : Nat) (x1 : Int32) (x2 : Int32) (s1 : Int32) (s2 : Int32) (σ : aH) : Lq G d M_13 (14, [some (.ref 86), some (.int x1), some (.int x2)], [.ref 86, .int s1, .int s2, .ref 87], σ) = aCI (Rn G d 15 [.ref 86] σ) fun v2 σ1 => Lq G d M_13 (17, [some (.ref 86), some (.int x1), some (.int x2)], [.int v2, .int s1, .int s2, .ref 87], σ1) :=
  (aUn_eq (tkd G.1 G.2) tmi (aRun (tkd G.1 G.2) tmi tmt d) M_13 [] 1 (14, [some (.ref 86), some (.int x1), some (.int x2)], [.ref 86, .int s1, .int s2, .ref 87], σ)).trans rfl
set_option maxRecDepth 20000 in
theorem q_13_5518 (G : Nat × (Nat → Int32)) (d : Nat) (x1 : Int32) (x2 : Int32) (s0 : Int32) (s1 : Int32) (s2 : Int32) (σ : aH) : Lq G d M_13 (17, [some (.ref 86), some (.int x1), some (.int x2)], [.int s0, .int s1, .int s2, .ref 87], σ) = aCI (Rn G d 17 [.ref 87, .int s2, .int s1, .int s0] σ) fun v2 σ1 => Lq G d M_13 (20, [some (.ref 86), some (.int x1), some (.int x2)], [.int v2], σ1) :=
  (aUn_eq (tkd G.1 G.2) tmi (aRun (tkd G.1 G.2) tmi tmt d) M_13 [] 1 (17, [some (.ref 86), some (.int x1), some (.int x2)], [.int s0, .int s1, .int s2, .ref 87], σ)).trans rfl
set_option maxRecDepth 20000 in
theorem q_13_5519 (G : Nat × (Nat → Int32)) (d : Nat) (x1 : Int32) (x2 : Int32) (s0 : Int32) (σ : aH) : Lq G d M_13 (20, [some (.ref 86), some (.int x1), some (.int x2)], [.int s0], σ) = Lq G d M_13 (36, [some (.ref 86), some (.int x1), some (.int x2)], [.int s0], σ) :=
  (aUn_eq (tkd G.1 G.2) tmi (aRun (tkd G.1 G.2) tmi tmt d) M_13 [] 1 (20, [some (.ref 86), some (.int x1), some (.int x2)], [.int s0], σ)).trans rfl
set_option maxRecDepth 20000 in
theorem q_13_5520 (G : Nat × (Nat → Int32)) (d : Nat) (x1 : Int32) (x2 : Int32) (s0 : Int32) (σ : aH) : Lq G d M_13 (36, [some (.ref 86), some (.int x1), some (.int x2)], [.int s0], σ) = some (.inl (some (.int s0)), σ) :=
  (aUn_eq (tkd G.1 G.2) tmi (aRun (tkd G.1 G.2) tmi tmt d) M_13 [] 1 (36, [some (.ref 86), some (.int x1), some (.int x2)], [.int s0], σ)).trans rfl
set_option maxRecDepth 20000 in
theorem q_13_5521 (G : Nat × (Nat → Int32)) (d : Nat) (x1 : Int32) (x2 : Int32) (σ : aH) : Lq G d M_13 (0, [some (.ref 88), some (.int x1), some (.int x2)], [], σ) = Lq G d M_13 (1, [some (.ref 88), some (.int x1), some (.int x2)], [.ref 88], σ) :=
  (aUn_eq (tkd G.1 G.2) tmi (aRun (tkd G.1 G.2) tmi tmt d) M_13 [] 1 (0, [some (.ref 88), some (.int x1), some (.int x2)], [], σ)).trans rfl
set_option maxRecDepth 20000 in
theorem q_13_5522 (G : Nat × (Nat → Int32)) (d : Nat) (x1 : Int32) (x2 : Int32) (σ : aH) : Lq G d M_13 (1, [some (.ref 88), some (.int x1), some (.int x2)], [.ref 88], σ) = aCI (Rn G d 14 [.ref 88] σ) fun v2 σ1 => Lq G d M_13 (4, [some (.ref 88), some (.int x1), some (.int x2)], [.int v2], σ1) :=
  (aUn_eq (tkd G.1 G.2) tmi (aRun (tkd G.1 G.2) tmi tmt d) M_13 [] 1 (1, [some (.ref 88), some (.int x1), some (.int x2)], [.ref 88], σ)).trans rfl
set_option maxRecDepth 20000 in
theorem q_13_5523 (G : Nat × (Nat → Int32)) (d : Nat) (x1 : Int32) (x2 : Int32) (s0 : Int32) (σ : aH) : Lq G d M_13 (4, [some (.ref 88), some (.int x1), some (.int x2)], [.int s0], σ) = if s0 = 0 then Lq G d M_13 (23, [some (.ref 88), some (.int x1), some (.int x2)], [], σ) else Lq G d M_13 (7, [some (.ref 88), some (.int x1), some (.int x2)], [], σ) :=
  (aUn_eq (tkd G.1 G.2) tmi (aRun (tkd G.1 G.2) tmi tmt d) M_13 [] 1 (4, [some (.ref 88), some (.int x1), some (.int x2)], [.int s0], σ)).trans rfl
set_option maxRecDepth 20000 in
theorem q_13_5524 (G : Nat × (Nat → Int32)) (d : Nat) (x1 : Int32) (x2 : Int32) (σ : aH) : Lq G d M_13 (23, [some (.ref 88), some (.int x1), some (.int x2)], [], σ) = Lq G d M_13 (30, [some (.ref 88), some (.int x1), some (.int x2)], [.ref 88, .int x2, .int x1, .ref 89], σ) :=
  (aUn_eq (tkd G.1 G.2) tmi (aRun (tkd G.1 G.2) tmi tmt d) M_13 [] 5 (23, [some (.ref 88), some (.int x1), some (.int x2)], [], σ)).trans rfl
set_option maxRecDepth 20000 in
theorem q_13_5525 (G : Nat × (Nat → Int32)) (d : Nat) (x1 : Int32) (x2 : Int32) (s1 : Int32) (s2 : Int32) (σ : aH) : Lq G d M_13 (30, [some (.ref 88), some (.int x1), some (.int x2)], [.ref 88, .int s1, .int s2, .ref 89], σ) = aCI (Rn G d 15 [.ref 88] σ) fun v2 σ1 => Lq G d M_13 (33, [some (.ref 88), some (.int x1), some (.int x2)], [.int v2, .int s1, .int s2, .ref 89], σ1) :=
  (aUn_eq (tkd G.1 G.2) tmi (aRun (tkd G.1 G.2) tmi tmt d) M_13 [] 1 (30, [some (.ref 88), some (.int x1), some (.int x2)], [.ref 88, .int s1, .int s2, .ref 89], σ)).trans rfl
set_option maxRecDepth 20000 in
theorem q_13_5526 (G : Nat × (Nat → Int32)) (d : Nat) (x1 : Int32) (x2 : Int32) (s0 : Int32) (s1 : Int32) (s2 : Int32) (σ : aH) : Lq G d M_13 (33, [some (.ref 88), some (.int x1), some (.int x2)], [.int s0, .int s1, .int s2, .ref 89], σ) = none :=
  (aUn_eq (tkd G.1 G.2) tmi (aRun (tkd G.1 G.2) tmi tmt d) M_13 [] 1 (33, [some (.ref 88), some (.int x1), some (.int x2)], [.int s0, .int s1, .int s2, .ref 89], σ)).trans rfl
set_option maxRecDepth 20000 in
theorem q_13_5527 (G : Nat × (Nat → Int32)) (d : Nat) (x1 : Int32) (x2 : Int32) (σ : aH) : Lq G d M_13 (7, [some (.ref 88), some (.int x1), some (.int x2)], [], σ) = Lq G d M_13 (14, [some (.ref 88), some (.int x1), some (.int x2)], [.ref 88, .int x2, .int x1, .ref 89], σ) :=
  (aUn_eq (tkd G.1 G.2) tmi (aRun (tkd G.1 G.2) tmi tmt d) M_13 [] 5 (7, [some (.ref 88), some (.int x1), some (.int x2)], [], σ)).trans rfl
set_option maxRecDepth 20000 in
theorem q_13_5528 (G : Nat × (Nat → Int32)) (d : Nat) (x1 : Int32) (x2 : Int32) (s1 : Int32) (s2 : Int32) (σ : aH) : Lq G d M_13 (14, [some (.ref 88), some (.int x1), some (.int x2)], [.ref 88, .int s1, .int s2, .ref 89], σ) = aCI (Rn G d 15 [.ref 88] σ) fun v2 σ1 => Lq G d M_13 (17, [some (.ref 88), some (.int x1), some (.int x2)], [.int v2, .int s1, .int s2, .ref 89], σ1) :=
  (aUn_eq (tkd G.1 G.2) tmi (aRun (tkd G.1 G.2) tmi tmt d) M_13 [] 1 (14, [some (.ref 88), some (.int x1), some (.int x2)], [.ref 88, .int s1, .int s2, .ref 89], σ)).trans rfl
set_option maxRecDepth 20000 in
theorem q_13_5529 (G : Nat × (Nat → Int32)) (d : Nat) (x1 : Int32) (x2 : Int32) (s0 : Int32) (s1 : Int32) (s2 : Int32) (σ : aH) : Lq G d M_13 (17, [some (.ref 88), some (.int x1), some (.int x2)], [.int s0, .int s1, .int s2, .ref 89], σ) = aCI (Rn G d 17 [.ref 89, .int s2, .int s1, .int s0] σ) fun v2 σ1 => Lq G d M_13 (20, [some (.ref 88), some (.int x1), some (.int x2)], [.int v2], σ1) :=
  (aUn_eq (tkd G.1 G.2) tmi (aRun (tkd G.1 G.2) tmi tmt d) M_13 [] 1 (17, [some (.ref 88), some (.int x1), some (.int x2)], [.int s0, .int s1, .int s2, .ref 89], σ)).trans rfl
set_option maxRecDepth 20000 in
theorem q_13_5530 (G : Nat × (Nat → Int32)) (d : Nat) (x1 : Int32) (x2 : Int32) (s0 : Int32) (σ : aH) : Lq G d M_13 (20, [some (.ref 88), some (.int x1), some (.int x2)], [.int s0], σ) = Lq G d M_13 (36, [some (.ref 88), some (.int x1), some (.int x2)], [.int s0], σ) :=
  (aUn_eq (tkd G.1 G.2) tmi (aRun (tkd G.1 G.2) tmi tmt d) M_13 [] 1 (20, [some (.ref 88), some (.int x1), some (.int x2)], [.int s0], σ)).trans rfl
set_option maxRecDepth 20000 in
theorem q_13_5531 (G : Nat × (Nat → Int32)) (d : Nat) (x1 : Int32) (x2 : Int32) (s0 : Int32) (σ : aH) : Lq G d M_13 (36, [some (.ref 88), some (.int x1), some (.int x2)], [.int s0], σ) = some (.inl (some (.int s0)), σ) :=
  (aUn_eq (tkd G.1 G.2) tmi (aRun (tkd G.1 G.2) tmi tmt d) M_13 [] 1 (36, [some (.ref 88), some (.int x1), some (.int x2)], [.int s0], σ)).trans rfl
set_option maxRecDepth 20000 in
theorem q_13_5532 (G : Nat × (Nat → Int32)) (d : Nat) (x1 : Int32) (x2 : Int32) (σ : aH) : Lq G d M_13 (0, [some (.ref 90), some (.int x1), some (.int x2)], [], σ) = Lq G d M_13 (1, [some (.ref 90), some (.int x1), some (.int x2)], [.ref 90], σ) :=
  (aUn_eq (tkd G.1 G.2) tmi (aRun (tkd G.1 G.2) tmi tmt d) M_13 [] 1 (0, [some (.ref 90), some (.int x1), some (.int x2)], [], σ)).trans rfl
set_option maxRecDepth 20000 in
theorem q_13_5533 (G : Nat × (Nat → Int32)) (d : Nat) (x1 : Int32) (x2 : Int32) (σ : aH) : Lq G d M_13 (1, [some (.ref 90), some (.int x1), some (.int x2)], [.ref 90], σ) = aCI (Rn G d 14 [.ref 90] σ) fun v2 σ1 => Lq G d M_13 (4, [some (.ref 90), some (.int x1), some (.int x2)], [.int v2], σ1) :=
  (aUn_eq (tkd G.1 G.2) tmi (aRun (tkd G.1 G.2) tmi tmt d) M_13 [] 1 (1, [some (.ref 90), some (.int x1), some (.int x2)], [.ref 90], σ)).trans rfl
set_option maxRecDepth 20000 in
theorem q_13_5534 (G : Nat × (Nat → Int32)) (d : Nat) (x1 : Int32) (x2 : Int32) (s0 : Int32) (σ : aH) : Lq G d M_13 (4, [some (.ref 90), some (.int x1), some (.int x2)], [.int s0], σ) = if s0 = 0 then Lq G d M_13 (23, [some (.ref 90), some (.int x1), some (.int x2)], [], σ) else Lq G d M_13 (7, [some (.ref 90), some (.int x1), some (.int x2)], [], σ) :=
  (aUn_eq (tkd G.1 G.2) tmi (aRun (tkd G.1 G.2) tmi tmt d) M_13 [] 1 (4, [some (.ref 90), some (.int x1), some (.int x2)], [.int s0], σ)).trans rfl
set_option maxRecDepth 20000 in
theorem q_13_5535 (G : Nat × (Nat → Int32)) (d : Nat) (x1 : Int32) (x2 : Int32) (σ : aH) : Lq G d M_13 (23, [some (.ref 90), some (.int x1), some (.int x2)], [], σ) = Lq G d M_13 (30, [some (.ref 90), some (.int x1), some (.int x2)], [.ref 90, .int x2, .int x1, .ref 91], σ) :=
  (aUn_eq (tkd G.1 G.2) tmi (aRun (tkd G.1 G.2) tmi tmt d) M_13 [] 5 (23, [some (.ref 90), some (.int x1), some (.int x2)], [], σ)).trans rfl
set_option maxRecDepth 20000 in
theorem q_13_5536 (G : Nat × (Nat → Int32)) (d : Nat) (x1 : Int32) (x2 : Int32) (s1 : Int32) (s2 : Int32) (σ : aH) : Lq G d M_13 (30, [some (.ref 90), some (.int x1), some (.int x2)], [.ref 90, .int s1, .int s2, .ref 91], σ) = aCI (Rn G d 15 [.ref 90] σ) fun v2 σ1 => Lq G d M_13 (33, [some (.ref 90), some (.int x1), some (.int x2)], [.int v2, .int s1, .int s2, .ref 91], σ1) :=
  (aUn_eq (tkd G.1 G.2) tmi (aRun (tkd G.1 G.2) tmi tmt d) M_13 [] 1 (30, [some (.ref 90), some (.int x1), some (.int x2)], [.ref 90, .int s1, .int s2, .ref 91], σ)).trans rfl
set_option maxRecDepth 20000 in
theorem q_13_5537 (G : Nat × (Nat → Int32)) (d : Nat) (x1 : Int32) (x2 : Int32) (s0 : Int32) (s1 : Int32) (s2 : Int32) (σ : aH) : Lq G d M_13 (33, [some (.ref 90), some (.int x1), some (.int x2)], [.int s0, .int s1, .int s2, .ref 91], σ) = none :=
  (aUn_eq (tkd G.1 G.2) tmi (aRun (tkd G.1 G.2) tmi tmt d) M_13 [] 1 (33, [some (.ref 90), some (.int x1), some (.int x2)], [.int s0, .int s1, .int s2, .ref 91], σ)).trans rfl
set_option maxRecDepth 20000 in
theorem q_13_5538 (G : Nat × (Nat → Int32)) (d : Nat) (x1 : Int32) (x2 : Int32) (σ : aH) : Lq G d M_13 (7, [some (.ref 90), some (.int x1), some (.int x2)], [], σ) = Lq G d M_13 (14, [some (.ref 90), some (.int x1), some (.int x2)], [.ref 90, .int x2, .int x1, .ref 91], σ) :=
  (aUn_eq (tkd G.1 G.2) tmi (aRun (tkd G.1 G.2) tmi tmt d) M_13 [] 5 (7, [some (.ref 90), some (.int x1), some (.int x2)], [], σ)).trans rfl
set_option maxRecDepth 20000 in
theorem q_13_5539 (G : Nat × (Nat → Int32)) (d : Nat) (x1 : Int32) (x2 : Int32) (s1 : Int32) (s2 : Int32) (σ : aH) : Lq G d M_13 (14, [some (.ref 90), some (.int x1), some (.int x2)], [.ref 90, .int s1, .int s2, .ref 91], σ) = aCI (Rn G d 15 [.ref 90] σ) fun v2 σ1 => Lq G d M_13 (17, [some (.ref 90), some (.int x1), some (.int x2)], [.int v2, .int s1, .int s2, .ref 91], σ1) :=
  (aUn_eq (tkd G.1 G.2) tmi (aRun (tkd G.1 G.2) tmi tmt d) M_13 [] 1 (14, [some (.ref 90), some (.int x1), some (.int x2)], [.ref 90, .int s1, .int s2, .ref 91], σ)).trans rfl
set_option maxRecDepth 20000 in
theorem q_13_5540 (G : Nat × (Nat → Int32)) (d : Nat) (x1 : Int32) (x2 : Int32) (s0 : Int32) (s1 : Int32) (s2 : Int32) (σ : aH) : Lq G d M_13 (17, [some (.ref 90), some (.int x1), some (.int x2)], [.int s0, .int s1, .int s2, .ref 91], σ) = aCI (Rn G d 17 [.ref 91, .int s2, .int s1, .int s0] σ) fun v2 σ1 => Lq G d M_13 (20, [some (.ref 90), some (.int x1), some (.int x2)], [.int v2], σ1) :=
  (aUn_eq (tkd G.1 G.2) tmi (aRun (tkd G.1 G.2) tmi tmt d) M_13 [] 1 (17, [some (.ref 90), some (.int x1), some (.int x2)], [.int s0, .int s1, .int s2, .ref 91], σ)).trans rfl
set_option maxRecDepth 20000 in
theorem q_13_5541 (G : Nat × (Nat → Int32)) (d : Nat) (x1 : Int32) (x2 : Int32) (s0 : Int32) (σ : aH) : Lq G d M_13 (20, [some (.ref 90), some (.int x1), some (.int x2)], [.int s0], σ) = Lq G d M_13 (36, [some (.ref 90), some (.int x1), some (.int x2)], [.int s0], σ) :=
  (aUn_eq (tkd G.1 G.2) tmi (aRun (tkd G.1 G.2) tmi tmt d) M_13 [] 1 (20, [some (.ref 90), some (.int x1), some (.int x2)], [.int s0], σ)).trans rfl
set_option maxRecDepth 20000 in
theorem q_13_5542 (G : Nat × (Nat → Int32)) (d : Nat) (x1 : Int32) (x2 : Int32) (s0 : Int32) (σ : aH) : Lq G d M_13 (36, [some (.ref 90), some (.int x1), some (.int x2)], [.int s0], σ) = some (.inl (some (.int s0)), σ) :=
  (aUn_eq (tkd G.1 G.2) tmi (aRun (tkd G.1 G.2) tmi tmt d) M_13 [] 1 (36, [some (.ref 90), some (.int x1), some (.int x2)], [.int s0], σ)).trans rfl
set_option maxRecDepth 20000 in
theorem q_13_5543 (G : Nat × (Nat → Int32)) (d : Nat) (x1 : Int32) (x2 : Int32) (σ : aH) : Lq G d M_13 (0, [some (.ref 92), some (.int x1), some (.int x2)], [], σ) = Lq G d M_13 (1, [some (.ref 92), some (.int x1), some (.int x2)], [.ref 92], σ) :=
  (aUn_eq (tkd G.1 G.2) tmi (aRun (tkd G.1 G.2) tmi tmt d) M_13 [] 1 (0, [some (.ref 92), some (.int x1), some (.int x2)], [], σ)).trans rfl
set_option maxRecDepth 20000 in
theorem q_13_5544 (G : Nat × (Nat → Int32)) (d : Nat) (x1 : Int32) (x2 : Int32) (σ : aH) : Lq G d M_13 (1, [some (.ref 92), some (.int x1), some (.int x2)], [.ref 92], σ) = aCI (Rn G d 14 [.ref 92] σ) fun v2 σ1 => Lq G d M_13 (4, [some (.ref 92), some (.int x1), some (.int x2)], [.int v2], σ1) :=
  (aUn_eq (tkd G.1 G.2) tmi (aRun (tkd G.1 G.2) tmi tmt d) M_13 [] 1 (1, [some (.ref 92), some (.int x1), some (.int x2)], [.ref 92], σ)).trans rfl
set_option maxRecDepth 20000 in
theorem q_13_5545 (G : Nat × (Nat → Int32)) (d : Nat) (x1 : Int32) (x2 : Int32) (s0 : Int32) (σ : aH) : Lq G d M_13 (4, [some (.ref 92), some (.int x1), some (.int x2)], [.int s0], σ) = if s0 = 0 then Lq G d M_13 (23, [some (.ref 92), some (.int x1), some (.int x2)], [], σ) else Lq G d M_13 (7, [some (.ref 92), some (.int x1), some (.int x2)], [], σ) :=
  (aUn_eq (tkd G.1 G.2) tmi (aRun (tkd G.1 G.2) tmi tmt d) M_13 [] 1 (4, [some (.ref 92), some (.int x1), some (.int x2)], [.int s0], σ)).trans rfl
set_option maxRecDepth 20000 in
theorem q_13_5546 (G : Nat × (Nat → Int32)) (d : Nat) (x1 : Int32) (x2 : Int32) (σ : aH) : Lq G d M_13 (23, [some (.ref 92), some (.int x1), some (.int x2)], [], σ) = Lq G d M_13 (30, [some (.ref 92), some (.int x1), some (.int x2)], [.ref 92, .int x2, .int x1, .ref 93], σ) :=
  (aUn_eq (tkd G.1 G.2) tmi (aRun (tkd G.1 G.2) tmi tmt d) M_13 [] 5 (23, [some (.ref 92), some (.int x1), some (.int x2)], [], σ)).trans rfl
set_option maxRecDepth 20000 in
theorem q_13_5547 (G : Nat × (Nat → Int32)) (d : Nat) (x1 : Int32) (x2 : Int32) (s1 : Int32) (s2 : Int32) (σ : aH) : Lq G d M_13 (30, [some (.ref 92), some (.int x1), some (.int x2)], [.ref 92, .int s1, .int s2, .ref 93], σ) = aCI (Rn G d 15 [.ref 92] σ) fun v2 σ1 => Lq G d M_13 (33, [some (.ref 92), some (.int x1), some (.int x2)], [.int v2, .int s1, .int s2, .ref 93], σ1) :=
  (aUn_eq (tkd G.1 G.2) tmi (aRun (tkd G.1 G.2) tmi tmt d) M_13 [] 1 (30, [some (.ref 92), some (.int x1), some (.int x2)], [.ref 92, .int s1, .int s2, .ref 93], σ)).trans rfl
set_option maxRecDepth 20000 in
theorem q_13_5548 (G : Nat × (Nat → Int32)) (d : Nat) (x1 : Int32) (x2 : Int32) (s0 : Int32) (s1 : Int32) (s2 : Int32) (σ : aH) : Lq G d M_13 (33, [some (.ref 92), some (.int x1), some (.int x2)], [.int s0, .int s1, .int s2, .ref 93], σ) = none :=
  (aUn_eq (tkd G.1 G.2) tmi (aRun (tkd G.1 G.2) tmi tmt d) M_13 [] 1 (33, [some (.ref 92), some (.int x1), some (.int x2)], [.int s0, .int s1, .int s2, .ref 93], σ)).trans rfl
set_option maxRecDepth 20000 in
theorem q_13_5549 (G : Nat × (Nat → Int32)) (d : Nat) (x1 : Int32) (x2 : Int32) (σ : aH) : Lq G d M_13 (7, [some (.ref 92), some (.int x1), some (.int x2)], [], σ) = Lq G d M_13 (14, [some (.ref 92), some (.int x1), some (.int x2)], [.ref 92, .int x2, .int x1, .ref 93], σ) :=
  (aUn_eq (tkd G.1 G.2) tmi (aRun (tkd G.1 G.2) tmi tmt d) M_13 [] 5 (7, [some (.ref 92), some (.int x1), some (.int x2)], [], σ)).trans rfl
set_option maxRecDepth 20000 in
theorem q_13_5550 (G : Nat × (Nat → Int32)) (d : Nat) (x1 : Int32) (x2 : Int32) (s1 : Int32) (s2 : Int32) (σ : aH) : Lq G d M_13 (14, [some (.ref 92), some (.int x1), some (.int x2)], [.ref 92, .int s1, .int s2, .ref 93], σ) = aCI (Rn G d 15 [.ref 92] σ) fun v2 σ1 => Lq G d M_13 (17, [some (.ref 92), some (.int x1), some (.int x2)], [.int v2, .int s1, .int s2, .ref 93], σ1) :=
  (aUn_eq (tkd G.1 G.2) tmi (aRun (tkd G.1 G.2) tmi tmt d) M_13 [] 1 (14, [some (.ref 92), some (.int x1), some (.int x2)], [.ref 92, .int s1, .int s2, .ref 93], σ)).trans rfl
set_option maxRecDepth 20000 in
theorem q_13_5551 (G : Nat × (Nat → Int32)) (d : Nat) (x1 : Int32) (x2 : Int32) (s0 : Int32) (s1 : Int32) (s2 : Int32) (σ : aH) : Lq G d M_13 (17, [some (.ref 92), some (.int x1), some (.int x2)], [.int s0, .int s1, .int s2, .ref 93], σ) = aCI (Rn G d 17 [.ref 93, .int s2, .int s1, .int s0] σ) fun v2 σ1 => Lq G d M_13 (20, [some (.ref 92), some (.int x1), some (.int x2)], [.int v2], σ1) :=
  (aUn_eq (tkd G.1 G.2) tmi (aRun (tkd G.1 G.2) tmi tmt d) M_13 [] 1 (17, [some (.ref 92), some (.int x1), some (.int x2)], [.int s0, .int s1, .int s2, .ref 93], σ)).trans rfl
set_option maxRecDepth 20000 in
theorem q_13_5552 (G : Nat × (Nat → Int32)) (d : Nat) (x1 : Int32) (x2 : Int32) (s0 : Int32) (σ : aH) : Lq G d M_13 (20, [some (.ref 92), some (.int x1), some (.int x2)], [.int s0], σ) = Lq G d M_13 (36, [some (.ref 92), some (.int x1), some (.int x2)], [.int s0], σ) :=
  (aUn_eq (tkd G.1 G.2) tmi (aRun (tkd G.1 G.2) tmi tmt d) M_13 [] 1 (20, [some (.ref 92), some (.int x1), some (.int x2)], [.int s0], σ)).trans rfl
set_option maxRecDepth 20000 in
theorem q_13_5553 (G : Nat × (Nat → Int32)) (d : Nat) (x1 : Int32) (x2 : Int32) (s0 : Int32) (σ : aH) : Lq G d M_13 (36, [some (.ref 92), some (.int x1), some (.int x2)], [.int s0], σ) = some (.inl (some (.int s0)), σ) :=
  (aUn_eq (tkd G.1 G.2) tmi (aRun (tkd G.1 G.2) tmi tmt d) M_13 [] 1 (36, [some (.ref 92), some (.int x1), some (.int x2)], [.int s0], σ)).trans rfl
set_option maxRecDepth 20000 in
theorem q_13_5554 (G : Nat × (Nat → Int32)) (d : Nat) (x1 : Int32) (x2 : Int32) (σ : aH) : Lq G d M_13 (0, [some (.ref 94), some (.int x1), some (.int x2)], [], σ) = Lq G d M_13 (1, [some (.ref 94), some (.int x1), some (.int x2)], [.ref 94], σ) :=
  (aUn_eq (tkd G.1 G.2) tmi (aRun (tkd G.1 G.2) tmi tmt d) M_13 [] 1 (0, [some (.ref 94), some (.int x1), some (.int x2)], [], σ)).trans rfl
set_option maxRecDepth 20000 in
theorem q_13_5555 (G : Nat × (Nat → Int32)) (d : Nat) (x1 : Int32) (x2 : Int32) (σ : aH) : Lq G d M_13 (1, [some (.ref 94), some (.int x1), some (.int x2)], [.ref 94], σ) = aCI (Rn G d 14 [.ref 94] σ) fun v2 σ1 => Lq G d M_13 (4, [some (.ref 94), some (.int x1), some (.int x2)], [.int v2], σ1) :=
  (aUn_eq (tkd G.1 G.2) tmi (aRun (tkd G.1 G.2) tmi tmt d) M_13 [] 1 (1, [some (.ref 94), some (.int x1), some (.int x2)], [.ref 94], σ)).trans rfl
set_option maxRecDepth 20000 in
theorem q_13_5556 (G : Nat × (Nat → Int32)) (d : Nat) (x1 : Int32) (x2 : Int32) (s0 : Int32) (σ : aH) : Lq G d M_13 (4, [some (.ref 94), some (.int x1), some (.int x2)], [.int s0], σ) = if s0 = 0 then Lq G d M_13 (23, [some (.ref 94), some (.int x1), some (.int x2)], [], σ) else Lq G d M_13 (7, [some (.ref 94), some (.int x1), some (.int x2)], [], σ) :=
  (aUn_eq (tkd G.1 G.2) tmi (aRun (tkd G.1 G.2) tmi tmt d) M_13 [] 1 (4, [some (.ref 94), some (.int x1), some (.int x2)], [.int s0], σ)).trans rfl
set_option maxRecDepth 20000 in
theorem q_13_5557 (G : Nat × (Nat → Int32)) (d : Nat) (x1 : Int32) (x2 : Int32) (σ : aH) : Lq G d M_13 (23, [some (.ref 94), some (.int x1), some (.int x2)], [], σ) = Lq G d M_13 (30, [some (.ref 94), some (.int x1), some (.int x2)], [.ref 94, .int x2, .int x1, .ref 95], σ) :=
  (aUn_eq (tkd G.1 G.2) tmi (aRun (tkd G.1 G.2) tmi tmt d) M_13 [] 5 (23, [some (.ref 94), some (.int x1), some (.int x2)], [], σ)).trans rfl
set_option maxRecDepth 20000 in
theorem q_13_5558 (G : Nat × (Nat → Int32)) (d : Nat) (x1 : Int32) (x2 : Int32) (s1 : Int32) (s2 : Int32) (σ : aH) : Lq G d M_13 (30, [some (.ref 94), some (.int x1), some (.int x2)], [.ref 94, .int s1, .int s2, .ref 95], σ) = aCI (Rn G d 15 [.ref 94] σ) fun v2 σ1 => Lq G d M_13 (33, [some (.ref 94), some (.int x1), some (.int x2)], [.int v2, .int s1, .int s2, .ref 95], σ1) :=
  (aUn_eq (tkd G.1 G.2) tmi (aRun (tkd G.1 G.2) tmi tmt d) M_13 [] 1 (30, [some (.ref 94), some (.int x1), some (.int x2)], [.ref 94, .int s1, .int s2, .ref 95], σ)).trans rfl
set_option maxRecDepth 20000 in
theorem q_13_5559 (G : Nat × (Nat → Int32)) (d : Nat) (x1 : Int32) (x2 : Int32) (s0 : Int32) (s1 : Int32) (s2 : Int32) (σ : aH) : Lq G d M_13 (33, [some (.ref 94), some (.int x1), some (.int x2)], [.int s0, .int s1, .int s2, .ref 95], σ) = none :=
  (aUn_eq (tkd G.1 G.2) tmi (aRun (tkd G.1 G.2) tmi tmt d) M_13 [] 1 (33, [some (.ref 94), some (.int x1), some (.int x2)], [.int s0, .int s1, .int s2, .ref 95], σ)).trans rfl
set_option maxRecDepth 20000 in
theorem q_13_5560 (G : Nat × (Nat → Int32)) (d : Nat) (x1 : Int32) (x2 : Int32) (σ : aH) : Lq G d M_13 (7, [some (.ref 94), some (.int x1), some (.int x2)], [], σ) = Lq G d M_13 (14, [some (.ref 94), some (.int x1), some (.int x2)], [.ref 94, .int x2, .int x1, .ref 95], σ) :=
  (aUn_eq (tkd G.1 G.2) tmi (aRun (tkd G.1 G.2) tmi tmt d) M_13 [] 5 (7, [some (.ref 94), some (.int x1), some (.int x2)], [], σ)).trans rfl
set_option maxRecDepth 20000 in
theorem q_13_5561 (G : Nat × (Nat → Int32)) (d : Nat) (x1 : Int32) (x2 : Int32) (s1 : Int32) (s2 : Int32) (σ : aH) : Lq G d M_13 (14, [some (.ref 94), some (.int x1), some (.int x2)], [.ref 94, .int s1, .int s2, .ref 95], σ) = aCI (Rn G d 15 [.ref 94] σ) fun v2 σ1 => Lq G d M_13 (17, [some (.ref 94), some (.int x1), some (.int x2)], [.int v2, .int s1, .int s2, .ref 95], σ1) :=
  (aUn_eq (tkd G.1 G.2) tmi (aRun (tkd G.1 G.2) tmi tmt d) M_13 [] 1 (14, [some (.ref 94), some (.int x1), some (.int x2)], [.ref 94, .int s1, .int s2, .ref 95], σ)).trans rfl
set_option maxRecDepth 20000 in
theorem q_13_5562 (G : Nat × (Nat → Int32)) (d : Nat) (x1 : Int32) (x2 : Int32) (s0 : Int32) (s1 : Int32) (s2 : Int32) (σ : aH) : Lq G d M_13 (17, [some (.ref 94), some (.int x1), some (.int x2)], [.int s0, .int s1, .int s2, .ref 95], σ) = aCI (Rn G d 17 [.ref 95, .int s2, .int s1, .int s0] σ) fun v2 σ1 => Lq G d M_13 (20, [some (.ref 94), some (.int x1), some (.int x2)], [.int v2], σ1) :=
  (aUn_eq (tkd G.1 G.2) tmi (aRun (tkd G.1 G.2) tmi tmt d) M_13 [] 1 (17, [some (.ref 94), some (.int x1), some (.int x2)], [.int s0, .int s1, .int s2, .ref 95], σ)).trans rfl
set_option maxRecDepth 20000 in
theorem q_13_5563 (G : Nat × (Nat → Int32)) (d : Nat) (x1 : Int32) (x2 : Int32) (s0 : Int32) (σ : aH) : Lq G d M_13 (20, [some (.ref 94), some (.int x1), some (.int x2)], [.int s0], σ) = Lq G d M_13 (36, [some (.ref 94), some (.int x1), some (.int x2)], [.int s0], σ) :=
  (aUn_eq (tkd G.1 G.2) tmi (aRun (tkd G.1 G.2) tmi tmt d) M_13 [] 1 (20, [some (.ref 94), some (.int x1), some (.int x2)], [.int s0], σ)).trans rfl
set_option maxRecDepth 20000 in
theorem q_13_5564 (G : Nat × (Nat → Int32)) (d : Nat) (x1 : Int32) (x2 : Int32) (s0 : Int32) (σ : aH) : Lq G d M_13 (36, [some (.ref 94), some (.int x1), some (.int x2)], [.int s0], σ) = some (.inl (some (.int s0)), σ) :=
  (aUn_eq (tkd G.1 G.2) tmi (aRun (tkd G.1 G.2) tmi tmt d) M_13 [] 1 (36, [some (.ref 94), some (.int x1), some (.int x2)], [.int s0], σ)).trans rfl
set_option maxRecDepth 20000 in
theorem q_13_5565 (G : Nat × (Nat → Int32)) (d : Nat) (x1 : Int32) (x2 : Int32) (σ : aH) : Lq G d M_13 (0, [some (.ref 96), some (.int x1), some (.int x2)], [], σ) = Lq G d M_13 (1, [some (.ref 96), some (.int x1), some (.int x2)], [.ref 96], σ) :=
  (aUn_eq (tkd G.1 G.2) tmi (aRun (tkd G.1 G.2) tmi tmt d) M_13 [] 1 (0, [some (.ref 96), some (.int x1), some (.int x2)], [], σ)).trans rfl
set_option maxRecDepth 20000 in
theorem q_13_5566 (G : Nat × (Nat → Int32)) (d : Nat) (x1 : Int32) (x2 : Int32) (σ : aH) : Lq G d M_13 (1, [some (.ref 96), some (.int x1), some (.int x2)], [.ref 96], σ) = aCI (Rn G d 14 [.ref 96] σ) fun v2 σ1 => Lq G d M_13 (4, [some (.ref 96), some (.int x1), some (.int x2)], [.int v2], σ1) :=
  (aUn_eq (tkd G.1 G.2) tmi (aRun (tkd G.1 G.2) tmi tmt d) M_13 [] 1 (1, [some (.ref 96), some (.int x1), some (.int x2)], [.ref 96], σ)).trans rfl
set_option maxRecDepth 20000 in
theorem q_13_5567 (G : Nat × (Nat → Int32)) (d : Nat) (x1 : Int32) (x2 : Int32) (s0 : Int32) (σ : aH) : Lq G d M_13 (4, [some (.ref 96), some (.int x1), some (.int x2)], [.int s0], σ) = if s0 = 0 then Lq G d M_13 (23, [some (.ref 96), some (.int x1), some (.int x2)], [], σ) else Lq G d M_13 (7, [some (.ref 96), some (.int x1), some (.int x2)], [], σ) :=
  (aUn_eq (tkd G.1 G.2) tmi (aRun (tkd G.1 G.2) tmi tmt d) M_13 [] 1 (4, [some (.ref 96), some (.int x1), some (.int x2)], [.int s0], σ)).trans rfl
set_option maxRecDepth 20000 in
theorem q_13_5568 (G : Nat × (Nat → Int32)) (d : Nat) (x1 : Int32) (x2 : Int32) (σ : aH) : Lq G d M_13 (23, [some (.ref 96), some (.int x1), some (.int x2)], [], σ) = Lq G d M_13 (30, [some (.ref 96), some (.int x1), some (.int x2)], [.ref 96, .int x2, .int x1, .ref 97], σ) :=
  (aUn_eq (tkd G.1 G.2) tmi (aRun (tkd G.1 G.2) tmi tmt d) M_13 [] 5 (23, [some (.ref 96), some (.int x1), some (.int x2)], [], σ)).trans rfl
set_option maxRecDepth 20000 in
theorem q_13_5569 (G : Nat × (Nat → Int32)) (d : Nat) (x1 : Int32) (x2 : Int32) (s1 : Int32) (s2 : Int32) (σ : aH) : Lq G d M_13 (30, [some (.ref 96), some (.int x1), some (.int x2)], [.ref 96, .int s1, .int s2, .ref 97], σ) = aCI (Rn G d 15 [.ref 96] σ) fun v2 σ1 => Lq G d M_13 (33, [some (.ref 96), some (.int x1), some (.int x2)], [.int v2, .int s1, .int s2, .ref 97], σ1) :=
  (aUn_eq (tkd G.1 G.2) tmi (aRun (tkd G.1 G.2) tmi tmt d) M_13 [] 1 (30, [some (.ref 96), some (.int x1), some (.int x2)], [.ref 96, .int s1, .int s2, .ref 97], σ)).trans rfl
set_option maxRecDepth 20000 in
theorem q_13_5570 (G : Nat × (Nat → Int32)) (d : Nat) (x1 : Int32) (x2 : Int32) (s0 : Int32) (s1 : Int32) (s2 : Int32) (σ : aH) : Lq G d M_13 (33, [some (.ref 96), some (.int x1), some (.int x2)], [.int s0, .int s1, .int s2, .ref 97], σ) = none :=
  (aUn_eq (tkd G.1 G.2) tmi (aRun (tkd G.1 G.2) tmi tmt d) M_13 [] 1 (33, [some (.ref 96), some (.int x1), some (.int x2)], [.int s0, .int s1, .int s2, .ref 97], σ)).trans rfl
set_option maxRecDepth 20000 in
theorem q_13_5571 (G : Nat × (Nat → Int32)) (d : Nat) (x1 : Int32) (x2 : Int32) (σ : aH) : Lq G d M_13 (7, [some (.ref 96), some (.int x1), some (.int x2)], [], σ) = Lq G d M_13 (14, [some (.ref 96), some (.int x1), some (.int x2)], [.ref 96, .int x2, .int x1, .ref 97], σ) :=
  (aUn_eq (tkd G.1 G.2) tmi (aRun (tkd G.1 G.2) tmi tmt d) M_13 [] 5 (7, [some (.ref 96), some (.int x1), some (.int x2)], [], σ)).trans rfl
set_option maxRecDepth 20000 in
theorem q_13_5572 (G : Nat × (Nat → Int32)) (d : Nat) (x1 : Int32) (x2 : Int32) (s1 : Int32) (s2 : Int32) (σ : aH) : Lq G d M_13 (14, [some (.ref 96), some (.int x1), some (.int x2)], [.ref 96, .int s1, .int s2, .ref 97], σ) = aCI (Rn G d 15 [.ref 96] σ) fun v2 σ1 => Lq G d M_13 (17, [some (.ref 96), some (.int x1), some (.int x2)], [.int v2, .int s1, .int s2, .ref 97], σ1) :=
  (aUn_eq (tkd G.1 G.2) tmi (aRun (tkd G.1 G.2) tmi tmt d) M_13 [] 1 (14, [some (.ref 96), some (.int x1), some (.int x2)], [.ref 96, .int s1, .int s2, .ref 97], σ)).trans rfl
set_option maxRecDepth 20000 in
theorem q_13_5573 (G : Nat × (Nat → Int32)) (d : Nat) (x1 : Int32) (x2 : Int32) (s0 : Int32) (s1 : Int32) (s2 : Int32) (σ : aH) : Lq G d M_13 (17, [some (.ref 96), some (.int x1), some (.int x2)], [.int s0, .int s1, .int s2, .ref 97], σ) = aCI (Rn G d 17 [.ref 97, .int s2, .int s1, .int s0] σ) fun v2 σ1 => Lq G d M_13 (20, [some (.ref 96), some (.int x1), some (.int x2)], [.int v2], σ1) :=
  (aUn_eq (tkd G.1 G.2) tmi (aRun (tkd G.1 G.2) tmi tmt d) M_13 [] 1 (17, [some (.ref 96), some (.int x1), some (.int x2)], [.int s0, .int s1, .int s2, .ref 97], σ)).trans rfl
set_option maxRecDepth 20000 in
theorem q_13_5574 (G : Nat × (Nat → Int32)) (d : Nat) (x1 : Int32) (x2 : Int32) (s0 : Int32) (σ : aH) : Lq G d M_13 (20, [some (.ref 96), some (.int x1), some (.int x2)], [.int s0], σ) = Lq G d M_13 (36, [some (.ref 96), some (.int x1), some (.int x2)], [.int s0], σ) :=
  (aUn_eq (tkd G.1 G.2) tmi (aRun (tkd G.1 G.2) tmi tmt d) M_13 [] 1 (20, [some (.ref 96), some (.int x1), some (.int x2)], [.int s0], σ)).trans rfl
set_option maxRecDepth 20000 in
theorem q_13_5575 (G : Nat × (Nat → Int32)) (d : Nat) (x1 : Int32) (x2 : Int32) (s0 : Int32) (σ : aH) : Lq G d M_13 (36, [some (.ref 96), some (.int x1), some (.int x2)], [.int s0], σ) = some (.inl (some (.int s0)), σ) :=
  (aUn_eq (tkd G.1 G.2) tmi (aRun (tkd G.1 G.2) tmi tmt d) M_13 [] 1 (36, [some (.ref 96), some (.int x1), some (.int x2)], [.int s0], σ)).trans rfl
set_option maxRecDepth 20000 in
theorem q_13_5576 (G : Nat × (Nat → Int32)) (d : Nat) (x1 : Int32) (x2 : Int32) (σ : aH) : Lq G d M_13 (0, [some (.ref 98), some (.int x1), some (.int x2)], [], σ) = Lq G d M_13 (1, [some (.ref 98), some (.int x1), some (.int x2)], [.ref 98], σ) :=
  (aUn_eq (tkd G.1 G.2) tmi (aRun (tkd G.1 G.2) tmi tmt d) M_13 [] 1 (0, [some (.ref 98), some (.int x1), some (.int x2)], [], σ)).trans rfl
set_option maxRecDepth 20000 in
theorem q_13_5577 (G : Nat × (Nat → Int32)) (d : Nat) (x1 : Int32) (x2 : Int32) (σ : aH) : Lq G d M_13 (1, [some (.ref 98), some (.int x1), some (.int x2)], [.ref 98], σ) = aCI (Rn G d 14 [.ref 98] σ) fun v2 σ1 => Lq G d M_13 (4, [some (.ref 98), some (.int x1), some (.int x2)], [.int v2], σ1) :=
  (aUn_eq (tkd G.1 G.2) tmi (aRun (tkd G.1 G.2) tmi tmt d) M_13 [] 1 (1, [some (.ref 98), some (.int x1), some (.int x2)], [.ref 98], σ)).trans rfl
set_option maxRecDepth 20000 in
theorem q_13_5578 (G : Nat × (Nat → Int32)) (d : Nat) (x1 : Int32) (x2 : Int32) (s0 : Int32) (σ : aH) : Lq G d M_13 (4, [some (.ref 98), some (.int x1), some (.int x2)], [.int s0], σ) = if s0 = 0 then Lq G d M_13 (23, [some (.ref 98), some (.int x1), some (.int x2)], [], σ) else Lq G d M_13 (7, [some (.ref 98), some (.int x1), some (.int x2)], [], σ) :=
  (aUn_eq (tkd G.1 G.2) tmi (aRun (tkd G.1 G.2) tmi tmt d) M_13 [] 1 (4, [some (.ref 98), some (.int x1), some (.int x2)], [.int s0], σ)).trans rfl
set_option maxRecDepth 20000 in
theorem q_13_5579 (G : Nat × (Nat → Int32)) (d : Nat) (x1 : Int32) (x2 : Int32) (σ : aH) : Lq G d M_13 (23, [some (.ref 98), some (.int x1), some (.int x2)], [], σ) = Lq G d M_13 (30, [some (.ref 98), some (.int x1), some (.int x2)], [.ref 98, .int x2, .int x1, .ref 99], σ) :=
  (aUn_eq (tkd G.1 G.2) tmi (aRun (tkd G.1 G.2) tmi tmt d) M_13 [] 5 (23, [some (.ref 98), some (.int x1), some (.int x2)], [], σ)).trans rfl
set_option maxRecDepth 20000 in
theorem q_13_5580 (G : Nat × (Nat → Int32)) (d : Nat) (x1 : Int32) (x2 : Int32) (s1 : Int32) (s2 : Int32) (σ : aH) : Lq G d M_13 (30, [some (.ref 98), some (.int x1), some (.int x2)], [.ref 98, .int s1, .int s2, .ref 99], σ) = aCI (Rn G d 15 [.ref 98] σ) fun v2 σ1 => Lq G d M_13 (33, [some (.ref 98), some (.int x1), some (.int x2)], [.int v2, .int s1, .int s2, .ref 99], σ1) :=
  (aUn_eq (tkd G.1 G.2) tmi (aRun (tkd G.1 G.2) tmi tmt d) M_13 [] 1 (30, [some (.ref 98), some (.int x1), some (.int x2)], [.ref 98, .int s1, .int s2, .ref 99], σ)).trans rfl
set_option maxRecDepth 20000 in
theorem q_13_5581 (G : Nat × (Nat → Int32)) (d : Nat) (x1 : Int32) (x2 : Int32) (s0 : Int32) (s1 : Int32) (s2 : Int32) (σ : aH) : Lq G d M_13 (33, [some (.ref 98), some (.int x1), some (.int x2)], [.int s0, .int s1, .int s2, .ref 99], σ) = none :=
  (aUn_eq (tkd G.1 G.2) tmi (aRun (tkd G.1 G.2) tmi tmt d) M_13 [] 1 (33, [some (.ref 98), some (.int x1), some (.int x2)], [.int s0, .int s1, .int s2, .ref 99], σ)).trans rfl
set_option maxRecDepth 20000 in
theorem q_13_5582 (G : Nat × (Nat → Int32)) (d : Nat) (x1 : Int32) (x2 : Int32) (σ : aH) : Lq G d M_13 (7, [some (.ref 98), some (.int x1), some (.int x2)], [], σ) = Lq G d M_13 (14, [some (.ref 98), some (.int x1), some (.int x2)], [.ref 98, .int x2, .int x1, .ref 99], σ) :=
  (aUn_eq (tkd G.1 G.2) tmi (aRun (tkd G.1 G.2) tmi tmt d) M_13 [] 5 (7, [some (.ref 98), some (.int x1), some (.int x2)], [], σ)).trans rfl
set_option maxRecDepth 20000 in
theorem q_13_5583 (G : Nat × (Nat → Int32)) (d : Nat) (x1 : Int32) (x2 : Int32) (s1 : Int32) (s2 : Int32) (σ : aH) : Lq G d M_13 (14, [some (.ref 98), some (.int x1), some (.int x2)], [.ref 98, .int s1, .int s2, .ref 99], σ) = aCI (Rn G d 15 [.ref 98] σ) fun v2 σ1 => Lq G d M_13 (17, [some (.ref 98), some (.int x1), some (.int x2)], [.int v2, .int s1, .int s2, .ref 99], σ1) :=
  (aUn_eq (tkd G.1 G.2) tmi (aRun (tkd G.1 G.2) tmi tmt d) M_13 [] 1 (14, [some (.ref 98), some (.int x1), some (.int x2)], [.ref 98, .int s1, .int s2, .ref 99], σ)).trans rfl
set_option maxRecDepth 20000 in
theorem q_13_5584 (G : Nat × (Nat → Int32)) (d : Nat) (x1 : Int32) (x2 : Int32) (s0 : Int32) (s1 : Int32) (s2 : Int32) (σ : aH) : Lq G d M_13 (17, [some (.ref 98), some (.int x1), some (.int x2)], [.int s0, .int s1, .int s2, .ref 99], σ) = aCI (Rn G d 17 [.ref 99, .int s2, .int s1, .int s0] σ) fun v2 σ1 => Lq G d M_13 (20, [some (.ref 98), some (.int x1), some (.int x2)], [.int v2], σ1) :=
  (aUn_eq (tkd G.1 G.2) tmi (aRun (tkd G.1 G.2) tmi tmt d) M_13 [] 1 (17, [some (.ref 98), some (.int x1), some (.int x2)], [.int s0, .int s1, .int s2, .ref 99], σ)).trans rfl
set_option maxRecDepth 20000 in
theorem q_13_5585 (G : Nat × (Nat → Int32)) (d : Nat) (x1 : Int32) (x2 : Int32) (s0 : Int32) (σ : aH) : Lq G d M_13 (20, [some (.ref 98), some (.int x1), some (.int x2)], [.int s0], σ) = Lq G d M_13 (36, [some (.ref 98), some (.int x1), some (.int x2)], [.int s0], σ) :=
  (aUn_eq (tkd G.1 G.2) tmi (aRun (tkd G.1 G.2) tmi tmt d) M_13 [] 1 (20, [some (.ref 98), some (.int x1), some (.int x2)], [.int s0], σ)).trans rfl
set_option maxRecDepth 20000 in
theorem q_13_5586 (G : Nat × (Nat → Int32)) (d : Nat) (x1 : Int32) (x2 : Int32) (s0 : Int32) (σ : aH) : Lq G d M_13 (36, [some (.ref 98), some (.int x1), some (.int x2)], [.int s0], σ) = some (.inl (some (.int s0)), σ) :=
  (aUn_eq (tkd G.1 G.2) tmi (aRun (tkd G.1 G.2) tmi tmt d) M_13 [] 1 (36, [some (.ref 98), some (.int x1), some (.int x2)], [.int s0], σ)).trans rfl
set_option maxRecDepth 20000 in
theorem q_13_5587 (G : Nat × (Nat → Int32)) (d : Nat) (x1 : Int32) (x2 : Int32) (σ : aH) : Lq G d M_13 (0, [some (.ref 100), some (.int x1), some (.int x2)], [], σ) = Lq G d M_13 (1, [some (.ref 100), some (.int x1), some (.int x2)], [.ref 100], σ) :=
  (aUn_eq (tkd G.1 G.2) tmi (aRun (tkd G.1 G.2) tmi tmt d) M_13 [] 1 (0, [some (.ref 100), some (.int x1), some (.int x2)], [], σ)).trans rfl
set_option maxRecDepth 20000 in
theorem q_13_5588 (G : Nat × (Nat → Int32)) (d : Nat) (x1 : Int32) (x2 : Int32) (σ : aH) : Lq G d M_13 (1, [some (.ref 100), some (.int x1), some (.int x2)], [.ref 100], σ) = aCI (Rn G d 14 [.ref 100] σ) fun v2 σ1 => Lq G d M_13 (4, [some (.ref 100), some (.int x1), some (.int x2)], [.int v2], σ1) :=
  (aUn_eq (tkd G.1 G.2) tmi (aRun (tkd G.1 G.2) tmi tmt d) M_13 [] 1 (1, [some (.ref 100), some (.int x1), some (.int x2)], [.ref 100], σ)).trans rfl
set_option maxRecDepth 20000 in
theorem q_13_5589 (G : Nat × (Nat → Int32)) (d : Nat) (x1 : Int32) (x2 : Int32) (s0 : Int32) (σ : aH) : Lq G d M_13 (4, [some (.ref 100), some (.int x1), some (.int x2)], [.int s0], σ) = if s0 = 0 then Lq G d M_13 (23, [some (.ref 100), some (.int x1), some (.int x2)], [], σ) else Lq G d M_13 (7, [some (.ref 100), some (.int x1), some (.int x2)], [], σ) :=
  (aUn_eq (tkd G.1 G.2) tmi (aRun (tkd G.1 G.2) tmi tmt d) M_13 [] 1 (4, [some (.ref 100), some (.int x1), some (.int x2)], [.int s0], σ)).trans rfl
set_option maxRecDepth 20000 in
theorem q_13_5590 (G : Nat × (Nat → Int32)) (d : Nat) (x1 : Int32) (x2 : Int32) (σ : aH) : Lq G d M_13 (23, [some (.ref 100), some (.int x1), some (.int x2)], [], σ) = Lq G d M_13 (30, [some (.ref 100), some (.int x1), some (.int x2)], [.ref 100, .int x2, .int x1, .ref 101], σ) :=
  (aUn_eq (tkd G.1 G.2) tmi (aRun (tkd G.1 G.2) tmi tmt d) M_13 [] 5 (23, [some (.ref 100), some (.int x1), some (.int x2)], [], σ)).trans rfl
set_option maxRecDepth 20000 in
theorem q_13_5591 (G : Nat × (Nat → Int32)) (d : Nat) (x1 : Int32) (x2 : Int32) (s1 : Int32) (s2 : Int32) (σ : aH) : Lq G d M_13 (30, [some (.ref 100), some (.int x1), some (.int x2)], [.ref 100, .int s1, .int s2, .ref 101], σ) = aCI (Rn G d 15 [.ref 100] σ) fun v2 σ1 => Lq G d M_13 (33, [some (.ref 100), some (.int x1), some (.int x2)], [.int v2, .int s1, .int s2, .ref 101], σ1) :=
  (aUn_eq (tkd G.1 G.2) tmi (aRun (tkd G.1 G.2) tmi tmt d) M_13 [] 1 (30, [some (.ref 100), some (.int x1), some (.int x2)], [.ref 100, .int s1, .int s2, .ref 101], σ)).trans rfl
set_option maxRecDepth 20000 in
theorem q_13_5592 (G : Nat × (Nat → Int32)) (d : Nat) (x1 : Int32) (x2 : Int32) (s0 : Int32) (s1 : Int32) (s2 : Int32) (σ : aH) : Lq G d M_13 (33, [some (.ref 100), some (.int x1), some (.int x2)], [.int s0, .int s1, .int s2, .ref 101], σ) = none :=
  (aUn_eq (tkd G.1 G.2) tmi (aRun (tkd G.1 G.2) tmi tmt d) M_13 [] 1 (33, [some (.ref 100), some (.int x1), some (.int x2)], [.int s0, .int s1, .int s2, .ref 101], σ)).trans rfl
set_option maxRecDepth 20000 in
theorem q_13_5593 (G : Nat × (Nat → Int32)) (d : Nat) (x1 : Int32) (x2 : Int32) (σ : aH) : Lq G d M_13 (7, [some (.ref 100), some (.int x1), some (.int x2)], [], σ) = Lq G d M_13 (14, [some (.ref 100), some (.int x1), some (.int x2)], [.ref 100, .int x2, .int x1, .ref 101], σ) :=
  (aUn_eq (tkd G.1 G.2) tmi (aRun (tkd G.1 G.2) tmi tmt d) M_13 [] 5 (7, [some (.ref 100), some (.int x1), some (.int x2)], [], σ)).trans rfl
set_option maxRecDepth 20000 in
theorem q_13_5594 (G : Nat × (Nat → Int32)) (d : Nat) (x1 : Int32) (x2 : Int32) (s1 : Int32) (s2 : Int32) (σ : aH) : Lq G d M_13 (14, [some (.ref 100), some (.int x1), some (.int x2)], [.ref 100, .int s1, .int s2, .ref 101], σ) = aCI (Rn G d 15 [.ref 100] σ) fun v2 σ1 => Lq G d M_13 (17, [some (.ref 100), some (.int x1), some (.int x2)], [.int v2, .int s1, .int s2, .ref 101], σ1) :=
  (aUn_eq (tkd G.1 G.2) tmi (aRun (tkd G.1 G.2) tmi tmt d) M_13 [] 1 (14, [some (.ref 100), some (.int x1), some (.int x2)], [.ref 100, .int s1, .int s2, .ref 101], σ)).trans rfl
set_option maxRecDepth 20000 in
theorem q_13_5595 (G : Nat × (Nat → Int32)) (d : Nat) (x1 : Int32) (x2 : Int32) (s0 : Int32) (s1 : Int32) (s2 : Int32) (σ : aH) : Lq G d M_13 (17, [some (.ref 100), some (.int x1), some (.int x2)], [.int s0, .int s1, .int s2, .ref 101], σ) = aCI (Rn G d 17 [.ref 101, .int s2, .int s1, .int s0] σ) fun v2 σ1 => Lq G d M_13 (20, [some (.ref 100), some (.int x1), some (.int x2)], [.int v2], σ1) :=
  (aUn_eq (tkd G.1 G.2) tmi (aRun (tkd G.1 G.2) tmi tmt d) M_13 [] 1 (17, [some (.ref 100), some (.int x1), some (.int x2)], [.int s0, .int s1, .int s2, .ref 101], σ)).trans rfl
set_option maxRecDepth 20000 in
theorem q_13_5596 (G : Nat × (Nat → Int32)) (d : Nat) (x1 : Int32) (x2 : Int32) (s0 : Int32) (σ : aH) : Lq G d M_13 (20, [some (.ref 100), some (.int x1), some (.int x2)], [.int s0], σ) = Lq G d M_13 (36, [some (.ref 100), some (.int x1), some (.int x2)], [.int s0], σ) :=
  (aUn_eq (tkd G.1 G.2) tmi (aRun (tkd G.1 G.2) tmi tmt d) M_13 [] 1 (20, [some (.ref 100), some (.int x1), some (.int x2)], [.int s0], σ)).trans rfl
set_option maxRecDepth 20000 in
theorem q_13_5597 (G : Nat × (Nat → Int32)) (d : Nat) (x1 : Int32) (x2 : Int32) (s0 : Int32) (σ : aH) : Lq G d M_13 (36, [some (.ref 100), some (.int x1), some (.int x2)], [.int s0], σ) = some (.inl (some (.int s0)), σ) :=
  (aUn_eq (tkd G.1 G.2) tmi (aRun (tkd G.1 G.2) tmi tmt d) M_13 [] 1 (36, [some (.ref 100), some (.int x1), some (.int x2)], [.int s0], σ)).trans rfl
set_option maxRecDepth 20000 in
theorem q_13_5598 (G : Nat × (Nat → Int32)) (d : Nat) (x1 : Int32) (x2 : Int32) (σ : aH) : Lq G d M_13 (0, [some (.ref 102), some (.int x1), some (.int x2)], [], σ) = Lq G d M_13 (1, [some (.ref 102), some (.int x1), some (.int x2)], [.ref 102], σ) :=
  (aUn_eq (tkd G.1 G.2) tmi (aRun (tkd G.1 G.2) tmi tmt d) M_13 [] 1 (0, [some (.ref 102), some (.int x1), some (.int x2)], [], σ)).trans rfl
set_option maxRecDepth 20000 in
theorem q_13_5599 (G : Nat × (Nat → Int32)) (d : Nat) (x1 : Int32) (x2 : Int32) (σ : aH) : Lq G d M_13 (1, [some (.ref 102), some (.int x1), some (.int x2)], [.ref 102], σ) = aCI (Rn G d 14 [.ref 102] σ) fun v2 σ1 => Lq G d M_13 (4, [some (.ref 102), some (.int x1), some (.int x2)], [.int v2], σ1) :=
  (aUn_eq (tkd G.1 G.2) tmi (aRun (tkd G.1 G.2) tmi tmt d) M_13 [] 1 (1, [some (.ref 102), some (.int x1), some (.int x2)], [.ref 102], σ)).trans rfl
set_option maxRecDepth 20000 in
theorem q_13_5600 (G : Nat × (Nat → Int32)) (d : Nat) (x1 : Int32) (x2 : Int32) (s0 : Int32) (σ : aH) : Lq G d M_13 (4, [some (.ref 102), some (.int x1), some (.int x2)], [.int s0], σ) = if s0 = 0 then Lq G d M_13 (23, [some (.ref 102), some (.int x1), some (.int x2)], [], σ) else Lq G d M_13 (7, [some (.ref 102), some (.int x1), some (.int x2)], [], σ) :=
  (aUn_eq (tkd G.1 G.2) tmi (aRun (tkd G.1 G.2) tmi tmt d) M_13 [] 1 (4, [some (.ref 102), some (.int x1), some (.int x2)], [.int s0], σ)).trans rfl
set_option maxRecDepth 20000 in
theorem q_13_5601 (G : Nat × (Nat → Int32)) (d : Nat) (x1 : Int32) (x2 : Int32) (σ : aH) : Lq G d M_13 (23, [some (.ref 102), some (.int x1), some (.int x2)], [], σ) = Lq G d M_13 (30, [some (.ref 102), some (.int x1), some (.int x2)], [.ref 102, .int x2, .int x1, .ref 103], σ) :=
  (aUn_eq (tkd G.1 G.2) tmi (aRun (tkd G.1 G.2) tmi tmt d) M_13 [] 5 (23, [some (.ref 102), some (.int x1), some (.int x2)], [], σ)).trans rfl
set_option maxRecDepth 20000 in
theorem q_13_5602 (G : Nat × (Nat → Int32)) (d : Nat) (x1 : Int32) (x2 : Int32) (s1 : Int32) (s2 : Int32) (σ : aH) : Lq G d M_13 (30, [some (.ref 102), some (.int x1), some (.int x2)], [.ref 102, .int s1, .int s2, .ref 103], σ) = aCI (Rn G d 15 [.ref 102] σ) fun v2 σ1 => Lq G d M_13 (33, [some (.ref 102), some (.int x1), some (.int x2)], [.int v2, .int s1, .int s2, .ref 103], σ1) :=
  (aUn_eq (tkd G.1 G.2) tmi (aRun (tkd G.1 G.2) tmi tmt d) M_13 [] 1 (30, [some (.ref 102), some (.int x1), some (.int x2)], [.ref 102, .int s1, .int s2, .ref 103], σ)).trans rfl
set_option maxRecDepth 20000 in
theorem q_13_5603 (G : Nat × (Nat → Int32)) (d : Nat) (x1 : Int32) (x2 : Int32) (s0 : Int32) (s1 : Int32) (s2 : Int32) (σ : aH) : Lq G d M_13 (33, [some (.ref 102), some (.int x1), some (.int x2)], [.int s0, .int s1, .int s2, .ref 103], σ) = none :=
  (aUn_eq (tkd G.1 G.2) tmi (aRun (tkd G.1 G.2) tmi tmt d) M_13 [] 1 (33, [some (.ref 102), some (.int x1), some (.int x2)], [.int s0, .int s1, .int s2, .ref 103], σ)).trans rfl
set_option maxRecDepth 20000 in
theorem q_13_5604 (G : Nat × (Nat → Int32)) (d : Nat) (x1 : Int32) (x2 : Int32) (σ : aH) : Lq G d M_13 (7, [some (.ref 102), some (.int x1), some (.int x2)], [], σ) = Lq G d M_13 (14, [some (.ref 102), some (.int x1), some (.int x2)], [.ref 102, .int x2, .int x1, .ref 103], σ) :=
  (aUn_eq (tkd G.1 G.2) tmi (aRun (tkd G.1 G.2) tmi tmt d) M_13 [] 5 (7, [some (.ref 102), some (.int x1), some (.int x2)], [], σ)).trans rfl
set_option maxRecDepth 20000 in
theorem q_13_5605 (G : Nat × (Nat → Int32)) (d : Nat) (x1 : Int32) (x2 : Int32) (s1 : Int32) (s2 : Int32) (σ : aH) : Lq G d M_13 (14, [some (.ref 102), some (.int x1), some (.int x2)], [.ref 102, .int s1, .int s2, .ref 103], σ) = aCI (Rn G d 15 [.ref 102] σ) fun v2 σ1 => Lq G d M_13 (17, [some (.ref 102), some (.int x1), some (.int x2)], [.int v2, .int s1, .int s2, .ref 103], σ1) :=
  (aUn_eq (tkd G.1 G.2) tmi (aRun (tkd G.1 G.2) tmi tmt d) M_13 [] 1 (14, [some (.ref 102), some (.int x1), some (.int x2)], [.ref 102, .int s1, .int s2, .ref 103], σ)).trans rfl
set_option maxRecDepth 20000 in
theorem q_13_5606 (G : Nat × (Nat → Int32)) (d : Nat) (x1 : Int32) (x2 : Int32) (s0 : Int32) (s1 : Int32) (s2 : Int32) (σ : aH) : Lq G d M_13 (17, [some (.ref 102), some (.int x1), some (.int x2)], [.int s0, .int s1, .int s2, .ref 103], σ) = aCI (Rn G d 17 [.ref 103, .int s2, .int s1, .int s0] σ) fun v2 σ1 => Lq G d M_13 (20, [some (.ref 102), some (.int x1), some (.int x2)], [.int v2], σ1) :=
  (aUn_eq (tkd G.1 G.2) tmi (aRun (tkd G.1 G.2) tmi tmt d) M_13 [] 1 (17, [some (.ref 102), some (.int x1), some (.int x2)], [.int s0, .int s1, .int s2, .ref 103], σ)).trans rfl
set_option maxRecDepth 20000 in
theorem q_13_5607 (G : Nat × (Nat → Int32)) (d : Nat) (x1 : Int32) (x2 : Int32) (s0 : Int32) (σ : aH) : Lq G d M_13 (20, [some (.ref 102), some (.int x1), some (.int x2)], [.int s0], σ) = Lq G d M_13 (36, [some (.ref 102), some (.int x1), some (.int x2)], [.int s0], σ) :=
  (aUn_eq (tkd G.1 G.2) tmi (aRun (tkd G.1 G.2) tmi tmt d) M_13 [] 1 (20, [some (.ref 102), some (.int x1), some (.int x2)], [.int s0], σ)).trans rfl
set_option maxRecDepth 20000 in
theorem q_13_5608 (G : Nat × (Nat → Int32)) (d : Nat) (x1 : Int32) (x2 : Int32) (s0 : Int32) (σ : aH) : Lq G d M_13 (36, [some (.ref 102), some (.int x1), some (.int x2)], [.int s0], σ) = some (.inl (some (.int s0)), σ) :=
  (aUn_eq (tkd G.1 G.2) tmi (aRun (tkd G.1 G.2) tmi tmt d) M_13 [] 1 (36, [some (.ref 102), some (.int x1), some (.int x2)], [.int s0], σ)).trans rfl
set_option maxRecDepth 20000 in
theorem q_13_5609 (G : Nat × (Nat → Int32)) (d : Nat) (x1 : Int32) (x2 : Int32) (σ : aH) : Lq G d M_13 (0, [some (.ref 104), some (.int x1), some (.int x2)], [], σ) = Lq G d M_13 (1, [some (.ref 104), some (.int x1), some (.int x2)], [.ref 104], σ) :=
  (aUn_eq (tkd G.1 G.2) tmi (aRun (tkd G.1 G.2) tmi tmt d) M_13 [] 1 (0, [some (.ref 104), some (.int x1), some (.int x2)], [], σ)).trans rfl
set_option maxRecDepth 20000 in
theorem q_13_5610 (G : Nat × (Nat → Int32)) (d : Nat) (x1 : Int32) (x2 : Int32) (σ : aH) : Lq G d M_13 (1, [some (.ref 104), some (.int x1), some (.int x2)], [.ref 104], σ) = aCI (Rn G d 14 [.ref 104] σ) fun v2 σ1 => Lq G d M_13 (4, [some (.ref 104), some (.int x1), some (.int x2)], [.int v2], σ1) :=
  (aUn_eq (tkd G.1 G.2) tmi (aRun (tkd G.1 G.2) tmi tmt d) M_13 [] 1 (1, [some (.ref 104), some (.int x1), some (.int x2)], [.ref 104], σ)).trans rfl
set_option maxRecDepth 20000 in
theorem q_13_5611 (G : Nat × (Nat → Int32)) (d : Nat) (x1 : Int32) (x2 : Int32) (s0 : Int32) (σ : aH) : Lq G d M_13 (4, [some (.ref 104), some (.int x1), some (.int x2)], [.int s0], σ) = if s0 = 0 then Lq G d M_13 (23, [some (.ref 104), some (.int x1), some (.int x2)], [], σ) else Lq G d M_13 (7, [some (.ref 104), some (.int x1), some (.int x2)], [], σ) :=
  (aUn_eq (tkd G.1 G.2) tmi (aRun (tkd G.1 G.2) tmi tmt d) M_13 [] 1 (4, [some (.ref 104), some (.int x1), some (.int x2)], [.int s0], σ)).trans rfl
set_option maxRecDepth 20000 in
theorem q_13_5612 (G : Nat × (Nat → Int32)) (d : Nat) (x1 : Int32) (x2 : Int32) (σ : aH) : Lq G d M_13 (23, [some (.ref 104), some (.int x1), some (.int x2)], [], σ) = Lq G d M_13 (30, [some (.ref 104), some (.int x1), some (.int x2)], [.ref 104, .int x2, .int x1, .ref 105], σ) :=
  (aUn_eq (tkd G.1 G.2) tmi (aRun (tkd G.1 G.2) tmi tmt d) M_13 [] 5 (23, [some (.ref 104), some (.int x1), some (.int x2)], [], σ)).trans rfl
set_option maxRecDepth 20000 in
theorem q_13_5613 (G : Nat × (Nat → Int32)) (d : Nat) (x1 : Int32) (x2 : Int32) (s1 : Int32) (s2 : Int32) (σ : aH) : Lq G d M_13 (30, [some (.ref 104), some (.int x1), some (.int x2)], [.ref 104, .int s1, .int s2, .ref 105], σ) = aCI (Rn G d 15 [.ref 104] σ) fun v2 σ1 => Lq G d M_13 (33, [some (.ref 104), some (.int x1), some (.int x2)], [.int v2, .int s1, .int s2, .ref 105], σ1) :=
  (aUn_eq (tkd G.1 G.2) tmi (aRun (tkd G.1 G.2) tmi tmt d) M_13 [] 1 (30, [some (.ref 104), some (.int x1), some (.int x2)], [.ref 104, .int s1, .int s2, .ref 105], σ)).trans rfl
set_option maxRecDepth 20000 in
theorem q_13_5614 (G : Nat × (Nat → Int32)) (d : Nat) (x1 : Int32) (x2 : Int32) (s0 : Int32) (s1 : Int32) (s2 : Int32) (σ : aH) : Lq G d M_13 (33, [some (.ref 104), some (.int x1), some (.int x2)], [.int s0, .int s1, .int s2, .ref 105], σ) = none :=
  (aUn_eq (tkd G.1 G.2) tmi (aRun (tkd G.1 G.2) tmi tmt d) M_13 [] 1 (33, [some (.ref 104), some (.int x1), some (.int x2)], [.int s0, .int s1, .int s2, .ref 105], σ)).trans rfl
set_option maxRecDepth 20000 in
theorem q_13_5615 (G : Nat × (Nat → Int32)) (d : Nat) (x1 : Int32) (x2 : Int32) (σ : aH) : Lq G d M_13 (7, [some (.ref 104), some (.int x1), some (.int x2)], [], σ) = Lq G d M_13 (14, [some (.ref 104), some (.int x1), some (.int x2)], [.ref 104, .int x2, .int x1, .ref 105], σ) :=
  (aUn_eq (tkd G.1 G.2) tmi (aRun (tkd G.1 G.2) tmi tmt d) M_13 [] 5 (7, [some (.ref 104), some (.int x1), some (.int x2)], [], σ)).trans rfl
set_option maxRecDepth 20000 in
theorem q_13_5616 (G : Nat × (Nat → Int32)) (d : Nat) (x1 : Int32) (x2 : Int32) (s1 : Int32) (s2 : Int32) (σ : aH) : Lq G d M_13 (14, [some (.ref 104), some (.int x1), some (.int x2)], [.ref 104, .int s1, .int s2, .ref 105], σ) = aCI (Rn G d 15 [.ref 104] σ) fun v2 σ1 => Lq G d M_13 (17, [some (.ref 104), some (.int x1), some (.int x2)], [.int v2, .int s1, .int s2, .ref 105], σ1) :=
  (aUn_eq (tkd G.1 G.2) tmi (aRun (tkd G.1 G.2) tmi tmt d) M_13 [] 1 (14, [some (.ref 104), some (.int x1), some (.int x2)], [.ref 104, .int s1, .int s2, .ref 105], σ)).trans rfl
set_option maxRecDepth 20000 in
theorem q_13_5617 (G : Nat × (Nat → Int32)) (d : Nat) (x1 : Int32) (x2 : Int32) (s0 : Int32) (s1 : Int32) (s2 : Int32) (σ : aH) : Lq G d M_13 (17, [some (.ref 104), some (.int x1), some (.int x2)], [.int s0, .int s1, .int s2, .ref 105], σ) = aCI (Rn G d 17 [.ref 105, .int s2, .int s1, .int s0] σ) fun v2 σ1 => Lq G d M_13 (20, [some (.ref 104), some (.int x1), some (.int x2)], [.int v2], σ1) :=
  (aUn_eq (tkd G.1 G.2) tmi (aRun (tkd G.1 G.2) tmi tmt d) M_13 [] 1 (17, [some (.ref 104), some (.int x1), some (.int x2)], [.int s0, .int s1, .int s2, .ref 105], σ)).trans rfl
set_option maxRecDepth 20000 in
theorem q_13_5618 (G : Nat × (Nat → Int32)) (d : Nat) (x1 : Int32) (x2 : Int32) (s0 : Int32) (σ : aH) : Lq G d M_13 (20, [some (.ref 104), some (.int x1), some (.int x2)], [.int s0], σ) = Lq G d M_13 (36, [some (.ref 104), some (.int x1), some (.int x2)], [.int s0], σ) :=
  (aUn_eq (tkd G.1 G.2) tmi (aRun (tkd G.1 G.2) tmi tmt d) M_13 [] 1 (20, [some (.ref 104), some (.int x1), some (.int x2)], [.int s0], σ)).trans rfl
set_option maxRecDepth 20000 in
theorem q_13_5619 (G : Nat × (Nat → Int32)) (d : Nat) (x1 : Int32) (x2 : Int32) (s0 : Int32) (σ : aH) : Lq G d M_13 (36, [some (.ref 104), some (.int x1), some (.int x2)], [.int s0], σ) = some (.inl (some (.int s0)), σ) :=
  (aUn_eq (tkd G.1 G.2) tmi (aRun (tkd G.1 G.2) tmi tmt d) M_13 [] 1 (36, [some (.ref 104), some (.int x1), some (.int x2)], [.int s0], σ)).trans rfl
set_option maxRecDepth 20000 in
theorem q_13_5620 (G : Nat × (Nat → Int32)) (d : Nat) (x1 : Int32) (x2 : Int32) (σ : aH) : Lq G d M_13 (0, [some (.ref 106), some (.int x1), some (.int x2)], [], σ) = Lq G d M_13 (1, [some (.ref 106), some (.int x1), some (.int x2)], [.ref 106], σ) :=
  (aUn_eq (tkd G.1 G.2) tmi (aRun (tkd G.1 G.2) tmi tmt d) M_13 [] 1 (0, [some (.ref 106), some (.int x1), some (.int x2)], [], σ)).trans rfl
set_option maxRecDepth 20000 in
theorem q_13_5621 (G : Nat × (Nat → Int32)) (d : Nat) (x1 : Int32) (x2 : Int32) (σ : aH) : Lq G d M_13 (1, [some (.ref 106), some (.int x1), some (.int x2)], [.ref 106], σ) = aCI (Rn G d 14 [.ref 106] σ) fun v2 σ1 => Lq G d M_13 (4, [some (.ref 106), some (.int x1), some (.int x2)], [.int v2], σ1) :=
  (aUn_eq (tkd G.1 G.2) tmi (aRun (tkd G.1 G.2) tmi tmt d) M_13 [] 1 (1, [some (.ref 106), some (.int x1), some (.int x2)], [.ref 106], σ)).trans rfl
set_option maxRecDepth 20000 in
theorem q_13_5622 (G : Nat × (Nat → Int32)) (d : Nat) (x1 : Int32) (x2 : Int32) (s0 : Int32) (σ : aH) : Lq G d M_13 (4, [some (.ref 106), some (.int x1), some (.int x2)], [.int s0], σ) = if s0 = 0 then Lq G d M_13 (23, [some (.ref 106), some (.int x1), some (.int x2)], [], σ) else Lq G d M_13 (7, [some (.ref 106), some (.int x1), some (.int x2)], [], σ) :=
  (aUn_eq (tkd G.1 G.2) tmi (aRun (tkd G.1 G.2) tmi tmt d) M_13 [] 1 (4, [some (.ref 106), some (.int x1), some (.int x2)], [.int s0], σ)).trans rfl
set_option maxRecDepth 20000 in
theorem q_13_5623 (G : Nat × (Nat → Int32)) (d : Nat) (x1 : Int32) (x2 : Int32) (σ : aH) : Lq G d M_13 (23, [some (.ref 106), some (.int x1), some (.int x2)], [], σ) = Lq G d M_13 (30, [some (.ref 106), some (.int x1), some (.int x2)], [.ref 106, .int x2, .int x1, .ref 107], σ) :=
  (aUn_eq (tkd G.1 G.2) tmi (aRun (tkd G.1 G.2) tmi tmt d) M_13 [] 5 (23, [some (.ref 106), some (.int x1), some (.int x2)], [], σ)).trans rfl
set_option maxRecDepth 20000 in
theorem q_13_5624 (G : Nat × (Nat → Int32)) (d : Nat) (x1 : Int32) (x2 : Int32) (s1 : Int32) (s2 : Int32) (σ : aH) : Lq G d M_13 (30, [some (.ref 106), some (.int x1), some (.int x2)], [.ref 106, .int s1, .int s2, .ref 107], σ) = aCI (Rn G d 15 [.ref 106] σ) fun v2 σ1 => Lq G d M_13 (33, [some (.ref 106), some (.int x1), some (.int x2)], [.int v2, .int s1, .int s2, .ref 107], σ1) :=
  (aUn_eq (tkd G.1 G.2) tmi (aRun (tkd G.1 G.2) tmi tmt d) M_13 [] 1 (30, [some (.ref 106), some (.int x1), some (.int x2)], [.ref 106, .int s1, .int s2, .ref 107], σ)).trans rfl
set_option maxRecDepth 20000 in
theorem q_13_5625 (G : Nat × (Nat → Int32)) (d : Nat) (x1 : Int32) (x2 : Int32) (s0 : Int32) (s1 : Int32) (s2 : Int32) (σ : aH) : Lq G d M_13 (33, [some (.ref 106), some (.int x1), some (.int x2)], [.int s0, .int s1, .int s2, .ref 107], σ) = none :=
  (aUn_eq (tkd G.1 G.2) tmi (aRun (tkd G.1 G.2) tmi tmt d) M_13 [] 1 (33, [some (.ref 106), some (.int x1), some (.int x2)], [.int s0, .int s1, .int s2, .ref 107], σ)).trans rfl
set_option maxRecDepth 20000 in
theorem q_13_5626 (G : Nat × (Nat → Int32)) (d : Nat) (x1 : Int32) (x2 : Int32) (σ : aH) : Lq G d M_13 (7, [some (.ref 106), some (.int x1), some (.int x2)], [], σ) = Lq G d M_13 (14, [some (.ref 106), some (.int x1), some (.int x2)], [.ref 106, .int x2, .int x1, .ref 107], σ) :=
  (aUn_eq (tkd G.1 G.2) tmi (aRun (tkd G.1 G.2) tmi tmt d) M_13 [] 5 (7, [some (.ref 106), some (.int x1), some (.int x2)], [], σ)).trans rfl
set_option maxRecDepth 20000 in
theorem q_13_5627 (G : Nat × (Nat → Int32)) (d : Nat) (x1 : Int32) (x2 : Int32) (s1 : Int32) (s2 : Int32) (σ : aH) : Lq G d M_13 (14, [some (.ref 106), some (.int x1), some (.int x2)], [.ref 106, .int s1, .int s2, .ref 107], σ) = aCI (Rn G d 15 [.ref 106] σ) fun v2 σ1 => Lq G d M_13 (17, [some (.ref 106), some (.int x1), some (.int x2)], [.int v2, .int s1, .int s2, .ref 107], σ1) :=
  (aUn_eq (tkd G.1 G.2) tmi (aRun (tkd G.1 G.2) tmi tmt d) M_13 [] 1 (14, [some (.ref 106), some (.int x1), some (.int x2)], [.ref 106, .int s1, .int s2, .ref 107], σ)).trans rfl
set_option maxRecDepth 20000 in
theorem q_13_5628 (G : Nat × (Nat → Int32)) (d : Nat) (x1 : Int32) (x2 : Int32) (s0 : Int32) (s1 : Int32) (s2 : Int32) (σ : aH) : Lq G d M_13 (17, [some (.ref 106), some (.int x1), some (.int x2)], [.int s0, .int s1, .int s2, .ref 107], σ) = aCI (Rn G d 17 [.ref 107, .int s2, .int s1, .int s0] σ) fun v2 σ1 => Lq G d M_13 (20, [some (.ref 106), some (.int x1), some (.int x2)], [.int v2], σ1) :=
  (aUn_eq (tkd G.1 G.2) tmi (aRun (tkd G.1 G.2) tmi tmt d) M_13 [] 1 (17, [some (.ref 106), some (.int x1), some (.int x2)], [.int s0, .int s1, .int s2, .ref 107], σ)).trans rfl
set_option maxRecDepth 20000 in
theorem q_13_5629 (G : Nat × (Nat → Int32)) (d : Nat) (x1 : Int32) (x2 : Int32) (s0 : Int32) (σ : aH) : Lq G d M_13 (20, [some (.ref 106), some (.int x1), some (.int x2)], [.int s0], σ) = Lq G d M_13 (36, [some (.ref 106), some (.int x1), some (.int x2)], [.int s0], σ) :=
  (aUn_eq (tkd G.1 G.2) tmi (aRun (tkd G.1 G.2) tmi tmt d) M_13 [] 1 (20, [some (.ref 106), some (.int x1), some (.int x2)], [.int s0], σ)).trans rfl
set_option maxRecDepth 20000 in
theorem q_13_5630 (G : Nat × (Nat → Int32)) (d : Nat) (x1 : Int32) (x2 : Int32) (s0 : Int32) (σ : aH) : Lq G d M_13 (36, [some (.ref 106), some (.int x1), some (.int x2)], [.int s0], σ) = some (.inl (some (.int s0)), σ) :=
  (aUn_eq (tkd G.1 G.2) tmi (aRun (tkd G.1 G.2) tmi tmt d) M_13 [] 1 (36, [some (.ref 106), some (.int x1), some (.int x2)], [.int s0], σ)).trans rfl
set_option maxRecDepth 20000 in
theorem q_13_5631 (G : Nat × (Nat → Int32)) (d : Nat) (x1 : Int32) (x2 : Int32) (σ : aH) : Lq G d M_13 (0, [some (.ref 108), some (.int x1), some (.int x2)], [], σ) = Lq G d M_13 (1, [some (.ref 108), some (.int x1), some (.int x2)], [.ref 108], σ) :=
  (aUn_eq (tkd G.1 G.2) tmi (aRun (tkd G.1 G.2) tmi tmt d) M_13 [] 1 (0, [some (.ref 108), some (.int x1), some (.int x2)], [], σ)).trans rfl
set_option maxRecDepth 20000 in
theorem q_13_5632 (G : Nat × (Nat → Int32)) (d : Nat) (x1 : Int32) (x2 : Int32) (σ : aH) : Lq G d M_13 (1, [some (.ref 108), some (.int x1), some (.int x2)], [.ref 108], σ) = aCI (Rn G d 14 [.ref 108] σ) fun v2 σ1 => Lq G d M_13 (4, [some (.ref 108), some (.int x1), some (.int x2)], [.int v2], σ1) :=
  (aUn_eq (tkd G.1 G.2) tmi (aRun (tkd G.1 G.2) tmi tmt d) M_13 [] 1 (1, [some (.ref 108), some (.int x1), some (.int x2)], [.ref 108], σ)).trans rfl
set_option maxRecDepth 20000 in
theorem q_13_5633 (G : Nat × (Nat → Int32)) (d : Nat) (x1 : Int32) (x2 : Int32) (s0 : Int32) (σ : aH) : Lq G d M_13 (4, [some (.ref 108), some (.int x1), some (.int x2)], [.int s0], σ) = if s0 = 0 then Lq G d M_13 (23, [some (.ref 108), some (.int x1), some (.int x2)], [], σ) else Lq G d M_13 (7, [some (.ref 108), some (.int x1), some (.int x2)], [], σ) :=
  (aUn_eq (tkd G.1 G.2) tmi (aRun (tkd G.1 G.2) tmi tmt d) M_13 [] 1 (4, [some (.ref 108), some (.int x1), some (.int x2)], [.int s0], σ)).trans rfl
set_option maxRecDepth 20000 in
theorem q_13_5634 (G : Nat × (Nat → Int32)) (d : Nat) (x1 : Int32) (x2 : Int32) (σ : aH) : Lq G d M_13 (23, [some (.ref 108), some (.int x1), some (.int x2)], [], σ) = Lq G d M_13 (30, [some (.ref 108), some (.int x1), some (.int x2)], [.ref 108, .int x2, .int x1, .ref 109], σ) :=
  (aUn_eq (tkd G.1 G.2) tmi (aRun (tkd G.1 G.2) tmi tmt d) M_13 [] 5 (23, [some (.ref 108), some (.int x1), some (.int x2)], [], σ)).trans rfl
set_option maxRecDepth 20000 in
theorem q_13_5635 (G : Nat × (Nat → Int32)) (d : Nat) (x1 : Int32) (x2 : Int32) (s1 : Int32) (s2 : Int32) (σ : aH) : Lq G d M_13 (30, [some (.ref 108), some (.int x1), some (.int x2)], [.ref 108, .int s1, .int s2, .ref 109], σ) = aCI (Rn G d 15 [.ref 108] σ) fun v2 σ1 => Lq G d M_13 (33, [some (.ref 108), some (.int x1), some (.int x2)], [.int v2, .int s1, .int s2, .ref 109], σ1) :=
  (aUn_eq (tkd G.1 G.2) tmi (aRun (tkd G.1 G.2) tmi tmt d) M_13 [] 1 (30, [some (.ref 108), some (.int x1), some (.int x2)], [.ref 108, .int s1, .int s2, .ref 109], σ)).trans rfl
set_option maxRecDepth 20000 in
theorem q_13_5636 (G : Nat × (Nat → Int32)) (d : Nat) (x1 : Int32) (x2 : Int32) (s0 : Int32) (s1 : Int32) (s2 : Int32) (σ : aH) : Lq G d M_13 (33, [some (.ref 108), some (.int x1), some (.int x2)], [.int s0, .int s1, .int s2, .ref 109], σ) = none :=
  (aUn_eq (tkd G.1 G.2) tmi (aRun (tkd G.1 G.2) tmi tmt d) M_13 [] 1 (33, [some (.ref 108), some (.int x1), some (.int x2)], [.int s0, .int s1, .int s2, .ref 109], σ)).trans rfl
set_option maxRecDepth 20000 in
theorem q_13_5637 (G : Nat × (Nat → Int32)) (d : Nat) (x1 : Int32) (x2 : Int32) (σ : aH) : Lq G d M_13 (7, [some (.ref 108), some (.int x1), some (.int x2)], [], σ) = Lq G d M_13 (14, [some (.ref 108), some (.int x1), some (.int x2)], [.ref 108, .int x2, .int x1, .ref 109], σ) :=
  (aUn_eq (tkd G.1 G.2) tmi (aRun (tkd G.1 G.2) tmi tmt d) M_13 [] 5 (7, [some (.ref 108), some (.int x1), some (.int x2)], [], σ)).trans rfl
set_option maxRecDepth 20000 in
theorem q_13_5638 (G : Nat × (Nat → Int32)) (d : Nat) (x1 : Int32) (x2 : Int32) (s1 : Int32) (s2 : Int32) (σ : aH) : Lq G d M_13 (14, [some (.ref 108), some (.int x1), some (.int x2)], [.ref 108, .int s1, .int s2, .ref 109], σ) = aCI (Rn G d 15 [.ref 108] σ) fun v2 σ1 => Lq G d M_13 (17, [some (.ref 108), some (.int x1), some (.int x2)], [.int v2, .int s1, .int s2, .ref 109], σ1) :=
  (aUn_eq (tkd G.1 G.2) tmi (aRun (tkd G.1 G.2) tmi tmt d) M_13 [] 1 (14, [some (.ref 108), some (.int x1), some (.int x2)], [.ref 108, .int s1, .int s2, .ref 109], σ)).trans rfl
set_option maxRecDepth 20000 in
theorem q_13_5639 (G : Nat × (Nat → Int32)) (d : Nat) (x1 : Int32) (x2 : Int32) (s0 : Int32) (s1 : Int32) (s2 : Int32) (σ : aH) : Lq G d M_13 (17, [some (.ref 108), some (.int x1), some (.int x2)], [.int s0, .int s1, .int s2, .ref 109], σ) = aCI (Rn G d 17 [.ref 109, .int s2, .int s1, .int s0] σ) fun v2 σ1 => Lq G d M_13 (20, [some (.ref 108), some (.int x1), some (.int x2)], [.int v2], σ1) :=
  (aUn_eq (tkd G.1 G.2) tmi (aRun (tkd G.1 G.2) tmi tmt d) M_13 [] 1 (17, [some (.ref 108), some (.int x1), some (.int x2)], [.int s0, .int s1, .int s2, .ref 109], σ)).trans rfl
set_option maxRecDepth 20000 in
theorem q_13_5640 (G : Nat × (Nat → Int32)) (d : Nat) (x1 : Int32) (x2 : Int32) (s0 : Int32) (σ : aH) : Lq G d M_13 (20, [some (.ref 108), some (.int x1), some (.int x2)], [.int s0], σ) = Lq G d M_13 (36, [some (.ref 108), some (.int x1), some (.int x2)], [.int s0], σ) :=
  (aUn_eq (tkd G.1 G.2) tmi (aRun (tkd G.1 G.2) tmi tmt d) M_13 [] 1 (20, [some (.ref 108), some (.int x1), some (.int x2)], [.int s0], σ)).trans rfl
set_option maxRecDepth 20000 in
theorem q_13_5641 (G : Nat × (Nat → Int32)) (d : Nat) (x1 : Int32) (x2 : Int32) (s0 : Int32) (σ : aH) : Lq G d M_13 (36, [some (.ref 108), some (.int x1), some (.int x2)], [.int s0], σ) = some (.inl (some (.int s0)), σ) :=
  (aUn_eq (tkd G.1 G.2) tmi (aRun (tkd G.1 G.2) tmi tmt d) M_13 [] 1 (36, [some (.ref 108), some (.int x1), some (.int x2)], [.int s0], σ)).trans rfl
set_option maxRecDepth 20000 in
theorem q_13_5642 (G : Nat × (Nat → Int32)) (d : Nat) (x1 : Int32) (x2 : Int32) (σ : aH) : Lq G d M_13 (0, [some (.ref 110), some (.int x1), some (.int x2)], [], σ) = Lq G d M_13 (1, [some (.ref 110), some (.int x1), some (.int x2)], [.ref 110], σ) :=
  (aUn_eq (tkd G.1 G.2) tmi (aRun (tkd G.1 G.2) tmi tmt d) M_13 [] 1 (0, [some (.ref 110), some (.int x1), some (.int x2)], [], σ)).trans rfl
set_option maxRecDepth 20000 in
theorem q_13_5643 (G : Nat × (Nat → Int32)) (d : Nat) (x1 : Int32) (x2 : Int32) (σ : aH) : Lq G d M_13 (1, [some (.ref 110), some (.int x1), some (.int x2)], [.ref 110], σ) = aCI (Rn G d 14 [.ref 110] σ) fun v2 σ1 => Lq G d M_13 (4, [some (.ref 110), some (.int x1), some (.int x2)], [.int v2], σ1) :=
  (aUn_eq (tkd G.1 G.2) tmi (aRun (tkd G.1 G.2) tmi tmt d) M_13 [] 1 (1, [some (.ref 110), some (.int x1), some (.int x2)], [.ref 110], σ)).trans rfl
set_option maxRecDepth 20000 in
theorem q_13_5644 (G : Nat × (Nat → Int32)) (d : Nat) (x1 : Int32) (x2 : Int32) (s0 : Int32) (σ : aH) : Lq G d M_13 (4, [some (.ref 110), some (.int x1), some (.int x2)], [.int s0], σ) = if s0 = 0 then Lq G d M_13 (23, [some (.ref 110), some (.int x1), some (.int x2)], [], σ) else Lq G d M_13 (7, [some (.ref 110), some (.int x1), some (.int x2)], [], σ) :=
  (aUn_eq (tkd G.1 G.2) tmi (aRun (tkd G.1 G.2) tmi tmt d) M_13 [] 1 (4, [some (.ref 110), some (.int x1), some (.int x2)], [.int s0], σ)).trans rfl
set_option maxRecDepth 20000 in
theorem q_13_5645 (G : Nat × (Nat → Int32)) (d : Nat) (x1 : Int32) (x2 : Int32) (σ : aH) : Lq G d M_13 (23, [some (.ref 110), some (.int x1), some (.int x2)], [], σ) = Lq G d M_13 (30, [some (.ref 110), some (.int x1), some (.int x2)], [.ref 110, .int x2, .int x1, .ref 111], σ) :=
  (aUn_eq (tkd G.1 G.2) tmi (aRun (tkd G.1 G.2) tmi tmt d) M_13 [] 5 (23, [some (.ref 110), some (.int x1), some (.int x2)], [], σ)).trans rfl
set_option maxRecDepth 20000 in
theorem q_13_5646 (G : Nat × (Nat → Int32)) (d : Nat) (x1 : Int32) (x2 : Int32) (s1 : Int32) (s2 : Int32) (σ : aH) : Lq G d M_13 (30, [some (.ref 110), some (.int x1), some (.int x2)], [.ref 110, .int s1, .int s2, .ref 111], σ) = aCI (Rn G d 15 [.ref 110] σ) fun v2 σ1 => Lq G d M_13 (33, [some (.ref 110), some (.int x1), some (.int x2)], [.int v2, .int s1, .int s2, .ref 111], σ1) :=
  (aUn_eq (tkd G.1 G.2) tmi (aRun (tkd G.1 G.2) tmi tmt d) M_13 [] 1 (30, [some (.ref 110), some (.int x1), some (.int x2)], [.ref 110, .int s1, .int s2, .ref 111], σ)).trans rfl
