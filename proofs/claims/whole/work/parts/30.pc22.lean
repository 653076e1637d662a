/-! ===== the methods in pieces, as equations (by wip/gen/emit_eqs2.py) ===== -/
set_option maxRecDepth 20000 in
theorem q_127_6325 (G : Nat × (Nat → Int32)) (d : Nat) (x0 : Int32) (x1 : Int32) (x2 : Int32) (s0 : Int32) (σ : aH) : Lq G d M_127 (86, [some (.int x0), some (.int x1), some (.int x2)], [.int s0], σ) = some (.inl (some (.int s0)), σ) :=
  (aUn_eq (tkd G.1 G.2) tmi (aRun (tkd G.1 G.2) tmi tmt d) M_127 [] 1 (86, [some (.int x0), some (.int x1), some (.int x2)], [.int s0], σ)).trans rfl
set_option maxRecDepth 20000 in
theorem q_127_6326 (G : Nat × (Nat → Int32)) (d : Nat) (x0 : Int32) (x1 : Int32) (x2 : Int32) (σ : aH) : Lq G d M_127 (81, [some (.int x0), some (.int x1), some (.int x2)], [], σ) = Lq G d M_127 (86, [some (.int x0), some (.int x1), some (.int x2)], [.int (1 : Int32)], σ) :=
  (aUn_eq (tkd G.1 G.2) tmi (aRun (tkd G.1 G.2) tmi tmt d) M_127 [] 2 (81, [some (.int x0), some (.int x1), some (.int x2)], [], σ)).trans rfl
set_option maxRecDepth 20000 in
theorem q_127_6327 (G : Nat × (Nat → Int32)) (d : Nat) (x0 : Int32) (x1 : Int32) (x2 : Int32) (σ : aH) : Lq G d M_127 (87, [some (.int x0), some (.int x1), some (.int x2)], [], σ) = Lq G d M_127 (89, [some (.int x0), some (.int x1), some (.int x2)], [.int x2, .int x1], σ) :=
  (aUn_eq (tkd G.1 G.2) tmi (aRun (tkd G.1 G.2) tmi tmt d) M_127 [] 2 (87, [some (.int x0), some (.int x1), some (.int x2)], [], σ)).trans rfl
set_option maxRecDepth 20000 in
theorem q_127_6328 (G : Nat × (Nat → Int32)) (d : Nat) (x0 : Int32) (x1 : Int32) (x2 : Int32) (s0 : Int32) (s1 : Int32) (σ : aH) : Lq G d M_127 (89, [some (.int x0), some (.int x1), some (.int x2)], [.int s0, .int s1], σ) = if s1 = s0 then Lq G d M_127 (92, [some (.int x0), some (.int x1), some (.int x2)], [], σ) else Lq G d M_127 (96, [some (.int x0), some (.int x1), some (.int x2)], [], σ) :=
  (aUn_eq (tkd G.1 G.2) tmi (aRun (tkd G.1 G.2) tmi tmt d) M_127 [] 1 (89, [some (.int x0), some (.int x1), some (.int x2)], [.int s0, .int s1], σ)).trans rfl
set_option maxRecDepth 20000 in
theorem q_127_6329 (G : Nat × (Nat → Int32)) (d : Nat) (x0 : Int32) (x1 : Int32) (x2 : Int32) (σ : aH) : Lq G d M_127 (92, [some (.int x0), some (.int x1), some (.int x2)], [], σ) = Lq G d M_127 (97, [some (.int x0), some (.int x1), some (.int x2)], [.int (1 : Int32)], σ) :=
  (aUn_eq (tkd G.1 G.2) tmi (aRun (tkd G.1 G.2) tmi tmt d) M_127 [] 2 (92, [some (.int x0), some (.int x1), some (.int x2)], [], σ)).trans rfl
set_option maxRecDepth 20000 in
theorem q_127_6330 (G : Nat × (Nat → Int32)) (d : Nat) (x0 : Int32) (x1 : Int32) (x2 : Int32) (s0 : Int32) (σ : aH) : Lq G d M_127 (97, [some (.int x0), some (.int x1), some (.int x2)], [.int s0], σ) = some (.inl (some (.int s0)), σ) :=
  (aUn_eq (tkd G.1 G.2) tmi (aRun (tkd G.1 G.2) tmi tmt d) M_127 [] 1 (97, [some (.int x0), some (.int x1), some (.int x2)], [.int s0], σ)).trans rfl
set_option maxRecDepth 20000 in
theorem q_127_6331 (G : Nat × (Nat → Int32)) (d : Nat) (x0 : Int32) (x1 : Int32) (x2 : Int32) (σ : aH) : Lq G d M_127 (96, [some (.int x0), some (.int x1), some (.int x2)], [], σ) = Lq G d M_127 (97, [some (.int x0), some (.int x1), some (.int x2)], [.int (0 : Int32)], σ) :=
  (aUn_eq (tkd G.1 G.2) tmi (aRun (tkd G.1 G.2) tmi tmt d) M_127 [] 1 (96, [some (.int x0), some (.int x1), some (.int x2)], [], σ)).trans rfl
set_option maxRecDepth 20000 in
theorem q_127_6332 (G : Nat × (Nat → Int32)) (d : Nat) (x0 : Int32) (x1 : Int32) (x2 : Int32) (σ : aH) : Lq G d M_127 (98, [some (.int x0), some (.int x1), some (.int x2)], [], σ) = Lq G d M_127 (101, [some (.int x0), some (.int x1), some (.int x2)], [.int (x1 + x2)], σ) :=
  (aUn_eq (tkd G.1 G.2) tmi (aRun (tkd G.1 G.2) tmi tmt d) M_127 [] 3 (98, [some (.int x0), some (.int x1), some (.int x2)], [], σ)).trans rfl
set_option maxRecDepth 20000 in
theorem q_127_6333 (G : Nat × (Nat → Int32)) (d : Nat) (x0 : Int32) (x1 : Int32) (x2 : Int32) (s0 : Int32) (σ : aH) : Lq G d M_127 (101, [some (.int x0), some (.int x1), some (.int x2)], [.int s0], σ) = some (.inl (some (.int s0)), σ) :=
  (aUn_eq (tkd G.1 G.2) tmi (aRun (tkd G.1 G.2) tmi tmt d) M_127 [] 1 (101, [some (.int x0), some (.int x1), some (.int x2)], [.int s0], σ)).trans rfl
set_option maxRecDepth 20000 in
theorem q_127_6334 (G : Nat × (Nat → Int32)) (d : Nat) (x0 : Int32) (x1 : Int32) (x2 : Int32) (σ : aH) : Lq G d M_127 (102, [some (.int x0), some (.int x1), some (.int x2)], [], σ) = Lq G d M_127 (105, [some (.int x0), some (.int x1), some (.int x2)], [.int (x1 - x2)], σ) :=
  (aUn_eq (tkd G.1 G.2) tmi (aRun (tkd G.1 G.2) tmi tmt d) M_127 [] 3 (102, [some (.int x0), some (.int x1), some (.int x2)], [], σ)).trans rfl
set_option maxRecDepth 20000 in
theorem q_127_6335 (G : Nat × (Nat → Int32)) (d : Nat) (x0 : Int32) (x1 : Int32) (x2 : Int32) (s0 : Int32) (σ : aH) : Lq G d M_127 (105, [some (.int x0), some (.int x1), some (.int x2)], [.int s0], σ) = some (.inl (some (.int s0)), σ) :=
  (aUn_eq (tkd G.1 G.2) tmi (aRun (tkd G.1 G.2) tmi tmt d) M_127 [] 1 (105, [some (.int x0), some (.int x1), some (.int x2)], [.int s0], σ)).trans rfl
set_option maxRecDepth 20000 in
theorem q_127_6336 (G : Nat × (Nat → Int32)) (d : Nat) (x0 : Int32) (x1 : Int32) (x2 : Int32) (σ : aH) : Lq G d M_127 (106, [some (.int x0), some (.int x1), some (.int x2)], [], σ) = Lq G d M_127 (109, [some (.int x0), some (.int x1), some (.int x2)], [.int (x1 * x2)], σ) :=
  (aUn_eq (tkd G.1 G.2) tmi (aRun (tkd G.1 G.2) tmi tmt d) M_127 [] 3 (106, [some (.int x0), some (.int x1), some (.int x2)], [], σ)).trans rfl
set_option maxRecDepth 20000 in
theorem q_127_6337 (G : Nat × (Nat → Int32)) (d : Nat) (x0 : Int32) (x1 : Int32) (x2 : Int32) (s0 : Int32) (σ : aH) : Lq G d M_127 (109, [some (.int x0), some (.int x1), some (.int x2)], [.int s0], σ) = some (.inl (some (.int s0)), σ) :=
  (aUn_eq (tkd G.1 G.2) tmi (aRun (tkd G.1 G.2) tmi tmt d) M_127 [] 1 (109, [some (.int x0), some (.int x1), some (.int x2)], [.int s0], σ)).trans rfl
set_option maxRecDepth 20000 in
theorem q_224_6338 (G : Nat × (Nat → Int32)) (d : Nat) (x0 : Int64) (x2 : Int64) (σ : aH) : Lq G d M_224 (0, [some (.long x0), none, some (.long x2), none], [], σ) = Lq G d M_224 (3, [some (.long x0), none, some (.long x2), none], [.int (lg_cmp x0 x2)], σ) :=
  (aUn_eq (tkd G.1 G.2) tmi (aRun (tkd G.1 G.2) tmi tmt d) M_224 [] 3 (0, [some (.long x0), none, some (.long x2), none], [], σ)).trans rfl
set_option maxRecDepth 20000 in
theorem q_224_6339 (G : Nat × (Nat → Int32)) (d : Nat) (x0 : Int64) (x2 : Int64) (s0 : Int32) (σ : aH) : Lq G d M_224 (3, [some (.long x0), none, some (.long x2), none], [.int s0], σ) = if s0 < 0 then Lq G d M_224 (10, [some (.long x0), none, some (.long x2), none], [], σ) else Lq G d M_224 (6, [some (.long x0), none, some (.long x2), none], [], σ) :=
  (aUn_eq (tkd G.1 G.2) tmi (aRun (tkd G.1 G.2) tmi tmt d) M_224 [] 1 (3, [some (.long x0), none, some (.long x2), none], [.int s0], σ)).trans rfl
set_option maxRecDepth 20000 in
theorem q_224_6340 (G : Nat × (Nat → Int32)) (d : Nat) (x0 : Int64) (x2 : Int64) (σ : aH) : Lq G d M_224 (10, [some (.long x0), none, some (.long x2), none], [], σ) = Lq G d M_224 (11, [some (.long x0), none, some (.long x2), none], [.long x2], σ) :=
  (aUn_eq (tkd G.1 G.2) tmi (aRun (tkd G.1 G.2) tmi tmt d) M_224 [] 1 (10, [some (.long x0), none, some (.long x2), none], [], σ)).trans rfl
set_option maxRecDepth 20000 in
theorem q_224_6341 (G : Nat × (Nat → Int32)) (d : Nat) (x0 : Int64) (x2 : Int64) (s0 : Int64) (σ : aH) : Lq G d M_224 (11, [some (.long x0), none, some (.long x2), none], [.long s0], σ) = some (.inl (some (.long s0)), σ) :=
  (aUn_eq (tkd G.1 G.2) tmi (aRun (tkd G.1 G.2) tmi tmt d) M_224 [] 1 (11, [some (.long x0), none, some (.long x2), none], [.long s0], σ)).trans rfl
set_option maxRecDepth 20000 in
theorem q_224_6342 (G : Nat × (Nat → Int32)) (d : Nat) (x0 : Int64) (x2 : Int64) (σ : aH) : Lq G d M_224 (6, [some (.long x0), none, some (.long x2), none], [], σ) = Lq G d M_224 (11, [some (.long x0), none, some (.long x2), none], [.long x0], σ) :=
  (aUn_eq (tkd G.1 G.2) tmi (aRun (tkd G.1 G.2) tmi tmt d) M_224 [] 2 (6, [some (.long x0), none, some (.long x2), none], [], σ)).trans rfl
set_option maxRecDepth 20000 in
theorem q_17_6343 (G : Nat × (Nat → Int32)) (d : Nat) (rx0 : Nat) (x1 : Int32) (x2 : Int32) (x3 : Int32) (σ : aH) : Lq G d M_17 (0, [some (.ref rx0), some (.int x1), some (.int x2), some (.int x3)], [], σ) = Lq G d M_17 (1, [some (.ref rx0), some (.int x1), some (.int x2), some (.int x3)], [.int x1], σ) :=
  (aUn_eq (tkd G.1 G.2) tmi (aRun (tkd G.1 G.2) tmi tmt d) M_17 [] 1 (0, [some (.ref rx0), some (.int x1), some (.int x2), some (.int x3)], [], σ)).trans rfl
set_option maxRecDepth 20000 in
theorem q_17_6344 (G : Nat × (Nat → Int32)) (d : Nat) (rx0 : Nat) (x1 : Int32) (x2 : Int32) (x3 : Int32) (s0 : Int32) (σ : aH) : Lq G d M_17 (1, [some (.ref rx0), some (.int x1), some (.int x2), some (.int x3)], [.int s0], σ) = aCI (Rn G d 18 [.int s0] σ) fun v2 σ1 => Lq G d M_17 (4, [some (.ref rx0), some (.int x1), some (.int x2), some (.int x3)], [.int v2], σ1) :=
  (aUn_eq (tkd G.1 G.2) tmi (aRun (tkd G.1 G.2) tmi tmt d) M_17 [] 1 (1, [some (.ref rx0), some (.int x1), some (.int x2), some (.int x3)], [.int s0], σ)).trans rfl
set_option maxRecDepth 20000 in
theorem q_17_6345 (G : Nat × (Nat → Int32)) (d : Nat) (rx0 : Nat) (x1 : Int32) (x2 : Int32) (x3 : Int32) (s0 : Int32) (σ : aH) : Lq G d M_17 (4, [some (.ref rx0), some (.int x1), some (.int x2), some (.int x3)], [.int s0], σ) = if s0 = 0 then Lq G d M_17 (7, [some (.ref rx0), some (.int x1), some (.int x2), some (.int x3)], [], σ) else Lq G d M_17 (9, [some (.ref rx0), some (.int x1), some (.int x2), some (.int x3)], [], σ) :=
  (aUn_eq (tkd G.1 G.2) tmi (aRun (tkd G.1 G.2) tmi tmt d) M_17 [] 1 (4, [some (.ref rx0), some (.int x1), some (.int x2), some (.int x3)], [.int s0], σ)).trans rfl
set_option maxRecDepth 20000 in
theorem q_17_6346 (G : Nat × (Nat → Int32)) (d : Nat) (rx0 : Nat) (x1 : Int32) (x2 : Int32) (x3 : Int32) (σ : aH) : Lq G d M_17 (7, [some (.ref rx0), some (.int x1), some (.int x2), some (.int x3)], [], σ) = Lq G d M_17 (8, [some (.ref rx0), some (.int x1), some (.int x2), some (.int x3)], [.int (-1 : Int32)], σ) :=
  (aUn_eq (tkd G.1 G.2) tmi (aRun (tkd G.1 G.2) tmi tmt d) M_17 [] 1 (7, [some (.ref rx0), some (.int x1), some (.int x2), some (.int x3)], [], σ)).trans rfl
set_option maxRecDepth 20000 in
theorem q_17_6347 (G : Nat × (Nat → Int32)) (d : Nat) (rx0 : Nat) (x1 : Int32) (x2 : Int32) (x3 : Int32) (s0 : Int32) (σ : aH) : Lq G d M_17 (8, [some (.ref rx0), some (.int x1), some (.int x2), some (.int x3)], [.int s0], σ) = some (.inl (some (.int s0)), σ) :=
  (aUn_eq (tkd G.1 G.2) tmi (aRun (tkd G.1 G.2) tmi tmt d) M_17 [] 1 (8, [some (.ref rx0), some (.int x1), some (.int x2), some (.int x3)], [.int s0], σ)).trans rfl
set_option maxRecDepth 20000 in
theorem q_17_6348 (G : Nat × (Nat → Int32)) (d : Nat) (rx0 : Nat) (x1 : Int32) (x2 : Int32) (x3 : Int32) (σ : aH) : Lq G d M_17 (9, [some (.ref rx0), some (.int x1), some (.int x2), some (.int x3)], [], σ) = Lq G d M_17 (11, [some (.ref rx0), some (.int x1), some (.int x2), some (.int x3)], [.int (0 : Int32), .int x2], σ) :=
  (aUn_eq (tkd G.1 G.2) tmi (aRun (tkd G.1 G.2) tmi tmt d) M_17 [] 2 (9, [some (.ref rx0), some (.int x1), some (.int x2), some (.int x3)], [], σ)).trans rfl
set_option maxRecDepth 20000 in
theorem q_17_6349 (G : Nat × (Nat → Int32)) (d : Nat) (rx0 : Nat) (x1 : Int32) (x2 : Int32) (x3 : Int32) (s0 : Int32) (s1 : Int32) (σ : aH) : Lq G d M_17 (11, [some (.ref rx0), some (.int x1), some (.int x2), some (.int x3)], [.int s0, .int s1], σ) = aCI (Rn G d 19 [.int s1, .int s0] σ) fun v2 σ1 => Lq G d M_17 (14, [some (.ref rx0), some (.int x1), some (.int x2), some (.int x3)], [.int v2], σ1) :=
  (aUn_eq (tkd G.1 G.2) tmi (aRun (tkd G.1 G.2) tmi tmt d) M_17 [] 1 (11, [some (.ref rx0), some (.int x1), some (.int x2), some (.int x3)], [.int s0, .int s1], σ)).trans rfl
set_option maxRecDepth 20000 in
theorem q_17_6350 (G : Nat × (Nat → Int32)) (d : Nat) (rx0 : Nat) (x1 : Int32) (x2 : Int32) (x3 : Int32) (s0 : Int32) (σ : aH) : Lq G d M_17 (14, [some (.ref rx0), some (.int x1), some (.int x2), some (.int x3)], [.int s0], σ) = Lq G d M_17 (17, [some (.ref rx0), some (.int x1), some (.int s0), some (.int x3)], [.ref rx0, .int x3], σ) :=
  (aUn_eq (tkd G.1 G.2) tmi (aRun (tkd G.1 G.2) tmi tmt d) M_17 [] 3 (14, [some (.ref rx0), some (.int x1), some (.int x2), some (.int x3)], [.int s0], σ)).trans rfl
set_option maxRecDepth 20000 in
theorem q_17_6351 (G : Nat × (Nat → Int32)) (d : Nat) (rx0 : Nat) (x1 : Int32) (x2 : Int32) (x3 : Int32) (rs0 : Nat) (s1 : Int32) (σ : aH) : Lq G d M_17 (17, [some (.ref rx0), some (.int x1), some (.int x2), some (.int x3)], [.ref rs0, .int s1], σ) = aLen (tkd G.1 G.2) rs0 fun n1 => Lq G d M_17 (18, [some (.ref rx0), some (.int x1), some (.int x2), some (.int x3)], [.int (Int32.ofNat n1), .int s1], σ) :=
  (aUn_eq (tkd G.1 G.2) tmi (aRun (tkd G.1 G.2) tmi tmt d) M_17 [] 1 (17, [some (.ref rx0), some (.int x1), some (.int x2), some (.int x3)], [.ref rs0, .int s1], σ)).trans rfl
set_option maxRecDepth 20000 in
theorem q_17_6352 (G : Nat × (Nat → Int32)) (d : Nat) (rx0 : Nat) (x1 : Int32) (x2 : Int32) (x3 : Int32) (s0 : Int32) (s1 : Int32) (σ : aH) : Lq G d M_17 (18, [some (.ref rx0), some (.int x1), some (.int x2), some (.int x3)], [.int s0, .int s1], σ) = aCI (Rn G d 20 [.int s1, .int s0] σ) fun v2 σ1 => Lq G d M_17 (21, [some (.ref rx0), some (.int x1), some (.int x2), some (.int x3)], [.int v2], σ1) :=
  (aUn_eq (tkd G.1 G.2) tmi (aRun (tkd G.1 G.2) tmi tmt d) M_17 [] 1 (18, [some (.ref rx0), some (.int x1), some (.int x2), some (.int x3)], [.int s0, .int s1], σ)).trans rfl
set_option maxRecDepth 20000 in
theorem q_17_6353 (G : Nat × (Nat → Int32)) (d : Nat) (rx0 : Nat) (x1 : Int32) (x2 : Int32) (x3 : Int32) (s0 : Int32) (σ : aH) : Lq G d M_17 (21, [some (.ref rx0), some (.int x1), some (.int x2), some (.int x3)], [.int s0], σ) = Lq G d M_17 (24, [some (.ref rx0), some (.int x1), some (.int x2), some (.int s0)], [.int s0, .int x2], σ) :=
  (aUn_eq (tkd G.1 G.2) tmi (aRun (tkd G.1 G.2) tmi tmt d) M_17 [] 3 (21, [some (.ref rx0), some (.int x1), some (.int x2), some (.int x3)], [.int s0], σ)).trans rfl
set_option maxRecDepth 20000 in
theorem q_17_6354 (G : Nat × (Nat → Int32)) (d : Nat) (rx0 : Nat) (x1 : Int32) (x2 : Int32) (x3 : Int32) (s0 : Int32) (s1 : Int32) (σ : aH) : Lq G d M_17 (24, [some (.ref rx0), some (.int x1), some (.int x2), some (.int x3)], [.int s0, .int s1], σ) = if s1 < s0 then Lq G d M_17 (29, [some (.ref rx0), some (.int x1), some (.int x2), some (.int x3)], [], σ) else Lq G d M_17 (27, [some (.ref rx0), some (.int x1), some (.int x2), some (.int x3)], [], σ) :=
  (aUn_eq (tkd G.1 G.2) tmi (aRun (tkd G.1 G.2) tmi tmt d) M_17 [] 1 (24, [some (.ref rx0), some (.int x1), some (.int x2), some (.int x3)], [.int s0, .int s1], σ)).trans rfl
set_option maxRecDepth 20000 in
theorem q_17_6355 (G : Nat × (Nat → Int32)) (d : Nat) (rx0 : Nat) (x1 : Int32) (x2 : Int32) (x3 : Int32) (σ : aH) : Lq G d M_17 (29, [some (.ref rx0), some (.int x1), some (.int x2), some (.int x3)], [], σ) = Lq G d M_17 (33, [some (.ref rx0), some (.int x1), some (.int x2), some (.int x3)], [.int x3, .int x2, .int x1, .ref rx0], σ) :=
  (aUn_eq (tkd G.1 G.2) tmi (aRun (tkd G.1 G.2) tmi tmt d) M_17 [] 4 (29, [some (.ref rx0), some (.int x1), some (.int x2), some (.int x3)], [], σ)).trans rfl
set_option maxRecDepth 20000 in
theorem q_17_6356 (G : Nat × (Nat → Int32)) (d : Nat) (rx0 : Nat) (x1 : Int32) (x2 : Int32) (x3 : Int32) (s0 : Int32) (s1 : Int32) (s2 : Int32) (rs3 : Nat) (σ : aH) : Lq G d M_17 (33, [some (.ref rx0), some (.int x1), some (.int x2), some (.int x3)], [.int s0, .int s1, .int s2, .ref rs3], σ) = aCI (Rn G d 21 [.ref rs3, .int s2, .int s1, .int s0] σ) fun v2 σ1 => Lq G d M_17 (36, [some (.ref rx0), some (.int x1), some (.int x2), some (.int x3)], [.int v2], σ1) :=
  (aUn_eq (tkd G.1 G.2) tmi (aRun (tkd G.1 G.2) tmi tmt d) M_17 [] 1 (33, [some (.ref rx0), some (.int x1), some (.int x2), some (.int x3)], [.int s0, .int s1, .int s2, .ref rs3], σ)).trans rfl
set_option maxRecDepth 20000 in
theorem q_17_6357 (G : Nat × (Nat → Int32)) (d : Nat) (rx0 : Nat) (x1 : Int32) (x2 : Int32) (x3 : Int32) (s0 : Int32) (σ : aH) : Lq G d M_17 (36, [some (.ref rx0), some (.int x1), some (.int x2), some (.int x3)], [.int s0], σ) = some (.inl (some (.int s0)), σ) :=
  (aUn_eq (tkd G.1 G.2) tmi (aRun (tkd G.1 G.2) tmi tmt d) M_17 [] 1 (36, [some (.ref rx0), some (.int x1), some (.int x2), some (.int x3)], [.int s0], σ)).trans rfl
set_option maxRecDepth 20000 in
theorem q_17_6358 (G : Nat × (Nat → Int32)) (d : Nat) (rx0 : Nat) (x1 : Int32) (x2 : Int32) (x3 : Int32) (σ : aH) : Lq G d M_17 (27, [some (.ref rx0), some (.int x1), some (.int x2), some (.int x3)], [], σ) = Lq G d M_17 (28, [some (.ref rx0), some (.int x1), some (.int x2), some (.int x3)], [.int (-1 : Int32)], σ) :=
  (aUn_eq (tkd G.1 G.2) tmi (aRun (tkd G.1 G.2) tmi tmt d) M_17 [] 1 (27, [some (.ref rx0), some (.int x1), some (.int x2), some (.int x3)], [], σ)).trans rfl
set_option maxRecDepth 20000 in
theorem q_17_6359 (G : Nat × (Nat → Int32)) (d : Nat) (rx0 : Nat) (x1 : Int32) (x2 : Int32) (x3 : Int32) (s0 : Int32) (σ : aH) : Lq G d M_17 (28, [some (.ref rx0), some (.int x1), some (.int x2), some (.int x3)], [.int s0], σ) = some (.inl (some (.int s0)), σ) :=
  (aUn_eq (tkd G.1 G.2) tmi (aRun (tkd G.1 G.2) tmi tmt d) M_17 [] 1 (28, [some (.ref rx0), some (.int x1), some (.int x2), some (.int x3)], [.int s0], σ)).trans rfl
set_option maxRecDepth 20000 in
theorem q_28_6360 (G : Nat × (Nat → Int32)) (d : Nat) (x0 : Int32) (x1 : Int32) (σ : aH) : Lq G d M_28 (0, [some (.int x0), some (.int x1)], [], σ) = Lq G d M_28 (5, [some (.int x0), some (.int x1)], [.float 0, .int x1, .int x0], σ) :=
  (aUn_eq (tkd G.1 G.2) tmi (aRun (tkd G.1 G.2) tmi tmt d) M_28 [] 3 (0, [some (.int x0), some (.int x1)], [], σ)).trans rfl
set_option maxRecDepth 20000 in
theorem q_28_6361 (G : Nat × (Nat → Int32)) (d : Nat) (x0 : Int32) (x1 : Int32) (s1 : Int32) (s2 : Int32) (σ : aH) : Lq G d M_28 (5, [some (.int x0), some (.int x1)], [.float 0, .int s1, .int s2], σ) = aCI (Rn G d 29 [.int s2, .int s1, .float 0] σ) fun v2 σ1 => Lq G d M_28 (8, [some (.int x0), some (.int x1)], [.int v2], σ1) :=
  (aUn_eq (tkd G.1 G.2) tmi (aRun (tkd G.1 G.2) tmi tmt d) M_28 [] 1 (5, [some (.int x0), some (.int x1)], [.float 0, .int s1, .int s2], σ)).trans rfl
set_option maxRecDepth 20000 in
theorem q_28_6362 (G : Nat × (Nat → Int32)) (d : Nat) (x0 : Int32) (x1 : Int32) (s0 : Int32) (σ : aH) : Lq G d M_28 (8, [some (.int x0), some (.int x1)], [.int s0], σ) = Lq G d M_28 (9, [some (.int x0), some (.int x1)], [], σ) :=
  (aUn_eq (tkd G.1 G.2) tmi (aRun (tkd G.1 G.2) tmi tmt d) M_28 [] 1 (8, [some (.int x0), some (.int x1)], [.int s0], σ)).trans rfl
set_option maxRecDepth 20000 in
theorem q_28_6363 (G : Nat × (Nat → Int32)) (d : Nat) (x0 : Int32) (x1 : Int32) (σ : aH) : Lq G d M_28 (9, [some (.int x0), some (.int x1)], [], σ) = some (.inl none, σ) :=
  (aUn_eq (tkd G.1 G.2) tmi (aRun (tkd G.1 G.2) tmi tmt d) M_28 [] 1 (9, [some (.int x0), some (.int x1)], [], σ)).trans rfl
set_option maxRecDepth 20000 in
theorem q_88_6364 (G : Nat × (Nat → Int32)) (d : Nat)  (σ : aH) : Lq G d M_88 (0, [some (.ref 33), none], [], σ) = Lq G d M_88 (1, [some (.ref 33), none], [.ref 33], σ) :=
  (aUn_eq (tkd G.1 G.2) tmi (aRun (tkd G.1 G.2) tmi tmt d) M_88 [] 1 (0, [some (.ref 33), none], [], σ)).trans rfl
set_option maxRecDepth 20000 in
theorem q_88_6365 (G : Nat × (Nat → Int32)) (d : Nat)  (σ : aH) : Lq G d M_88 (1, [some (.ref 33), none], [.ref 33], σ) = aCI (Rn G d 67 [.ref 33] σ) fun v2 σ1 => Lq G d M_88 (4, [some (.ref 33), none], [.int v2], σ1) :=
  (aUn_eq (tkd G.1 G.2) tmi (aRun (tkd G.1 G.2) tmi tmt d) M_88 [] 1 (1, [some (.ref 33), none], [.ref 33], σ)).trans rfl
set_option maxRecDepth 20000 in
theorem q_88_6366 (G : Nat × (Nat → Int32)) (d : Nat) (s0 : Int32) (σ : aH) : Lq G d M_88 (4, [some (.ref 33), none], [.int s0], σ) = if s0 = 0 then Lq G d M_88 (7, [some (.ref 33), none], [], σ) else Lq G d M_88 (8, [some (.ref 33), none], [], σ) :=
  (aUn_eq (tkd G.1 G.2) tmi (aRun (tkd G.1 G.2) tmi tmt d) M_88 [] 1 (4, [some (.ref 33), none], [.int s0], σ)).trans rfl
set_option maxRecDepth 20000 in
theorem q_88_6367 (G : Nat × (Nat → Int32)) (d : Nat)  (σ : aH) : Lq G d M_88 (7, [some (.ref 33), none], [], σ) = some (.inl none, σ) :=
  (aUn_eq (tkd G.1 G.2) tmi (aRun (tkd G.1 G.2) tmi tmt d) M_88 [] 1 (7, [some (.ref 33), none], [], σ)).trans rfl
set_option maxRecDepth 20000 in
theorem q_88_6368 (G : Nat × (Nat → Int32)) (d : Nat)  (σ : aH) : Lq G d M_88 (8, [some (.ref 33), none], [], σ) = Lq G d M_88 (13, [some (.ref 33), none], [.int (2 : Int32), .int (σ.1 33 20)], σ) :=
  (aUn_eq (tkd G.1 G.2) tmi (aRun (tkd G.1 G.2) tmi tmt d) M_88 [] 3 (8, [some (.ref 33), none], [], σ)).trans rfl
set_option maxRecDepth 20000 in
theorem q_88_6369 (G : Nat × (Nat → Int32)) (d : Nat) (s0 : Int32) (s1 : Int32) (σ : aH) : Lq G d M_88 (13, [some (.ref 33), none], [.int s0, .int s1], σ) = if s1 = s0 then Lq G d M_88 (16, [some (.ref 33), none], [], σ) else Lq G d M_88 (45, [some (.ref 33), none], [], σ) :=
  (aUn_eq (tkd G.1 G.2) tmi (aRun (tkd G.1 G.2) tmi tmt d) M_88 [] 1 (13, [some (.ref 33), none], [.int s0, .int s1], σ)).trans rfl
set_option maxRecDepth 20000 in
theorem q_88_6370 (G : Nat × (Nat → Int32)) (d : Nat)  (σ : aH) : Lq G d M_88 (16, [some (.ref 33), none], [], σ) = Lq G d M_88 (21, [some (.ref 33), none], [.int (4 : Int32), .int (σ.1 33 22)], σ) :=
  (aUn_eq (tkd G.1 G.2) tmi (aRun (tkd G.1 G.2) tmi tmt d) M_88 [] 3 (16, [some (.ref 33), none], [], σ)).trans rfl
set_option maxRecDepth 20000 in
theorem q_88_6371 (G : Nat × (Nat → Int32)) (d : Nat) (s0 : Int32) (s1 : Int32) (σ : aH) : Lq G d M_88 (21, [some (.ref 33), none], [.int s0, .int s1], σ) = if s1 ≤ s0 then Lq G d M_88 (29, [some (.ref 33), none], [], σ) else Lq G d M_88 (24, [some (.ref 33), none], [], σ) :=
  (aUn_eq (tkd G.1 G.2) tmi (aRun (tkd G.1 G.2) tmi tmt d) M_88 [] 1 (21, [some (.ref 33), none], [.int s0, .int s1], σ)).trans rfl
set_option maxRecDepth 20000 in
theorem q_88_6372 (G : Nat × (Nat → Int32)) (d : Nat)  (σ : aH) : Lq G d M_88 (29, [some (.ref 33), none], [], σ) = Lq G d M_88 (31, [some (.ref 33), none], [.int (1 : Int32), .ref 33], σ) :=
  (aUn_eq (tkd G.1 G.2) tmi (aRun (tkd G.1 G.2) tmi tmt d) M_88 [] 2 (29, [some (.ref 33), none], [], σ)).trans rfl
set_option maxRecDepth 20000 in
theorem q_88_6373 (G : Nat × (Nat → Int32)) (d : Nat) (s0 : Int32) (σ : aH) : Lq G d M_88 (31, [some (.ref 33), none], [.int s0, .ref 33], σ) = aCV (Rn G d 89 [.ref 33, .int s0] σ) fun σ1 => Lq G d M_88 (34, [some (.ref 33), none], [], σ1) :=
  (aUn_eq (tkd G.1 G.2) tmi (aRun (tkd G.1 G.2) tmi tmt d) M_88 [] 1 (31, [some (.ref 33), none], [.int s0, .ref 33], σ)).trans rfl
set_option maxRecDepth 20000 in
theorem q_88_6374 (G : Nat × (Nat → Int32)) (d : Nat)  (σ : aH) : Lq G d M_88 (34, [some (.ref 33), none], [], σ) = Lq G d M_88 (39, [some (.ref 33), none], [.int (σ.1 33 23), .ref 33], σ) :=
  (aUn_eq (tkd G.1 G.2) tmi (aRun (tkd G.1 G.2) tmi tmt d) M_88 [] 3 (34, [some (.ref 33), none], [], σ)).trans rfl
set_option maxRecDepth 20000 in
theorem q_88_6375 (G : Nat × (Nat → Int32)) (d : Nat) (s0 : Int32) (σ : aH) : Lq G d M_88 (39, [some (.ref 33), none], [.int s0, .ref 33], σ) = aCV (Rn G d 89 [.ref 33, .int s0] σ) fun σ1 => Lq G d M_88 (42, [some (.ref 33), none], [], σ1) :=
  (aUn_eq (tkd G.1 G.2) tmi (aRun (tkd G.1 G.2) tmi tmt d) M_88 [] 1 (39, [some (.ref 33), none], [.int s0, .ref 33], σ)).trans rfl
set_option maxRecDepth 20000 in
theorem q_88_6376 (G : Nat × (Nat → Int32)) (d : Nat)  (σ : aH) : Lq G d M_88 (42, [some (.ref 33), none], [], σ) = Lq G d M_88 (92, [some (.ref 33), none], [.ref 33], σ) :=
  (aUn_eq (tkd G.1 G.2) tmi (aRun (tkd G.1 G.2) tmi tmt d) M_88 [] 2 (42, [some (.ref 33), none], [], σ)).trans rfl
set_option maxRecDepth 20000 in
theorem q_88_6377 (G : Nat × (Nat → Int32)) (d : Nat)  (σ : aH) : Lq G d M_88 (92, [some (.ref 33), none], [.ref 33], σ) = aCI (Rn G d 67 [.ref 33] σ) fun v2 σ1 => Lq G d M_88 (95, [some (.ref 33), none], [.int v2], σ1) :=
  (aUn_eq (tkd G.1 G.2) tmi (aRun (tkd G.1 G.2) tmi tmt d) M_88 [] 1 (92, [some (.ref 33), none], [.ref 33], σ)).trans rfl
set_option maxRecDepth 20000 in
theorem q_88_6378 (G : Nat × (Nat → Int32)) (d : Nat) (s0 : Int32) (σ : aH) : Lq G d M_88 (95, [some (.ref 33), none], [.int s0], σ) = if s0 = 0 then Lq G d M_88 (102, [some (.ref 33), none], [], σ) else Lq G d M_88 (98, [some (.ref 33), none], [], σ) :=
  (aUn_eq (tkd G.1 G.2) tmi (aRun (tkd G.1 G.2) tmi tmt d) M_88 [] 1 (95, [some (.ref 33), none], [.int s0], σ)).trans rfl
set_option maxRecDepth 20000 in
theorem q_88_6379 (G : Nat × (Nat → Int32)) (d : Nat)  (σ : aH) : Lq G d M_88 (102, [some (.ref 33), none], [], σ) = some (.inl none, σ) :=
  (aUn_eq (tkd G.1 G.2) tmi (aRun (tkd G.1 G.2) tmi tmt d) M_88 [] 1 (102, [some (.ref 33), none], [], σ)).trans rfl
set_option maxRecDepth 20000 in
theorem q_88_6380 (G : Nat × (Nat → Int32)) (d : Nat)  (σ : aH) : Lq G d M_88 (98, [some (.ref 33), none], [], σ) = Lq G d M_88 (99, [some (.ref 33), none], [.ref 33], σ) :=
  (aUn_eq (tkd G.1 G.2) tmi (aRun (tkd G.1 G.2) tmi tmt d) M_88 [] 1 (98, [some (.ref 33), none], [], σ)).trans rfl
set_option maxRecDepth 20000 in
theorem q_88_6381 (G : Nat × (Nat → Int32)) (d : Nat)  (σ : aH) : Lq G d M_88 (99, [some (.ref 33), none], [.ref 33], σ) = aCV (Rn G d 63 [.ref 33] σ) fun σ1 => Lq G d M_88 (102, [some (.ref 33), none], [], σ1) :=
  (aUn_eq (tkd G.1 G.2) tmi (aRun (tkd G.1 G.2) tmi tmt d) M_88 [] 1 (99, [some (.ref 33), none], [.ref 33], σ)).trans rfl
set_option maxRecDepth 20000 in
theorem q_88_6382 (G : Nat × (Nat → Int32)) (d : Nat)  (σ : aH) : Lq G d M_88 (24, [some (.ref 33), none], [], σ) = Lq G d M_88 (26, [some (.ref 33), none], [.int (2 : Int32), .ref 33], σ) :=
  (aUn_eq (tkd G.1 G.2) tmi (aRun (tkd G.1 G.2) tmi tmt d) M_88 [] 2 (24, [some (.ref 33), none], [], σ)).trans rfl
set_option maxRecDepth 20000 in
theorem q_88_6383 (G : Nat × (Nat → Int32)) (d : Nat) (s0 : Int32) (σ : aH) : Lq G d M_88 (26, [some (.ref 33), none], [.int s0, .ref 33], σ) = aCV (Rn G d 73 [.ref 33, .int s0] σ) fun σ1 => Lq G d M_88 (29, [some (.ref 33), none], [], σ1) :=
  (aUn_eq (tkd G.1 G.2) tmi (aRun (tkd G.1 G.2) tmi tmt d) M_88 [] 1 (26, [some (.ref 33), none], [.int s0, .ref 33], σ)).trans rfl
set_option maxRecDepth 20000 in
theorem q_88_6384 (G : Nat × (Nat → Int32)) (d : Nat)  (σ : aH) : Lq G d M_88 (45, [some (.ref 33), none], [], σ) = Lq G d M_88 (50, [some (.ref 33), none], [.int (1 : Int32), .int (σ.1 33 20)], σ) :=
  (aUn_eq (tkd G.1 G.2) tmi (aRun (tkd G.1 G.2) tmi tmt d) M_88 [] 3 (45, [some (.ref 33), none], [], σ)).trans rfl
set_option maxRecDepth 20000 in
theorem q_88_6385 (G : Nat × (Nat → Int32)) (d : Nat) (s0 : Int32) (s1 : Int32) (σ : aH) : Lq G d M_88 (50, [some (.ref 33), none], [.int s0, .int s1], σ) = if s1 = s0 then Lq G d M_88 (53, [some (.ref 33), none], [], σ) else Lq G d M_88 (86, [some (.ref 33), none], [], σ) :=
  (aUn_eq (tkd G.1 G.2) tmi (aRun (tkd G.1 G.2) tmi tmt d) M_88 [] 1 (50, [some (.ref 33), none], [.int s0, .int s1], σ)).trans rfl
set_option maxRecDepth 20000 in
theorem q_88_6386 (G : Nat × (Nat → Int32)) (d : Nat)  (σ : aH) : Lq G d M_88 (53, [some (.ref 33), none], [], σ) = Lq G d M_88 (54, [some (.ref 33), none], [.ref 33], σ) :=
  (aUn_eq (tkd G.1 G.2) tmi (aRun (tkd G.1 G.2) tmi tmt d) M_88 [] 1 (53, [some (.ref 33), none], [], σ)).trans rfl
set_option maxRecDepth 20000 in
theorem q_88_6387 (G : Nat × (Nat → Int32)) (d : Nat)  (σ : aH) : Lq G d M_88 (54, [some (.ref 33), none], [.ref 33], σ) = aCI (Rn G d 69 [.ref 33] σ) fun v2 σ1 => Lq G d M_88 (57, [some (.ref 33), none], [.int v2], σ1) :=
  (aUn_eq (tkd G.1 G.2) tmi (aRun (tkd G.1 G.2) tmi tmt d) M_88 [] 1 (54, [some (.ref 33), none], [.ref 33], σ)).trans rfl
set_option maxRecDepth 20000 in
theorem q_88_6388 (G : Nat × (Nat → Int32)) (d : Nat) (s0 : Int32) (σ : aH) : Lq G d M_88 (57, [some (.ref 33), none], [.int s0], σ) = Lq G d M_88 (59, [some (.ref 33), some (.int s0)], [.int s0], σ) :=
  (aUn_eq (tkd G.1 G.2) tmi (aRun (tkd G.1 G.2) tmi tmt d) M_88 [] 2 (57, [some (.ref 33), none], [.int s0], σ)).trans rfl
set_option maxRecDepth 20000 in
theorem q_88_6389 (G : Nat × (Nat → Int32)) (d : Nat) (x1 : Int32) (s0 : Int32) (σ : aH) : Lq G d M_88 (59, [some (.ref 33), some (.int x1)], [.int s0], σ) = if s0 < 0 then Lq G d M_88 (68, [some (.ref 33), some (.int x1)], [], σ) else Lq G d M_88 (62, [some (.ref 33), some (.int x1)], [], σ) :=
  (aUn_eq (tkd G.1 G.2) tmi (aRun (tkd G.1 G.2) tmi tmt d) M_88 [] 1 (59, [some (.ref 33), some (.int x1)], [.int s0], σ)).trans rfl
set_option maxRecDepth 20000 in
theorem q_88_6390 (G : Nat × (Nat → Int32)) (d : Nat) (x1 : Int32) (σ : aH) : Lq G d M_88 (68, [some (.ref 33), some (.int x1)], [], σ) = Lq G d M_88 (70, [some (.ref 33), some (.int x1)], [.int (3 : Int32), .ref 33], σ) :=
  (aUn_eq (tkd G.1 G.2) tmi (aRun (tkd G.1 G.2) tmi tmt d) M_88 [] 2 (68, [some (.ref 33), some (.int x1)], [], σ)).trans rfl
set_option maxRecDepth 20000 in
theorem q_88_6391 (G : Nat × (Nat → Int32)) (d : Nat) (x1 : Int32) (s0 : Int32) (σ : aH) : Lq G d M_88 (70, [some (.ref 33), some (.int x1)], [.int s0, .ref 33], σ) = aCV (Rn G d 73 [.ref 33, .int s0] σ) fun σ1 => Lq G d M_88 (73, [some (.ref 33), some (.int x1)], [], σ1) :=
  (aUn_eq (tkd G.1 G.2) tmi (aRun (tkd G.1 G.2) tmi tmt d) M_88 [] 1 (70, [some (.ref 33), some (.int x1)], [.int s0, .ref 33], σ)).trans rfl
set_option maxRecDepth 20000 in
theorem q_88_6392 (G : Nat × (Nat → Int32)) (d : Nat) (x1 : Int32) (σ : aH) : Lq G d M_88 (73, [some (.ref 33), some (.int x1)], [], σ) = Lq G d M_88 (75, [some (.ref 33), some (.int x1)], [.int (2 : Int32), .ref 33], σ) :=
  (aUn_eq (tkd G.1 G.2) tmi (aRun (tkd G.1 G.2) tmi tmt d) M_88 [] 2 (73, [some (.ref 33), some (.int x1)], [], σ)).trans rfl
set_option maxRecDepth 20000 in
theorem q_88_6393 (G : Nat × (Nat → Int32)) (d : Nat) (x1 : Int32) (s0 : Int32) (σ : aH) : Lq G d M_88 (75, [some (.ref 33), some (.int x1)], [.int s0, .ref 33], σ) = aCV (Rn G d 89 [.ref 33, .int s0] σ) fun σ1 => Lq G d M_88 (78, [some (.ref 33), some (.int x1)], [], σ1) :=
  (aUn_eq (tkd G.1 G.2) tmi (aRun (tkd G.1 G.2) tmi tmt d) M_88 [] 1 (75, [some (.ref 33), some (.int x1)], [.int s0, .ref 33], σ)).trans rfl
set_option maxRecDepth 20000 in
theorem q_88_6394 (G : Nat × (Nat → Int32)) (d : Nat) (x1 : Int32) (σ : aH) : Lq G d M_88 (78, [some (.ref 33), some (.int x1)], [], σ) = Lq G d M_88 (80, [some (.ref 33), some (.int x1)], [.int x1, .ref 33], σ) :=
  (aUn_eq (tkd G.1 G.2) tmi (aRun (tkd G.1 G.2) tmi tmt d) M_88 [] 2 (78, [some (.ref 33), some (.int x1)], [], σ)).trans rfl
set_option maxRecDepth 20000 in
theorem q_88_6395 (G : Nat × (Nat → Int32)) (d : Nat) (x1 : Int32) (s0 : Int32) (σ : aH) : Lq G d M_88 (80, [some (.ref 33), some (.int x1)], [.int s0, .ref 33], σ) = aCV (Rn G d 89 [.ref 33, .int s0] σ) fun σ1 => Lq G d M_88 (83, [some (.ref 33), some (.int x1)], [], σ1) :=
  (aUn_eq (tkd G.1 G.2) tmi (aRun (tkd G.1 G.2) tmi tmt d) M_88 [] 1 (80, [some (.ref 33), some (.int x1)], [.int s0, .ref 33], σ)).trans rfl
set_option maxRecDepth 20000 in
theorem q_88_6396 (G : Nat × (Nat → Int32)) (d : Nat) (x1 : Int32) (σ : aH) : Lq G d M_88 (83, [some (.ref 33), some (.int x1)], [], σ) = Lq G d M_88 (92, [some (.ref 33), some (.int x1)], [.ref 33], σ) :=
  (aUn_eq (tkd G.1 G.2) tmi (aRun (tkd G.1 G.2) tmi tmt d) M_88 [] 2 (83, [some (.ref 33), some (.int x1)], [], σ)).trans rfl
set_option maxRecDepth 20000 in
theorem q_88_6397 (G : Nat × (Nat → Int32)) (d : Nat) (x1 : Int32) (σ : aH) : Lq G d M_88 (92, [some (.ref 33), some (.int x1)], [.ref 33], σ) = aCI (Rn G d 67 [.ref 33] σ) fun v2 σ1 => Lq G d M_88 (95, [some (.ref 33), some (.int x1)], [.int v2], σ1) :=
  (aUn_eq (tkd G.1 G.2) tmi (aRun (tkd G.1 G.2) tmi tmt d) M_88 [] 1 (92, [some (.ref 33), some (.int x1)], [.ref 33], σ)).trans rfl
set_option maxRecDepth 20000 in
theorem q_88_6398 (G : Nat × (Nat → Int32)) (d : Nat) (x1 : Int32) (s0 : Int32) (σ : aH) : Lq G d M_88 (95, [some (.ref 33), some (.int x1)], [.int s0], σ) = if s0 = 0 then Lq G d M_88 (102, [some (.ref 33), some (.int x1)], [], σ) else Lq G d M_88 (98, [some (.ref 33), some (.int x1)], [], σ) :=
  (aUn_eq (tkd G.1 G.2) tmi (aRun (tkd G.1 G.2) tmi tmt d) M_88 [] 1 (95, [some (.ref 33), some (.int x1)], [.int s0], σ)).trans rfl
set_option maxRecDepth 20000 in
theorem q_88_6399 (G : Nat × (Nat → Int32)) (d : Nat) (x1 : Int32) (σ : aH) : Lq G d M_88 (102, [some (.ref 33), some (.int x1)], [], σ) = some (.inl none, σ) :=
  (aUn_eq (tkd G.1 G.2) tmi (aRun (tkd G.1 G.2) tmi tmt d) M_88 [] 1 (102, [some (.ref 33), some (.int x1)], [], σ)).trans rfl
set_option maxRecDepth 20000 in
theorem q_88_6400 (G : Nat × (Nat → Int32)) (d : Nat) (x1 : Int32) (σ : aH) : Lq G d M_88 (98, [some (.ref 33), some (.int x1)], [], σ) = Lq G d M_88 (99, [some (.ref 33), some (.int x1)], [.ref 33], σ) :=
  (aUn_eq (tkd G.1 G.2) tmi (aRun (tkd G.1 G.2) tmi tmt d) M_88 [] 1 (98, [some (.ref 33), some (.int x1)], [], σ)).trans rfl
set_option maxRecDepth 20000 in
theorem q_88_6401 (G : Nat × (Nat → Int32)) (d : Nat) (x1 : Int32) (σ : aH) : Lq G d M_88 (99, [some (.ref 33), some (.int x1)], [.ref 33], σ) = aCV (Rn G d 63 [.ref 33] σ) fun σ1 => Lq G d M_88 (102, [some (.ref 33), some (.int x1)], [], σ1) :=
  (aUn_eq (tkd G.1 G.2) tmi (aRun (tkd G.1 G.2) tmi tmt d) M_88 [] 1 (99, [some (.ref 33), some (.int x1)], [.ref 33], σ)).trans rfl
set_option maxRecDepth 20000 in
theorem q_88_6402 (G : Nat × (Nat → Int32)) (d : Nat) (x1 : Int32) (σ : aH) : Lq G d M_88 (62, [some (.ref 33), some (.int x1)], [], σ) = Lq G d M_88 (65, [some (.ref 33), some (.int x1)], [.int (11 : Int32), .int x1], σ) :=
  (aUn_eq (tkd G.1 G.2) tmi (aRun (tkd G.1 G.2) tmi tmt d) M_88 [] 2 (62, [some (.ref 33), some (.int x1)], [], σ)).trans rfl
set_option maxRecDepth 20000 in
theorem q_88_6403 (G : Nat × (Nat → Int32)) (d : Nat) (x1 : Int32) (s0 : Int32) (s1 : Int32) (σ : aH) : Lq G d M_88 (65, [some (.ref 33), some (.int x1)], [.int s0, .int s1], σ) = if s1 ≤ s0 then Lq G d M_88 (73, [some (.ref 33), some (.int x1)], [], σ) else Lq G d M_88 (68, [some (.ref 33), some (.int x1)], [], σ) :=
  (aUn_eq (tkd G.1 G.2) tmi (aRun (tkd G.1 G.2) tmi tmt d) M_88 [] 1 (65, [some (.ref 33), some (.int x1)], [.int s0, .int s1], σ)).trans rfl
set_option maxRecDepth 20000 in
theorem q_88_6404 (G : Nat × (Nat → Int32)) (d : Nat)  (σ : aH) : Lq G d M_88 (86, [some (.ref 33), none], [], σ) = Lq G d M_88 (88, [some (.ref 33), none], [.int (1 : Int32), .ref 33], σ) :=
  (aUn_eq (tkd G.1 G.2) tmi (aRun (tkd G.1 G.2) tmi tmt d) M_88 [] 2 (86, [some (.ref 33), none], [], σ)).trans rfl
set_option maxRecDepth 20000 in
theorem q_88_6405 (G : Nat × (Nat → Int32)) (d : Nat) (s0 : Int32) (σ : aH) : Lq G d M_88 (88, [some (.ref 33), none], [.int s0, .ref 33], σ) = aCV (Rn G d 73 [.ref 33, .int s0] σ) fun σ1 => Lq G d M_88 (91, [some (.ref 33), none], [], σ1) :=
  (aUn_eq (tkd G.1 G.2) tmi (aRun (tkd G.1 G.2) tmi tmt d) M_88 [] 1 (88, [some (.ref 33), none], [.int s0, .ref 33], σ)).trans rfl
set_option maxRecDepth 20000 in
theorem q_88_6406 (G : Nat × (Nat → Int32)) (d : Nat)  (σ : aH) : Lq G d M_88 (91, [some (.ref 33), none], [], σ) = Lq G d M_88 (92, [some (.ref 33), none], [.ref 33], σ) :=
  (aUn_eq (tkd G.1 G.2) tmi (aRun (tkd G.1 G.2) tmi tmt d) M_88 [] 1 (91, [some (.ref 33), none], [], σ)).trans rfl
set_option maxRecDepth 20000 in
theorem q_91_6407 (G : Nat × (Nat → Int32)) (d : Nat) (x0 : Int32) (σ : aH) : Lq G d M_91 (0, [some (.int x0)], [], σ) = Lq G d M_91 (3, [some (.int x0)], [.int (12 : Int32), .int x0], σ) :=
  (aUn_eq (tkd G.1 G.2) tmi (aRun (tkd G.1 G.2) tmi tmt d) M_91 [] 2 (0, [some (.int x0)], [], σ)).trans rfl
set_option maxRecDepth 20000 in
theorem q_91_6408 (G : Nat × (Nat → Int32)) (d : Nat) (x0 : Int32) (s0 : Int32) (s1 : Int32) (σ : aH) : Lq G d M_91 (3, [some (.int x0)], [.int s0, .int s1], σ) = if s1 = s0 then Lq G d M_91 (6, [some (.int x0)], [], σ) else Lq G d M_91 (10, [some (.int x0)], [], σ) :=
  (aUn_eq (tkd G.1 G.2) tmi (aRun (tkd G.1 G.2) tmi tmt d) M_91 [] 1 (3, [some (.int x0)], [.int s0, .int s1], σ)).trans rfl
set_option maxRecDepth 20000 in
theorem q_91_6409 (G : Nat × (Nat → Int32)) (d : Nat) (x0 : Int32) (σ : aH) : Lq G d M_91 (6, [some (.int x0)], [], σ) = Lq G d M_91 (71, [some (.int x0)], [.int (0 : Int32)], σ) :=
  (aUn_eq (tkd G.1 G.2) tmi (aRun (tkd G.1 G.2) tmi tmt d) M_91 [] 2 (6, [some (.int x0)], [], σ)).trans rfl
set_option maxRecDepth 20000 in
theorem q_91_6410 (G : Nat × (Nat → Int32)) (d : Nat) (x0 : Int32) (s0 : Int32) (σ : aH) : Lq G d M_91 (71, [some (.int x0)], [.int s0], σ) = some (.inl (some (.int s0)), σ) :=
  (aUn_eq (tkd G.1 G.2) tmi (aRun (tkd G.1 G.2) tmi tmt d) M_91 [] 1 (71, [some (.int x0)], [.int s0], σ)).trans rfl
set_option maxRecDepth 20000 in
theorem q_91_6411 (G : Nat × (Nat → Int32)) (d : Nat) (x0 : Int32) (σ : aH) : Lq G d M_91 (10, [some (.int x0)], [], σ) = Lq G d M_91 (12, [some (.int x0)], [.int (5 : Int32), .int x0], σ) :=
  (aUn_eq (tkd G.1 G.2) tmi (aRun (tkd G.1 G.2) tmi tmt d) M_91 [] 2 (10, [some (.int x0)], [], σ)).trans rfl
set_option maxRecDepth 20000 in
theorem q_91_6412 (G : Nat × (Nat → Int32)) (d : Nat) (x0 : Int32) (s0 : Int32) (s1 : Int32) (σ : aH) : Lq G d M_91 (12, [some (.int x0)], [.int s0, .int s1], σ) = if s1 = s0 then Lq G d M_91 (15, [some (.int x0)], [], σ) else Lq G d M_91 (19, [some (.int x0)], [], σ) :=
  (aUn_eq (tkd G.1 G.2) tmi (aRun (tkd G.1 G.2) tmi tmt d) M_91 [] 1 (12, [some (.int x0)], [.int s0, .int s1], σ)).trans rfl
set_option maxRecDepth 20000 in
theorem q_91_6413 (G : Nat × (Nat → Int32)) (d : Nat) (x0 : Int32) (σ : aH) : Lq G d M_91 (15, [some (.int x0)], [], σ) = Lq G d M_91 (71, [some (.int x0)], [.int (1 : Int32)], σ) :=
  (aUn_eq (tkd G.1 G.2) tmi (aRun (tkd G.1 G.2) tmi tmt d) M_91 [] 2 (15, [some (.int x0)], [], σ)).trans rfl
set_option maxRecDepth 20000 in
theorem q_91_6414 (G : Nat × (Nat → Int32)) (d : Nat) (x0 : Int32) (σ : aH) : Lq G d M_91 (19, [some (.int x0)], [], σ) = Lq G d M_91 (21, [some (.int x0)], [.int (4 : Int32), .int x0], σ) :=
  (aUn_eq (tkd G.1 G.2) tmi (aRun (tkd G.1 G.2) tmi tmt d) M_91 [] 2 (19, [some (.int x0)], [], σ)).trans rfl
set_option maxRecDepth 20000 in
theorem q_91_6415 (G : Nat × (Nat → Int32)) (d : Nat) (x0 : Int32) (s0 : Int32) (s1 : Int32) (σ : aH) : Lq G d M_91 (21, [some (.int x0)], [.int s0, .int s1], σ) = if s1 = s0 then Lq G d M_91 (24, [some (.int x0)], [], σ) else Lq G d M_91 (28, [some (.int x0)], [], σ) :=
  (aUn_eq (tkd G.1 G.2) tmi (aRun (tkd G.1 G.2) tmi tmt d) M_91 [] 1 (21, [some (.int x0)], [.int s0, .int s1], σ)).trans rfl
set_option maxRecDepth 20000 in
theorem q_91_6416 (G : Nat × (Nat → Int32)) (d : Nat) (x0 : Int32) (σ : aH) : Lq G d M_91 (24, [some (.int x0)], [], σ) = Lq G d M_91 (71, [some (.int x0)], [.int (2 : Int32)], σ) :=
  (aUn_eq (tkd G.1 G.2) tmi (aRun (tkd G.1 G.2) tmi tmt d) M_91 [] 2 (24, [some (.int x0)], [], σ)).trans rfl
set_option maxRecDepth 20000 in
theorem q_91_6417 (G : Nat × (Nat → Int32)) (d : Nat) (x0 : Int32) (σ : aH) : Lq G d M_91 (28, [some (.int x0)], [], σ) = Lq G d M_91 (30, [some (.int x0)], [.int (3 : Int32), .int x0], σ) :=
  (aUn_eq (tkd G.1 G.2) tmi (aRun (tkd G.1 G.2) tmi tmt d) M_91 [] 2 (28, [some (.int x0)], [], σ)).trans rfl
set_option maxRecDepth 20000 in
theorem q_91_6418 (G : Nat × (Nat → Int32)) (d : Nat) (x0 : Int32) (s0 : Int32) (s1 : Int32) (σ : aH) : Lq G d M_91 (30, [some (.int x0)], [.int s0, .int s1], σ) = if s1 = s0 then Lq G d M_91 (33, [some (.int x0)], [], σ) else Lq G d M_91 (37, [some (.int x0)], [], σ) :=
  (aUn_eq (tkd G.1 G.2) tmi (aRun (tkd G.1 G.2) tmi tmt d) M_91 [] 1 (30, [some (.int x0)], [.int s0, .int s1], σ)).trans rfl
set_option maxRecDepth 20000 in
theorem q_91_6419 (G : Nat × (Nat → Int32)) (d : Nat) (x0 : Int32) (σ : aH) : Lq G d M_91 (33, [some (.int x0)], [], σ) = Lq G d M_91 (71, [some (.int x0)], [.int (3 : Int32)], σ) :=
  (aUn_eq (tkd G.1 G.2) tmi (aRun (tkd G.1 G.2) tmi tmt d) M_91 [] 2 (33, [some (.int x0)], [], σ)).trans rfl
set_option maxRecDepth 20000 in
theorem q_91_6420 (G : Nat × (Nat → Int32)) (d : Nat) (x0 : Int32) (σ : aH) : Lq G d M_91 (37, [some (.int x0)], [], σ) = Lq G d M_91 (40, [some (.int x0)], [.int (6 : Int32), .int x0], σ) :=
  (aUn_eq (tkd G.1 G.2) tmi (aRun (tkd G.1 G.2) tmi tmt d) M_91 [] 2 (37, [some (.int x0)], [], σ)).trans rfl
set_option maxRecDepth 20000 in
theorem q_91_6421 (G : Nat × (Nat → Int32)) (d : Nat) (x0 : Int32) (s0 : Int32) (s1 : Int32) (σ : aH) : Lq G d M_91 (40, [some (.int x0)], [.int s0, .int s1], σ) = if s1 = s0 then Lq G d M_91 (49, [some (.int x0)], [], σ) else Lq G d M_91 (43, [some (.int x0)], [], σ) :=
  (aUn_eq (tkd G.1 G.2) tmi (aRun (tkd G.1 G.2) tmi tmt d) M_91 [] 1 (40, [some (.int x0)], [.int s0, .int s1], σ)).trans rfl
set_option maxRecDepth 20000 in
theorem q_91_6422 (G : Nat × (Nat → Int32)) (d : Nat) (x0 : Int32) (σ : aH) : Lq G d M_91 (49, [some (.int x0)], [], σ) = Lq G d M_91 (71, [some (.int x0)], [.int (4 : Int32)], σ) :=
  (aUn_eq (tkd G.1 G.2) tmi (aRun (tkd G.1 G.2) tmi tmt d) M_91 [] 2 (49, [some (.int x0)], [], σ)).trans rfl
set_option maxRecDepth 20000 in
theorem q_91_6423 (G : Nat × (Nat → Int32)) (d : Nat) (x0 : Int32) (σ : aH) : Lq G d M_91 (43, [some (.int x0)], [], σ) = Lq G d M_91 (46, [some (.int x0)], [.int (7 : Int32), .int x0], σ) :=
  (aUn_eq (tkd G.1 G.2) tmi (aRun (tkd G.1 G.2) tmi tmt d) M_91 [] 2 (43, [some (.int x0)], [], σ)).trans rfl
set_option maxRecDepth 20000 in
theorem q_91_6424 (G : Nat × (Nat → Int32)) (d : Nat) (x0 : Int32) (s0 : Int32) (s1 : Int32) (σ : aH) : Lq G d M_91 (46, [some (.int x0)], [.int s0, .int s1], σ) = if s1 = s0 then Lq G d M_91 (49, [some (.int x0)], [], σ) else Lq G d M_91 (53, [some (.int x0)], [], σ) :=
  (aUn_eq (tkd G.1 G.2) tmi (aRun (tkd G.1 G.2) tmi tmt d) M_91 [] 1 (46, [some (.int x0)], [.int s0, .int s1], σ)).trans rfl
set_option maxRecDepth 20000 in
theorem q_91_6425 (G : Nat × (Nat → Int32)) (d : Nat) (x0 : Int32) (σ : aH) : Lq G d M_91 (53, [some (.int x0)], [], σ) = Lq G d M_91 (56, [some (.int x0)], [.int (8 : Int32), .int x0], σ) :=
  (aUn_eq (tkd G.1 G.2) tmi (aRun (tkd G.1 G.2) tmi tmt d) M_91 [] 2 (53, [some (.int x0)], [], σ)).trans rfl
set_option maxRecDepth 20000 in
theorem q_91_6426 (G : Nat × (Nat → Int32)) (d : Nat) (x0 : Int32) (s0 : Int32) (s1 : Int32) (σ : aH) : Lq G d M_91 (56, [some (.int x0)], [.int s0, .int s1], σ) = if s1 = s0 then Lq G d M_91 (65, [some (.int x0)], [], σ) else Lq G d M_91 (59, [some (.int x0)], [], σ) :=
  (aUn_eq (tkd G.1 G.2) tmi (aRun (tkd G.1 G.2) tmi tmt d) M_91 [] 1 (56, [some (.int x0)], [.int s0, .int s1], σ)).trans rfl
set_option maxRecDepth 20000 in
theorem q_91_6427 (G : Nat × (Nat → Int32)) (d : Nat) (x0 : Int32) (σ : aH) : Lq G d M_91 (65, [some (.int x0)], [], σ) = Lq G d M_91 (71, [some (.int x0)], [.int (5 : Int32)], σ) :=
  (aUn_eq (tkd G.1 G.2) tmi (aRun (tkd G.1 G.2) tmi tmt d) M_91 [] 2 (65, [some (.int x0)], [], σ)).trans rfl
set_option maxRecDepth 20000 in
theorem q_91_6428 (G : Nat × (Nat → Int32)) (d : Nat) (x0 : Int32) (σ : aH) : Lq G d M_91 (59, [some (.int x0)], [], σ) = Lq G d M_91 (62, [some (.int x0)], [.int (9 : Int32), .int x0], σ) :=
  (aUn_eq (tkd G.1 G.2) tmi (aRun (tkd G.1 G.2) tmi tmt d) M_91 [] 2 (59, [some (.int x0)], [], σ)).trans rfl
set_option maxRecDepth 20000 in
theorem q_91_6429 (G : Nat × (Nat → Int32)) (d : Nat) (x0 : Int32) (s0 : Int32) (s1 : Int32) (σ : aH) : Lq G d M_91 (62, [some (.int x0)], [.int s0, .int s1], σ) = if s1 = s0 then Lq G d M_91 (65, [some (.int x0)], [], σ) else Lq G d M_91 (69, [some (.int x0)], [], σ) :=
  (aUn_eq (tkd G.1 G.2) tmi (aRun (tkd G.1 G.2) tmi tmt d) M_91 [] 1 (62, [some (.int x0)], [.int s0, .int s1], σ)).trans rfl
set_option maxRecDepth 20000 in
theorem q_91_6430 (G : Nat × (Nat → Int32)) (d : Nat) (x0 : Int32) (σ : aH) : Lq G d M_91 (69, [some (.int x0)], [], σ) = Lq G d M_91 (71, [some (.int x0)], [.int (6 : Int32)], σ) :=
  (aUn_eq (tkd G.1 G.2) tmi (aRun (tkd G.1 G.2) tmi tmt d) M_91 [] 1 (69, [some (.int x0)], [], σ)).trans rfl
set_option maxRecDepth 20000 in
theorem q_18_6431 (G : Nat × (Nat → Int32)) (d : Nat) (x0 : Int32) (σ : aH) : Lq G d M_18 (0, [some (.int x0)], [], σ) = Lq G d M_18 (1, [some (.int x0)], [.int x0], σ) :=
  (aUn_eq (tkd G.1 G.2) tmi (aRun (tkd G.1 G.2) tmi tmt d) M_18 [] 1 (0, [some (.int x0)], [], σ)).trans rfl
set_option maxRecDepth 20000 in
theorem q_18_6432 (G : Nat × (Nat → Int32)) (d : Nat) (x0 : Int32) (s0 : Int32) (σ : aH) : Lq G d M_18 (1, [some (.int x0)], [.int s0], σ) = if s0 < 0 then Lq G d M_18 (15, [some (.int x0)], [], σ) else Lq G d M_18 (4, [some (.int x0)], [], σ) :=
  (aUn_eq (tkd G.1 G.2) tmi (aRun (tkd G.1 G.2) tmi tmt d) M_18 [] 1 (1, [some (.int x0)], [.int s0], σ)).trans rfl
set_option maxRecDepth 20000 in
theorem q_18_6433 (G : Nat × (Nat → Int32)) (d : Nat) (x0 : Int32) (σ : aH) : Lq G d M_18 (15, [some (.int x0)], [], σ) = Lq G d M_18 (16, [some (.int x0)], [.int (0 : Int32)], σ) :=
  (aUn_eq (tkd G.1 G.2) tmi (aRun (tkd G.1 G.2) tmi tmt d) M_18 [] 1 (15, [some (.int x0)], [], σ)).trans rfl
set_option maxRecDepth 20000 in
theorem q_18_6434 (G : Nat × (Nat → Int32)) (d : Nat) (x0 : Int32) (s0 : Int32) (σ : aH) : Lq G d M_18 (16, [some (.int x0)], [.int s0], σ) = aNar .boolean (s0) (some (.inl (some (.int s0)), σ)) :=
  (aUn_eq (tkd G.1 G.2) tmi (aRun (tkd G.1 G.2) tmi tmt d) M_18 [] 1 (16, [some (.int x0)], [.int s0], σ)).trans rfl
set_option maxRecDepth 20000 in
theorem q_18_6435 (G : Nat × (Nat → Int32)) (d : Nat) (x0 : Int32) (σ : aH) : Lq G d M_18 (4, [some (.int x0)], [], σ) = Lq G d M_18 (8, [some (.int x0)], [.int (255 : Int32), .int x0], σ) :=
  (aUn_eq (tkd G.1 G.2) tmi (aRun (tkd G.1 G.2) tmi tmt d) M_18 [] 2 (4, [some (.int x0)], [], σ)).trans rfl
set_option maxRecDepth 20000 in
theorem q_18_6436 (G : Nat × (Nat → Int32)) (d : Nat) (x0 : Int32) (s0 : Int32) (s1 : Int32) (σ : aH) : Lq G d M_18 (8, [some (.int x0)], [.int s0, .int s1], σ) = if s0 < s1 then Lq G d M_18 (15, [some (.int x0)], [], σ) else Lq G d M_18 (11, [some (.int x0)], [], σ) :=
  (aUn_eq (tkd G.1 G.2) tmi (aRun (tkd G.1 G.2) tmi tmt d) M_18 [] 1 (8, [some (.int x0)], [.int s0, .int s1], σ)).trans rfl
set_option maxRecDepth 20000 in
theorem q_18_6437 (G : Nat × (Nat → Int32)) (d : Nat) (x0 : Int32) (σ : aH) : Lq G d M_18 (11, [some (.int x0)], [], σ) = Lq G d M_18 (16, [some (.int x0)], [.int (1 : Int32)], σ) :=
  (aUn_eq (tkd G.1 G.2) tmi (aRun (tkd G.1 G.2) tmi tmt d) M_18 [] 2 (11, [some (.int x0)], [], σ)).trans rfl
set_option maxRecDepth 20000 in
theorem q_21_6438 (G : Nat × (Nat → Int32)) (d : Nat) (rx0 : Nat) (x1 : Int32) (x2 : Int32) (x3 : Int32) (σ : aH) : Lq G d M_21 (0, [some (.ref rx0), some (.int x1), some (.int x2), some (.int x3), none, none], [], σ) = Lq G d M_21 (7, [some (.ref rx0), none, none, some (.int x3), some (.int (x1).toInt8.toInt32), some (.int x2)], [], σ) :=
  (aUn_eq (tkd G.1 G.2) tmi (aRun (tkd G.1 G.2) tmi tmt d) M_21 [] 5 (0, [some (.ref rx0), some (.int x1), some (.int x2), some (.int x3), none, none], [], σ)).trans rfl
set_option maxRecDepth 20000 in
theorem q_21_6439 (G : Nat × (Nat → Int32)) (d : Nat) (rx0 : Nat) (x3 : Int32) (x4 : Int32) (x5 : Int32) (σ : aH) : Lq G d M_21 (7, [some (.ref rx0), none, none, some (.int x3), some (.int x4), some (.int x5)], [], σ) = Lq G d M_21 (10, [some (.ref rx0), none, none, some (.int x3), some (.int x4), some (.int x5)], [.int x3, .int x5], σ) :=
  (aUn_eq (tkd G.1 G.2) tmi (aRun (tkd G.1 G.2) tmi tmt d) M_21 [] 2 (7, [some (.ref rx0), none, none, some (.int x3), some (.int x4), some (.int x5)], [], σ)).trans rfl
set_option maxRecDepth 20000 in
theorem q_21_6440 (G : Nat × (Nat → Int32)) (d : Nat) (rx0 : Nat) (x3 : Int32) (x4 : Int32) (x5 : Int32) (s0 : Int32) (s1 : Int32) (σ : aH) : Lq G d M_21 (10, [some (.ref rx0), none, none, some (.int x3), some (.int x4), some (.int x5)], [.int s0, .int s1], σ) = if s0 ≤ s1 then Lq G d M_21 (31, [some (.ref rx0), none, none, some (.int x3), some (.int x4), some (.int x5)], [], σ) else Lq G d M_21 (13, [some (.ref rx0), none, none, some (.int x3), some (.int x4), some (.int x5)], [], σ) :=
  (aUn_eq (tkd G.1 G.2) tmi (aRun (tkd G.1 G.2) tmi tmt d) M_21 [] 1 (10, [some (.ref rx0), none, none, some (.int x3), some (.int x4), some (.int x5)], [.int s0, .int s1], σ)).trans rfl
set_option maxRecDepth 20000 in
theorem q_21_6441 (G : Nat × (Nat → Int32)) (d : Nat) (rx0 : Nat) (x3 : Int32) (x4 : Int32) (x5 : Int32) (σ : aH) : Lq G d M_21 (31, [some (.ref rx0), none, none, some (.int x3), some (.int x4), some (.int x5)], [], σ) = Lq G d M_21 (32, [some (.ref rx0), none, none, some (.int x3), some (.int x4), some (.int x5)], [.int (-1 : Int32)], σ) :=
  (aUn_eq (tkd G.1 G.2) tmi (aRun (tkd G.1 G.2) tmi tmt d) M_21 [] 1 (31, [some (.ref rx0), none, none, some (.int x3), some (.int x4), some (.int x5)], [], σ)).trans rfl
set_option maxRecDepth 20000 in
theorem q_21_6442 (G : Nat × (Nat → Int32)) (d : Nat) (rx0 : Nat) (x3 : Int32) (x4 : Int32) (x5 : Int32) (s0 : Int32) (σ : aH) : Lq G d M_21 (32, [some (.ref rx0), none, none, some (.int x3), some (.int x4), some (.int x5)], [.int s0], σ) = some (.inl (some (.int s0)), σ) :=
  (aUn_eq (tkd G.1 G.2) tmi (aRun (tkd G.1 G.2) tmi tmt d) M_21 [] 1 (32, [some (.ref rx0), none, none, some (.int x3), some (.int x4), some (.int x5)], [.int s0], σ)).trans rfl
set_option maxRecDepth 20000 in
theorem q_21_6443 (G : Nat × (Nat → Int32)) (d : Nat) (rx0 : Nat) (x3 : Int32) (x4 : Int32) (x5 : Int32) (σ : aH) : Lq G d M_21 (13, [some (.ref rx0), none, none, some (.int x3), some (.int x4), some (.int x5)], [], σ) = Lq G d M_21 (16, [some (.ref rx0), none, none, some (.int x3), some (.int x4), some (.int x5)], [.int x5, .ref rx0], σ) :=
  (aUn_eq (tkd G.1 G.2) tmi (aRun (tkd G.1 G.2) tmi tmt d) M_21 [] 2 (13, [some (.ref rx0), none, none, some (.int x3), some (.int x4), some (.int x5)], [], σ)).trans rfl
set_option maxRecDepth 20000 in
theorem q_21_6444 (G : Nat × (Nat → Int32)) (d : Nat) (rx0 : Nat) (x3 : Int32) (x4 : Int32) (x5 : Int32) (s0 : Int32) (rs1 : Nat) (σ : aH) : Lq G d M_21 (16, [some (.ref rx0), none, none, some (.int x3), some (.int x4), some (.int x5)], [.int s0, .ref rs1], σ) = aArB (tkd G.1 G.2) rs1 σ fun n2 f3 => aIx (s0) n2 fun j1 => Lq G d M_21 (17, [some (.ref rx0), none, none, some (.int x3), some (.int x4), some (.int x5)], [.int (f3 j1)], σ) :=
  (aUn_eq (tkd G.1 G.2) tmi (aRun (tkd G.1 G.2) tmi tmt d) M_21 [] 1 (16, [some (.ref rx0), none, none, some (.int x3), some (.int x4), some (.int x5)], [.int s0, .ref rs1], σ)).trans rfl
set_option maxRecDepth 20000 in
theorem q_21_6445 (G : Nat × (Nat → Int32)) (d : Nat) (rx0 : Nat) (x3 : Int32) (x4 : Int32) (x5 : Int32) (s0 : Int32) (σ : aH) : Lq G d M_21 (17, [some (.ref rx0), none, none, some (.int x3), some (.int x4), some (.int x5)], [.int s0], σ) = Lq G d M_21 (19, [some (.ref rx0), none, none, some (.int x3), some (.int x4), some (.int x5)], [.int x4, .int s0], σ) :=
  (aUn_eq (tkd G.1 G.2) tmi (aRun (tkd G.1 G.2) tmi tmt d) M_21 [] 1 (17, [some (.ref rx0), none, none, some (.int x3), some (.int x4), some (.int x5)], [.int s0], σ)).trans rfl
set_option maxRecDepth 20000 in
theorem q_21_6446 (G : Nat × (Nat → Int32)) (d : Nat) (rx0 : Nat) (x3 : Int32) (x4 : Int32) (x5 : Int32) (s0 : Int32) (s1 : Int32) (σ : aH) : Lq G d M_21 (19, [some (.ref rx0), none, none, some (.int x3), some (.int x4), some (.int x5)], [.int s0, .int s1], σ) = if s1 = s0 then Lq G d M_21 (22, [some (.ref rx0), none, none, some (.int x3), some (.int x4), some (.int x5)], [], σ) else Lq G d M_21 (25, [some (.ref rx0), none, none, some (.int x3), some (.int x4), some (.int x5)], [], σ) :=
  (aUn_eq (tkd G.1 G.2) tmi (aRun (tkd G.1 G.2) tmi tmt d) M_21 [] 1 (19, [some (.ref rx0), none, none, some (.int x3), some (.int x4), some (.int x5)], [.int s0, .int s1], σ)).trans rfl
set_option maxRecDepth 20000 in
theorem q_21_6447 (G : Nat × (Nat → Int32)) (d : Nat) (rx0 : Nat) (x3 : Int32) (x4 : Int32) (x5 : Int32) (σ : aH) : Lq G d M_21 (22, [some (.ref rx0), none, none, some (.int x3), some (.int x4), some (.int x5)], [], σ) = Lq G d M_21 (24, [some (.ref rx0), none, none, some (.int x3), some (.int x4), some (.int x5)], [.int x5], σ) :=
  (aUn_eq (tkd G.1 G.2) tmi (aRun (tkd G.1 G.2) tmi tmt d) M_21 [] 1 (22, [some (.ref rx0), none, none, some (.int x3), some (.int x4), some (.int x5)], [], σ)).trans rfl
set_option maxRecDepth 20000 in
theorem q_21_6448 (G : Nat × (Nat → Int32)) (d : Nat) (rx0 : Nat) (x3 : Int32) (x4 : Int32) (x5 : Int32) (s0 : Int32) (σ : aH) : Lq G d M_21 (24, [some (.ref rx0), none, none, some (.int x3), some (.int x4), some (.int x5)], [.int s0], σ) = some (.inl (some (.int s0)), σ) :=
  (aUn_eq (tkd G.1 G.2) tmi (aRun (tkd G.1 G.2) tmi tmt d) M_21 [] 1 (24, [some (.ref rx0), none, none, some (.int x3), some (.int x4), some (.int x5)], [.int s0], σ)).trans rfl
set_option maxRecDepth 20000 in
theorem q_21_6449 (G : Nat × (Nat → Int32)) (d : Nat) (rx0 : Nat) (x3 : Int32) (x4 : Int32) (x5 : Int32) (σ : aH) : Lq G d M_21 (25, [some (.ref rx0), none, none, some (.int x3), some (.int x4), some (.int x5)], [], σ) = Lq G d M_21 (7, [some (.ref rx0), none, none, some (.int x3), some (.int x4), some (.int (x5 + (1 : Int32)))], [], σ) :=
  (aUn_eq (tkd G.1 G.2) tmi (aRun (tkd G.1 G.2) tmi tmt d) M_21 [] 2 (25, [some (.ref rx0), none, none, some (.int x3), some (.int x4), some (.int x5)], [], σ)).trans rfl
set_option maxRecDepth 20000 in
theorem q_29_6450 (G : Nat × (Nat → Int32)) (d : Nat) (x0 : Int32) (x1 : Int32) (σ : aH) : Lq G d M_29 (0, [some (.int x0), some (.int x1), some (.float 0)], [], σ) = Lq G d M_29 (1, [some (.int x0), some (.int x1), some (.float 0)], [.int x0], σ) :=
  (aUn_eq (tkd G.1 G.2) tmi (aRun (tkd G.1 G.2) tmi tmt d) M_29 [] 1 (0, [some (.int x0), some (.int x1), some (.float 0)], [], σ)).trans rfl
set_option maxRecDepth 20000 in
theorem q_29_6451 (G : Nat × (Nat → Int32)) (d : Nat) (x0 : Int32) (x1 : Int32) (s0 : Int32) (σ : aH) : Lq G d M_29 (1, [some (.int x0), some (.int x1), some (.float 0)], [.int s0], σ) = if s0 < 0 then Lq G d M_29 (9, [some (.int x0), some (.int x1), some (.float 0)], [], σ) else Lq G d M_29 (4, [some (.int x0), some (.int x1), some (.float 0)], [], σ) :=
  (aUn_eq (tkd G.1 G.2) tmi (aRun (tkd G.1 G.2) tmi tmt d) M_29 [] 1 (1, [some (.int x0), some (.int x1), some (.float 0)], [.int s0], σ)).trans rfl
set_option maxRecDepth 20000 in
theorem q_29_6452 (G : Nat × (Nat → Int32)) (d : Nat) (x0 : Int32) (x1 : Int32) (σ : aH) : Lq G d M_29 (9, [some (.int x0), some (.int x1), some (.float 0)], [], σ) = none :=
  (aUn_eq (tkd G.1 G.2) tmi (aRun (tkd G.1 G.2) tmi tmt d) M_29 [] 1 (9, [some (.int x0), some (.int x1), some (.float 0)], [], σ)).trans rfl
set_option maxRecDepth 20000 in
theorem q_29_6453 (G : Nat × (Nat → Int32)) (d : Nat) (x0 : Int32) (x1 : Int32) (σ : aH) : Lq G d M_29 (4, [some (.int x0), some (.int x1), some (.float 0)], [], σ) = Lq G d M_29 (6, [some (.int x0), some (.int x1), some (.float 0)], [.int x1, .int x0], σ) :=
  (aUn_eq (tkd G.1 G.2) tmi (aRun (tkd G.1 G.2) tmi tmt d) M_29 [] 2 (4, [some (.int x0), some (.int x1), some (.float 0)], [], σ)).trans rfl
set_option maxRecDepth 20000 in
theorem q_29_6454 (G : Nat × (Nat → Int32)) (d : Nat) (x0 : Int32) (x1 : Int32) (s0 : Int32) (s1 : Int32) (σ : aH) : Lq G d M_29 (6, [some (.int x0), some (.int x1), some (.float 0)], [.int s0, .int s1], σ) = if s1 < s0 then Lq G d M_29 (16, [some (.int x0), some (.int x1), some (.float 0)], [], σ) else Lq G d M_29 (9, [some (.int x0), some (.int x1), some (.float 0)], [], σ) :=
  (aUn_eq (tkd G.1 G.2) tmi (aRun (tkd G.1 G.2) tmi tmt d) M_29 [] 1 (6, [some (.int x0), some (.int x1), some (.float 0)], [.int s0, .int s1], σ)).trans rfl
set_option maxRecDepth 20000 in
theorem q_29_6455 (G : Nat × (Nat → Int32)) (d : Nat) (x0 : Int32) (x1 : Int32) (σ : aH) : Lq G d M_29 (16, [some (.int x0), some (.int x1), some (.float 0)], [], σ) = Lq G d M_29 (17, [some (.int x0), some (.int x1), some (.float 0)], [.int x0], σ) :=
  (aUn_eq (tkd G.1 G.2) tmi (aRun (tkd G.1 G.2) tmi tmt d) M_29 [] 1 (16, [some (.int x0), some (.int x1), some (.float 0)], [], σ)).trans rfl
set_option maxRecDepth 20000 in
theorem q_29_6456 (G : Nat × (Nat → Int32)) (d : Nat) (x0 : Int32) (x1 : Int32) (s0 : Int32) (σ : aH) : Lq G d M_29 (17, [some (.int x0), some (.int x1), some (.float 0)], [.int s0], σ) = some (.inl (some (.int s0)), σ) :=
  (aUn_eq (tkd G.1 G.2) tmi (aRun (tkd G.1 G.2) tmi tmt d) M_29 [] 1 (17, [some (.int x0), some (.int x1), some (.float 0)], [.int s0], σ)).trans rfl
