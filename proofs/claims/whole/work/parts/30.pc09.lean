/-! ===== the methods in pieces, as equations (by wip/gen/emit_eqs2.py) ===== -/
set_option maxRecDepth 20000 in
theorem q_137_2373 (G : Nat × (Nat → Int32)) (d : Nat) (x1 : Int32) (x2 : Int32) (x3 : Int32) (s0 : Int32) (σ : aH) : Lq G d M_137 (48, [some (.ref 33), some (.int x1), some (.int x2), some (.int x3)], [.int s0], σ) = if s0 ≤ 0 then Lq G d M_137 (55, [some (.ref 33), some (.int x1), some (.int x2), some (.int x3)], [], σ) else Lq G d M_137 (51, [some (.ref 33), some (.int x1), some (.int x2), some (.int x3)], [], σ) :=
  (aUn_eq (tkd G.1 G.2) tmi (aRun (tkd G.1 G.2) tmi tmt d) M_137 [] 1 (48, [some (.ref 33), some (.int x1), some (.int x2), some (.int x3)], [.int s0], σ)).trans rfl
set_option maxRecDepth 20000 in
theorem q_137_2374 (G : Nat × (Nat → Int32)) (d : Nat) (x1 : Int32) (x2 : Int32) (x3 : Int32) (σ : aH) : Lq G d M_137 (55, [some (.ref 33), some (.int x1), some (.int x2), some (.int x3)], [], σ) = Lq G d M_137 (56, [some (.ref 33), some (.int x1), some (.int x2), some (.int x3)], [.int (0 : Int32)], σ) :=
  (aUn_eq (tkd G.1 G.2) tmi (aRun (tkd G.1 G.2) tmi tmt d) M_137 [] 1 (55, [some (.ref 33), some (.int x1), some (.int x2), some (.int x3)], [], σ)).trans rfl
set_option maxRecDepth 20000 in
theorem q_137_2375 (G : Nat × (Nat → Int32)) (d : Nat) (x1 : Int32) (x2 : Int32) (x3 : Int32) (s0 : Int32) (σ : aH) : Lq G d M_137 (56, [some (.ref 33), some (.int x1), some (.int x2), some (.int x3)], [.int s0], σ) = aNar .boolean (s0) (some (.inl (some (.int s0)), σ)) :=
  (aUn_eq (tkd G.1 G.2) tmi (aRun (tkd G.1 G.2) tmi tmt d) M_137 [] 1 (56, [some (.ref 33), some (.int x1), some (.int x2), some (.int x3)], [.int s0], σ)).trans rfl
set_option maxRecDepth 20000 in
theorem q_137_2376 (G : Nat × (Nat → Int32)) (d : Nat) (x1 : Int32) (x2 : Int32) (x3 : Int32) (σ : aH) : Lq G d M_137 (51, [some (.ref 33), some (.int x1), some (.int x2), some (.int x3)], [], σ) = Lq G d M_137 (56, [some (.ref 33), some (.int x1), some (.int x2), some (.int x3)], [.int (1 : Int32)], σ) :=
  (aUn_eq (tkd G.1 G.2) tmi (aRun (tkd G.1 G.2) tmi tmt d) M_137 [] 2 (51, [some (.ref 33), some (.int x1), some (.int x2), some (.int x3)], [], σ)).trans rfl
set_option maxRecDepth 20000 in
theorem q_137_2377 (G : Nat × (Nat → Int32)) (d : Nat) (x1 : Int32) (x2 : Int32) (x3 : Int32) (σ : aH) : Lq G d M_137 (12, [some (.ref 33), some (.int x1), some (.int x2), some (.int x3)], [], σ) = Lq G d M_137 (24, [some (.ref 33), some (.int x1), some (.int x2), some (.int x3)], [.int (((17 : Int32) * x3) + (15 : Int32)), .ref 40, .int x2], σ) :=
  (aUn_eq (tkd G.1 G.2) tmi (aRun (tkd G.1 G.2) tmi tmt d) M_137 [] 8 (12, [some (.ref 33), some (.int x1), some (.int x2), some (.int x3)], [], σ)).trans rfl
set_option maxRecDepth 20000 in
theorem q_137_2378 (G : Nat × (Nat → Int32)) (d : Nat) (x1 : Int32) (x2 : Int32) (x3 : Int32) (s0 : Int32) (s2 : Int32) (σ : aH) : Lq G d M_137 (24, [some (.ref 33), some (.int x1), some (.int x2), some (.int x3)], [.int s0, .ref 40, .int s2], σ) = aIx (s0) 1020 fun j1 => Lq G d M_137 (25, [some (.ref 33), some (.int x1), some (.int x2), some (.int x3)], [.int (σ.1 40 j1), .int s2], σ) :=
  (aUn_eq (tkd G.1 G.2) tmi (aRun (tkd G.1 G.2) tmi tmt d) M_137 [] 1 (24, [some (.ref 33), some (.int x1), some (.int x2), some (.int x3)], [.int s0, .ref 40, .int s2], σ)).trans rfl
set_option maxRecDepth 20000 in
theorem q_137_2379 (G : Nat × (Nat → Int32)) (d : Nat) (x1 : Int32) (x2 : Int32) (x3 : Int32) (s0 : Int32) (s1 : Int32) (σ : aH) : Lq G d M_137 (25, [some (.ref 33), some (.int x1), some (.int x2), some (.int x3)], [.int s0, .int s1], σ) = Lq G d M_137 (26, [some (.ref 33), some (.int x1), some (.int x2), some (.int x3)], [.int x1, .int s0, .int s1], σ) :=
  (aUn_eq (tkd G.1 G.2) tmi (aRun (tkd G.1 G.2) tmi tmt d) M_137 [] 1 (25, [some (.ref 33), some (.int x1), some (.int x2), some (.int x3)], [.int s0, .int s1], σ)).trans rfl
set_option maxRecDepth 20000 in
theorem q_137_2380 (G : Nat × (Nat → Int32)) (d : Nat) (x1 : Int32) (x2 : Int32) (x3 : Int32) (s0 : Int32) (s1 : Int32) (s2 : Int32) (σ : aH) : Lq G d M_137 (26, [some (.ref 33), some (.int x1), some (.int x2), some (.int x3)], [.int s0, .int s1, .int s2], σ) = if s1 = s0 then Lq G d M_137 (29, [some (.ref 33), some (.int x1), some (.int x2), some (.int x3)], [.int s2], σ) else Lq G d M_137 (38, [some (.ref 33), some (.int x1), some (.int x2), some (.int x3)], [.int s2], σ) :=
  (aUn_eq (tkd G.1 G.2) tmi (aRun (tkd G.1 G.2) tmi tmt d) M_137 [] 1 (26, [some (.ref 33), some (.int x1), some (.int x2), some (.int x3)], [.int s0, .int s1, .int s2], σ)).trans rfl
set_option maxRecDepth 20000 in
theorem q_137_2381 (G : Nat × (Nat → Int32)) (d : Nat) (x1 : Int32) (x2 : Int32) (x3 : Int32) (s0 : Int32) (σ : aH) : Lq G d M_137 (29, [some (.ref 33), some (.int x1), some (.int x2), some (.int x3)], [.int s0], σ) = Lq G d M_137 (32, [some (.ref 33), some (.int x1), some (.int x2), some (.int x3)], [.int (1 : Int32), .int x3, .ref 33, .int s0], σ) :=
  (aUn_eq (tkd G.1 G.2) tmi (aRun (tkd G.1 G.2) tmi tmt d) M_137 [] 3 (29, [some (.ref 33), some (.int x1), some (.int x2), some (.int x3)], [.int s0], σ)).trans rfl
set_option maxRecDepth 20000 in
theorem q_137_2382 (G : Nat × (Nat → Int32)) (d : Nat) (x1 : Int32) (x2 : Int32) (x3 : Int32) (s0 : Int32) (s1 : Int32) (s3 : Int32) (σ : aH) : Lq G d M_137 (32, [some (.ref 33), some (.int x1), some (.int x2), some (.int x3)], [.int s0, .int s1, .ref 33, .int s3], σ) = aCI (Rn G d 135 [.ref 33, .int s1, .int s0] σ) fun v2 σ1 => Lq G d M_137 (35, [some (.ref 33), some (.int x1), some (.int x2), some (.int x3)], [.int v2, .int s3], σ1) :=
  (aUn_eq (tkd G.1 G.2) tmi (aRun (tkd G.1 G.2) tmi tmt d) M_137 [] 1 (32, [some (.ref 33), some (.int x1), some (.int x2), some (.int x3)], [.int s0, .int s1, .ref 33, .int s3], σ)).trans rfl
set_option maxRecDepth 20000 in
theorem q_137_2383 (G : Nat × (Nat → Int32)) (d : Nat) (x1 : Int32) (x2 : Int32) (x3 : Int32) (s0 : Int32) (s1 : Int32) (σ : aH) : Lq G d M_137 (35, [some (.ref 33), some (.int x1), some (.int x2), some (.int x3)], [.int s0, .int s1], σ) = Lq G d M_137 (44, [some (.ref 33), some (.int x1), some (.int (s1 + s0)), some (.int (x3 + (1 : Int32)))], [], σ) :=
  (aUn_eq (tkd G.1 G.2) tmi (aRun (tkd G.1 G.2) tmi tmt d) M_137 [] 4 (35, [some (.ref 33), some (.int x1), some (.int x2), some (.int x3)], [.int s0, .int s1], σ)).trans rfl
set_option maxRecDepth 20000 in
theorem q_137_2384 (G : Nat × (Nat → Int32)) (d : Nat) (x1 : Int32) (x2 : Int32) (x3 : Int32) (σ : aH) : Lq G d M_137 (44, [some (.ref 33), some (.int x1), some (.int x2), some (.int x3)], [], σ) = Lq G d M_137 (4, [some (.ref 33), some (.int x1), some (.int x2), some (.int x3)], [], σ) :=
  (aUn_eq (tkd G.1 G.2) tmi (aRun (tkd G.1 G.2) tmi tmt d) M_137 [] 1 (44, [some (.ref 33), some (.int x1), some (.int x2), some (.int x3)], [], σ)).trans rfl
set_option maxRecDepth 20000 in
theorem q_137_2385 (G : Nat × (Nat → Int32)) (d : Nat) (x1 : Int32) (x2 : Int32) (x3 : Int32) (s0 : Int32) (σ : aH) : Lq G d M_137 (38, [some (.ref 33), some (.int x1), some (.int x2), some (.int x3)], [.int s0], σ) = Lq G d M_137 (44, [some (.ref 33), some (.int x1), some (.int (s0 + (0 : Int32))), some (.int (x3 + (1 : Int32)))], [], σ) :=
  (aUn_eq (tkd G.1 G.2) tmi (aRun (tkd G.1 G.2) tmi tmt d) M_137 [] 4 (38, [some (.ref 33), some (.int x1), some (.int x2), some (.int x3)], [.int s0], σ)).trans rfl
set_option maxRecDepth 20000 in
theorem q_118_2386 (G : Nat × (Nat → Int32)) (d : Nat) (x1 : Int32) (σ : aH) : Lq G d M_118 (0, [some (.ref 3), some (.int x1)], [], σ) = Lq G d M_118 (3, [some (.ref 3), some (.int x1)], [.int x1, .int (3 : Int32), .ref 3], σ) :=
  (aUn_eq (tkd G.1 G.2) tmi (aRun (tkd G.1 G.2) tmi tmt d) M_118 [] 3 (0, [some (.ref 3), some (.int x1)], [], σ)).trans rfl
set_option maxRecDepth 20000 in
theorem q_118_2387 (G : Nat × (Nat → Int32)) (d : Nat) (x1 : Int32) (s0 : Int32) (s1 : Int32) (σ : aH) : Lq G d M_118 (3, [some (.ref 3), some (.int x1)], [.int s0, .int s1, .ref 3], σ) = aCI (Rn G d 103 [.ref 3, .int s1, .int s0] σ) fun v2 σ1 => Lq G d M_118 (6, [some (.ref 3), some (.int x1)], [.int v2], σ1) :=
  (aUn_eq (tkd G.1 G.2) tmi (aRun (tkd G.1 G.2) tmi tmt d) M_118 [] 1 (3, [some (.ref 3), some (.int x1)], [.int s0, .int s1, .ref 3], σ)).trans rfl
set_option maxRecDepth 20000 in
theorem q_118_2388 (G : Nat × (Nat → Int32)) (d : Nat) (x1 : Int32) (s0 : Int32) (σ : aH) : Lq G d M_118 (6, [some (.ref 3), some (.int x1)], [.int s0], σ) = if s0 = 0 then Lq G d M_118 (24, [some (.ref 3), some (.int x1)], [], σ) else Lq G d M_118 (9, [some (.ref 3), some (.int x1)], [], σ) :=
  (aUn_eq (tkd G.1 G.2) tmi (aRun (tkd G.1 G.2) tmi tmt d) M_118 [] 1 (6, [some (.ref 3), some (.int x1)], [.int s0], σ)).trans rfl
set_option maxRecDepth 20000 in
theorem q_118_2389 (G : Nat × (Nat → Int32)) (d : Nat) (x1 : Int32) (σ : aH) : Lq G d M_118 (24, [some (.ref 3), some (.int x1)], [], σ) = Lq G d M_118 (25, [some (.ref 3), some (.int x1)], [.int (0 : Int32)], σ) :=
  (aUn_eq (tkd G.1 G.2) tmi (aRun (tkd G.1 G.2) tmi tmt d) M_118 [] 1 (24, [some (.ref 3), some (.int x1)], [], σ)).trans rfl
set_option maxRecDepth 20000 in
theorem q_118_2390 (G : Nat × (Nat → Int32)) (d : Nat) (x1 : Int32) (s0 : Int32) (σ : aH) : Lq G d M_118 (25, [some (.ref 3), some (.int x1)], [.int s0], σ) = aNar .boolean (s0) (some (.inl (some (.int s0)), σ)) :=
  (aUn_eq (tkd G.1 G.2) tmi (aRun (tkd G.1 G.2) tmi tmt d) M_118 [] 1 (25, [some (.ref 3), some (.int x1)], [.int s0], σ)).trans rfl
set_option maxRecDepth 20000 in
theorem q_118_2391 (G : Nat × (Nat → Int32)) (d : Nat) (x1 : Int32) (σ : aH) : Lq G d M_118 (9, [some (.ref 3), some (.int x1)], [], σ) = Lq G d M_118 (13, [some (.ref 3), some (.int x1)], [.int (0 : Int32), .int x1, .int (3 : Int32), .ref 3], σ) :=
  (aUn_eq (tkd G.1 G.2) tmi (aRun (tkd G.1 G.2) tmi tmt d) M_118 [] 4 (9, [some (.ref 3), some (.int x1)], [], σ)).trans rfl
set_option maxRecDepth 20000 in
theorem q_118_2392 (G : Nat × (Nat → Int32)) (d : Nat) (x1 : Int32) (s0 : Int32) (s1 : Int32) (s2 : Int32) (σ : aH) : Lq G d M_118 (13, [some (.ref 3), some (.int x1)], [.int s0, .int s1, .int s2, .ref 3], σ) = aCI (Rn G d 119 [.ref 3, .int s2, .int s1, .int s0] σ) fun v2 σ1 => Lq G d M_118 (16, [some (.ref 3), some (.int x1)], [.int v2], σ1) :=
  (aUn_eq (tkd G.1 G.2) tmi (aRun (tkd G.1 G.2) tmi tmt d) M_118 [] 1 (13, [some (.ref 3), some (.int x1)], [.int s0, .int s1, .int s2, .ref 3], σ)).trans rfl
set_option maxRecDepth 20000 in
theorem q_118_2393 (G : Nat × (Nat → Int32)) (d : Nat) (x1 : Int32) (s0 : Int32) (σ : aH) : Lq G d M_118 (16, [some (.ref 3), some (.int x1)], [.int s0], σ) = Lq G d M_118 (17, [some (.ref 3), some (.int x1)], [.int (1 : Int32), .int s0], σ) :=
  (aUn_eq (tkd G.1 G.2) tmi (aRun (tkd G.1 G.2) tmi tmt d) M_118 [] 1 (16, [some (.ref 3), some (.int x1)], [.int s0], σ)).trans rfl
set_option maxRecDepth 20000 in
theorem q_118_2394 (G : Nat × (Nat → Int32)) (d : Nat) (x1 : Int32) (s0 : Int32) (s1 : Int32) (σ : aH) : Lq G d M_118 (17, [some (.ref 3), some (.int x1)], [.int s0, .int s1], σ) = if s1 = s0 then Lq G d M_118 (20, [some (.ref 3), some (.int x1)], [], σ) else Lq G d M_118 (24, [some (.ref 3), some (.int x1)], [], σ) :=
  (aUn_eq (tkd G.1 G.2) tmi (aRun (tkd G.1 G.2) tmi tmt d) M_118 [] 1 (17, [some (.ref 3), some (.int x1)], [.int s0, .int s1], σ)).trans rfl
set_option maxRecDepth 20000 in
theorem q_118_2395 (G : Nat × (Nat → Int32)) (d : Nat) (x1 : Int32) (σ : aH) : Lq G d M_118 (20, [some (.ref 3), some (.int x1)], [], σ) = Lq G d M_118 (25, [some (.ref 3), some (.int x1)], [.int (1 : Int32)], σ) :=
  (aUn_eq (tkd G.1 G.2) tmi (aRun (tkd G.1 G.2) tmi tmt d) M_118 [] 2 (20, [some (.ref 3), some (.int x1)], [], σ)).trans rfl
set_option maxRecDepth 20000 in
theorem q_152_2396 (G : Nat × (Nat → Int32)) (d : Nat) (x0 : Int32) (x1 : Int32) (σ : aH) : Lq G d M_152 (0, [some (.int x0), some (.int x1), none, none, none, none], [], σ) = Lq G d M_152 (15, [some (.int x0), some (.int x1), some (.long ((x1).toInt64 * (x1).toInt64)), none, some (.long (((x1).toInt64 * (x1).toInt64) + ((x0).toInt64 * (x0).toInt64))), none], [], σ) :=
  (aUn_eq (tkd G.1 G.2) tmi (aRun (tkd G.1 G.2) tmi tmt d) M_152 [] 14 (0, [some (.int x0), some (.int x1), none, none, none, none], [], σ)).trans rfl
set_option maxRecDepth 20000 in
theorem q_152_2397 (G : Nat × (Nat → Int32)) (d : Nat) (x0 : Int32) (x1 : Int32) (x2 : Int64) (x4 : Int64) (σ : aH) : Lq G d M_152 (15, [some (.int x0), some (.int x1), some (.long x2), none, some (.long x4), none], [], σ) = Lq G d M_152 (19, [some (.int x0), some (.int x1), some (.long x2), none, some (.long x4), none], [.int (lg_cmp x4 (0 : Int64))], σ) :=
  (aUn_eq (tkd G.1 G.2) tmi (aRun (tkd G.1 G.2) tmi tmt d) M_152 [] 3 (15, [some (.int x0), some (.int x1), some (.long x2), none, some (.long x4), none], [], σ)).trans rfl
set_option maxRecDepth 20000 in
theorem q_152_2398 (G : Nat × (Nat → Int32)) (d : Nat) (x0 : Int32) (x1 : Int32) (x2 : Int64) (x4 : Int64) (s0 : Int32) (σ : aH) : Lq G d M_152 (19, [some (.int x0), some (.int x1), some (.long x2), none, some (.long x4), none], [.int s0], σ) = if s0 = 0 then Lq G d M_152 (22, [some (.int x0), some (.int x1), some (.long x2), none, some (.long x4), none], [], σ) else Lq G d M_152 (26, [some (.int x0), some (.int x1), some (.long x2), none, some (.long x4), none], [], σ) :=
  (aUn_eq (tkd G.1 G.2) tmi (aRun (tkd G.1 G.2) tmi tmt d) M_152 [] 1 (19, [some (.int x0), some (.int x1), some (.long x2), none, some (.long x4), none], [.int s0], σ)).trans rfl
set_option maxRecDepth 20000 in
theorem q_152_2399 (G : Nat × (Nat → Int32)) (d : Nat) (x0 : Int32) (x1 : Int32) (x2 : Int64) (x4 : Int64) (σ : aH) : Lq G d M_152 (22, [some (.int x0), some (.int x1), some (.long x2), none, some (.long x4), none], [], σ) = Lq G d M_152 (35, [some (.int x0), some (.int x1), some (.long x2), none, some (.long x4), none], [.int (0 : Int32)], σ) :=
  (aUn_eq (tkd G.1 G.2) tmi (aRun (tkd G.1 G.2) tmi tmt d) M_152 [] 2 (22, [some (.int x0), some (.int x1), some (.long x2), none, some (.long x4), none], [], σ)).trans rfl
set_option maxRecDepth 20000 in
theorem q_152_2400 (G : Nat × (Nat → Int32)) (d : Nat) (x0 : Int32) (x1 : Int32) (x2 : Int64) (x4 : Int64) (s0 : Int32) (σ : aH) : Lq G d M_152 (35, [some (.int x0), some (.int x1), some (.long x2), none, some (.long x4), none], [.int s0], σ) = some (.inl (some (.int s0)), σ) :=
  (aUn_eq (tkd G.1 G.2) tmi (aRun (tkd G.1 G.2) tmi tmt d) M_152 [] 1 (35, [some (.int x0), some (.int x1), some (.long x2), none, some (.long x4), none], [.int s0], σ)).trans rfl
set_option maxRecDepth 20000 in
theorem q_152_2401 (G : Nat × (Nat → Int32)) (d : Nat) (x0 : Int32) (x1 : Int32) (x2 : Int64) (x4 : Int64) (σ : aH) : Lq G d M_152 (26, [some (.int x0), some (.int x1), some (.long x2), none, some (.long x4), none], [], σ) = Lq G d M_152 (33, [some (.int x0), some (.int x1), some (.long x2), none, some (.long x4), none], [.long x4, .long ((1000000 : Int64) * x2)], σ) :=
  (aUn_eq (tkd G.1 G.2) tmi (aRun (tkd G.1 G.2) tmi tmt d) M_152 [] 4 (26, [some (.int x0), some (.int x1), some (.long x2), none, some (.long x4), none], [], σ)).trans rfl
set_option maxRecDepth 20000 in
theorem q_152_2402 (G : Nat × (Nat → Int32)) (d : Nat) (x0 : Int32) (x1 : Int32) (x2 : Int64) (x4 : Int64) (s0 : Int64) (s1 : Int64) (σ : aH) : Lq G d M_152 (33, [some (.int x0), some (.int x1), some (.long x2), none, some (.long x4), none], [.long s0, .long s1], σ) = aNzL (s0) (Lq G d M_152 (34, [some (.int x0), some (.int x1), some (.long x2), none, some (.long x4), none], [.long (s1 / s0)], σ)) :=
  (aUn_eq (tkd G.1 G.2) tmi (aRun (tkd G.1 G.2) tmi tmt d) M_152 [] 1 (33, [some (.int x0), some (.int x1), some (.long x2), none, some (.long x4), none], [.long s0, .long s1], σ)).trans rfl
set_option maxRecDepth 20000 in
theorem q_152_2403 (G : Nat × (Nat → Int32)) (d : Nat) (x0 : Int32) (x1 : Int32) (x2 : Int64) (x4 : Int64) (s0 : Int64) (σ : aH) : Lq G d M_152 (34, [some (.int x0), some (.int x1), some (.long x2), none, some (.long x4), none], [.long s0], σ) = Lq G d M_152 (35, [some (.int x0), some (.int x1), some (.long x2), none, some (.long x4), none], [.int (s0).toInt32], σ) :=
  (aUn_eq (tkd G.1 G.2) tmi (aRun (tkd G.1 G.2) tmi tmt d) M_152 [] 1 (34, [some (.int x0), some (.int x1), some (.long x2), none, some (.long x4), none], [.long s0], σ)).trans rfl
set_option maxRecDepth 20000 in
theorem q_154_2404 (G : Nat × (Nat → Int32)) (d : Nat) (x0 : Int64) (x2 : Int64) (σ : aH) : Lq G d M_154 (0, [some (.long x0), none, some (.long x2), none], [], σ) = Lq G d M_154 (14, [some (.long x0), none, some (.long x2), none], [.long ((x2 * x2) + (x0 * x0)), .long (((1000000 : Int64) * x2) * x2)], σ) :=
  (aUn_eq (tkd G.1 G.2) tmi (aRun (tkd G.1 G.2) tmi tmt d) M_154 [] 12 (0, [some (.long x0), none, some (.long x2), none], [], σ)).trans rfl
set_option maxRecDepth 20000 in
theorem q_154_2405 (G : Nat × (Nat → Int32)) (d : Nat) (x0 : Int64) (x2 : Int64) (s0 : Int64) (s1 : Int64) (σ : aH) : Lq G d M_154 (14, [some (.long x0), none, some (.long x2), none], [.long s0, .long s1], σ) = aNzL (s0) (Lq G d M_154 (15, [some (.long x0), none, some (.long x2), none], [.long (s1 / s0)], σ)) :=
  (aUn_eq (tkd G.1 G.2) tmi (aRun (tkd G.1 G.2) tmi tmt d) M_154 [] 1 (14, [some (.long x0), none, some (.long x2), none], [.long s0, .long s1], σ)).trans rfl
set_option maxRecDepth 20000 in
theorem q_154_2406 (G : Nat × (Nat → Int32)) (d : Nat) (x0 : Int64) (x2 : Int64) (s0 : Int64) (σ : aH) : Lq G d M_154 (15, [some (.long x0), none, some (.long x2), none], [.long s0], σ) = Lq G d M_154 (16, [some (.long x0), none, some (.long x2), none], [.int (s0).toInt32], σ) :=
  (aUn_eq (tkd G.1 G.2) tmi (aRun (tkd G.1 G.2) tmi tmt d) M_154 [] 1 (15, [some (.long x0), none, some (.long x2), none], [.long s0], σ)).trans rfl
set_option maxRecDepth 20000 in
theorem q_154_2407 (G : Nat × (Nat → Int32)) (d : Nat) (x0 : Int64) (x2 : Int64) (s0 : Int32) (σ : aH) : Lq G d M_154 (16, [some (.long x0), none, some (.long x2), none], [.int s0], σ) = some (.inl (some (.int s0)), σ) :=
  (aUn_eq (tkd G.1 G.2) tmi (aRun (tkd G.1 G.2) tmi tmt d) M_154 [] 1 (16, [some (.long x0), none, some (.long x2), none], [.int s0], σ)).trans rfl
set_option maxRecDepth 20000 in
theorem q_157_2408 (G : Nat × (Nat → Int32)) (d : Nat) (x1 : Int32) (x2 : Int32) (x3 : Int32) (σ : aH) : Lq G d M_157 (0, [some (.ref 0), some (.int x1), some (.int x2), some (.int x3)], [], σ) = Lq G d M_157 (6, [some (.ref 0), some (.int x1), some (.int x2), some (.int x3)], [.int x1, .int (2 : Int32), .ref 3], σ) :=
  (aUn_eq (tkd G.1 G.2) tmi (aRun (tkd G.1 G.2) tmi tmt d) M_157 [] 4 (0, [some (.ref 0), some (.int x1), some (.int x2), some (.int x3)], [], σ)).trans rfl
set_option maxRecDepth 20000 in
theorem q_157_2409 (G : Nat × (Nat → Int32)) (d : Nat) (x1 : Int32) (x2 : Int32) (x3 : Int32) (s0 : Int32) (s1 : Int32) (σ : aH) : Lq G d M_157 (6, [some (.ref 0), some (.int x1), some (.int x2), some (.int x3)], [.int s0, .int s1, .ref 3], σ) = aCI (Rn G d 103 [.ref 3, .int s1, .int s0] σ) fun v2 σ1 => Lq G d M_157 (9, [some (.ref 0), some (.int x1), some (.int x2), some (.int x3)], [.int v2], σ1) :=
  (aUn_eq (tkd G.1 G.2) tmi (aRun (tkd G.1 G.2) tmi tmt d) M_157 [] 1 (6, [some (.ref 0), some (.int x1), some (.int x2), some (.int x3)], [.int s0, .int s1, .ref 3], σ)).trans rfl
set_option maxRecDepth 20000 in
theorem q_157_2410 (G : Nat × (Nat → Int32)) (d : Nat) (x1 : Int32) (x2 : Int32) (x3 : Int32) (s0 : Int32) (σ : aH) : Lq G d M_157 (9, [some (.ref 0), some (.int x1), some (.int x2), some (.int x3)], [.int s0], σ) = if s0 = 0 then Lq G d M_157 (40, [some (.ref 0), some (.int x1), some (.int x2), some (.int x3)], [], σ) else Lq G d M_157 (12, [some (.ref 0), some (.int x1), some (.int x2), some (.int x3)], [], σ) :=
  (aUn_eq (tkd G.1 G.2) tmi (aRun (tkd G.1 G.2) tmi tmt d) M_157 [] 1 (9, [some (.ref 0), some (.int x1), some (.int x2), some (.int x3)], [.int s0], σ)).trans rfl
set_option maxRecDepth 20000 in
theorem q_157_2411 (G : Nat × (Nat → Int32)) (d : Nat) (x1 : Int32) (x2 : Int32) (x3 : Int32) (σ : aH) : Lq G d M_157 (40, [some (.ref 0), some (.int x1), some (.int x2), some (.int x3)], [], σ) = Lq G d M_157 (41, [some (.ref 0), some (.int x1), some (.int x2), some (.int x3)], [.int (0 : Int32)], σ) :=
  (aUn_eq (tkd G.1 G.2) tmi (aRun (tkd G.1 G.2) tmi tmt d) M_157 [] 1 (40, [some (.ref 0), some (.int x1), some (.int x2), some (.int x3)], [], σ)).trans rfl
set_option maxRecDepth 20000 in
theorem q_157_2412 (G : Nat × (Nat → Int32)) (d : Nat) (x1 : Int32) (x2 : Int32) (x3 : Int32) (s0 : Int32) (σ : aH) : Lq G d M_157 (41, [some (.ref 0), some (.int x1), some (.int x2), some (.int x3)], [.int s0], σ) = aXV (Rn G d 114 [.int s0] σ) (fun σ1 => Lq G d M_157 (44, [some (.ref 0), some (.int x1), some (.int x2), some (.int x3)], [], σ1)) (fun k2 σ3 => some (.inr k2, σ3)) :=
  (aUn_eq (tkd G.1 G.2) tmi (aRun (tkd G.1 G.2) tmi tmt d) M_157 [] 1 (41, [some (.ref 0), some (.int x1), some (.int x2), some (.int x3)], [.int s0], σ)).trans rfl
set_option maxRecDepth 20000 in
theorem q_157_2413 (G : Nat × (Nat → Int32)) (d : Nat) (x1 : Int32) (x2 : Int32) (x3 : Int32) (σ : aH) : Lq G d M_157 (44, [some (.ref 0), some (.int x1), some (.int x2), some (.int x3)], [], σ) = some (.inl none, σ) :=
  (aUn_eq (tkd G.1 G.2) tmi (aRun (tkd G.1 G.2) tmi tmt d) M_157 [] 1 (44, [some (.ref 0), some (.int x1), some (.int x2), some (.int x3)], [], σ)).trans rfl
set_option maxRecDepth 20000 in
theorem q_157_2414 (G : Nat × (Nat → Int32)) (d : Nat) (x1 : Int32) (x2 : Int32) (x3 : Int32) (σ : aH) : Lq G d M_157 (12, [some (.ref 0), some (.int x1), some (.int x2), some (.int x3)], [], σ) = Lq G d M_157 (18, [some (.ref 0), some (.int x1), some (.int x2), some (.int x3)], [.int x2, .int (0 : Int32), .ref 3], σ) :=
  (aUn_eq (tkd G.1 G.2) tmi (aRun (tkd G.1 G.2) tmi tmt d) M_157 [] 4 (12, [some (.ref 0), some (.int x1), some (.int x2), some (.int x3)], [], σ)).trans rfl
set_option maxRecDepth 20000 in
theorem q_157_2415 (G : Nat × (Nat → Int32)) (d : Nat) (x1 : Int32) (x2 : Int32) (x3 : Int32) (s0 : Int32) (s1 : Int32) (σ : aH) : Lq G d M_157 (18, [some (.ref 0), some (.int x1), some (.int x2), some (.int x3)], [.int s0, .int s1, .ref 3], σ) = aCI (Rn G d 103 [.ref 3, .int s1, .int s0] σ) fun v2 σ1 => Lq G d M_157 (21, [some (.ref 0), some (.int x1), some (.int x2), some (.int x3)], [.int v2], σ1) :=
  (aUn_eq (tkd G.1 G.2) tmi (aRun (tkd G.1 G.2) tmi tmt d) M_157 [] 1 (18, [some (.ref 0), some (.int x1), some (.int x2), some (.int x3)], [.int s0, .int s1, .ref 3], σ)).trans rfl
set_option maxRecDepth 20000 in
theorem q_157_2416 (G : Nat × (Nat → Int32)) (d : Nat) (x1 : Int32) (x2 : Int32) (x3 : Int32) (s0 : Int32) (σ : aH) : Lq G d M_157 (21, [some (.ref 0), some (.int x1), some (.int x2), some (.int x3)], [.int s0], σ) = if s0 = 0 then Lq G d M_157 (40, [some (.ref 0), some (.int x1), some (.int x2), some (.int x3)], [], σ) else Lq G d M_157 (24, [some (.ref 0), some (.int x1), some (.int x2), some (.int x3)], [], σ) :=
  (aUn_eq (tkd G.1 G.2) tmi (aRun (tkd G.1 G.2) tmi tmt d) M_157 [] 1 (21, [some (.ref 0), some (.int x1), some (.int x2), some (.int x3)], [.int s0], σ)).trans rfl
set_option maxRecDepth 20000 in
theorem q_157_2417 (G : Nat × (Nat → Int32)) (d : Nat) (x1 : Int32) (x2 : Int32) (x3 : Int32) (σ : aH) : Lq G d M_157 (24, [some (.ref 0), some (.int x1), some (.int x2), some (.int x3)], [], σ) = Lq G d M_157 (30, [some (.ref 0), some (.int x1), some (.int x2), some (.int x3)], [.int x3, .int (1 : Int32), .ref 3], σ) :=
  (aUn_eq (tkd G.1 G.2) tmi (aRun (tkd G.1 G.2) tmi tmt d) M_157 [] 4 (24, [some (.ref 0), some (.int x1), some (.int x2), some (.int x3)], [], σ)).trans rfl
set_option maxRecDepth 20000 in
theorem q_157_2418 (G : Nat × (Nat → Int32)) (d : Nat) (x1 : Int32) (x2 : Int32) (x3 : Int32) (s0 : Int32) (s1 : Int32) (σ : aH) : Lq G d M_157 (30, [some (.ref 0), some (.int x1), some (.int x2), some (.int x3)], [.int s0, .int s1, .ref 3], σ) = aCI (Rn G d 103 [.ref 3, .int s1, .int s0] σ) fun v2 σ1 => Lq G d M_157 (33, [some (.ref 0), some (.int x1), some (.int x2), some (.int x3)], [.int v2], σ1) :=
  (aUn_eq (tkd G.1 G.2) tmi (aRun (tkd G.1 G.2) tmi tmt d) M_157 [] 1 (30, [some (.ref 0), some (.int x1), some (.int x2), some (.int x3)], [.int s0, .int s1, .ref 3], σ)).trans rfl
set_option maxRecDepth 20000 in
theorem q_157_2419 (G : Nat × (Nat → Int32)) (d : Nat) (x1 : Int32) (x2 : Int32) (x3 : Int32) (s0 : Int32) (σ : aH) : Lq G d M_157 (33, [some (.ref 0), some (.int x1), some (.int x2), some (.int x3)], [.int s0], σ) = if s0 = 0 then Lq G d M_157 (40, [some (.ref 0), some (.int x1), some (.int x2), some (.int x3)], [], σ) else Lq G d M_157 (36, [some (.ref 0), some (.int x1), some (.int x2), some (.int x3)], [], σ) :=
  (aUn_eq (tkd G.1 G.2) tmi (aRun (tkd G.1 G.2) tmi tmt d) M_157 [] 1 (33, [some (.ref 0), some (.int x1), some (.int x2), some (.int x3)], [.int s0], σ)).trans rfl
set_option maxRecDepth 20000 in
theorem q_157_2420 (G : Nat × (Nat → Int32)) (d : Nat) (x1 : Int32) (x2 : Int32) (x3 : Int32) (σ : aH) : Lq G d M_157 (36, [some (.ref 0), some (.int x1), some (.int x2), some (.int x3)], [], σ) = Lq G d M_157 (41, [some (.ref 0), some (.int x1), some (.int x2), some (.int x3)], [.int (1 : Int32)], σ) :=
  (aUn_eq (tkd G.1 G.2) tmi (aRun (tkd G.1 G.2) tmi tmt d) M_157 [] 2 (36, [some (.ref 0), some (.int x1), some (.int x2), some (.int x3)], [], σ)).trans rfl
set_option maxRecDepth 20000 in
theorem q_158_2421 (G : Nat × (Nat → Int32)) (d : Nat) (x2 : Int32) (x3 : Int32) (x4 : Int32) (σ : aH) : Lq G d M_158 (0, [some (.ref 24), some (.ref 3), some (.int x2), some (.int x3), some (.int x4)], [], σ) = Lq G d M_158 (3, [some (.ref 24), some (.ref 3), some (.int x2), some (.int x3), some (.int x4)], [.int x2, .ref 3, .ref 24], σ) :=
  (aUn_eq (tkd G.1 G.2) tmi (aRun (tkd G.1 G.2) tmi tmt d) M_158 [] 3 (0, [some (.ref 24), some (.ref 3), some (.int x2), some (.int x3), some (.int x4)], [], σ)).trans rfl
set_option maxRecDepth 20000 in
theorem q_158_2422 (G : Nat × (Nat → Int32)) (d : Nat) (x2 : Int32) (x3 : Int32) (x4 : Int32) (s0 : Int32) (σ : aH) : Lq G d M_158 (3, [some (.ref 24), some (.ref 3), some (.int x2), some (.int x3), some (.int x4)], [.int s0, .ref 3, .ref 24], σ) = aCV (Rn G d 159 [.ref 24, .ref 3, .int s0] σ) fun σ1 => Lq G d M_158 (6, [some (.ref 24), some (.ref 3), some (.int x2), some (.int x3), some (.int x4)], [], σ1) :=
  (aUn_eq (tkd G.1 G.2) tmi (aRun (tkd G.1 G.2) tmi tmt d) M_158 [] 1 (3, [some (.ref 24), some (.ref 3), some (.int x2), some (.int x3), some (.int x4)], [.int s0, .ref 3, .ref 24], σ)).trans rfl
set_option maxRecDepth 20000 in
theorem q_158_2423 (G : Nat × (Nat → Int32)) (d : Nat) (x2 : Int32) (x3 : Int32) (x4 : Int32) (σ : aH) : Lq G d M_158 (6, [some (.ref 24), some (.ref 3), some (.int x2), some (.int x3), some (.int x4)], [], σ) = Lq G d M_158 (9, [some (.ref 24), some (.ref 3), some (.int x2), some (.int x3), some (.int x4)], [.int x3, .ref 3, .ref 24], σ) :=
  (aUn_eq (tkd G.1 G.2) tmi (aRun (tkd G.1 G.2) tmi tmt d) M_158 [] 3 (6, [some (.ref 24), some (.ref 3), some (.int x2), some (.int x3), some (.int x4)], [], σ)).trans rfl
set_option maxRecDepth 20000 in
theorem q_158_2424 (G : Nat × (Nat → Int32)) (d : Nat) (x2 : Int32) (x3 : Int32) (x4 : Int32) (s0 : Int32) (σ : aH) : Lq G d M_158 (9, [some (.ref 24), some (.ref 3), some (.int x2), some (.int x3), some (.int x4)], [.int s0, .ref 3, .ref 24], σ) = aCV (Rn G d 160 [.ref 24, .ref 3, .int s0] σ) fun σ1 => Lq G d M_158 (12, [some (.ref 24), some (.ref 3), some (.int x2), some (.int x3), some (.int x4)], [], σ1) :=
  (aUn_eq (tkd G.1 G.2) tmi (aRun (tkd G.1 G.2) tmi tmt d) M_158 [] 1 (9, [some (.ref 24), some (.ref 3), some (.int x2), some (.int x3), some (.int x4)], [.int s0, .ref 3, .ref 24], σ)).trans rfl
set_option maxRecDepth 20000 in
theorem q_158_2425 (G : Nat × (Nat → Int32)) (d : Nat) (x2 : Int32) (x3 : Int32) (x4 : Int32) (σ : aH) : Lq G d M_158 (12, [some (.ref 24), some (.ref 3), some (.int x2), some (.int x3), some (.int x4)], [], σ) = Lq G d M_158 (16, [some (.ref 24), some (.ref 3), some (.int x2), some (.int x3), some (.int x4)], [.int x4, .ref 3, .ref 24], σ) :=
  (aUn_eq (tkd G.1 G.2) tmi (aRun (tkd G.1 G.2) tmi tmt d) M_158 [] 3 (12, [some (.ref 24), some (.ref 3), some (.int x2), some (.int x3), some (.int x4)], [], σ)).trans rfl
set_option maxRecDepth 20000 in
theorem q_158_2426 (G : Nat × (Nat → Int32)) (d : Nat) (x2 : Int32) (x3 : Int32) (x4 : Int32) (s0 : Int32) (σ : aH) : Lq G d M_158 (16, [some (.ref 24), some (.ref 3), some (.int x2), some (.int x3), some (.int x4)], [.int s0, .ref 3, .ref 24], σ) = aCV (Rn G d 162 [.ref 24, .ref 3, .int s0] σ) fun σ1 => Lq G d M_158 (19, [some (.ref 24), some (.ref 3), some (.int x2), some (.int x3), some (.int x4)], [], σ1) :=
  (aUn_eq (tkd G.1 G.2) tmi (aRun (tkd G.1 G.2) tmi tmt d) M_158 [] 1 (16, [some (.ref 24), some (.ref 3), some (.int x2), some (.int x3), some (.int x4)], [.int s0, .ref 3, .ref 24], σ)).trans rfl
set_option maxRecDepth 20000 in
theorem q_158_2427 (G : Nat × (Nat → Int32)) (d : Nat) (x2 : Int32) (x3 : Int32) (x4 : Int32) (σ : aH) : Lq G d M_158 (19, [some (.ref 24), some (.ref 3), some (.int x2), some (.int x3), some (.int x4)], [], σ) = some (.inl none, σ) :=
  (aUn_eq (tkd G.1 G.2) tmi (aRun (tkd G.1 G.2) tmi tmt d) M_158 [] 1 (19, [some (.ref 24), some (.ref 3), some (.int x2), some (.int x3), some (.int x4)], [], σ)).trans rfl
set_option maxRecDepth 20000 in
theorem q_163_2428 (G : Nat × (Nat → Int32)) (d : Nat) (x1 : Int32) (σ : aH) : Lq G d M_163 (0, [some (.ref 24), some (.int x1), none, none, none, none], [], σ) = Lq G d M_163 (1, [some (.ref 24), some (.int x1), none, none, none, none], [.ref 24], σ) :=
  (aUn_eq (tkd G.1 G.2) tmi (aRun (tkd G.1 G.2) tmi tmt d) M_163 [] 1 (0, [some (.ref 24), some (.int x1), none, none, none, none], [], σ)).trans rfl
set_option maxRecDepth 20000 in
theorem q_163_2429 (G : Nat × (Nat → Int32)) (d : Nat) (x1 : Int32) (σ : aH) : Lq G d M_163 (1, [some (.ref 24), some (.int x1), none, none, none, none], [.ref 24], σ) = aCI (Rn G d 164 [.ref 24] σ) fun v2 σ1 => Lq G d M_163 (4, [some (.ref 24), some (.int x1), none, none, none, none], [.int v2], σ1) :=
  (aUn_eq (tkd G.1 G.2) tmi (aRun (tkd G.1 G.2) tmi tmt d) M_163 [] 1 (1, [some (.ref 24), some (.int x1), none, none, none, none], [.ref 24], σ)).trans rfl
set_option maxRecDepth 20000 in
theorem q_163_2430 (G : Nat × (Nat → Int32)) (d : Nat) (x1 : Int32) (s0 : Int32) (σ : aH) : Lq G d M_163 (4, [some (.ref 24), some (.int x1), none, none, none, none], [.int s0], σ) = Lq G d M_163 (13, [some (.ref 24), some (.int x1), some (.int s0), none, none, none], [.int (σ.1 24 2), .int (σ.1 24 7)], σ) :=
  (aUn_eq (tkd G.1 G.2) tmi (aRun (tkd G.1 G.2) tmi tmt d) M_163 [] 5 (4, [some (.ref 24), some (.int x1), none, none, none, none], [.int s0], σ)).trans rfl
set_option maxRecDepth 20000 in
theorem q_163_2431 (G : Nat × (Nat → Int32)) (d : Nat) (x1 : Int32) (x2 : Int32) (s0 : Int32) (s1 : Int32) (σ : aH) : Lq G d M_163 (13, [some (.ref 24), some (.int x1), some (.int x2), none, none, none], [.int s0, .int s1], σ) = aCI (Rn G d 152 [.int s1, .int s0] σ) fun v2 σ1 => Lq G d M_163 (16, [some (.ref 24), some (.int x1), some (.int x2), none, none, none], [.int v2], σ1) :=
  (aUn_eq (tkd G.1 G.2) tmi (aRun (tkd G.1 G.2) tmi tmt d) M_163 [] 1 (13, [some (.ref 24), some (.int x1), some (.int x2), none, none, none], [.int s0, .int s1], σ)).trans rfl
set_option maxRecDepth 20000 in
theorem q_163_2432 (G : Nat × (Nat → Int32)) (d : Nat) (x1 : Int32) (x2 : Int32) (s0 : Int32) (σ : aH) : Lq G d M_163 (16, [some (.ref 24), some (.int x1), some (.int x2), none, none, none], [.int s0], σ) = Lq G d M_163 (20, [some (.ref 24), some (.int x1), some (.int x2), some (.int s0), some (.int (0 : Int32)), none], [], σ) :=
  (aUn_eq (tkd G.1 G.2) tmi (aRun (tkd G.1 G.2) tmi tmt d) M_163 [] 3 (16, [some (.ref 24), some (.int x1), some (.int x2), none, none, none], [.int s0], σ)).trans rfl
set_option maxRecDepth 20000 in
theorem q_163_2433 (G : Nat × (Nat → Int32)) (d : Nat) (x1 : Int32) (x2 : Int32) (x3 : Int32) (x4 : Int32) (σ : aH) : Lq G d M_163 (20, [some (.ref 24), some (.int x1), some (.int x2), some (.int x3), some (.int x4), none], [], σ) = Lq G d M_163 (23, [some (.ref 24), some (.int x1), some (.int x2), some (.int x3), some (.int x4), none], [.int x1, .int x4], σ) :=
  (aUn_eq (tkd G.1 G.2) tmi (aRun (tkd G.1 G.2) tmi tmt d) M_163 [] 2 (20, [some (.ref 24), some (.int x1), some (.int x2), some (.int x3), some (.int x4), none], [], σ)).trans rfl
set_option maxRecDepth 20000 in
theorem q_163_2434 (G : Nat × (Nat → Int32)) (d : Nat) (x1 : Int32) (x2 : Int32) (x3 : Int32) (x4 : Int32) (s0 : Int32) (s1 : Int32) (σ : aH) : Lq G d M_163 (23, [some (.ref 24), some (.int x1), some (.int x2), some (.int x3), some (.int x4), none], [.int s0, .int s1], σ) = if s0 ≤ s1 then Lq G d M_163 (58, [some (.ref 24), some (.int x1), some (.int x2), some (.int x3), some (.int x4), none], [], σ) else Lq G d M_163 (26, [some (.ref 24), some (.int x1), some (.int x2), some (.int x3), some (.int x4), none], [], σ) :=
  (aUn_eq (tkd G.1 G.2) tmi (aRun (tkd G.1 G.2) tmi tmt d) M_163 [] 1 (23, [some (.ref 24), some (.int x1), some (.int x2), some (.int x3), some (.int x4), none], [.int s0, .int s1], σ)).trans rfl
set_option maxRecDepth 20000 in
theorem q_163_2435 (G : Nat × (Nat → Int32)) (d : Nat) (x1 : Int32) (x2 : Int32) (x3 : Int32) (x4 : Int32) (σ : aH) : Lq G d M_163 (58, [some (.ref 24), some (.int x1), some (.int x2), some (.int x3), some (.int x4), none], [], σ) = Lq G d M_163 (59, [some (.ref 24), some (.int x1), some (.int x2), some (.int x3), some (.int x4), none], [.int x2], σ) :=
  (aUn_eq (tkd G.1 G.2) tmi (aRun (tkd G.1 G.2) tmi tmt d) M_163 [] 1 (58, [some (.ref 24), some (.int x1), some (.int x2), some (.int x3), some (.int x4), none], [], σ)).trans rfl
set_option maxRecDepth 20000 in
theorem q_163_2436 (G : Nat × (Nat → Int32)) (d : Nat) (x1 : Int32) (x2 : Int32) (x3 : Int32) (x4 : Int32) (s0 : Int32) (σ : aH) : Lq G d M_163 (59, [some (.ref 24), some (.int x1), some (.int x2), some (.int x3), some (.int x4), none], [.int s0], σ) = some (.inl (some (.int s0)), σ) :=
  (aUn_eq (tkd G.1 G.2) tmi (aRun (tkd G.1 G.2) tmi tmt d) M_163 [] 1 (59, [some (.ref 24), some (.int x1), some (.int x2), some (.int x3), some (.int x4), none], [.int s0], σ)).trans rfl
set_option maxRecDepth 20000 in
theorem q_163_2437 (G : Nat × (Nat → Int32)) (d : Nat) (x1 : Int32) (x2 : Int32) (x3 : Int32) (x4 : Int32) (σ : aH) : Lq G d M_163 (26, [some (.ref 24), some (.int x1), some (.int x2), some (.int x3), some (.int x4), none], [], σ) = Lq G d M_163 (30, [some (.ref 24), some (.int x1), some (.int x2), some (.int x3), some (.int x4), none], [.int (σ.1 24 10)], σ) :=
  (aUn_eq (tkd G.1 G.2) tmi (aRun (tkd G.1 G.2) tmi tmt d) M_163 [] 2 (26, [some (.ref 24), some (.int x1), some (.int x2), some (.int x3), some (.int x4), none], [], σ)).trans rfl
set_option maxRecDepth 20000 in
theorem q_163_2438 (G : Nat × (Nat → Int32)) (d : Nat) (x1 : Int32) (x2 : Int32) (x3 : Int32) (x4 : Int32) (s0 : Int32) (σ : aH) : Lq G d M_163 (30, [some (.ref 24), some (.int x1), some (.int x2), some (.int x3), some (.int x4), none], [.int s0], σ) = if s0 = 0 then Lq G d M_163 (33, [some (.ref 24), some (.int x1), some (.int x2), some (.int x3), some (.int x4), none], [], σ) else Lq G d M_163 (58, [some (.ref 24), some (.int x1), some (.int x2), some (.int x3), some (.int x4), none], [], σ) :=
  (aUn_eq (tkd G.1 G.2) tmi (aRun (tkd G.1 G.2) tmi tmt d) M_163 [] 1 (30, [some (.ref 24), some (.int x1), some (.int x2), some (.int x3), some (.int x4), none], [.int s0], σ)).trans rfl
set_option maxRecDepth 20000 in
theorem q_163_2439 (G : Nat × (Nat → Int32)) (d : Nat) (x1 : Int32) (x2 : Int32) (x3 : Int32) (x4 : Int32) (σ : aH) : Lq G d M_163 (33, [some (.ref 24), some (.int x1), some (.int x2), some (.int x3), some (.int x4), none], [], σ) = Lq G d M_163 (36, [some (.ref 24), some (.int x1), some (.int x2), some (.int x3), some (.int x4), none], [.int x3, .int x2, .ref 24], σ) :=
  (aUn_eq (tkd G.1 G.2) tmi (aRun (tkd G.1 G.2) tmi tmt d) M_163 [] 3 (33, [some (.ref 24), some (.int x1), some (.int x2), some (.int x3), some (.int x4), none], [], σ)).trans rfl
set_option maxRecDepth 20000 in
theorem q_163_2440 (G : Nat × (Nat → Int32)) (d : Nat) (x1 : Int32) (x2 : Int32) (x3 : Int32) (x4 : Int32) (s0 : Int32) (s1 : Int32) (σ : aH) : Lq G d M_163 (36, [some (.ref 24), some (.int x1), some (.int x2), some (.int x3), some (.int x4), none], [.int s0, .int s1, .ref 24], σ) = aCI (Rn G d 165 [.ref 24, .int s1, .int s0] σ) fun v2 σ1 => Lq G d M_163 (39, [some (.ref 24), some (.int x1), some (.int x2), some (.int x3), some (.int x4), none], [.int v2], σ1) :=
  (aUn_eq (tkd G.1 G.2) tmi (aRun (tkd G.1 G.2) tmi tmt d) M_163 [] 1 (36, [some (.ref 24), some (.int x1), some (.int x2), some (.int x3), some (.int x4), none], [.int s0, .int s1, .ref 24], σ)).trans rfl
set_option maxRecDepth 20000 in
theorem q_163_2441 (G : Nat × (Nat → Int32)) (d : Nat) (x1 : Int32) (x2 : Int32) (x3 : Int32) (x4 : Int32) (s0 : Int32) (σ : aH) : Lq G d M_163 (39, [some (.ref 24), some (.int x1), some (.int x2), some (.int x3), some (.int x4), none], [.int s0], σ) = Lq G d M_163 (44, [some (.ref 24), some (.int x1), some (.int x2), some (.int x3), some (.int x4), some (.int s0)], [.int x2, .int s0], σ) :=
  (aUn_eq (tkd G.1 G.2) tmi (aRun (tkd G.1 G.2) tmi tmt d) M_163 [] 3 (39, [some (.ref 24), some (.int x1), some (.int x2), some (.int x3), some (.int x4), none], [.int s0], σ)).trans rfl
set_option maxRecDepth 20000 in
theorem q_163_2442 (G : Nat × (Nat → Int32)) (d : Nat) (x1 : Int32) (x2 : Int32) (x3 : Int32) (x4 : Int32) (x5 : Int32) (s0 : Int32) (s1 : Int32) (σ : aH) : Lq G d M_163 (44, [some (.ref 24), some (.int x1), some (.int x2), some (.int x3), some (.int x4), some (.int x5)], [.int s0, .int s1], σ) = if s1 = s0 then Lq G d M_163 (47, [some (.ref 24), some (.int x1), some (.int x2), some (.int x3), some (.int x4), some (.int x5)], [], σ) else Lq G d M_163 (49, [some (.ref 24), some (.int x1), some (.int x2), some (.int x3), some (.int x4), some (.int x5)], [], σ) :=
  (aUn_eq (tkd G.1 G.2) tmi (aRun (tkd G.1 G.2) tmi tmt d) M_163 [] 1 (44, [some (.ref 24), some (.int x1), some (.int x2), some (.int x3), some (.int x4), some (.int x5)], [.int s0, .int s1], σ)).trans rfl
set_option maxRecDepth 20000 in
theorem q_163_2443 (G : Nat × (Nat → Int32)) (d : Nat) (x1 : Int32) (x2 : Int32) (x3 : Int32) (x4 : Int32) (x5 : Int32) (σ : aH) : Lq G d M_163 (47, [some (.ref 24), some (.int x1), some (.int x2), some (.int x3), some (.int x4), some (.int x5)], [], σ) = Lq G d M_163 (48, [some (.ref 24), some (.int x1), some (.int x2), some (.int x3), some (.int x4), some (.int x5)], [.int x2], σ) :=
  (aUn_eq (tkd G.1 G.2) tmi (aRun (tkd G.1 G.2) tmi tmt d) M_163 [] 1 (47, [some (.ref 24), some (.int x1), some (.int x2), some (.int x3), some (.int x4), some (.int x5)], [], σ)).trans rfl
set_option maxRecDepth 20000 in
theorem q_163_2444 (G : Nat × (Nat → Int32)) (d : Nat) (x1 : Int32) (x2 : Int32) (x3 : Int32) (x4 : Int32) (x5 : Int32) (s0 : Int32) (σ : aH) : Lq G d M_163 (48, [some (.ref 24), some (.int x1), some (.int x2), some (.int x3), some (.int x4), some (.int x5)], [.int s0], σ) = some (.inl (some (.int s0)), σ) :=
  (aUn_eq (tkd G.1 G.2) tmi (aRun (tkd G.1 G.2) tmi tmt d) M_163 [] 1 (48, [some (.ref 24), some (.int x1), some (.int x2), some (.int x3), some (.int x4), some (.int x5)], [.int s0], σ)).trans rfl
set_option maxRecDepth 20000 in
theorem q_163_2445 (G : Nat × (Nat → Int32)) (d : Nat) (x1 : Int32) (x2 : Int32) (x3 : Int32) (x4 : Int32) (x5 : Int32) (σ : aH) : Lq G d M_163 (49, [some (.ref 24), some (.int x1), some (.int x2), some (.int x3), some (.int x4), some (.int x5)], [], σ) = Lq G d M_163 (55, [some (.ref 24), some (.int x1), some (.int x5), some (.int x3), some (.int (x4 + (1 : Int32))), some (.int x5)], [], σ) :=
  (aUn_eq (tkd G.1 G.2) tmi (aRun (tkd G.1 G.2) tmi tmt d) M_163 [] 3 (49, [some (.ref 24), some (.int x1), some (.int x2), some (.int x3), some (.int x4), some (.int x5)], [], σ)).trans rfl
set_option maxRecDepth 20000 in
theorem q_163_2446 (G : Nat × (Nat → Int32)) (d : Nat) (x1 : Int32) (x2 : Int32) (x3 : Int32) (x4 : Int32) (x5 : Int32) (σ : aH) : Lq G d M_163 (55, [some (.ref 24), some (.int x1), some (.int x2), some (.int x3), some (.int x4), some (.int x5)], [], σ) = Lq G d M_163 (20, [some (.ref 24), some (.int x1), some (.int x2), some (.int x3), some (.int x4), none], [], σ) :=
  (aUn_eq (tkd G.1 G.2) tmi (aRun (tkd G.1 G.2) tmi tmt d) M_163 [] 1 (55, [some (.ref 24), some (.int x1), some (.int x2), some (.int x3), some (.int x4), some (.int x5)], [], σ)).trans rfl
set_option maxRecDepth 20000 in
theorem q_167_2447 (G : Nat × (Nat → Int32)) (d : Nat) (x1 : Int32) (x2 : Int32) (x3 : Int32) (σ : aH) : Lq G d M_167 (0, [some (.ref 33), some (.int x1), some (.int x2), some (.int x3)], [], σ) = Lq G d M_167 (7, [some (.ref 33), some (.int x1), some (.int x2), some (.int x3)], [.int x1, .ref 33], (aSI σ 33 0 (0 : Int32))) :=
  (aUn_eq (tkd G.1 G.2) tmi (aRun (tkd G.1 G.2) tmi tmt d) M_167 [] 5 (0, [some (.ref 33), some (.int x1), some (.int x2), some (.int x3)], [], σ)).trans rfl
set_option maxRecDepth 20000 in
theorem q_167_2448 (G : Nat × (Nat → Int32)) (d : Nat) (x1 : Int32) (x2 : Int32) (x3 : Int32) (s0 : Int32) (σ : aH) : Lq G d M_167 (7, [some (.ref 33), some (.int x1), some (.int x2), some (.int x3)], [.int s0, .ref 33], σ) = if s0 < 0 then Lq G d M_167 (46, [some (.ref 33), some (.int x1), some (.int x2), some (.int x3)], [.ref 33], σ) else Lq G d M_167 (10, [some (.ref 33), some (.int x1), some (.int x2), some (.int x3)], [.ref 33], σ) :=
  (aUn_eq (tkd G.1 G.2) tmi (aRun (tkd G.1 G.2) tmi tmt d) M_167 [] 1 (7, [some (.ref 33), some (.int x1), some (.int x2), some (.int x3)], [.int s0, .ref 33], σ)).trans rfl
set_option maxRecDepth 20000 in
theorem q_167_2449 (G : Nat × (Nat → Int32)) (d : Nat) (x1 : Int32) (x2 : Int32) (x3 : Int32) (σ : aH) : Lq G d M_167 (46, [some (.ref 33), some (.int x1), some (.int x2), some (.int x3)], [.ref 33], σ) = Lq G d M_167 (48, [some (.ref 33), some (.int x1), some (.int x2), some (.int x3)], [.int (1 : Int32), .int (0 : Int32), .ref 33], σ) :=
  (aUn_eq (tkd G.1 G.2) tmi (aRun (tkd G.1 G.2) tmi tmt d) M_167 [] 2 (46, [some (.ref 33), some (.int x1), some (.int x2), some (.int x3)], [.ref 33], σ)).trans rfl
set_option maxRecDepth 20000 in
theorem q_167_2450 (G : Nat × (Nat → Int32)) (d : Nat) (x1 : Int32) (x2 : Int32) (x3 : Int32) (s0 : Int32) (s1 : Int32) (σ : aH) : Lq G d M_167 (48, [some (.ref 33), some (.int x1), some (.int x2), some (.int x3)], [.int s0, .int s1, .ref 33], σ) = aCI (Rn G d 62 [.ref 33, .int s1, .int s0] σ) fun v2 σ1 => Lq G d M_167 (51, [some (.ref 33), some (.int x1), some (.int x2), some (.int x3)], [.int v2], σ1) :=
  (aUn_eq (tkd G.1 G.2) tmi (aRun (tkd G.1 G.2) tmi tmt d) M_167 [] 1 (48, [some (.ref 33), some (.int x1), some (.int x2), some (.int x3)], [.int s0, .int s1, .ref 33], σ)).trans rfl
set_option maxRecDepth 20000 in
theorem q_167_2451 (G : Nat × (Nat → Int32)) (d : Nat) (x1 : Int32) (x2 : Int32) (x3 : Int32) (s0 : Int32) (σ : aH) : Lq G d M_167 (51, [some (.ref 33), some (.int x1), some (.int x2), some (.int x3)], [.int s0], σ) = if s0 = 0 then Lq G d M_167 (54, [some (.ref 33), some (.int x1), some (.int x2), some (.int x3)], [], σ) else Lq G d M_167 (56, [some (.ref 33), some (.int x1), some (.int x2), some (.int x3)], [], σ) :=
  (aUn_eq (tkd G.1 G.2) tmi (aRun (tkd G.1 G.2) tmi tmt d) M_167 [] 1 (51, [some (.ref 33), some (.int x1), some (.int x2), some (.int x3)], [.int s0], σ)).trans rfl
set_option maxRecDepth 20000 in
theorem q_167_2452 (G : Nat × (Nat → Int32)) (d : Nat) (x1 : Int32) (x2 : Int32) (x3 : Int32) (σ : aH) : Lq G d M_167 (54, [some (.ref 33), some (.int x1), some (.int x2), some (.int x3)], [], σ) = Lq G d M_167 (55, [some (.ref 33), some (.int x1), some (.int x2), some (.int x3)], [.int (0 : Int32)], σ) :=
  (aUn_eq (tkd G.1 G.2) tmi (aRun (tkd G.1 G.2) tmi tmt d) M_167 [] 1 (54, [some (.ref 33), some (.int x1), some (.int x2), some (.int x3)], [], σ)).trans rfl
set_option maxRecDepth 20000 in
theorem q_167_2453 (G : Nat × (Nat → Int32)) (d : Nat) (x1 : Int32) (x2 : Int32) (x3 : Int32) (s0 : Int32) (σ : aH) : Lq G d M_167 (55, [some (.ref 33), some (.int x1), some (.int x2), some (.int x3)], [.int s0], σ) = aNar .boolean (s0) (some (.inl (some (.int s0)), σ)) :=
  (aUn_eq (tkd G.1 G.2) tmi (aRun (tkd G.1 G.2) tmi tmt d) M_167 [] 1 (55, [some (.ref 33), some (.int x1), some (.int x2), some (.int x3)], [.int s0], σ)).trans rfl
set_option maxRecDepth 20000 in
theorem q_167_2454 (G : Nat × (Nat → Int32)) (d : Nat) (x1 : Int32) (x2 : Int32) (x3 : Int32) (σ : aH) : Lq G d M_167 (56, [some (.ref 33), some (.int x1), some (.int x2), some (.int x3)], [], σ) = Lq G d M_167 (59, [some (.ref 33), some (.int x1), some (.int x2), some (.int x3)], [.int x3, .int x2, .ref 33], σ) :=
  (aUn_eq (tkd G.1 G.2) tmi (aRun (tkd G.1 G.2) tmi tmt d) M_167 [] 3 (56, [some (.ref 33), some (.int x1), some (.int x2), some (.int x3)], [], σ)).trans rfl
set_option maxRecDepth 20000 in
theorem q_167_2455 (G : Nat × (Nat → Int32)) (d : Nat) (x1 : Int32) (x2 : Int32) (x3 : Int32) (s0 : Int32) (s1 : Int32) (σ : aH) : Lq G d M_167 (59, [some (.ref 33), some (.int x1), some (.int x2), some (.int x3)], [.int s0, .int s1, .ref 33], σ) = aCV (Rn G d 168 [.ref 33, .int s1, .int s0] σ) fun σ1 => Lq G d M_167 (62, [some (.ref 33), some (.int x1), some (.int x2), some (.int x3)], [], σ1) :=
  (aUn_eq (tkd G.1 G.2) tmi (aRun (tkd G.1 G.2) tmi tmt d) M_167 [] 1 (59, [some (.ref 33), some (.int x1), some (.int x2), some (.int x3)], [.int s0, .int s1, .ref 33], σ)).trans rfl
set_option maxRecDepth 20000 in
theorem q_167_2456 (G : Nat × (Nat → Int32)) (d : Nat) (x1 : Int32) (x2 : Int32) (x3 : Int32) (σ : aH) : Lq G d M_167 (62, [some (.ref 33), some (.int x1), some (.int x2), some (.int x3)], [], σ) = Lq G d M_167 (63, [some (.ref 33), some (.int x1), some (.int x2), some (.int x3)], [.int (1 : Int32)], σ) :=
  (aUn_eq (tkd G.1 G.2) tmi (aRun (tkd G.1 G.2) tmi tmt d) M_167 [] 1 (62, [some (.ref 33), some (.int x1), some (.int x2), some (.int x3)], [], σ)).trans rfl
set_option maxRecDepth 20000 in
theorem q_167_2457 (G : Nat × (Nat → Int32)) (d : Nat) (x1 : Int32) (x2 : Int32) (x3 : Int32) (s0 : Int32) (σ : aH) : Lq G d M_167 (63, [some (.ref 33), some (.int x1), some (.int x2), some (.int x3)], [.int s0], σ) = aNar .boolean (s0) (some (.inl (some (.int s0)), σ)) :=
  (aUn_eq (tkd G.1 G.2) tmi (aRun (tkd G.1 G.2) tmi tmt d) M_167 [] 1 (63, [some (.ref 33), some (.int x1), some (.int x2), some (.int x3)], [.int s0], σ)).trans rfl
set_option maxRecDepth 20000 in
theorem q_167_2458 (G : Nat × (Nat → Int32)) (d : Nat) (x1 : Int32) (x2 : Int32) (x3 : Int32) (σ : aH) : Lq G d M_167 (10, [some (.ref 33), some (.int x1), some (.int x2), some (.int x3)], [.ref 33], σ) = Lq G d M_167 (15, [some (.ref 33), some (.int x1), some (.int x2), some (.int x3)], [.int (σ.1 33 3), .int x1, .ref 33], σ) :=
  (aUn_eq (tkd G.1 G.2) tmi (aRun (tkd G.1 G.2) tmi tmt d) M_167 [] 3 (10, [some (.ref 33), some (.int x1), some (.int x2), some (.int x3)], [.ref 33], σ)).trans rfl
set_option maxRecDepth 20000 in
theorem q_167_2459 (G : Nat × (Nat → Int32)) (d : Nat) (x1 : Int32) (x2 : Int32) (x3 : Int32) (s0 : Int32) (s1 : Int32) (σ : aH) : Lq G d M_167 (15, [some (.ref 33), some (.int x1), some (.int x2), some (.int x3)], [.int s0, .int s1, .ref 33], σ) = if s0 ≤ s1 then Lq G d M_167 (46, [some (.ref 33), some (.int x1), some (.int x2), some (.int x3)], [.ref 33], σ) else Lq G d M_167 (18, [some (.ref 33), some (.int x1), some (.int x2), some (.int x3)], [.ref 33], σ) :=
  (aUn_eq (tkd G.1 G.2) tmi (aRun (tkd G.1 G.2) tmi tmt d) M_167 [] 1 (15, [some (.ref 33), some (.int x1), some (.int x2), some (.int x3)], [.int s0, .int s1, .ref 33], σ)).trans rfl
set_option maxRecDepth 20000 in
theorem q_167_2460 (G : Nat × (Nat → Int32)) (d : Nat) (x1 : Int32) (x2 : Int32) (x3 : Int32) (σ : aH) : Lq G d M_167 (18, [some (.ref 33), some (.int x1), some (.int x2), some (.int x3)], [.ref 33], σ) = Lq G d M_167 (19, [some (.ref 33), some (.int x1), some (.int x2), some (.int x3)], [.int x2, .ref 33], σ) :=
  (aUn_eq (tkd G.1 G.2) tmi (aRun (tkd G.1 G.2) tmi tmt d) M_167 [] 1 (18, [some (.ref 33), some (.int x1), some (.int x2), some (.int x3)], [.ref 33], σ)).trans rfl
set_option maxRecDepth 20000 in
theorem q_167_2461 (G : Nat × (Nat → Int32)) (d : Nat) (x1 : Int32) (x2 : Int32) (x3 : Int32) (s0 : Int32) (σ : aH) : Lq G d M_167 (19, [some (.ref 33), some (.int x1), some (.int x2), some (.int x3)], [.int s0, .ref 33], σ) = if s0 < 0 then Lq G d M_167 (46, [some (.ref 33), some (.int x1), some (.int x2), some (.int x3)], [.ref 33], σ) else Lq G d M_167 (22, [some (.ref 33), some (.int x1), some (.int x2), some (.int x3)], [.ref 33], σ) :=
  (aUn_eq (tkd G.1 G.2) tmi (aRun (tkd G.1 G.2) tmi tmt d) M_167 [] 1 (19, [some (.ref 33), some (.int x1), some (.int x2), some (.int x3)], [.int s0, .ref 33], σ)).trans rfl
set_option maxRecDepth 20000 in
theorem q_167_2462 (G : Nat × (Nat → Int32)) (d : Nat) (x1 : Int32) (x2 : Int32) (x3 : Int32) (σ : aH) : Lq G d M_167 (22, [some (.ref 33), some (.int x1), some (.int x2), some (.int x3)], [.ref 33], σ) = Lq G d M_167 (27, [some (.ref 33), some (.int x1), some (.int x2), some (.int x3)], [.int (σ.1 33 1), .int x2, .ref 33], σ) :=
  (aUn_eq (tkd G.1 G.2) tmi (aRun (tkd G.1 G.2) tmi tmt d) M_167 [] 3 (22, [some (.ref 33), some (.int x1), some (.int x2), some (.int x3)], [.ref 33], σ)).trans rfl
set_option maxRecDepth 20000 in
theorem q_167_2463 (G : Nat × (Nat → Int32)) (d : Nat) (x1 : Int32) (x2 : Int32) (x3 : Int32) (s0 : Int32) (s1 : Int32) (σ : aH) : Lq G d M_167 (27, [some (.ref 33), some (.int x1), some (.int x2), some (.int x3)], [.int s0, .int s1, .ref 33], σ) = if s0 ≤ s1 then Lq G d M_167 (46, [some (.ref 33), some (.int x1), some (.int x2), some (.int x3)], [.ref 33], σ) else Lq G d M_167 (30, [some (.ref 33), some (.int x1), some (.int x2), some (.int x3)], [.ref 33], σ) :=
  (aUn_eq (tkd G.1 G.2) tmi (aRun (tkd G.1 G.2) tmi tmt d) M_167 [] 1 (27, [some (.ref 33), some (.int x1), some (.int x2), some (.int x3)], [.int s0, .int s1, .ref 33], σ)).trans rfl
set_option maxRecDepth 20000 in
theorem q_167_2464 (G : Nat × (Nat → Int32)) (d : Nat) (x1 : Int32) (x2 : Int32) (x3 : Int32) (σ : aH) : Lq G d M_167 (30, [some (.ref 33), some (.int x1), some (.int x2), some (.int x3)], [.ref 33], σ) = Lq G d M_167 (31, [some (.ref 33), some (.int x1), some (.int x2), some (.int x3)], [.int x3, .ref 33], σ) :=
  (aUn_eq (tkd G.1 G.2) tmi (aRun (tkd G.1 G.2) tmi tmt d) M_167 [] 1 (30, [some (.ref 33), some (.int x1), some (.int x2), some (.int x3)], [.ref 33], σ)).trans rfl
set_option maxRecDepth 20000 in
theorem q_167_2465 (G : Nat × (Nat → Int32)) (d : Nat) (x1 : Int32) (x2 : Int32) (x3 : Int32) (s0 : Int32) (σ : aH) : Lq G d M_167 (31, [some (.ref 33), some (.int x1), some (.int x2), some (.int x3)], [.int s0, .ref 33], σ) = if s0 < 0 then Lq G d M_167 (46, [some (.ref 33), some (.int x1), some (.int x2), some (.int x3)], [.ref 33], σ) else Lq G d M_167 (34, [some (.ref 33), some (.int x1), some (.int x2), some (.int x3)], [.ref 33], σ) :=
  (aUn_eq (tkd G.1 G.2) tmi (aRun (tkd G.1 G.2) tmi tmt d) M_167 [] 1 (31, [some (.ref 33), some (.int x1), some (.int x2), some (.int x3)], [.int s0, .ref 33], σ)).trans rfl
set_option maxRecDepth 20000 in
theorem q_167_2466 (G : Nat × (Nat → Int32)) (d : Nat) (x1 : Int32) (x2 : Int32) (x3 : Int32) (σ : aH) : Lq G d M_167 (34, [some (.ref 33), some (.int x1), some (.int x2), some (.int x3)], [.ref 33], σ) = Lq G d M_167 (39, [some (.ref 33), some (.int x1), some (.int x2), some (.int x3)], [.int (σ.1 33 2), .int x3, .ref 33], σ) :=
  (aUn_eq (tkd G.1 G.2) tmi (aRun (tkd G.1 G.2) tmi tmt d) M_167 [] 3 (34, [some (.ref 33), some (.int x1), some (.int x2), some (.int x3)], [.ref 33], σ)).trans rfl
set_option maxRecDepth 20000 in
theorem q_167_2467 (G : Nat × (Nat → Int32)) (d : Nat) (x1 : Int32) (x2 : Int32) (x3 : Int32) (s0 : Int32) (s1 : Int32) (σ : aH) : Lq G d M_167 (39, [some (.ref 33), some (.int x1), some (.int x2), some (.int x3)], [.int s0, .int s1, .ref 33], σ) = if s0 ≤ s1 then Lq G d M_167 (46, [some (.ref 33), some (.int x1), some (.int x2), some (.int x3)], [.ref 33], σ) else Lq G d M_167 (42, [some (.ref 33), some (.int x1), some (.int x2), some (.int x3)], [.ref 33], σ) :=
  (aUn_eq (tkd G.1 G.2) tmi (aRun (tkd G.1 G.2) tmi tmt d) M_167 [] 1 (39, [some (.ref 33), some (.int x1), some (.int x2), some (.int x3)], [.int s0, .int s1, .ref 33], σ)).trans rfl
set_option maxRecDepth 20000 in
theorem q_167_2468 (G : Nat × (Nat → Int32)) (d : Nat) (x1 : Int32) (x2 : Int32) (x3 : Int32) (σ : aH) : Lq G d M_167 (42, [some (.ref 33), some (.int x1), some (.int x2), some (.int x3)], [.ref 33], σ) = Lq G d M_167 (48, [some (.ref 33), some (.int x1), some (.int x2), some (.int x3)], [.int (1 : Int32), .int (1 : Int32), .ref 33], σ) :=
  (aUn_eq (tkd G.1 G.2) tmi (aRun (tkd G.1 G.2) tmi tmt d) M_167 [] 3 (42, [some (.ref 33), some (.int x1), some (.int x2), some (.int x3)], [.ref 33], σ)).trans rfl
set_option maxRecDepth 20000 in
theorem q_169_2469 (G : Nat × (Nat → Int32)) (d : Nat) (x1 : Int32) (x2 : Int32) (σ : aH) : Lq G d M_169 (0, [some (.ref 33), some (.int x1), some (.int x2), none, none], [], σ) = Lq G d M_169 (2, [some (.ref 33), some (.int x1), some (.int x2), none, none], [.int x1, .ref 33], σ) :=
  (aUn_eq (tkd G.1 G.2) tmi (aRun (tkd G.1 G.2) tmi tmt d) M_169 [] 2 (0, [some (.ref 33), some (.int x1), some (.int x2), none, none], [], σ)).trans rfl
set_option maxRecDepth 20000 in
theorem q_169_2470 (G : Nat × (Nat → Int32)) (d : Nat) (x1 : Int32) (x2 : Int32) (s0 : Int32) (σ : aH) : Lq G d M_169 (2, [some (.ref 33), some (.int x1), some (.int x2), none, none], [.int s0, .ref 33], σ) = aCI (Rn G d 170 [.ref 33, .int s0] σ) fun v2 σ1 => Lq G d M_169 (5, [some (.ref 33), some (.int x1), some (.int x2), none, none], [.int v2], σ1) :=
  (aUn_eq (tkd G.1 G.2) tmi (aRun (tkd G.1 G.2) tmi tmt d) M_169 [] 1 (2, [some (.ref 33), some (.int x1), some (.int x2), none, none], [.int s0, .ref 33], σ)).trans rfl
set_option maxRecDepth 20000 in
theorem q_169_2471 (G : Nat × (Nat → Int32)) (d : Nat) (x1 : Int32) (x2 : Int32) (s0 : Int32) (σ : aH) : Lq G d M_169 (5, [some (.ref 33), some (.int x1), some (.int x2), none, none], [.int s0], σ) = Lq G d M_169 (9, [some (.ref 33), some (.int x1), some (.int x2), some (.int s0), some (.int (0 : Int32))], [], σ) :=
  (aUn_eq (tkd G.1 G.2) tmi (aRun (tkd G.1 G.2) tmi tmt d) M_169 [] 3 (5, [some (.ref 33), some (.int x1), some (.int x2), none, none], [.int s0], σ)).trans rfl
set_option maxRecDepth 20000 in
theorem q_169_2472 (G : Nat × (Nat → Int32)) (d : Nat) (x1 : Int32) (x2 : Int32) (x3 : Int32) (x4 : Int32) (σ : aH) : Lq G d M_169 (9, [some (.ref 33), some (.int x1), some (.int x2), some (.int x3), some (.int x4)], [], σ) = Lq G d M_169 (12, [some (.ref 33), some (.int x1), some (.int x2), some (.int x3), some (.int x4)], [.int x2, .int x4], σ) :=
  (aUn_eq (tkd G.1 G.2) tmi (aRun (tkd G.1 G.2) tmi tmt d) M_169 [] 2 (9, [some (.ref 33), some (.int x1), some (.int x2), some (.int x3), some (.int x4)], [], σ)).trans rfl
set_option maxRecDepth 20000 in
theorem q_169_2473 (G : Nat × (Nat → Int32)) (d : Nat) (x1 : Int32) (x2 : Int32) (x3 : Int32) (x4 : Int32) (s0 : Int32) (s1 : Int32) (σ : aH) : Lq G d M_169 (12, [some (.ref 33), some (.int x1), some (.int x2), some (.int x3), some (.int x4)], [.int s0, .int s1], σ) = if s0 ≤ s1 then Lq G d M_169 (37, [some (.ref 33), some (.int x1), some (.int x2), some (.int x3), some (.int x4)], [], σ) else Lq G d M_169 (15, [some (.ref 33), some (.int x1), some (.int x2), some (.int x3), some (.int x4)], [], σ) :=
  (aUn_eq (tkd G.1 G.2) tmi (aRun (tkd G.1 G.2) tmi tmt d) M_169 [] 1 (12, [some (.ref 33), some (.int x1), some (.int x2), some (.int x3), some (.int x4)], [.int s0, .int s1], σ)).trans rfl
set_option maxRecDepth 20000 in
theorem q_169_2474 (G : Nat × (Nat → Int32)) (d : Nat) (x1 : Int32) (x2 : Int32) (x3 : Int32) (x4 : Int32) (σ : aH) : Lq G d M_169 (37, [some (.ref 33), some (.int x1), some (.int x2), some (.int x3), some (.int x4)], [], σ) = Lq G d M_169 (38, [some (.ref 33), some (.int x1), some (.int x2), some (.int x3), some (.int x4)], [.int x3], σ) :=
  (aUn_eq (tkd G.1 G.2) tmi (aRun (tkd G.1 G.2) tmi tmt d) M_169 [] 1 (37, [some (.ref 33), some (.int x1), some (.int x2), some (.int x3), some (.int x4)], [], σ)).trans rfl
set_option maxRecDepth 20000 in
theorem q_169_2475 (G : Nat × (Nat → Int32)) (d : Nat) (x1 : Int32) (x2 : Int32) (x3 : Int32) (x4 : Int32) (s0 : Int32) (σ : aH) : Lq G d M_169 (38, [some (.ref 33), some (.int x1), some (.int x2), some (.int x3), some (.int x4)], [.int s0], σ) = some (.inl (some (.int s0)), σ) :=
  (aUn_eq (tkd G.1 G.2) tmi (aRun (tkd G.1 G.2) tmi tmt d) M_169 [] 1 (38, [some (.ref 33), some (.int x1), some (.int x2), some (.int x3), some (.int x4)], [.int s0], σ)).trans rfl
set_option maxRecDepth 20000 in
theorem q_169_2476 (G : Nat × (Nat → Int32)) (d : Nat) (x1 : Int32) (x2 : Int32) (x3 : Int32) (x4 : Int32) (σ : aH) : Lq G d M_169 (15, [some (.ref 33), some (.int x1), some (.int x2), some (.int x3), some (.int x4)], [], σ) = Lq G d M_169 (21, [some (.ref 33), some (.int x1), some (.int x2), some (.int x3), some (.int x4)], [.int (σ.1 51 4)], σ) :=
  (aUn_eq (tkd G.1 G.2) tmi (aRun (tkd G.1 G.2) tmi tmt d) M_169 [] 4 (15, [some (.ref 33), some (.int x1), some (.int x2), some (.int x3), some (.int x4)], [], σ)).trans rfl
set_option maxRecDepth 20000 in
theorem q_169_2477 (G : Nat × (Nat → Int32)) (d : Nat) (x1 : Int32) (x2 : Int32) (x3 : Int32) (x4 : Int32) (s0 : Int32) (σ : aH) : Lq G d M_169 (21, [some (.ref 33), some (.int x1), some (.int x2), some (.int x3), some (.int x4)], [.int s0], σ) = if s0 = 0 then Lq G d M_169 (24, [some (.ref 33), some (.int x1), some (.int x2), some (.int x3), some (.int x4)], [], σ) else Lq G d M_169 (37, [some (.ref 33), some (.int x1), some (.int x2), some (.int x3), some (.int x4)], [], σ) :=
  (aUn_eq (tkd G.1 G.2) tmi (aRun (tkd G.1 G.2) tmi tmt d) M_169 [] 1 (21, [some (.ref 33), some (.int x1), some (.int x2), some (.int x3), some (.int x4)], [.int s0], σ)).trans rfl
set_option maxRecDepth 20000 in
theorem q_169_2478 (G : Nat × (Nat → Int32)) (d : Nat) (x1 : Int32) (x2 : Int32) (x3 : Int32) (x4 : Int32) (σ : aH) : Lq G d M_169 (24, [some (.ref 33), some (.int x1), some (.int x2), some (.int x3), some (.int x4)], [], σ) = Lq G d M_169 (27, [some (.ref 33), some (.int x1), some (.int x2), some (.int x3), some (.int x4)], [.int x3, .int x1, .ref 33], σ) :=
  (aUn_eq (tkd G.1 G.2) tmi (aRun (tkd G.1 G.2) tmi tmt d) M_169 [] 3 (24, [some (.ref 33), some (.int x1), some (.int x2), some (.int x3), some (.int x4)], [], σ)).trans rfl
set_option maxRecDepth 20000 in
theorem q_169_2479 (G : Nat × (Nat → Int32)) (d : Nat) (x1 : Int32) (x2 : Int32) (x3 : Int32) (x4 : Int32) (s0 : Int32) (s1 : Int32) (σ : aH) : Lq G d M_169 (27, [some (.ref 33), some (.int x1), some (.int x2), some (.int x3), some (.int x4)], [.int s0, .int s1, .ref 33], σ) = aCI (Rn G d 172 [.ref 33, .int s1, .int s0] σ) fun v2 σ1 => Lq G d M_169 (30, [some (.ref 33), some (.int x1), some (.int x2), some (.int x3), some (.int x4)], [.int v2], σ1) :=
  (aUn_eq (tkd G.1 G.2) tmi (aRun (tkd G.1 G.2) tmi tmt d) M_169 [] 1 (27, [some (.ref 33), some (.int x1), some (.int x2), some (.int x3), some (.int x4)], [.int s0, .int s1, .ref 33], σ)).trans rfl
set_option maxRecDepth 20000 in
theorem q_169_2480 (G : Nat × (Nat → Int32)) (d : Nat) (x1 : Int32) (x2 : Int32) (x3 : Int32) (x4 : Int32) (s0 : Int32) (σ : aH) : Lq G d M_169 (30, [some (.ref 33), some (.int x1), some (.int x2), some (.int x3), some (.int x4)], [.int s0], σ) = Lq G d M_169 (34, [some (.ref 33), some (.int x1), some (.int x2), some (.int s0), some (.int (x4 + (1 : Int32)))], [], σ) :=
  (aUn_eq (tkd G.1 G.2) tmi (aRun (tkd G.1 G.2) tmi tmt d) M_169 [] 2 (30, [some (.ref 33), some (.int x1), some (.int x2), some (.int x3), some (.int x4)], [.int s0], σ)).trans rfl
set_option maxRecDepth 20000 in
theorem q_169_2481 (G : Nat × (Nat → Int32)) (d : Nat) (x1 : Int32) (x2 : Int32) (x3 : Int32) (x4 : Int32) (σ : aH) : Lq G d M_169 (34, [some (.ref 33), some (.int x1), some (.int x2), some (.int x3), some (.int x4)], [], σ) = Lq G d M_169 (9, [some (.ref 33), some (.int x1), some (.int x2), some (.int x3), some (.int x4)], [], σ) :=
  (aUn_eq (tkd G.1 G.2) tmi (aRun (tkd G.1 G.2) tmi tmt d) M_169 [] 1 (34, [some (.ref 33), some (.int x1), some (.int x2), some (.int x3), some (.int x4)], [], σ)).trans rfl
set_option maxRecDepth 20000 in
theorem q_175_2482 (G : Nat × (Nat → Int32)) (d : Nat)  (σ : aH) : Lq G d M_175 (0, [some (.ref 24), none, none, none, none], [], σ) = Lq G d M_175 (1, [some (.ref 24), none, none, none, none], [.ref 24], σ) :=
  (aUn_eq (tkd G.1 G.2) tmi (aRun (tkd G.1 G.2) tmi tmt d) M_175 [] 1 (0, [some (.ref 24), none, none, none, none], [], σ)).trans rfl
set_option maxRecDepth 20000 in
theorem q_175_2483 (G : Nat × (Nat → Int32)) (d : Nat)  (σ : aH) : Lq G d M_175 (1, [some (.ref 24), none, none, none, none], [.ref 24], σ) = aCI (Rn G d 164 [.ref 24] σ) fun v2 σ1 => Lq G d M_175 (4, [some (.ref 24), none, none, none, none], [.int v2], σ1) :=
  (aUn_eq (tkd G.1 G.2) tmi (aRun (tkd G.1 G.2) tmi tmt d) M_175 [] 1 (1, [some (.ref 24), none, none, none, none], [.ref 24], σ)).trans rfl
set_option maxRecDepth 20000 in
theorem q_175_2484 (G : Nat × (Nat → Int32)) (d : Nat) (s0 : Int32) (σ : aH) : Lq G d M_175 (4, [some (.ref 24), none, none, none, none], [.int s0], σ) = Lq G d M_175 (13, [some (.ref 24), some (.int s0), none, none, none], [.int (σ.1 24 2), .int (σ.1 24 7)], σ) :=
  (aUn_eq (tkd G.1 G.2) tmi (aRun (tkd G.1 G.2) tmi tmt d) M_175 [] 5 (4, [some (.ref 24), none, none, none, none], [.int s0], σ)).trans rfl
set_option maxRecDepth 20000 in
theorem q_175_2485 (G : Nat × (Nat → Int32)) (d : Nat) (x1 : Int32) (s0 : Int32) (s1 : Int32) (σ : aH) : Lq G d M_175 (13, [some (.ref 24), some (.int x1), none, none, none], [.int s0, .int s1], σ) = aCI (Rn G d 152 [.int s1, .int s0] σ) fun v2 σ1 => Lq G d M_175 (16, [some (.ref 24), some (.int x1), none, none, none], [.int v2], σ1) :=
  (aUn_eq (tkd G.1 G.2) tmi (aRun (tkd G.1 G.2) tmi tmt d) M_175 [] 1 (13, [some (.ref 24), some (.int x1), none, none, none], [.int s0, .int s1], σ)).trans rfl
set_option maxRecDepth 20000 in
theorem q_175_2486 (G : Nat × (Nat → Int32)) (d : Nat) (x1 : Int32) (s0 : Int32) (σ : aH) : Lq G d M_175 (16, [some (.ref 24), some (.int x1), none, none, none], [.int s0], σ) = Lq G d M_175 (19, [some (.ref 24), some (.int x1), some (.int s0), some (.int (0 : Int32)), none], [], σ) :=
  (aUn_eq (tkd G.1 G.2) tmi (aRun (tkd G.1 G.2) tmi tmt d) M_175 [] 3 (16, [some (.ref 24), some (.int x1), none, none, none], [.int s0], σ)).trans rfl
set_option maxRecDepth 20000 in
theorem q_175_2487 (G : Nat × (Nat → Int32)) (d : Nat) (x1 : Int32) (x2 : Int32) (x3 : Int32) (σ : aH) : Lq G d M_175 (19, [some (.ref 24), some (.int x1), some (.int x2), some (.int x3), none], [], σ) = Lq G d M_175 (24, [some (.ref 24), some (.int x1), some (.int x2), some (.int x3), none], [.int (σ.1 24 11), .int x3], σ) :=
  (aUn_eq (tkd G.1 G.2) tmi (aRun (tkd G.1 G.2) tmi tmt d) M_175 [] 3 (19, [some (.ref 24), some (.int x1), some (.int x2), some (.int x3), none], [], σ)).trans rfl
set_option maxRecDepth 20000 in
theorem q_175_2488 (G : Nat × (Nat → Int32)) (d : Nat) (x1 : Int32) (x2 : Int32) (x3 : Int32) (s0 : Int32) (s1 : Int32) (σ : aH) : Lq G d M_175 (24, [some (.ref 24), some (.int x1), some (.int x2), some (.int x3), none], [.int s0, .int s1], σ) = if s0 < s1 then Lq G d M_175 (71, [some (.ref 24), some (.int x1), some (.int x2), some (.int x3), none], [], σ) else Lq G d M_175 (27, [some (.ref 24), some (.int x1), some (.int x2), some (.int x3), none], [], σ) :=
  (aUn_eq (tkd G.1 G.2) tmi (aRun (tkd G.1 G.2) tmi tmt d) M_175 [] 1 (24, [some (.ref 24), some (.int x1), some (.int x2), some (.int x3), none], [.int s0, .int s1], σ)).trans rfl
set_option maxRecDepth 20000 in
theorem q_175_2489 (G : Nat × (Nat → Int32)) (d : Nat) (x1 : Int32) (x2 : Int32) (x3 : Int32) (σ : aH) : Lq G d M_175 (71, [some (.ref 24), some (.int x1), some (.int x2), some (.int x3), none], [], σ) = Lq G d M_175 (72, [some (.ref 24), some (.int x1), some (.int x2), some (.int x3), none], [.int (-1 : Int32)], σ) :=
  (aUn_eq (tkd G.1 G.2) tmi (aRun (tkd G.1 G.2) tmi tmt d) M_175 [] 1 (71, [some (.ref 24), some (.int x1), some (.int x2), some (.int x3), none], [], σ)).trans rfl
set_option maxRecDepth 20000 in
theorem q_175_2490 (G : Nat × (Nat → Int32)) (d : Nat) (x1 : Int32) (x2 : Int32) (x3 : Int32) (s0 : Int32) (σ : aH) : Lq G d M_175 (72, [some (.ref 24), some (.int x1), some (.int x2), some (.int x3), none], [.int s0], σ) = some (.inl (some (.int s0)), σ) :=
  (aUn_eq (tkd G.1 G.2) tmi (aRun (tkd G.1 G.2) tmi tmt d) M_175 [] 1 (72, [some (.ref 24), some (.int x1), some (.int x2), some (.int x3), none], [.int s0], σ)).trans rfl
set_option maxRecDepth 20000 in
theorem q_175_2491 (G : Nat × (Nat → Int32)) (d : Nat) (x1 : Int32) (x2 : Int32) (x3 : Int32) (σ : aH) : Lq G d M_175 (27, [some (.ref 24), some (.int x1), some (.int x2), some (.int x3), none], [], σ) = Lq G d M_175 (30, [some (.ref 24), some (.int x1), some (.int x2), some (.int x3), none], [.int (500000 : Int32), .int x1], σ) :=
  (aUn_eq (tkd G.1 G.2) tmi (aRun (tkd G.1 G.2) tmi tmt d) M_175 [] 2 (27, [some (.ref 24), some (.int x1), some (.int x2), some (.int x3), none], [], σ)).trans rfl
set_option maxRecDepth 20000 in
theorem q_175_2492 (G : Nat × (Nat → Int32)) (d : Nat) (x1 : Int32) (x2 : Int32) (x3 : Int32) (s0 : Int32) (s1 : Int32) (σ : aH) : Lq G d M_175 (30, [some (.ref 24), some (.int x1), some (.int x2), some (.int x3), none], [.int s0, .int s1], σ) = if s1 < s0 then Lq G d M_175 (35, [some (.ref 24), some (.int x1), some (.int x2), some (.int x3), none], [], σ) else Lq G d M_175 (33, [some (.ref 24), some (.int x1), some (.int x2), some (.int x3), none], [], σ) :=
  (aUn_eq (tkd G.1 G.2) tmi (aRun (tkd G.1 G.2) tmi tmt d) M_175 [] 1 (30, [some (.ref 24), some (.int x1), some (.int x2), some (.int x3), none], [.int s0, .int s1], σ)).trans rfl
set_option maxRecDepth 20000 in
theorem q_175_2493 (G : Nat × (Nat → Int32)) (d : Nat) (x1 : Int32) (x2 : Int32) (x3 : Int32) (σ : aH) : Lq G d M_175 (35, [some (.ref 24), some (.int x1), some (.int x2), some (.int x3), none], [], σ) = Lq G d M_175 (39, [some (.ref 24), some (.int x1), some (.int x2), some (.int x3), none], [.int (σ.1 24 10)], σ) :=
  (aUn_eq (tkd G.1 G.2) tmi (aRun (tkd G.1 G.2) tmi tmt d) M_175 [] 2 (35, [some (.ref 24), some (.int x1), some (.int x2), some (.int x3), none], [], σ)).trans rfl
set_option maxRecDepth 20000 in
theorem q_175_2494 (G : Nat × (Nat → Int32)) (d : Nat) (x1 : Int32) (x2 : Int32) (x3 : Int32) (s0 : Int32) (σ : aH) : Lq G d M_175 (39, [some (.ref 24), some (.int x1), some (.int x2), some (.int x3), none], [.int s0], σ) = if s0 = 0 then Lq G d M_175 (42, [some (.ref 24), some (.int x1), some (.int x2), some (.int x3), none], [], σ) else Lq G d M_175 (51, [some (.ref 24), some (.int x1), some (.int x2), some (.int x3), none], [], σ) :=
  (aUn_eq (tkd G.1 G.2) tmi (aRun (tkd G.1 G.2) tmi tmt d) M_175 [] 1 (39, [some (.ref 24), some (.int x1), some (.int x2), some (.int x3), none], [.int s0], σ)).trans rfl
set_option maxRecDepth 20000 in
theorem q_175_2495 (G : Nat × (Nat → Int32)) (d : Nat) (x1 : Int32) (x2 : Int32) (x3 : Int32) (σ : aH) : Lq G d M_175 (42, [some (.ref 24), some (.int x1), some (.int x2), some (.int x3), none], [], σ) = Lq G d M_175 (45, [some (.ref 24), some (.int x1), some (.int x2), some (.int x3), none], [.int x2, .int x1, .ref 24], σ) :=
  (aUn_eq (tkd G.1 G.2) tmi (aRun (tkd G.1 G.2) tmi tmt d) M_175 [] 3 (42, [some (.ref 24), some (.int x1), some (.int x2), some (.int x3), none], [], σ)).trans rfl
set_option maxRecDepth 20000 in
theorem q_175_2496 (G : Nat × (Nat → Int32)) (d : Nat) (x1 : Int32) (x2 : Int32) (x3 : Int32) (s0 : Int32) (s1 : Int32) (σ : aH) : Lq G d M_175 (45, [some (.ref 24), some (.int x1), some (.int x2), some (.int x3), none], [.int s0, .int s1, .ref 24], σ) = aCI (Rn G d 165 [.ref 24, .int s1, .int s0] σ) fun v2 σ1 => Lq G d M_175 (48, [some (.ref 24), some (.int x1), some (.int x2), some (.int x3), none], [.int v2], σ1) :=
  (aUn_eq (tkd G.1 G.2) tmi (aRun (tkd G.1 G.2) tmi tmt d) M_175 [] 1 (45, [some (.ref 24), some (.int x1), some (.int x2), some (.int x3), none], [.int s0, .int s1, .ref 24], σ)).trans rfl
set_option maxRecDepth 20000 in
theorem q_175_2497 (G : Nat × (Nat → Int32)) (d : Nat) (x1 : Int32) (x2 : Int32) (x3 : Int32) (s0 : Int32) (σ : aH) : Lq G d M_175 (48, [some (.ref 24), some (.int x1), some (.int x2), some (.int x3), none], [.int s0], σ) = Lq G d M_175 (57, [some (.ref 24), some (.int x1), some (.int x2), some (.int x3), some (.int s0)], [.int x1, .int s0], σ) :=
  (aUn_eq (tkd G.1 G.2) tmi (aRun (tkd G.1 G.2) tmi tmt d) M_175 [] 4 (48, [some (.ref 24), some (.int x1), some (.int x2), some (.int x3), none], [.int s0], σ)).trans rfl
set_option maxRecDepth 20000 in
theorem q_175_2498 (G : Nat × (Nat → Int32)) (d : Nat) (x1 : Int32) (x2 : Int32) (x3 : Int32) (x4 : Int32) (s0 : Int32) (s1 : Int32) (σ : aH) : Lq G d M_175 (57, [some (.ref 24), some (.int x1), some (.int x2), some (.int x3), some (.int x4)], [.int s0, .int s1], σ) = if s1 = s0 then Lq G d M_175 (60, [some (.ref 24), some (.int x1), some (.int x2), some (.int x3), some (.int x4)], [], σ) else Lq G d M_175 (62, [some (.ref 24), some (.int x1), some (.int x2), some (.int x3), some (.int x4)], [], σ) :=
  (aUn_eq (tkd G.1 G.2) tmi (aRun (tkd G.1 G.2) tmi tmt d) M_175 [] 1 (57, [some (.ref 24), some (.int x1), some (.int x2), some (.int x3), some (.int x4)], [.int s0, .int s1], σ)).trans rfl
set_option maxRecDepth 20000 in
theorem q_175_2499 (G : Nat × (Nat → Int32)) (d : Nat) (x1 : Int32) (x2 : Int32) (x3 : Int32) (x4 : Int32) (σ : aH) : Lq G d M_175 (60, [some (.ref 24), some (.int x1), some (.int x2), some (.int x3), some (.int x4)], [], σ) = Lq G d M_175 (61, [some (.ref 24), some (.int x1), some (.int x2), some (.int x3), some (.int x4)], [.int (-1 : Int32)], σ) :=
  (aUn_eq (tkd G.1 G.2) tmi (aRun (tkd G.1 G.2) tmi tmt d) M_175 [] 1 (60, [some (.ref 24), some (.int x1), some (.int x2), some (.int x3), some (.int x4)], [], σ)).trans rfl
set_option maxRecDepth 20000 in
theorem q_175_2500 (G : Nat × (Nat → Int32)) (d : Nat) (x1 : Int32) (x2 : Int32) (x3 : Int32) (x4 : Int32) (s0 : Int32) (σ : aH) : Lq G d M_175 (61, [some (.ref 24), some (.int x1), some (.int x2), some (.int x3), some (.int x4)], [.int s0], σ) = some (.inl (some (.int s0)), σ) :=
  (aUn_eq (tkd G.1 G.2) tmi (aRun (tkd G.1 G.2) tmi tmt d) M_175 [] 1 (61, [some (.ref 24), some (.int x1), some (.int x2), some (.int x3), some (.int x4)], [.int s0], σ)).trans rfl
set_option maxRecDepth 20000 in
theorem q_175_2501 (G : Nat × (Nat → Int32)) (d : Nat) (x1 : Int32) (x2 : Int32) (x3 : Int32) (x4 : Int32) (σ : aH) : Lq G d M_175 (62, [some (.ref 24), some (.int x1), some (.int x2), some (.int x3), some (.int x4)], [], σ) = Lq G d M_175 (68, [some (.ref 24), some (.int x4), some (.int x2), some (.int (x3 + (1 : Int32))), some (.int x4)], [], σ) :=
  (aUn_eq (tkd G.1 G.2) tmi (aRun (tkd G.1 G.2) tmi tmt d) M_175 [] 3 (62, [some (.ref 24), some (.int x1), some (.int x2), some (.int x3), some (.int x4)], [], σ)).trans rfl
set_option maxRecDepth 20000 in
theorem q_175_2502 (G : Nat × (Nat → Int32)) (d : Nat) (x1 : Int32) (x2 : Int32) (x3 : Int32) (x4 : Int32) (σ : aH) : Lq G d M_175 (68, [some (.ref 24), some (.int x1), some (.int x2), some (.int x3), some (.int x4)], [], σ) = Lq G d M_175 (19, [some (.ref 24), some (.int x1), some (.int x2), some (.int x3), none], [], σ) :=
  (aUn_eq (tkd G.1 G.2) tmi (aRun (tkd G.1 G.2) tmi tmt d) M_175 [] 1 (68, [some (.ref 24), some (.int x1), some (.int x2), some (.int x3), some (.int x4)], [], σ)).trans rfl
set_option maxRecDepth 20000 in
theorem q_175_2503 (G : Nat × (Nat → Int32)) (d : Nat) (x1 : Int32) (x2 : Int32) (x3 : Int32) (σ : aH) : Lq G d M_175 (51, [some (.ref 24), some (.int x1), some (.int x2), some (.int x3), none], [], σ) = Lq G d M_175 (57, [some (.ref 24), some (.int x1), some (.int x2), some (.int x3), some (.int x1)], [.int x1, .int x1], σ) :=
  (aUn_eq (tkd G.1 G.2) tmi (aRun (tkd G.1 G.2) tmi tmt d) M_175 [] 4 (51, [some (.ref 24), some (.int x1), some (.int x2), some (.int x3), none], [], σ)).trans rfl
set_option maxRecDepth 20000 in
theorem q_175_2504 (G : Nat × (Nat → Int32)) (d : Nat) (x1 : Int32) (x2 : Int32) (x3 : Int32) (σ : aH) : Lq G d M_175 (33, [some (.ref 24), some (.int x1), some (.int x2), some (.int x3), none], [], σ) = Lq G d M_175 (34, [some (.ref 24), some (.int x1), some (.int x2), some (.int x3), none], [.int x3], σ) :=
  (aUn_eq (tkd G.1 G.2) tmi (aRun (tkd G.1 G.2) tmi tmt d) M_175 [] 1 (33, [some (.ref 24), some (.int x1), some (.int x2), some (.int x3), none], [], σ)).trans rfl
set_option maxRecDepth 20000 in
theorem q_175_2505 (G : Nat × (Nat → Int32)) (d : Nat) (x1 : Int32) (x2 : Int32) (x3 : Int32) (s0 : Int32) (σ : aH) : Lq G d M_175 (34, [some (.ref 24), some (.int x1), some (.int x2), some (.int x3), none], [.int s0], σ) = some (.inl (some (.int s0)), σ) :=
  (aUn_eq (tkd G.1 G.2) tmi (aRun (tkd G.1 G.2) tmi tmt d) M_175 [] 1 (34, [some (.ref 24), some (.int x1), some (.int x2), some (.int x3), none], [.int s0], σ)).trans rfl
set_option maxRecDepth 20000 in
theorem q_176_2506 (G : Nat × (Nat → Int32)) (d : Nat)  (σ : aH) : Lq G d M_176 (0, [some (.ref 24)], [], σ) = Lq G d M_176 (4, [some (.ref 24)], [.int (σ.1 24 12)], σ) :=
  (aUn_eq (tkd G.1 G.2) tmi (aRun (tkd G.1 G.2) tmi tmt d) M_176 [] 2 (0, [some (.ref 24)], [], σ)).trans rfl
set_option maxRecDepth 20000 in
theorem q_176_2507 (G : Nat × (Nat → Int32)) (d : Nat) (s0 : Int32) (σ : aH) : Lq G d M_176 (4, [some (.ref 24)], [.int s0], σ) = if s0 = 0 then Lq G d M_176 (7, [some (.ref 24)], [], σ) else Lq G d M_176 (16, [some (.ref 24)], [], σ) :=
  (aUn_eq (tkd G.1 G.2) tmi (aRun (tkd G.1 G.2) tmi tmt d) M_176 [] 1 (4, [some (.ref 24)], [.int s0], σ)).trans rfl
set_option maxRecDepth 20000 in
theorem q_176_2508 (G : Nat × (Nat → Int32)) (d : Nat)  (σ : aH) : Lq G d M_176 (7, [some (.ref 24)], [], σ) = Lq G d M_176 (47, [some (.ref 24)], [], (aSI σ 24 16 (1000000 : Int32))) :=
  (aUn_eq (tkd G.1 G.2) tmi (aRun (tkd G.1 G.2) tmi tmt d) M_176 [] 4 (7, [some (.ref 24)], [], σ)).trans rfl
set_option maxRecDepth 20000 in
theorem q_176_2509 (G : Nat × (Nat → Int32)) (d : Nat)  (σ : aH) : Lq G d M_176 (47, [some (.ref 24)], [], σ) = some (.inl none, σ) :=
  (aUn_eq (tkd G.1 G.2) tmi (aRun (tkd G.1 G.2) tmi tmt d) M_176 [] 1 (47, [some (.ref 24)], [], σ)).trans rfl
set_option maxRecDepth 20000 in
theorem q_176_2510 (G : Nat × (Nat → Int32)) (d : Nat)  (σ : aH) : Lq G d M_176 (16, [some (.ref 24)], [], σ) = Lq G d M_176 (22, [some (.ref 24)], [.int (2 : Int32), .int (σ.1 24 12), .ref 24], σ) :=
  (aUn_eq (tkd G.1 G.2) tmi (aRun (tkd G.1 G.2) tmi tmt d) M_176 [] 4 (16, [some (.ref 24)], [], σ)).trans rfl
set_option maxRecDepth 20000 in
theorem q_176_2511 (G : Nat × (Nat → Int32)) (d : Nat) (s0 : Int32) (s1 : Int32) (σ : aH) : Lq G d M_176 (22, [some (.ref 24)], [.int s0, .int s1, .ref 24], σ) = if s1 = s0 then Lq G d M_176 (25, [some (.ref 24)], [.ref 24], σ) else Lq G d M_176 (36, [some (.ref 24)], [.ref 24], σ) :=
  (aUn_eq (tkd G.1 G.2) tmi (aRun (tkd G.1 G.2) tmi tmt d) M_176 [] 1 (22, [some (.ref 24)], [.int s0, .int s1, .ref 24], σ)).trans rfl
set_option maxRecDepth 20000 in
theorem q_176_2512 (G : Nat × (Nat → Int32)) (d : Nat)  (σ : aH) : Lq G d M_176 (25, [some (.ref 24)], [.ref 24], σ) = Lq G d M_176 (47, [some (.ref 24)], [], (aSI σ 24 16 ((10000 : Int32) * (σ.1 24 5)))) :=
  (aUn_eq (tkd G.1 G.2) tmi (aRun (tkd G.1 G.2) tmi tmt d) M_176 [] 6 (25, [some (.ref 24)], [.ref 24], σ)).trans rfl
set_option maxRecDepth 20000 in
theorem q_176_2513 (G : Nat × (Nat → Int32)) (d : Nat)  (σ : aH) : Lq G d M_176 (36, [some (.ref 24)], [.ref 24], σ) = Lq G d M_176 (41, [some (.ref 24)], [.int (σ.1 24 11), .ref 24, .ref 24], σ) :=
  (aUn_eq (tkd G.1 G.2) tmi (aRun (tkd G.1 G.2) tmi tmt d) M_176 [] 3 (36, [some (.ref 24)], [.ref 24], σ)).trans rfl
set_option maxRecDepth 20000 in
theorem q_176_2514 (G : Nat × (Nat → Int32)) (d : Nat) (s0 : Int32) (σ : aH) : Lq G d M_176 (41, [some (.ref 24)], [.int s0, .ref 24, .ref 24], σ) = aCI (Rn G d 163 [.ref 24, .int s0] σ) fun v2 σ1 => Lq G d M_176 (44, [some (.ref 24)], [.int v2, .ref 24], σ1) :=
  (aUn_eq (tkd G.1 G.2) tmi (aRun (tkd G.1 G.2) tmi tmt d) M_176 [] 1 (41, [some (.ref 24)], [.int s0, .ref 24, .ref 24], σ)).trans rfl
set_option maxRecDepth 20000 in
theorem q_176_2515 (G : Nat × (Nat → Int32)) (d : Nat) (s0 : Int32) (σ : aH) : Lq G d M_176 (44, [some (.ref 24)], [.int s0, .ref 24], σ) = Lq G d M_176 (47, [some (.ref 24)], [], (aSI σ 24 16 s0)) :=
  (aUn_eq (tkd G.1 G.2) tmi (aRun (tkd G.1 G.2) tmi tmt d) M_176 [] 1 (44, [some (.ref 24)], [.int s0, .ref 24], σ)).trans rfl
set_option maxRecDepth 20000 in
theorem q_177_2516 (G : Nat × (Nat → Int32)) (d : Nat)  (σ : aH) : Lq G d M_177 (0, [some (.ref 24), none, none], [], σ) = Lq G d M_177 (5, [some (.ref 24), none, none], [.int (2 : Int32), .int (σ.1 24 12)], σ) :=
  (aUn_eq (tkd G.1 G.2) tmi (aRun (tkd G.1 G.2) tmi tmt d) M_177 [] 3 (0, [some (.ref 24), none, none], [], σ)).trans rfl
set_option maxRecDepth 20000 in
theorem q_177_2517 (G : Nat × (Nat → Int32)) (d : Nat) (s0 : Int32) (s1 : Int32) (σ : aH) : Lq G d M_177 (5, [some (.ref 24), none, none], [.int s0, .int s1], σ) = if s1 = s0 then Lq G d M_177 (8, [some (.ref 24), none, none], [], σ) else Lq G d M_177 (21, [some (.ref 24), none, none], [], σ) :=
  (aUn_eq (tkd G.1 G.2) tmi (aRun (tkd G.1 G.2) tmi tmt d) M_177 [] 1 (5, [some (.ref 24), none, none], [.int s0, .int s1], σ)).trans rfl
set_option maxRecDepth 20000 in
theorem q_177_2518 (G : Nat × (Nat → Int32)) (d : Nat)  (σ : aH) : Lq G d M_177 (8, [some (.ref 24), none, none], [], σ) = Lq G d M_177 (20, [some (.ref 24), none, none], [.int (((σ.1 24 6) * (σ.1 24 5)) / (100 : Int32))], σ) :=
  (aUn_eq (tkd G.1 G.2) tmi (aRun (tkd G.1 G.2) tmi tmt d) M_177 [] 7 (8, [some (.ref 24), none, none], [], σ)).trans rfl
set_option maxRecDepth 20000 in
theorem q_177_2519 (G : Nat × (Nat → Int32)) (d : Nat) (s0 : Int32) (σ : aH) : Lq G d M_177 (20, [some (.ref 24), none, none], [.int s0], σ) = some (.inl (some (.int s0)), σ) :=
  (aUn_eq (tkd G.1 G.2) tmi (aRun (tkd G.1 G.2) tmi tmt d) M_177 [] 1 (20, [some (.ref 24), none, none], [.int s0], σ)).trans rfl
set_option maxRecDepth 20000 in
theorem q_177_2520 (G : Nat × (Nat → Int32)) (d : Nat)  (σ : aH) : Lq G d M_177 (21, [some (.ref 24), none, none], [], σ) = Lq G d M_177 (45, [some (.ref 24), some (.long ((((σ.1 24 1)).toInt64 * ((σ.1 24 1)).toInt64) + (((σ.1 24 0)).toInt64 * ((σ.1 24 0)).toInt64))), none], [], σ) :=
  (aUn_eq (tkd G.1 G.2) tmi (aRun (tkd G.1 G.2) tmi tmt d) M_177 [] 16 (21, [some (.ref 24), none, none], [], σ)).trans rfl
set_option maxRecDepth 20000 in
theorem q_177_2521 (G : Nat × (Nat → Int32)) (d : Nat) (x1 : Int64) (σ : aH) : Lq G d M_177 (45, [some (.ref 24), some (.long x1), none], [], σ) = Lq G d M_177 (48, [some (.ref 24), some (.long x1), none], [.int (lg_cmp x1 (0 : Int64))], σ) :=
  (aUn_eq (tkd G.1 G.2) tmi (aRun (tkd G.1 G.2) tmi tmt d) M_177 [] 3 (45, [some (.ref 24), some (.long x1), none], [], σ)).trans rfl
set_option maxRecDepth 20000 in
theorem q_177_2522 (G : Nat × (Nat → Int32)) (d : Nat) (x1 : Int64) (s0 : Int32) (σ : aH) : Lq G d M_177 (48, [some (.ref 24), some (.long x1), none], [.int s0], σ) = if s0 = 0 then Lq G d M_177 (51, [some (.ref 24), some (.long x1), none], [], σ) else Lq G d M_177 (55, [some (.ref 24), some (.long x1), none], [], σ) :=
  (aUn_eq (tkd G.1 G.2) tmi (aRun (tkd G.1 G.2) tmi tmt d) M_177 [] 1 (48, [some (.ref 24), some (.long x1), none], [.int s0], σ)).trans rfl
set_option maxRecDepth 20000 in
theorem q_177_2523 (G : Nat × (Nat → Int32)) (d : Nat) (x1 : Int64) (σ : aH) : Lq G d M_177 (51, [some (.ref 24), some (.long x1), none], [], σ) = Lq G d M_177 (85, [some (.ref 24), some (.long x1), none], [.int (0 : Int32)], σ) :=
  (aUn_eq (tkd G.1 G.2) tmi (aRun (tkd G.1 G.2) tmi tmt d) M_177 [] 2 (51, [some (.ref 24), some (.long x1), none], [], σ)).trans rfl
set_option maxRecDepth 20000 in
theorem q_177_2524 (G : Nat × (Nat → Int32)) (d : Nat) (x1 : Int64) (s0 : Int32) (σ : aH) : Lq G d M_177 (85, [some (.ref 24), some (.long x1), none], [.int s0], σ) = some (.inl (some (.int s0)), σ) :=
  (aUn_eq (tkd G.1 G.2) tmi (aRun (tkd G.1 G.2) tmi tmt d) M_177 [] 1 (85, [some (.ref 24), some (.long x1), none], [.int s0], σ)).trans rfl
set_option maxRecDepth 20000 in
theorem q_177_2525 (G : Nat × (Nat → Int32)) (d : Nat) (x1 : Int64) (σ : aH) : Lq G d M_177 (55, [some (.ref 24), some (.long x1), none], [], σ) = Lq G d M_177 (83, [some (.ref 24), some (.long x1), none], [.long (x1 * (1000000 : Int64)), .long (((((σ.1 24 6)).toInt64 * ((σ.1 24 1)).toInt64) * ((σ.1 24 1)).toInt64) * ((σ.1 24 16)).toInt64)], σ) :=
  (aUn_eq (tkd G.1 G.2) tmi (aRun (tkd G.1 G.2) tmi tmt d) M_177 [] 18 (55, [some (.ref 24), some (.long x1), none], [], σ)).trans rfl
set_option maxRecDepth 20000 in
theorem q_177_2526 (G : Nat × (Nat → Int32)) (d : Nat) (x1 : Int64) (s0 : Int64) (s1 : Int64) (σ : aH) : Lq G d M_177 (83, [some (.ref 24), some (.long x1), none], [.long s0, .long s1], σ) = aNzL (s0) (Lq G d M_177 (84, [some (.ref 24), some (.long x1), none], [.long (s1 / s0)], σ)) :=
  (aUn_eq (tkd G.1 G.2) tmi (aRun (tkd G.1 G.2) tmi tmt d) M_177 [] 1 (83, [some (.ref 24), some (.long x1), none], [.long s0, .long s1], σ)).trans rfl
set_option maxRecDepth 20000 in
theorem q_177_2527 (G : Nat × (Nat → Int32)) (d : Nat) (x1 : Int64) (s0 : Int64) (σ : aH) : Lq G d M_177 (84, [some (.ref 24), some (.long x1), none], [.long s0], σ) = Lq G d M_177 (85, [some (.ref 24), some (.long x1), none], [.int (s0).toInt32], σ) :=
  (aUn_eq (tkd G.1 G.2) tmi (aRun (tkd G.1 G.2) tmi tmt d) M_177 [] 1 (84, [some (.ref 24), some (.long x1), none], [.long s0], σ)).trans rfl
set_option maxRecDepth 20000 in
theorem q_179_2528 (G : Nat × (Nat → Int32)) (d : Nat) (x1 : Int32) (σ : aH) : Lq G d M_179 (0, [some (.ref 33), some (.int x1), none], [], σ) = Lq G d M_179 (7, [some (.ref 33), some (.int x1), none], [.int ((5 : Int32) * x1), .ref 36], σ) :=
  (aUn_eq (tkd G.1 G.2) tmi (aRun (tkd G.1 G.2) tmi tmt d) M_179 [] 5 (0, [some (.ref 33), some (.int x1), none], [], σ)).trans rfl
set_option maxRecDepth 20000 in
theorem q_179_2529 (G : Nat × (Nat → Int32)) (d : Nat) (x1 : Int32) (s0 : Int32) (σ : aH) : Lq G d M_179 (7, [some (.ref 33), some (.int x1), none], [.int s0, .ref 36], σ) = aIx (s0) 30 fun j1 => Lq G d M_179 (8, [some (.ref 33), some (.int x1), none], [.int (σ.1 36 j1)], σ) :=
  (aUn_eq (tkd G.1 G.2) tmi (aRun (tkd G.1 G.2) tmi tmt d) M_179 [] 1 (7, [some (.ref 33), some (.int x1), none], [.int s0, .ref 36], σ)).trans rfl
set_option maxRecDepth 20000 in
theorem q_179_2530 (G : Nat × (Nat → Int32)) (d : Nat) (x1 : Int32) (s0 : Int32) (σ : aH) : Lq G d M_179 (8, [some (.ref 33), some (.int x1), none], [.int s0], σ) = Lq G d M_179 (10, [some (.ref 33), some (.int x1), some (.int s0)], [.int s0], σ) :=
  (aUn_eq (tkd G.1 G.2) tmi (aRun (tkd G.1 G.2) tmi tmt d) M_179 [] 2 (8, [some (.ref 33), some (.int x1), none], [.int s0], σ)).trans rfl
set_option maxRecDepth 20000 in
theorem q_179_2531 (G : Nat × (Nat → Int32)) (d : Nat) (x1 : Int32) (x2 : Int32) (s0 : Int32) (σ : aH) : Lq G d M_179 (10, [some (.ref 33), some (.int x1), some (.int x2)], [.int s0], σ) = if s0 = 0 then Lq G d M_179 (13, [some (.ref 33), some (.int x1), some (.int x2)], [], σ) else Lq G d M_179 (19, [some (.ref 33), some (.int x1), some (.int x2)], [], σ) :=
  (aUn_eq (tkd G.1 G.2) tmi (aRun (tkd G.1 G.2) tmi tmt d) M_179 [] 1 (10, [some (.ref 33), some (.int x1), some (.int x2)], [.int s0], σ)).trans rfl
set_option maxRecDepth 20000 in
theorem q_179_2532 (G : Nat × (Nat → Int32)) (d : Nat) (x1 : Int32) (x2 : Int32) (σ : aH) : Lq G d M_179 (13, [some (.ref 33), some (.int x1), some (.int x2)], [], σ) = Lq G d M_179 (48, [some (.ref 33), some (.int x1), some (.int x2)], [.int (1000000 : Int32)], σ) :=
  (aUn_eq (tkd G.1 G.2) tmi (aRun (tkd G.1 G.2) tmi tmt d) M_179 [] 2 (13, [some (.ref 33), some (.int x1), some (.int x2)], [], σ)).trans rfl
set_option maxRecDepth 20000 in
theorem q_179_2533 (G : Nat × (Nat → Int32)) (d : Nat) (x1 : Int32) (x2 : Int32) (s0 : Int32) (σ : aH) : Lq G d M_179 (48, [some (.ref 33), some (.int x1), some (.int x2)], [.int s0], σ) = some (.inl (some (.int s0)), σ) :=
  (aUn_eq (tkd G.1 G.2) tmi (aRun (tkd G.1 G.2) tmi tmt d) M_179 [] 1 (48, [some (.ref 33), some (.int x1), some (.int x2)], [.int s0], σ)).trans rfl
set_option maxRecDepth 20000 in
theorem q_179_2534 (G : Nat × (Nat → Int32)) (d : Nat) (x1 : Int32) (x2 : Int32) (σ : aH) : Lq G d M_179 (19, [some (.ref 33), some (.int x1), some (.int x2)], [], σ) = Lq G d M_179 (21, [some (.ref 33), some (.int x1), some (.int x2)], [.int (2 : Int32), .int x2], σ) :=
  (aUn_eq (tkd G.1 G.2) tmi (aRun (tkd G.1 G.2) tmi tmt d) M_179 [] 2 (19, [some (.ref 33), some (.int x1), some (.int x2)], [], σ)).trans rfl
set_option maxRecDepth 20000 in
theorem q_179_2535 (G : Nat × (Nat → Int32)) (d : Nat) (x1 : Int32) (x2 : Int32) (s0 : Int32) (s1 : Int32) (σ : aH) : Lq G d M_179 (21, [some (.ref 33), some (.int x1), some (.int x2)], [.int s0, .int s1], σ) = if s1 = s0 then Lq G d M_179 (24, [some (.ref 33), some (.int x1), some (.int x2)], [], σ) else Lq G d M_179 (37, [some (.ref 33), some (.int x1), some (.int x2)], [], σ) :=
  (aUn_eq (tkd G.1 G.2) tmi (aRun (tkd G.1 G.2) tmi tmt d) M_179 [] 1 (21, [some (.ref 33), some (.int x1), some (.int x2)], [.int s0, .int s1], σ)).trans rfl
set_option maxRecDepth 20000 in
theorem q_179_2536 (G : Nat × (Nat → Int32)) (d : Nat) (x1 : Int32) (x2 : Int32) (σ : aH) : Lq G d M_179 (24, [some (.ref 33), some (.int x1), some (.int x2)], [], σ) = Lq G d M_179 (48, [some (.ref 33), some (.int x1), some (.int x2)], [.int ((10000 : Int32) * (σ.1 50 5))], σ) :=
  (aUn_eq (tkd G.1 G.2) tmi (aRun (tkd G.1 G.2) tmi tmt d) M_179 [] 7 (24, [some (.ref 33), some (.int x1), some (.int x2)], [], σ)).trans rfl
set_option maxRecDepth 20000 in
theorem q_179_2537 (G : Nat × (Nat → Int32)) (d : Nat) (x1 : Int32) (x2 : Int32) (σ : aH) : Lq G d M_179 (37, [some (.ref 33), some (.int x1), some (.int x2)], [], σ) = Lq G d M_179 (45, [some (.ref 33), some (.int x1), some (.int x2)], [.int (σ.1 51 5), .int x1, .ref 33], σ) :=
  (aUn_eq (tkd G.1 G.2) tmi (aRun (tkd G.1 G.2) tmi tmt d) M_179 [] 6 (37, [some (.ref 33), some (.int x1), some (.int x2)], [], σ)).trans rfl
set_option maxRecDepth 20000 in
theorem q_179_2538 (G : Nat × (Nat → Int32)) (d : Nat) (x1 : Int32) (x2 : Int32) (s0 : Int32) (s1 : Int32) (σ : aH) : Lq G d M_179 (45, [some (.ref 33), some (.int x1), some (.int x2)], [.int s0, .int s1, .ref 33], σ) = aCI (Rn G d 169 [.ref 33, .int s1, .int s0] σ) fun v2 σ1 => Lq G d M_179 (48, [some (.ref 33), some (.int x1), some (.int x2)], [.int v2], σ1) :=
  (aUn_eq (tkd G.1 G.2) tmi (aRun (tkd G.1 G.2) tmi tmt d) M_179 [] 1 (45, [some (.ref 33), some (.int x1), some (.int x2)], [.int s0, .int s1, .ref 33], σ)).trans rfl
set_option maxRecDepth 20000 in
theorem q_180_2539 (G : Nat × (Nat → Int32)) (d : Nat) (x1 : Int32) (σ : aH) : Lq G d M_180 (0, [some (.ref 33), some (.int x1), none, none], [], σ) = Lq G d M_180 (7, [some (.ref 33), some (.int x1), none, none], [.int ((5 : Int32) * x1), .ref 36], σ) :=
  (aUn_eq (tkd G.1 G.2) tmi (aRun (tkd G.1 G.2) tmi tmt d) M_180 [] 5 (0, [some (.ref 33), some (.int x1), none, none], [], σ)).trans rfl
set_option maxRecDepth 20000 in
theorem q_180_2540 (G : Nat × (Nat → Int32)) (d : Nat) (x1 : Int32) (s0 : Int32) (σ : aH) : Lq G d M_180 (7, [some (.ref 33), some (.int x1), none, none], [.int s0, .ref 36], σ) = aIx (s0) 30 fun j1 => Lq G d M_180 (8, [some (.ref 33), some (.int x1), none, none], [.int (σ.1 36 j1)], σ) :=
  (aUn_eq (tkd G.1 G.2) tmi (aRun (tkd G.1 G.2) tmi tmt d) M_180 [] 1 (7, [some (.ref 33), some (.int x1), none, none], [.int s0, .ref 36], σ)).trans rfl
set_option maxRecDepth 20000 in
theorem q_180_2541 (G : Nat × (Nat → Int32)) (d : Nat) (x1 : Int32) (s0 : Int32) (σ : aH) : Lq G d M_180 (8, [some (.ref 33), some (.int x1), none, none], [.int s0], σ) = Lq G d M_180 (9, [some (.ref 33), some (.int x1), none, none], [.int (2 : Int32), .int s0], σ) :=
  (aUn_eq (tkd G.1 G.2) tmi (aRun (tkd G.1 G.2) tmi tmt d) M_180 [] 1 (8, [some (.ref 33), some (.int x1), none, none], [.int s0], σ)).trans rfl
set_option maxRecDepth 20000 in
theorem q_180_2542 (G : Nat × (Nat → Int32)) (d : Nat) (x1 : Int32) (s0 : Int32) (s1 : Int32) (σ : aH) : Lq G d M_180 (9, [some (.ref 33), some (.int x1), none, none], [.int s0, .int s1], σ) = if s1 = s0 then Lq G d M_180 (12, [some (.ref 33), some (.int x1), none, none], [], σ) else Lq G d M_180 (29, [some (.ref 33), some (.int x1), none, none], [], σ) :=
  (aUn_eq (tkd G.1 G.2) tmi (aRun (tkd G.1 G.2) tmi tmt d) M_180 [] 1 (9, [some (.ref 33), some (.int x1), none, none], [.int s0, .int s1], σ)).trans rfl
set_option maxRecDepth 20000 in
theorem q_180_2543 (G : Nat × (Nat → Int32)) (d : Nat) (x1 : Int32) (σ : aH) : Lq G d M_180 (12, [some (.ref 33), some (.int x1), none, none], [], σ) = Lq G d M_180 (28, [some (.ref 33), some (.int x1), none, none], [.int (((σ.1 51 0) * (σ.1 50 5)) / (100 : Int32))], σ) :=
  (aUn_eq (tkd G.1 G.2) tmi (aRun (tkd G.1 G.2) tmi tmt d) M_180 [] 11 (12, [some (.ref 33), some (.int x1), none, none], [], σ)).trans rfl
set_option maxRecDepth 20000 in
theorem q_180_2544 (G : Nat × (Nat → Int32)) (d : Nat) (x1 : Int32) (s0 : Int32) (σ : aH) : Lq G d M_180 (28, [some (.ref 33), some (.int x1), none, none], [.int s0], σ) = some (.inl (some (.int s0)), σ) :=
  (aUn_eq (tkd G.1 G.2) tmi (aRun (tkd G.1 G.2) tmi tmt d) M_180 [] 1 (28, [some (.ref 33), some (.int x1), none, none], [.int s0], σ)).trans rfl
set_option maxRecDepth 20000 in
theorem q_180_2545 (G : Nat × (Nat → Int32)) (d : Nat) (x1 : Int32) (σ : aH) : Lq G d M_180 (29, [some (.ref 33), some (.int x1), none, none], [], σ) = Lq G d M_180 (45, [some (.ref 33), some (.int x1), some (.long (((σ.1 50 1)).toInt64 * ((σ.1 50 1)).toInt64)), none], [], σ) :=
  (aUn_eq (tkd G.1 G.2) tmi (aRun (tkd G.1 G.2) tmi tmt d) M_180 [] 12 (29, [some (.ref 33), some (.int x1), none, none], [], σ)).trans rfl
set_option maxRecDepth 20000 in
theorem q_180_2546 (G : Nat × (Nat → Int32)) (d : Nat) (x1 : Int32) (x2 : Int64) (σ : aH) : Lq G d M_180 (45, [some (.ref 33), some (.int x1), some (.long x2), none], [], σ) = Lq G d M_180 (56, [some (.ref 33), some (.int x1), some (.long x2), none], [.int x1, .ref 33, .long (((σ.1 51 0)).toInt64 * x2)], σ) :=
  (aUn_eq (tkd G.1 G.2) tmi (aRun (tkd G.1 G.2) tmi tmt d) M_180 [] 9 (45, [some (.ref 33), some (.int x1), some (.long x2), none], [], σ)).trans rfl
set_option maxRecDepth 20000 in
theorem q_180_2547 (G : Nat × (Nat → Int32)) (d : Nat) (x1 : Int32) (x2 : Int64) (s0 : Int32) (s2 : Int64) (σ : aH) : Lq G d M_180 (56, [some (.ref 33), some (.int x1), some (.long x2), none], [.int s0, .ref 33, .long s2], σ) = aCI (Rn G d 179 [.ref 33, .int s0] σ) fun v2 σ1 => Lq G d M_180 (59, [some (.ref 33), some (.int x1), some (.long x2), none], [.int v2, .long s2], σ1) :=
  (aUn_eq (tkd G.1 G.2) tmi (aRun (tkd G.1 G.2) tmi tmt d) M_180 [] 1 (56, [some (.ref 33), some (.int x1), some (.long x2), none], [.int s0, .ref 33, .long s2], σ)).trans rfl
set_option maxRecDepth 20000 in
theorem q_180_2548 (G : Nat × (Nat → Int32)) (d : Nat) (x1 : Int32) (x2 : Int64) (s0 : Int32) (s1 : Int64) (σ : aH) : Lq G d M_180 (59, [some (.ref 33), some (.int x1), some (.long x2), none], [.int s0, .long s1], σ) = Lq G d M_180 (82, [some (.ref 33), some (.int x1), some (.long x2), none], [.long ((x2 + (((σ.1 50 0)).toInt64 * ((σ.1 50 0)).toInt64)) * (1000000 : Int64)), .long (s1 * (s0).toInt64)], σ) :=
  (aUn_eq (tkd G.1 G.2) tmi (aRun (tkd G.1 G.2) tmi tmt d) M_180 [] 17 (59, [some (.ref 33), some (.int x1), some (.long x2), none], [.int s0, .long s1], σ)).trans rfl
set_option maxRecDepth 20000 in
theorem q_180_2549 (G : Nat × (Nat → Int32)) (d : Nat) (x1 : Int32) (x2 : Int64) (s0 : Int64) (s1 : Int64) (σ : aH) : Lq G d M_180 (82, [some (.ref 33), some (.int x1), some (.long x2), none], [.long s0, .long s1], σ) = aNzL (s0) (Lq G d M_180 (83, [some (.ref 33), some (.int x1), some (.long x2), none], [.long (s1 / s0)], σ)) :=
  (aUn_eq (tkd G.1 G.2) tmi (aRun (tkd G.1 G.2) tmi tmt d) M_180 [] 1 (82, [some (.ref 33), some (.int x1), some (.long x2), none], [.long s0, .long s1], σ)).trans rfl
set_option maxRecDepth 20000 in
theorem q_180_2550 (G : Nat × (Nat → Int32)) (d : Nat) (x1 : Int32) (x2 : Int64) (s0 : Int64) (σ : aH) : Lq G d M_180 (83, [some (.ref 33), some (.int x1), some (.long x2), none], [.long s0], σ) = Lq G d M_180 (84, [some (.ref 33), some (.int x1), some (.long x2), none], [.int (s0).toInt32], σ) :=
  (aUn_eq (tkd G.1 G.2) tmi (aRun (tkd G.1 G.2) tmi tmt d) M_180 [] 1 (83, [some (.ref 33), some (.int x1), some (.long x2), none], [.long s0], σ)).trans rfl
set_option maxRecDepth 20000 in
theorem q_180_2551 (G : Nat × (Nat → Int32)) (d : Nat) (x1 : Int32) (x2 : Int64) (s0 : Int32) (σ : aH) : Lq G d M_180 (84, [some (.ref 33), some (.int x1), some (.long x2), none], [.int s0], σ) = some (.inl (some (.int s0)), σ) :=
  (aUn_eq (tkd G.1 G.2) tmi (aRun (tkd G.1 G.2) tmi tmt d) M_180 [] 1 (84, [some (.ref 33), some (.int x1), some (.long x2), none], [.int s0], σ)).trans rfl
set_option maxRecDepth 20000 in
theorem q_181_2552 (G : Nat × (Nat → Int32)) (d : Nat) (x1 : Int32) (σ : aH) : Lq G d M_181 (0, [some (.ref 33), some (.int x1), none, none], [], σ) = Lq G d M_181 (2, [some (.ref 33), some (.int x1), none, none], [.int x1, .ref 33], σ) :=
  (aUn_eq (tkd G.1 G.2) tmi (aRun (tkd G.1 G.2) tmi tmt d) M_181 [] 2 (0, [some (.ref 33), some (.int x1), none, none], [], σ)).trans rfl
set_option maxRecDepth 20000 in
theorem q_181_2553 (G : Nat × (Nat → Int32)) (d : Nat) (x1 : Int32) (s0 : Int32) (σ : aH) : Lq G d M_181 (2, [some (.ref 33), some (.int x1), none, none], [.int s0, .ref 33], σ) = aCI (Rn G d 170 [.ref 33, .int s0] σ) fun v2 σ1 => Lq G d M_181 (5, [some (.ref 33), some (.int x1), none, none], [.int v2], σ1) :=
  (aUn_eq (tkd G.1 G.2) tmi (aRun (tkd G.1 G.2) tmi tmt d) M_181 [] 1 (2, [some (.ref 33), some (.int x1), none, none], [.int s0, .ref 33], σ)).trans rfl
set_option maxRecDepth 20000 in
theorem q_181_2554 (G : Nat × (Nat → Int32)) (d : Nat) (x1 : Int32) (s0 : Int32) (σ : aH) : Lq G d M_181 (5, [some (.ref 33), some (.int x1), none, none], [.int s0], σ) = Lq G d M_181 (8, [some (.ref 33), some (.int x1), some (.int s0), some (.int (0 : Int32))], [], σ) :=
  (aUn_eq (tkd G.1 G.2) tmi (aRun (tkd G.1 G.2) tmi tmt d) M_181 [] 3 (5, [some (.ref 33), some (.int x1), none, none], [.int s0], σ)).trans rfl
set_option maxRecDepth 20000 in
theorem q_181_2555 (G : Nat × (Nat → Int32)) (d : Nat) (x1 : Int32) (x2 : Int32) (x3 : Int32) (σ : aH) : Lq G d M_181 (8, [some (.ref 33), some (.int x1), some (.int x2), some (.int x3)], [], σ) = Lq G d M_181 (15, [some (.ref 33), some (.int x1), some (.int x2), some (.int x3)], [.int (σ.1 51 5), .int x3], σ) :=
  (aUn_eq (tkd G.1 G.2) tmi (aRun (tkd G.1 G.2) tmi tmt d) M_181 [] 5 (8, [some (.ref 33), some (.int x1), some (.int x2), some (.int x3)], [], σ)).trans rfl
set_option maxRecDepth 20000 in
theorem q_181_2556 (G : Nat × (Nat → Int32)) (d : Nat) (x1 : Int32) (x2 : Int32) (x3 : Int32) (s0 : Int32) (s1 : Int32) (σ : aH) : Lq G d M_181 (15, [some (.ref 33), some (.int x1), some (.int x2), some (.int x3)], [.int s0, .int s1], σ) = if s0 < s1 then Lq G d M_181 (49, [some (.ref 33), some (.int x1), some (.int x2), some (.int x3)], [], σ) else Lq G d M_181 (18, [some (.ref 33), some (.int x1), some (.int x2), some (.int x3)], [], σ) :=
  (aUn_eq (tkd G.1 G.2) tmi (aRun (tkd G.1 G.2) tmi tmt d) M_181 [] 1 (15, [some (.ref 33), some (.int x1), some (.int x2), some (.int x3)], [.int s0, .int s1], σ)).trans rfl
set_option maxRecDepth 20000 in
theorem q_181_2557 (G : Nat × (Nat → Int32)) (d : Nat) (x1 : Int32) (x2 : Int32) (x3 : Int32) (σ : aH) : Lq G d M_181 (49, [some (.ref 33), some (.int x1), some (.int x2), some (.int x3)], [], σ) = Lq G d M_181 (50, [some (.ref 33), some (.int x1), some (.int x2), some (.int x3)], [.int (-1 : Int32)], σ) :=
  (aUn_eq (tkd G.1 G.2) tmi (aRun (tkd G.1 G.2) tmi tmt d) M_181 [] 1 (49, [some (.ref 33), some (.int x1), some (.int x2), some (.int x3)], [], σ)).trans rfl
set_option maxRecDepth 20000 in
theorem q_181_2558 (G : Nat × (Nat → Int32)) (d : Nat) (x1 : Int32) (x2 : Int32) (x3 : Int32) (s0 : Int32) (σ : aH) : Lq G d M_181 (50, [some (.ref 33), some (.int x1), some (.int x2), some (.int x3)], [.int s0], σ) = some (.inl (some (.int s0)), σ) :=
  (aUn_eq (tkd G.1 G.2) tmi (aRun (tkd G.1 G.2) tmi tmt d) M_181 [] 1 (50, [some (.ref 33), some (.int x1), some (.int x2), some (.int x3)], [.int s0], σ)).trans rfl
set_option maxRecDepth 20000 in
theorem q_181_2559 (G : Nat × (Nat → Int32)) (d : Nat) (x1 : Int32) (x2 : Int32) (x3 : Int32) (σ : aH) : Lq G d M_181 (18, [some (.ref 33), some (.int x1), some (.int x2), some (.int x3)], [], σ) = Lq G d M_181 (22, [some (.ref 33), some (.int x1), some (.int x2), some (.int x3)], [.int (500000 : Int32), .int x2], σ) :=
  (aUn_eq (tkd G.1 G.2) tmi (aRun (tkd G.1 G.2) tmi tmt d) M_181 [] 2 (18, [some (.ref 33), some (.int x1), some (.int x2), some (.int x3)], [], σ)).trans rfl
set_option maxRecDepth 20000 in
theorem q_181_2560 (G : Nat × (Nat → Int32)) (d : Nat) (x1 : Int32) (x2 : Int32) (x3 : Int32) (s0 : Int32) (s1 : Int32) (σ : aH) : Lq G d M_181 (22, [some (.ref 33), some (.int x1), some (.int x2), some (.int x3)], [.int s0, .int s1], σ) = if s1 < s0 then Lq G d M_181 (27, [some (.ref 33), some (.int x1), some (.int x2), some (.int x3)], [], σ) else Lq G d M_181 (25, [some (.ref 33), some (.int x1), some (.int x2), some (.int x3)], [], σ) :=
  (aUn_eq (tkd G.1 G.2) tmi (aRun (tkd G.1 G.2) tmi tmt d) M_181 [] 1 (22, [some (.ref 33), some (.int x1), some (.int x2), some (.int x3)], [.int s0, .int s1], σ)).trans rfl
set_option maxRecDepth 20000 in
theorem q_181_2561 (G : Nat × (Nat → Int32)) (d : Nat) (x1 : Int32) (x2 : Int32) (x3 : Int32) (σ : aH) : Lq G d M_181 (27, [some (.ref 33), some (.int x1), some (.int x2), some (.int x3)], [], σ) = Lq G d M_181 (33, [some (.ref 33), some (.int x1), some (.int x2), some (.int x3)], [.int (σ.1 51 4)], σ) :=
  (aUn_eq (tkd G.1 G.2) tmi (aRun (tkd G.1 G.2) tmi tmt d) M_181 [] 4 (27, [some (.ref 33), some (.int x1), some (.int x2), some (.int x3)], [], σ)).trans rfl
set_option maxRecDepth 20000 in
theorem q_181_2562 (G : Nat × (Nat → Int32)) (d : Nat) (x1 : Int32) (x2 : Int32) (x3 : Int32) (s0 : Int32) (σ : aH) : Lq G d M_181 (33, [some (.ref 33), some (.int x1), some (.int x2), some (.int x3)], [.int s0], σ) = if s0 = 0 then Lq G d M_181 (36, [some (.ref 33), some (.int x1), some (.int x2), some (.int x3)], [], σ) else Lq G d M_181 (43, [some (.ref 33), some (.int x1), some (.int x2), some (.int x3)], [], σ) :=
  (aUn_eq (tkd G.1 G.2) tmi (aRun (tkd G.1 G.2) tmi tmt d) M_181 [] 1 (33, [some (.ref 33), some (.int x1), some (.int x2), some (.int x3)], [.int s0], σ)).trans rfl
set_option maxRecDepth 20000 in
theorem q_181_2563 (G : Nat × (Nat → Int32)) (d : Nat) (x1 : Int32) (x2 : Int32) (x3 : Int32) (σ : aH) : Lq G d M_181 (36, [some (.ref 33), some (.int x1), some (.int x2), some (.int x3)], [], σ) = Lq G d M_181 (39, [some (.ref 33), some (.int x1), some (.int x2), some (.int x3)], [.int x2, .int x1, .ref 33], σ) :=
  (aUn_eq (tkd G.1 G.2) tmi (aRun (tkd G.1 G.2) tmi tmt d) M_181 [] 3 (36, [some (.ref 33), some (.int x1), some (.int x2), some (.int x3)], [], σ)).trans rfl
set_option maxRecDepth 20000 in
theorem q_181_2564 (G : Nat × (Nat → Int32)) (d : Nat) (x1 : Int32) (x2 : Int32) (x3 : Int32) (s0 : Int32) (s1 : Int32) (σ : aH) : Lq G d M_181 (39, [some (.ref 33), some (.int x1), some (.int x2), some (.int x3)], [.int s0, .int s1, .ref 33], σ) = aCI (Rn G d 172 [.ref 33, .int s1, .int s0] σ) fun v2 σ1 => Lq G d M_181 (42, [some (.ref 33), some (.int x1), some (.int x2), some (.int x3)], [.int v2], σ1) :=
  (aUn_eq (tkd G.1 G.2) tmi (aRun (tkd G.1 G.2) tmi tmt d) M_181 [] 1 (39, [some (.ref 33), some (.int x1), some (.int x2), some (.int x3)], [.int s0, .int s1, .ref 33], σ)).trans rfl
set_option maxRecDepth 20000 in
theorem q_181_2565 (G : Nat × (Nat → Int32)) (d : Nat) (x1 : Int32) (x2 : Int32) (x3 : Int32) (s0 : Int32) (σ : aH) : Lq G d M_181 (42, [some (.ref 33), some (.int x1), some (.int x2), some (.int x3)], [.int s0], σ) = Lq G d M_181 (46, [some (.ref 33), some (.int x1), some (.int s0), some (.int (x3 + (1 : Int32)))], [], σ) :=
  (aUn_eq (tkd G.1 G.2) tmi (aRun (tkd G.1 G.2) tmi tmt d) M_181 [] 2 (42, [some (.ref 33), some (.int x1), some (.int x2), some (.int x3)], [.int s0], σ)).trans rfl
set_option maxRecDepth 20000 in
theorem q_181_2566 (G : Nat × (Nat → Int32)) (d : Nat) (x1 : Int32) (x2 : Int32) (x3 : Int32) (σ : aH) : Lq G d M_181 (46, [some (.ref 33), some (.int x1), some (.int x2), some (.int x3)], [], σ) = Lq G d M_181 (8, [some (.ref 33), some (.int x1), some (.int x2), some (.int x3)], [], σ) :=
  (aUn_eq (tkd G.1 G.2) tmi (aRun (tkd G.1 G.2) tmi tmt d) M_181 [] 1 (46, [some (.ref 33), some (.int x1), some (.int x2), some (.int x3)], [], σ)).trans rfl
set_option maxRecDepth 20000 in
theorem q_181_2567 (G : Nat × (Nat → Int32)) (d : Nat) (x1 : Int32) (x2 : Int32) (x3 : Int32) (σ : aH) : Lq G d M_181 (43, [some (.ref 33), some (.int x1), some (.int x2), some (.int x3)], [], σ) = Lq G d M_181 (8, [some (.ref 33), some (.int x1), some (.int x2), some (.int (x3 + (1 : Int32)))], [], σ) :=
  (aUn_eq (tkd G.1 G.2) tmi (aRun (tkd G.1 G.2) tmi tmt d) M_181 [] 2 (43, [some (.ref 33), some (.int x1), some (.int x2), some (.int x3)], [], σ)).trans rfl
set_option maxRecDepth 20000 in
theorem q_181_2568 (G : Nat × (Nat → Int32)) (d : Nat) (x1 : Int32) (x2 : Int32) (x3 : Int32) (σ : aH) : Lq G d M_181 (25, [some (.ref 33), some (.int x1), some (.int x2), some (.int x3)], [], σ) = Lq G d M_181 (26, [some (.ref 33), some (.int x1), some (.int x2), some (.int x3)], [.int x3], σ) :=
  (aUn_eq (tkd G.1 G.2) tmi (aRun (tkd G.1 G.2) tmi tmt d) M_181 [] 1 (25, [some (.ref 33), some (.int x1), some (.int x2), some (.int x3)], [], σ)).trans rfl
set_option maxRecDepth 20000 in
theorem q_181_2569 (G : Nat × (Nat → Int32)) (d : Nat) (x1 : Int32) (x2 : Int32) (x3 : Int32) (s0 : Int32) (σ : aH) : Lq G d M_181 (26, [some (.ref 33), some (.int x1), some (.int x2), some (.int x3)], [.int s0], σ) = some (.inl (some (.int s0)), σ) :=
  (aUn_eq (tkd G.1 G.2) tmi (aRun (tkd G.1 G.2) tmi tmt d) M_181 [] 1 (26, [some (.ref 33), some (.int x1), some (.int x2), some (.int x3)], [.int s0], σ)).trans rfl
set_option maxRecDepth 20000 in
theorem q_184_2570 (G : Nat × (Nat → Int32)) (d : Nat) (x1 : Int32) (x2 : Int32) (σ : aH) : Lq G d M_184 (0, [some (.ref 0), some (.int x1), some (.int x2)], [], σ) = Lq G d M_184 (6, [some (.ref 0), some (.int x1), some (.int x2)], [.int x1, .int (3 : Int32), .ref 3], σ) :=
  (aUn_eq (tkd G.1 G.2) tmi (aRun (tkd G.1 G.2) tmi tmt d) M_184 [] 4 (0, [some (.ref 0), some (.int x1), some (.int x2)], [], σ)).trans rfl
set_option maxRecDepth 20000 in
theorem q_184_2571 (G : Nat × (Nat → Int32)) (d : Nat) (x1 : Int32) (x2 : Int32) (s0 : Int32) (s1 : Int32) (σ : aH) : Lq G d M_184 (6, [some (.ref 0), some (.int x1), some (.int x2)], [.int s0, .int s1, .ref 3], σ) = aCI (Rn G d 103 [.ref 3, .int s1, .int s0] σ) fun v2 σ1 => Lq G d M_184 (9, [some (.ref 0), some (.int x1), some (.int x2)], [.int v2], σ1) :=
  (aUn_eq (tkd G.1 G.2) tmi (aRun (tkd G.1 G.2) tmi tmt d) M_184 [] 1 (6, [some (.ref 0), some (.int x1), some (.int x2)], [.int s0, .int s1, .ref 3], σ)).trans rfl
set_option maxRecDepth 20000 in
theorem q_184_2572 (G : Nat × (Nat → Int32)) (d : Nat) (x1 : Int32) (x2 : Int32) (s0 : Int32) (σ : aH) : Lq G d M_184 (9, [some (.ref 0), some (.int x1), some (.int x2)], [.int s0], σ) = if s0 = 0 then Lq G d M_184 (14, [some (.ref 0), some (.int x1), some (.int x2)], [], σ) else Lq G d M_184 (12, [some (.ref 0), some (.int x1), some (.int x2)], [], σ) :=
  (aUn_eq (tkd G.1 G.2) tmi (aRun (tkd G.1 G.2) tmi tmt d) M_184 [] 1 (9, [some (.ref 0), some (.int x1), some (.int x2)], [.int s0], σ)).trans rfl
set_option maxRecDepth 20000 in
theorem q_184_2573 (G : Nat × (Nat → Int32)) (d : Nat) (x1 : Int32) (x2 : Int32) (σ : aH) : Lq G d M_184 (14, [some (.ref 0), some (.int x1), some (.int x2)], [], σ) = Lq G d M_184 (17, [some (.ref 0), some (.int x1), some (.int x2)], [.int (20 : Int32), .int x1], σ) :=
  (aUn_eq (tkd G.1 G.2) tmi (aRun (tkd G.1 G.2) tmi tmt d) M_184 [] 2 (14, [some (.ref 0), some (.int x1), some (.int x2)], [], σ)).trans rfl
set_option maxRecDepth 20000 in
theorem q_184_2574 (G : Nat × (Nat → Int32)) (d : Nat) (x1 : Int32) (x2 : Int32) (s0 : Int32) (s1 : Int32) (σ : aH) : Lq G d M_184 (17, [some (.ref 0), some (.int x1), some (.int x2)], [.int s0, .int s1], σ) = if s1 < s0 then Lq G d M_184 (35, [some (.ref 0), some (.int x1), some (.int x2)], [], σ) else Lq G d M_184 (20, [some (.ref 0), some (.int x1), some (.int x2)], [], σ) :=
  (aUn_eq (tkd G.1 G.2) tmi (aRun (tkd G.1 G.2) tmi tmt d) M_184 [] 1 (17, [some (.ref 0), some (.int x1), some (.int x2)], [.int s0, .int s1], σ)).trans rfl
set_option maxRecDepth 20000 in
theorem q_184_2575 (G : Nat × (Nat → Int32)) (d : Nat) (x1 : Int32) (x2 : Int32) (σ : aH) : Lq G d M_184 (35, [some (.ref 0), some (.int x1), some (.int x2)], [], σ) = Lq G d M_184 (36, [some (.ref 0), some (.int x1), some (.int x2)], [.int (-1 : Int32)], σ) :=
  (aUn_eq (tkd G.1 G.2) tmi (aRun (tkd G.1 G.2) tmi tmt d) M_184 [] 1 (35, [some (.ref 0), some (.int x1), some (.int x2)], [], σ)).trans rfl
set_option maxRecDepth 20000 in
theorem q_184_2576 (G : Nat × (Nat → Int32)) (d : Nat) (x1 : Int32) (x2 : Int32) (s0 : Int32) (σ : aH) : Lq G d M_184 (36, [some (.ref 0), some (.int x1), some (.int x2)], [.int s0], σ) = some (.inl (some (.int s0)), σ) :=
  (aUn_eq (tkd G.1 G.2) tmi (aRun (tkd G.1 G.2) tmi tmt d) M_184 [] 1 (36, [some (.ref 0), some (.int x1), some (.int x2)], [.int s0], σ)).trans rfl
set_option maxRecDepth 20000 in
theorem q_184_2577 (G : Nat × (Nat → Int32)) (d : Nat) (x1 : Int32) (x2 : Int32) (σ : aH) : Lq G d M_184 (20, [some (.ref 0), some (.int x1), some (.int x2)], [], σ) = Lq G d M_184 (22, [some (.ref 0), some (.int x1), some (.int x2)], [.int x2, .int x1], σ) :=
  (aUn_eq (tkd G.1 G.2) tmi (aRun (tkd G.1 G.2) tmi tmt d) M_184 [] 2 (20, [some (.ref 0), some (.int x1), some (.int x2)], [], σ)).trans rfl
set_option maxRecDepth 20000 in
theorem q_184_2578 (G : Nat × (Nat → Int32)) (d : Nat) (x1 : Int32) (x2 : Int32) (s0 : Int32) (s1 : Int32) (σ : aH) : Lq G d M_184 (22, [some (.ref 0), some (.int x1), some (.int x2)], [.int s0, .int s1], σ) = if s0 < s1 then Lq G d M_184 (35, [some (.ref 0), some (.int x1), some (.int x2)], [], σ) else Lq G d M_184 (25, [some (.ref 0), some (.int x1), some (.int x2)], [], σ) :=
  (aUn_eq (tkd G.1 G.2) tmi (aRun (tkd G.1 G.2) tmi tmt d) M_184 [] 1 (22, [some (.ref 0), some (.int x1), some (.int x2)], [.int s0, .int s1], σ)).trans rfl
set_option maxRecDepth 20000 in
theorem q_184_2579 (G : Nat × (Nat → Int32)) (d : Nat) (x1 : Int32) (x2 : Int32) (σ : aH) : Lq G d M_184 (25, [some (.ref 0), some (.int x1), some (.int x2)], [], σ) = Lq G d M_184 (36, [some (.ref 0), some (.int x1), some (.int x2)], [.int ((x1 - (20 : Int32)) + (12 : Int32))], σ) :=
  (aUn_eq (tkd G.1 G.2) tmi (aRun (tkd G.1 G.2) tmi tmt d) M_184 [] 6 (25, [some (.ref 0), some (.int x1), some (.int x2)], [], σ)).trans rfl
set_option maxRecDepth 20000 in
theorem q_184_2580 (G : Nat × (Nat → Int32)) (d : Nat) (x1 : Int32) (x2 : Int32) (σ : aH) : Lq G d M_184 (12, [some (.ref 0), some (.int x1), some (.int x2)], [], σ) = Lq G d M_184 (13, [some (.ref 0), some (.int x1), some (.int x2)], [.int x1], σ) :=
  (aUn_eq (tkd G.1 G.2) tmi (aRun (tkd G.1 G.2) tmi tmt d) M_184 [] 1 (12, [some (.ref 0), some (.int x1), some (.int x2)], [], σ)).trans rfl
set_option maxRecDepth 20000 in
theorem q_184_2581 (G : Nat × (Nat → Int32)) (d : Nat) (x1 : Int32) (x2 : Int32) (s0 : Int32) (σ : aH) : Lq G d M_184 (13, [some (.ref 0), some (.int x1), some (.int x2)], [.int s0], σ) = some (.inl (some (.int s0)), σ) :=
  (aUn_eq (tkd G.1 G.2) tmi (aRun (tkd G.1 G.2) tmi tmt d) M_184 [] 1 (13, [some (.ref 0), some (.int x1), some (.int x2)], [.int s0], σ)).trans rfl
set_option maxRecDepth 20000 in
theorem q_185_2582 (G : Nat × (Nat → Int32)) (d : Nat) (x1 : Int32) (x2 : Int32) (σ : aH) : Lq G d M_185 (0, [some (.ref 24), some (.int x1), some (.int x2)], [], σ) = Lq G d M_185 (1, [some (.ref 24), some (.int x1), some (.int x2)], [.int x1], σ) :=
  (aUn_eq (tkd G.1 G.2) tmi (aRun (tkd G.1 G.2) tmi tmt d) M_185 [] 1 (0, [some (.ref 24), some (.int x1), some (.int x2)], [], σ)).trans rfl
set_option maxRecDepth 20000 in
theorem q_185_2583 (G : Nat × (Nat → Int32)) (d : Nat) (x1 : Int32) (x2 : Int32) (s0 : Int32) (σ : aH) : Lq G d M_185 (1, [some (.ref 24), some (.int x1), some (.int x2)], [.int s0], σ) = if s0 = (12 : Int32) then Lq G d M_185 (28, [some (.ref 24), some (.int x1), some (.int x2)], [], σ) else if s0 = (13 : Int32) then Lq G d M_185 (33, [some (.ref 24), some (.int x1), some (.int x2)], [], σ) else if s0 = (14 : Int32) then Lq G d M_185 (44, [some (.ref 24), some (.int x1), some (.int x2)], [], σ) else Lq G d M_185 (49, [some (.ref 24), some (.int x1), some (.int x2)], [], σ) :=
  (aUn_eq (tkd G.1 G.2) tmi (aRun (tkd G.1 G.2) tmi tmt d) M_185 [] 1 (1, [some (.ref 24), some (.int x1), some (.int x2)], [.int s0], σ)).trans rfl
set_option maxRecDepth 20000 in
theorem q_185_2584 (G : Nat × (Nat → Int32)) (d : Nat) (x1 : Int32) (x2 : Int32) (σ : aH) : Lq G d M_185 (28, [some (.ref 24), some (.int x1), some (.int x2)], [], σ) = Lq G d M_185 (29, [some (.ref 24), some (.int x1), some (.int x2)], [.ref 24], σ) :=
  (aUn_eq (tkd G.1 G.2) tmi (aRun (tkd G.1 G.2) tmi tmt d) M_185 [] 1 (28, [some (.ref 24), some (.int x1), some (.int x2)], [], σ)).trans rfl
set_option maxRecDepth 20000 in
theorem q_185_2585 (G : Nat × (Nat → Int32)) (d : Nat) (x1 : Int32) (x2 : Int32) (σ : aH) : Lq G d M_185 (29, [some (.ref 24), some (.int x1), some (.int x2)], [.ref 24], σ) = aCI (Rn G d 177 [.ref 24] σ) fun v2 σ1 => Lq G d M_185 (32, [some (.ref 24), some (.int x1), some (.int x2)], [.int v2], σ1) :=
  (aUn_eq (tkd G.1 G.2) tmi (aRun (tkd G.1 G.2) tmi tmt d) M_185 [] 1 (29, [some (.ref 24), some (.int x1), some (.int x2)], [.ref 24], σ)).trans rfl
set_option maxRecDepth 20000 in
theorem q_185_2586 (G : Nat × (Nat → Int32)) (d : Nat) (x1 : Int32) (x2 : Int32) (s0 : Int32) (σ : aH) : Lq G d M_185 (32, [some (.ref 24), some (.int x1), some (.int x2)], [.int s0], σ) = some (.inl (some (.int s0)), σ) :=
  (aUn_eq (tkd G.1 G.2) tmi (aRun (tkd G.1 G.2) tmi tmt d) M_185 [] 1 (32, [some (.ref 24), some (.int x1), some (.int x2)], [.int s0], σ)).trans rfl
set_option maxRecDepth 20000 in
theorem q_185_2587 (G : Nat × (Nat → Int32)) (d : Nat) (x1 : Int32) (x2 : Int32) (σ : aH) : Lq G d M_185 (33, [some (.ref 24), some (.int x1), some (.int x2)], [], σ) = Lq G d M_185 (43, [some (.ref 24), some (.int x1), some (.int x2)], [.int (((100 : Int32) * (σ.1 24 16)) / (1000000 : Int32))], σ) :=
  (aUn_eq (tkd G.1 G.2) tmi (aRun (tkd G.1 G.2) tmi tmt d) M_185 [] 6 (33, [some (.ref 24), some (.int x1), some (.int x2)], [], σ)).trans rfl
set_option maxRecDepth 20000 in
theorem q_185_2588 (G : Nat × (Nat → Int32)) (d : Nat) (x1 : Int32) (x2 : Int32) (s0 : Int32) (σ : aH) : Lq G d M_185 (43, [some (.ref 24), some (.int x1), some (.int x2)], [.int s0], σ) = some (.inl (some (.int s0)), σ) :=
  (aUn_eq (tkd G.1 G.2) tmi (aRun (tkd G.1 G.2) tmi tmt d) M_185 [] 1 (43, [some (.ref 24), some (.int x1), some (.int x2)], [.int s0], σ)).trans rfl
set_option maxRecDepth 20000 in
theorem q_185_2589 (G : Nat × (Nat → Int32)) (d : Nat) (x1 : Int32) (x2 : Int32) (σ : aH) : Lq G d M_185 (44, [some (.ref 24), some (.int x1), some (.int x2)], [], σ) = Lq G d M_185 (45, [some (.ref 24), some (.int x1), some (.int x2)], [.ref 24], σ) :=
  (aUn_eq (tkd G.1 G.2) tmi (aRun (tkd G.1 G.2) tmi tmt d) M_185 [] 1 (44, [some (.ref 24), some (.int x1), some (.int x2)], [], σ)).trans rfl
set_option maxRecDepth 20000 in
theorem q_185_2590 (G : Nat × (Nat → Int32)) (d : Nat) (x1 : Int32) (x2 : Int32) (σ : aH) : Lq G d M_185 (45, [some (.ref 24), some (.int x1), some (.int x2)], [.ref 24], σ) = aCI (Rn G d 186 [.ref 24] σ) fun v2 σ1 => Lq G d M_185 (48, [some (.ref 24), some (.int x1), some (.int x2)], [.int v2], σ1) :=
  (aUn_eq (tkd G.1 G.2) tmi (aRun (tkd G.1 G.2) tmi tmt d) M_185 [] 1 (45, [some (.ref 24), some (.int x1), some (.int x2)], [.ref 24], σ)).trans rfl
set_option maxRecDepth 20000 in
theorem q_185_2591 (G : Nat × (Nat → Int32)) (d : Nat) (x1 : Int32) (x2 : Int32) (s0 : Int32) (σ : aH) : Lq G d M_185 (48, [some (.ref 24), some (.int x1), some (.int x2)], [.int s0], σ) = some (.inl (some (.int s0)), σ) :=
  (aUn_eq (tkd G.1 G.2) tmi (aRun (tkd G.1 G.2) tmi tmt d) M_185 [] 1 (48, [some (.ref 24), some (.int x1), some (.int x2)], [.int s0], σ)).trans rfl
set_option maxRecDepth 20000 in
theorem q_185_2592 (G : Nat × (Nat → Int32)) (d : Nat) (x1 : Int32) (x2 : Int32) (σ : aH) : Lq G d M_185 (49, [some (.ref 24), some (.int x1), some (.int x2)], [], σ) = Lq G d M_185 (50, [some (.ref 24), some (.int x1), some (.int x2)], [.int x2], σ) :=
  (aUn_eq (tkd G.1 G.2) tmi (aRun (tkd G.1 G.2) tmi tmt d) M_185 [] 1 (49, [some (.ref 24), some (.int x1), some (.int x2)], [], σ)).trans rfl
set_option maxRecDepth 20000 in
theorem q_185_2593 (G : Nat × (Nat → Int32)) (d : Nat) (x1 : Int32) (x2 : Int32) (s0 : Int32) (σ : aH) : Lq G d M_185 (50, [some (.ref 24), some (.int x1), some (.int x2)], [.int s0], σ) = if s0 = 0 then Lq G d M_185 (68, [some (.ref 24), some (.int x1), some (.int x2)], [], σ) else Lq G d M_185 (53, [some (.ref 24), some (.int x1), some (.int x2)], [], σ) :=
  (aUn_eq (tkd G.1 G.2) tmi (aRun (tkd G.1 G.2) tmi tmt d) M_185 [] 1 (50, [some (.ref 24), some (.int x1), some (.int x2)], [.int s0], σ)).trans rfl
set_option maxRecDepth 20000 in
theorem q_185_2594 (G : Nat × (Nat → Int32)) (d : Nat) (x1 : Int32) (x2 : Int32) (σ : aH) : Lq G d M_185 (68, [some (.ref 24), some (.int x1), some (.int x2)], [], σ) = Lq G d M_185 (69, [some (.ref 24), some (.int x1), some (.int x2)], [.ref 24], σ) :=
  (aUn_eq (tkd G.1 G.2) tmi (aRun (tkd G.1 G.2) tmi tmt d) M_185 [] 1 (68, [some (.ref 24), some (.int x1), some (.int x2)], [], σ)).trans rfl
set_option maxRecDepth 20000 in
theorem q_185_2595 (G : Nat × (Nat → Int32)) (d : Nat) (x1 : Int32) (x2 : Int32) (σ : aH) : Lq G d M_185 (69, [some (.ref 24), some (.int x1), some (.int x2)], [.ref 24], σ) = aCI (Rn G d 187 [.ref 24] σ) fun v2 σ1 => Lq G d M_185 (72, [some (.ref 24), some (.int x1), some (.int x2)], [.int v2], σ1) :=
  (aUn_eq (tkd G.1 G.2) tmi (aRun (tkd G.1 G.2) tmi tmt d) M_185 [] 1 (69, [some (.ref 24), some (.int x1), some (.int x2)], [.ref 24], σ)).trans rfl
set_option maxRecDepth 20000 in
theorem q_185_2596 (G : Nat × (Nat → Int32)) (d : Nat) (x1 : Int32) (x2 : Int32) (s0 : Int32) (σ : aH) : Lq G d M_185 (72, [some (.ref 24), some (.int x1), some (.int x2)], [.int s0], σ) = some (.inl (some (.int s0)), σ) :=
  (aUn_eq (tkd G.1 G.2) tmi (aRun (tkd G.1 G.2) tmi tmt d) M_185 [] 1 (72, [some (.ref 24), some (.int x1), some (.int x2)], [.int s0], σ)).trans rfl
set_option maxRecDepth 20000 in
theorem q_185_2597 (G : Nat × (Nat → Int32)) (d : Nat) (x1 : Int32) (x2 : Int32) (σ : aH) : Lq G d M_185 (53, [some (.ref 24), some (.int x1), some (.int x2)], [], σ) = Lq G d M_185 (72, [some (.ref 24), some (.int x1), some (.int x2)], [.int ((((6 : Int32) * (σ.1 24 4)) / (100 : Int32)) - (3 : Int32))], σ) :=
  (aUn_eq (tkd G.1 G.2) tmi (aRun (tkd G.1 G.2) tmi tmt d) M_185 [] 9 (53, [some (.ref 24), some (.int x1), some (.int x2)], [], σ)).trans rfl
set_option maxRecDepth 20000 in
theorem q_189_2598 (G : Nat × (Nat → Int32)) (d : Nat) (x1 : Int32) (x2 : Int32) (σ : aH) : Lq G d M_189 (0, [some (.ref 33), some (.int x1), some (.int x2)], [], σ) = Lq G d M_189 (3, [some (.ref 33), some (.int x1), some (.int x2)], [.int (12 : Int32), .int x2], σ) :=
  (aUn_eq (tkd G.1 G.2) tmi (aRun (tkd G.1 G.2) tmi tmt d) M_189 [] 2 (0, [some (.ref 33), some (.int x1), some (.int x2)], [], σ)).trans rfl
set_option maxRecDepth 20000 in
theorem q_189_2599 (G : Nat × (Nat → Int32)) (d : Nat) (x1 : Int32) (x2 : Int32) (s0 : Int32) (s1 : Int32) (σ : aH) : Lq G d M_189 (3, [some (.ref 33), some (.int x1), some (.int x2)], [.int s0, .int s1], σ) = if s0 ≤ s1 then Lq G d M_189 (38, [some (.ref 33), some (.int x1), some (.int x2)], [], σ) else Lq G d M_189 (6, [some (.ref 33), some (.int x1), some (.int x2)], [], σ) :=
  (aUn_eq (tkd G.1 G.2) tmi (aRun (tkd G.1 G.2) tmi tmt d) M_189 [] 1 (3, [some (.ref 33), some (.int x1), some (.int x2)], [.int s0, .int s1], σ)).trans rfl
set_option maxRecDepth 20000 in
theorem q_189_2600 (G : Nat × (Nat → Int32)) (d : Nat) (x1 : Int32) (x2 : Int32) (σ : aH) : Lq G d M_189 (38, [some (.ref 33), some (.int x1), some (.int x2)], [], σ) = Lq G d M_189 (41, [some (.ref 33), some (.int x1), some (.int x2)], [.int (20 : Int32), .int x2], σ) :=
  (aUn_eq (tkd G.1 G.2) tmi (aRun (tkd G.1 G.2) tmi tmt d) M_189 [] 2 (38, [some (.ref 33), some (.int x1), some (.int x2)], [], σ)).trans rfl
set_option maxRecDepth 20000 in
theorem q_189_2601 (G : Nat × (Nat → Int32)) (d : Nat) (x1 : Int32) (x2 : Int32) (s0 : Int32) (s1 : Int32) (σ : aH) : Lq G d M_189 (41, [some (.ref 33), some (.int x1), some (.int x2)], [.int s0, .int s1], σ) = if s1 = s0 then Lq G d M_189 (44, [some (.ref 33), some (.int x1), some (.int x2)], [], σ) else Lq G d M_189 (52, [some (.ref 33), some (.int x1), some (.int x2)], [], σ) :=
  (aUn_eq (tkd G.1 G.2) tmi (aRun (tkd G.1 G.2) tmi tmt d) M_189 [] 1 (41, [some (.ref 33), some (.int x1), some (.int x2)], [.int s0, .int s1], σ)).trans rfl
set_option maxRecDepth 20000 in
theorem q_189_2602 (G : Nat × (Nat → Int32)) (d : Nat) (x1 : Int32) (x2 : Int32) (σ : aH) : Lq G d M_189 (44, [some (.ref 33), some (.int x1), some (.int x2)], [], σ) = Lq G d M_189 (46, [some (.ref 33), some (.int x1), some (.int x2)], [.int x1, .ref 33], σ) :=
  (aUn_eq (tkd G.1 G.2) tmi (aRun (tkd G.1 G.2) tmi tmt d) M_189 [] 2 (44, [some (.ref 33), some (.int x1), some (.int x2)], [], σ)).trans rfl
set_option maxRecDepth 20000 in
theorem q_189_2603 (G : Nat × (Nat → Int32)) (d : Nat) (x1 : Int32) (x2 : Int32) (s0 : Int32) (σ : aH) : Lq G d M_189 (46, [some (.ref 33), some (.int x1), some (.int x2)], [.int s0, .ref 33], σ) = aCI (Rn G d 180 [.ref 33, .int s0] σ) fun v2 σ1 => Lq G d M_189 (49, [some (.ref 33), some (.int x1), some (.int x2)], [.int v2], σ1) :=
  (aUn_eq (tkd G.1 G.2) tmi (aRun (tkd G.1 G.2) tmi tmt d) M_189 [] 1 (46, [some (.ref 33), some (.int x1), some (.int x2)], [.int s0, .ref 33], σ)).trans rfl
set_option maxRecDepth 20000 in
theorem q_189_2604 (G : Nat × (Nat → Int32)) (d : Nat) (x1 : Int32) (x2 : Int32) (s0 : Int32) (σ : aH) : Lq G d M_189 (49, [some (.ref 33), some (.int x1), some (.int x2)], [.int s0], σ) = Lq G d M_189 (81, [some (.ref 33), some (.int x1), some (.int x2)], [.int s0], σ) :=
  (aUn_eq (tkd G.1 G.2) tmi (aRun (tkd G.1 G.2) tmi tmt d) M_189 [] 1 (49, [some (.ref 33), some (.int x1), some (.int x2)], [.int s0], σ)).trans rfl
set_option maxRecDepth 20000 in
theorem q_189_2605 (G : Nat × (Nat → Int32)) (d : Nat) (x1 : Int32) (x2 : Int32) (s0 : Int32) (σ : aH) : Lq G d M_189 (81, [some (.ref 33), some (.int x1), some (.int x2)], [.int s0], σ) = some (.inl (some (.int s0)), σ) :=
  (aUn_eq (tkd G.1 G.2) tmi (aRun (tkd G.1 G.2) tmi tmt d) M_189 [] 1 (81, [some (.ref 33), some (.int x1), some (.int x2)], [.int s0], σ)).trans rfl
set_option maxRecDepth 20000 in
theorem q_189_2606 (G : Nat × (Nat → Int32)) (d : Nat) (x1 : Int32) (x2 : Int32) (σ : aH) : Lq G d M_189 (52, [some (.ref 33), some (.int x1), some (.int x2)], [], σ) = Lq G d M_189 (55, [some (.ref 33), some (.int x1), some (.int x2)], [.int (21 : Int32), .int x2], σ) :=
  (aUn_eq (tkd G.1 G.2) tmi (aRun (tkd G.1 G.2) tmi tmt d) M_189 [] 2 (52, [some (.ref 33), some (.int x1), some (.int x2)], [], σ)).trans rfl
set_option maxRecDepth 20000 in
theorem q_189_2607 (G : Nat × (Nat → Int32)) (d : Nat) (x1 : Int32) (x2 : Int32) (s0 : Int32) (s1 : Int32) (σ : aH) : Lq G d M_189 (55, [some (.ref 33), some (.int x1), some (.int x2)], [.int s0, .int s1], σ) = if s1 = s0 then Lq G d M_189 (58, [some (.ref 33), some (.int x1), some (.int x2)], [], σ) else Lq G d M_189 (76, [some (.ref 33), some (.int x1), some (.int x2)], [], σ) :=
  (aUn_eq (tkd G.1 G.2) tmi (aRun (tkd G.1 G.2) tmi tmt d) M_189 [] 1 (55, [some (.ref 33), some (.int x1), some (.int x2)], [.int s0, .int s1], σ)).trans rfl
set_option maxRecDepth 20000 in
theorem q_189_2608 (G : Nat × (Nat → Int32)) (d : Nat) (x1 : Int32) (x2 : Int32) (σ : aH) : Lq G d M_189 (58, [some (.ref 33), some (.int x1), some (.int x2)], [], σ) = Lq G d M_189 (63, [some (.ref 33), some (.int x1), some (.int x2)], [.int x1, .ref 33, .long (100 : Int64)], σ) :=
  (aUn_eq (tkd G.1 G.2) tmi (aRun (tkd G.1 G.2) tmi tmt d) M_189 [] 3 (58, [some (.ref 33), some (.int x1), some (.int x2)], [], σ)).trans rfl
set_option maxRecDepth 20000 in
theorem q_189_2609 (G : Nat × (Nat → Int32)) (d : Nat) (x1 : Int32) (x2 : Int32) (s0 : Int32) (s2 : Int64) (σ : aH) : Lq G d M_189 (63, [some (.ref 33), some (.int x1), some (.int x2)], [.int s0, .ref 33, .long s2], σ) = aCI (Rn G d 179 [.ref 33, .int s0] σ) fun v2 σ1 => Lq G d M_189 (66, [some (.ref 33), some (.int x1), some (.int x2)], [.int v2, .long s2], σ1) :=
  (aUn_eq (tkd G.1 G.2) tmi (aRun (tkd G.1 G.2) tmi tmt d) M_189 [] 1 (63, [some (.ref 33), some (.int x1), some (.int x2)], [.int s0, .ref 33, .long s2], σ)).trans rfl
set_option maxRecDepth 20000 in
theorem q_189_2610 (G : Nat × (Nat → Int32)) (d : Nat) (x1 : Int32) (x2 : Int32) (s0 : Int32) (s1 : Int64) (σ : aH) : Lq G d M_189 (66, [some (.ref 33), some (.int x1), some (.int x2)], [.int s0, .long s1], σ) = Lq G d M_189 (81, [some (.ref 33), some (.int x1), some (.int x2)], [.int (((s1 * (s0).toInt64) / (1000000 : Int64))).toInt32], σ) :=
  (aUn_eq (tkd G.1 G.2) tmi (aRun (tkd G.1 G.2) tmi tmt d) M_189 [] 6 (66, [some (.ref 33), some (.int x1), some (.int x2)], [.int s0, .long s1], σ)).trans rfl
set_option maxRecDepth 20000 in
theorem q_189_2611 (G : Nat × (Nat → Int32)) (d : Nat) (x1 : Int32) (x2 : Int32) (σ : aH) : Lq G d M_189 (76, [some (.ref 33), some (.int x1), some (.int x2)], [], σ) = Lq G d M_189 (78, [some (.ref 33), some (.int x1), some (.int x2)], [.int x1, .ref 33], σ) :=
  (aUn_eq (tkd G.1 G.2) tmi (aRun (tkd G.1 G.2) tmi tmt d) M_189 [] 2 (76, [some (.ref 33), some (.int x1), some (.int x2)], [], σ)).trans rfl
set_option maxRecDepth 20000 in
theorem q_189_2612 (G : Nat × (Nat → Int32)) (d : Nat) (x1 : Int32) (x2 : Int32) (s0 : Int32) (σ : aH) : Lq G d M_189 (78, [some (.ref 33), some (.int x1), some (.int x2)], [.int s0, .ref 33], σ) = aCI (Rn G d 191 [.ref 33, .int s0] σ) fun v2 σ1 => Lq G d M_189 (81, [some (.ref 33), some (.int x1), some (.int x2)], [.int v2], σ1) :=
  (aUn_eq (tkd G.1 G.2) tmi (aRun (tkd G.1 G.2) tmi tmt d) M_189 [] 1 (78, [some (.ref 33), some (.int x1), some (.int x2)], [.int s0, .ref 33], σ)).trans rfl
set_option maxRecDepth 20000 in
theorem q_189_2613 (G : Nat × (Nat → Int32)) (d : Nat) (x1 : Int32) (x2 : Int32) (σ : aH) : Lq G d M_189 (6, [some (.ref 33), some (.int x1), some (.int x2)], [], σ) = Lq G d M_189 (11, [some (.ref 33), some (.int x1), some (.int x2)], [.int x2, .ref 39], σ) :=
  (aUn_eq (tkd G.1 G.2) tmi (aRun (tkd G.1 G.2) tmi tmt d) M_189 [] 3 (6, [some (.ref 33), some (.int x1), some (.int x2)], [], σ)).trans rfl
set_option maxRecDepth 20000 in
theorem q_189_2614 (G : Nat × (Nat → Int32)) (d : Nat) (x1 : Int32) (x2 : Int32) (s0 : Int32) (σ : aH) : Lq G d M_189 (11, [some (.ref 33), some (.int x1), some (.int x2)], [.int s0, .ref 39], σ) = aIx (s0) 12 fun j1 => Lq G d M_189 (12, [some (.ref 33), some (.int x1), some (.int x2)], [.int (σ.1 39 j1)], σ) :=
  (aUn_eq (tkd G.1 G.2) tmi (aRun (tkd G.1 G.2) tmi tmt d) M_189 [] 1 (11, [some (.ref 33), some (.int x1), some (.int x2)], [.int s0, .ref 39], σ)).trans rfl
set_option maxRecDepth 20000 in
theorem q_189_2615 (G : Nat × (Nat → Int32)) (d : Nat) (x1 : Int32) (x2 : Int32) (s0 : Int32) (σ : aH) : Lq G d M_189 (12, [some (.ref 33), some (.int x1), some (.int x2)], [.int s0], σ) = if s0 = 0 then Lq G d M_189 (32, [some (.ref 33), some (.int x1), some (.int x2)], [], σ) else Lq G d M_189 (15, [some (.ref 33), some (.int x1), some (.int x2)], [], σ) :=
  (aUn_eq (tkd G.1 G.2) tmi (aRun (tkd G.1 G.2) tmi tmt d) M_189 [] 1 (12, [some (.ref 33), some (.int x1), some (.int x2)], [.int s0], σ)).trans rfl
set_option maxRecDepth 20000 in
theorem q_189_2616 (G : Nat × (Nat → Int32)) (d : Nat) (x1 : Int32) (x2 : Int32) (σ : aH) : Lq G d M_189 (32, [some (.ref 33), some (.int x1), some (.int x2)], [], σ) = Lq G d M_189 (34, [some (.ref 33), some (.int x1), some (.int x2)], [.int x1, .ref 33], σ) :=
  (aUn_eq (tkd G.1 G.2) tmi (aRun (tkd G.1 G.2) tmi tmt d) M_189 [] 2 (32, [some (.ref 33), some (.int x1), some (.int x2)], [], σ)).trans rfl
set_option maxRecDepth 20000 in
theorem q_189_2617 (G : Nat × (Nat → Int32)) (d : Nat) (x1 : Int32) (x2 : Int32) (s0 : Int32) (σ : aH) : Lq G d M_189 (34, [some (.ref 33), some (.int x1), some (.int x2)], [.int s0, .ref 33], σ) = aCI (Rn G d 190 [.ref 33, .int s0] σ) fun v2 σ1 => Lq G d M_189 (37, [some (.ref 33), some (.int x1), some (.int x2)], [.int v2], σ1) :=
  (aUn_eq (tkd G.1 G.2) tmi (aRun (tkd G.1 G.2) tmi tmt d) M_189 [] 1 (34, [some (.ref 33), some (.int x1), some (.int x2)], [.int s0, .ref 33], σ)).trans rfl
set_option maxRecDepth 20000 in
theorem q_189_2618 (G : Nat × (Nat → Int32)) (d : Nat) (x1 : Int32) (x2 : Int32) (s0 : Int32) (σ : aH) : Lq G d M_189 (37, [some (.ref 33), some (.int x1), some (.int x2)], [.int s0], σ) = some (.inl (some (.int s0)), σ) :=
  (aUn_eq (tkd G.1 G.2) tmi (aRun (tkd G.1 G.2) tmi tmt d) M_189 [] 1 (37, [some (.ref 33), some (.int x1), some (.int x2)], [.int s0], σ)).trans rfl
set_option maxRecDepth 20000 in
theorem q_189_2619 (G : Nat × (Nat → Int32)) (d : Nat) (x1 : Int32) (x2 : Int32) (σ : aH) : Lq G d M_189 (15, [some (.ref 33), some (.int x1), some (.int x2)], [], σ) = Lq G d M_189 (37, [some (.ref 33), some (.int x1), some (.int x2)], [.int ((((6 : Int32) * (σ.1 50 4)) / (100 : Int32)) - (3 : Int32))], σ) :=
  (aUn_eq (tkd G.1 G.2) tmi (aRun (tkd G.1 G.2) tmi tmt d) M_189 [] 11 (15, [some (.ref 33), some (.int x1), some (.int x2)], [], σ)).trans rfl
set_option maxRecDepth 20000 in
theorem q_100_2620 (G : Nat × (Nat → Int32)) (d : Nat) (x1 : Int32) (x2 : Int32) (x3 : Int32) (σ : aH) : Lq G d M_100 (0, [some (.ref 13), some (.int x1), some (.int x2), some (.int x3), none], [], σ) = Lq G d M_100 (3, [some (.ref 13), some (.int x1), some (.int x2), some (.int x3), some (.int (0 : Int32))], [], σ) :=
  (aUn_eq (tkd G.1 G.2) tmi (aRun (tkd G.1 G.2) tmi tmt d) M_100 [] 2 (0, [some (.ref 13), some (.int x1), some (.int x2), some (.int x3), none], [], σ)).trans rfl
set_option maxRecDepth 20000 in
theorem q_100_2621 (G : Nat × (Nat → Int32)) (d : Nat) (x1 : Int32) (x2 : Int32) (x3 : Int32) (x4 : Int32) (σ : aH) : Lq G d M_100 (3, [some (.ref 13), some (.int x1), some (.int x2), some (.int x3), some (.int x4)], [], σ) = Lq G d M_100 (7, [some (.ref 13), some (.int x1), some (.int x2), some (.int x3), some (.int x4)], [.int (15 : Int32), .int x4], σ) :=
  (aUn_eq (tkd G.1 G.2) tmi (aRun (tkd G.1 G.2) tmi tmt d) M_100 [] 2 (3, [some (.ref 13), some (.int x1), some (.int x2), some (.int x3), some (.int x4)], [], σ)).trans rfl
set_option maxRecDepth 20000 in
theorem q_100_2622 (G : Nat × (Nat → Int32)) (d : Nat) (x1 : Int32) (x2 : Int32) (x3 : Int32) (x4 : Int32) (s0 : Int32) (s1 : Int32) (σ : aH) : Lq G d M_100 (7, [some (.ref 13), some (.int x1), some (.int x2), some (.int x3), some (.int x4)], [.int s0, .int s1], σ) = if s0 ≤ s1 then Lq G d M_100 (24, [some (.ref 13), some (.int x1), some (.int x2), some (.int x3), some (.int x4)], [], σ) else Lq G d M_100 (10, [some (.ref 13), some (.int x1), some (.int x2), some (.int x3), some (.int x4)], [], σ) :=
  (aUn_eq (tkd G.1 G.2) tmi (aRun (tkd G.1 G.2) tmi tmt d) M_100 [] 1 (7, [some (.ref 13), some (.int x1), some (.int x2), some (.int x3), some (.int x4)], [.int s0, .int s1], σ)).trans rfl
set_option maxRecDepth 20000 in
theorem q_100_2623 (G : Nat × (Nat → Int32)) (d : Nat) (x1 : Int32) (x2 : Int32) (x3 : Int32) (x4 : Int32) (σ : aH) : Lq G d M_100 (24, [some (.ref 13), some (.int x1), some (.int x2), some (.int x3), some (.int x4)], [], σ) = Lq G d M_100 (30, [some (.ref 13), some (.int x1), some (.int x2), some (.int x3), some (.int x4)], [.int (100 : Int32), .int (15 : Int32), .int x1, .ref 13], σ) :=
  (aUn_eq (tkd G.1 G.2) tmi (aRun (tkd G.1 G.2) tmi tmt d) M_100 [] 4 (24, [some (.ref 13), some (.int x1), some (.int x2), some (.int x3), some (.int x4)], [], σ)).trans rfl
set_option maxRecDepth 20000 in
theorem q_100_2624 (G : Nat × (Nat → Int32)) (d : Nat) (x1 : Int32) (x2 : Int32) (x3 : Int32) (x4 : Int32) (s0 : Int32) (s1 : Int32) (s2 : Int32) (σ : aH) : Lq G d M_100 (30, [some (.ref 13), some (.int x1), some (.int x2), some (.int x3), some (.int x4)], [.int s0, .int s1, .int s2, .ref 13], σ) = aCV (Rn G d 101 [.ref 13, .int s2, .int s1, .int s0] σ) fun σ1 => Lq G d M_100 (33, [some (.ref 13), some (.int x1), some (.int x2), some (.int x3), some (.int x4)], [], σ1) :=
  (aUn_eq (tkd G.1 G.2) tmi (aRun (tkd G.1 G.2) tmi tmt d) M_100 [] 1 (30, [some (.ref 13), some (.int x1), some (.int x2), some (.int x3), some (.int x4)], [.int s0, .int s1, .int s2, .ref 13], σ)).trans rfl
set_option maxRecDepth 20000 in
theorem q_100_2625 (G : Nat × (Nat → Int32)) (d : Nat) (x1 : Int32) (x2 : Int32) (x3 : Int32) (x4 : Int32) (σ : aH) : Lq G d M_100 (33, [some (.ref 13), some (.int x1), some (.int x2), some (.int x3), some (.int x4)], [], σ) = Lq G d M_100 (38, [some (.ref 13), some (.int x1), some (.int x2), some (.int x3), some (.int x4)], [.int x2, .int (16 : Int32), .int x1, .ref 13], σ) :=
  (aUn_eq (tkd G.1 G.2) tmi (aRun (tkd G.1 G.2) tmi tmt d) M_100 [] 4 (33, [some (.ref 13), some (.int x1), some (.int x2), some (.int x3), some (.int x4)], [], σ)).trans rfl
set_option maxRecDepth 20000 in
theorem q_100_2626 (G : Nat × (Nat → Int32)) (d : Nat) (x1 : Int32) (x2 : Int32) (x3 : Int32) (x4 : Int32) (s0 : Int32) (s1 : Int32) (s2 : Int32) (σ : aH) : Lq G d M_100 (38, [some (.ref 13), some (.int x1), some (.int x2), some (.int x3), some (.int x4)], [.int s0, .int s1, .int s2, .ref 13], σ) = aCV (Rn G d 101 [.ref 13, .int s2, .int s1, .int s0] σ) fun σ1 => Lq G d M_100 (41, [some (.ref 13), some (.int x1), some (.int x2), some (.int x3), some (.int x4)], [], σ1) :=
  (aUn_eq (tkd G.1 G.2) tmi (aRun (tkd G.1 G.2) tmi tmt d) M_100 [] 1 (38, [some (.ref 13), some (.int x1), some (.int x2), some (.int x3), some (.int x4)], [.int s0, .int s1, .int s2, .ref 13], σ)).trans rfl
set_option maxRecDepth 20000 in
theorem q_100_2627 (G : Nat × (Nat → Int32)) (d : Nat) (x1 : Int32) (x2 : Int32) (x3 : Int32) (x4 : Int32) (σ : aH) : Lq G d M_100 (41, [some (.ref 13), some (.int x1), some (.int x2), some (.int x3), some (.int x4)], [], σ) = Lq G d M_100 (46, [some (.ref 13), some (.int x1), some (.int x2), some (.int x3), some (.int x4)], [.int x3, .int (17 : Int32), .int x1, .ref 13], σ) :=
  (aUn_eq (tkd G.1 G.2) tmi (aRun (tkd G.1 G.2) tmi tmt d) M_100 [] 4 (41, [some (.ref 13), some (.int x1), some (.int x2), some (.int x3), some (.int x4)], [], σ)).trans rfl
set_option maxRecDepth 20000 in
theorem q_100_2628 (G : Nat × (Nat → Int32)) (d : Nat) (x1 : Int32) (x2 : Int32) (x3 : Int32) (x4 : Int32) (s0 : Int32) (s1 : Int32) (s2 : Int32) (σ : aH) : Lq G d M_100 (46, [some (.ref 13), some (.int x1), some (.int x2), some (.int x3), some (.int x4)], [.int s0, .int s1, .int s2, .ref 13], σ) = aCV (Rn G d 101 [.ref 13, .int s2, .int s1, .int s0] σ) fun σ1 => Lq G d M_100 (49, [some (.ref 13), some (.int x1), some (.int x2), some (.int x3), some (.int x4)], [], σ1) :=
  (aUn_eq (tkd G.1 G.2) tmi (aRun (tkd G.1 G.2) tmi tmt d) M_100 [] 1 (46, [some (.ref 13), some (.int x1), some (.int x2), some (.int x3), some (.int x4)], [.int s0, .int s1, .int s2, .ref 13], σ)).trans rfl
set_option maxRecDepth 20000 in
theorem q_100_2629 (G : Nat × (Nat → Int32)) (d : Nat) (x1 : Int32) (x2 : Int32) (x3 : Int32) (x4 : Int32) (σ : aH) : Lq G d M_100 (49, [some (.ref 13), some (.int x1), some (.int x2), some (.int x3), some (.int x4)], [], σ) = some (.inl none, σ) :=
  (aUn_eq (tkd G.1 G.2) tmi (aRun (tkd G.1 G.2) tmi tmt d) M_100 [] 1 (49, [some (.ref 13), some (.int x1), some (.int x2), some (.int x3), some (.int x4)], [], σ)).trans rfl
set_option maxRecDepth 20000 in
theorem q_100_2630 (G : Nat × (Nat → Int32)) (d : Nat) (x1 : Int32) (x2 : Int32) (x3 : Int32) (x4 : Int32) (σ : aH) : Lq G d M_100 (10, [some (.ref 13), some (.int x1), some (.int x2), some (.int x3), some (.int x4)], [], σ) = Lq G d M_100 (15, [some (.ref 13), some (.int x1), some (.int x2), some (.int x3), some (.int x4)], [.int (0 : Int32), .int x4, .int x1, .ref 13], σ) :=
  (aUn_eq (tkd G.1 G.2) tmi (aRun (tkd G.1 G.2) tmi tmt d) M_100 [] 4 (10, [some (.ref 13), some (.int x1), some (.int x2), some (.int x3), some (.int x4)], [], σ)).trans rfl
set_option maxRecDepth 20000 in
theorem q_100_2631 (G : Nat × (Nat → Int32)) (d : Nat) (x1 : Int32) (x2 : Int32) (x3 : Int32) (x4 : Int32) (s0 : Int32) (s1 : Int32) (s2 : Int32) (σ : aH) : Lq G d M_100 (15, [some (.ref 13), some (.int x1), some (.int x2), some (.int x3), some (.int x4)], [.int s0, .int s1, .int s2, .ref 13], σ) = aCV (Rn G d 101 [.ref 13, .int s2, .int s1, .int s0] σ) fun σ1 => Lq G d M_100 (18, [some (.ref 13), some (.int x1), some (.int x2), some (.int x3), some (.int x4)], [], σ1) :=
  (aUn_eq (tkd G.1 G.2) tmi (aRun (tkd G.1 G.2) tmi tmt d) M_100 [] 1 (15, [some (.ref 13), some (.int x1), some (.int x2), some (.int x3), some (.int x4)], [.int s0, .int s1, .int s2, .ref 13], σ)).trans rfl
set_option maxRecDepth 20000 in
theorem q_100_2632 (G : Nat × (Nat → Int32)) (d : Nat) (x1 : Int32) (x2 : Int32) (x3 : Int32) (x4 : Int32) (σ : aH) : Lq G d M_100 (18, [some (.ref 13), some (.int x1), some (.int x2), some (.int x3), some (.int x4)], [], σ) = Lq G d M_100 (3, [some (.ref 13), some (.int x1), some (.int x2), some (.int x3), some (.int (x4 + (1 : Int32)))], [], σ) :=
  (aUn_eq (tkd G.1 G.2) tmi (aRun (tkd G.1 G.2) tmi tmt d) M_100 [] 2 (18, [some (.ref 13), some (.int x1), some (.int x2), some (.int x3), some (.int x4)], [], σ)).trans rfl
set_option maxRecDepth 20000 in
theorem q_58_2633 (G : Nat × (Nat → Int32)) (d : Nat) (x1 : Int32) (σ : aH) : Lq G d M_58 (0, [some (.ref 0), some (.int x1)], [], σ) = Lq G d M_58 (10, [some (.ref 0), some (.int x1)], [.int x1, .ref 27, .int x1, .ref 27], σ) :=
  (aUn_eq (tkd G.1 G.2) tmi (aRun (tkd G.1 G.2) tmi tmt d) M_58 [] 6 (0, [some (.ref 0), some (.int x1)], [], σ)).trans rfl
set_option maxRecDepth 20000 in
theorem q_58_2634 (G : Nat × (Nat → Int32)) (d : Nat) (x1 : Int32) (s0 : Int32) (s2 : Int32) (σ : aH) : Lq G d M_58 (10, [some (.ref 0), some (.int x1)], [.int s0, .ref 27, .int s2, .ref 27], σ) = aCI (Rn G d 32 [.ref 27, .int s0] σ) fun v2 σ1 => Lq G d M_58 (13, [some (.ref 0), some (.int x1)], [.int v2, .int s2, .ref 27], σ1) :=
  (aUn_eq (tkd G.1 G.2) tmi (aRun (tkd G.1 G.2) tmi tmt d) M_58 [] 1 (10, [some (.ref 0), some (.int x1)], [.int s0, .ref 27, .int s2, .ref 27], σ)).trans rfl
set_option maxRecDepth 20000 in
theorem q_58_2635 (G : Nat × (Nat → Int32)) (d : Nat) (x1 : Int32) (s0 : Int32) (s1 : Int32) (σ : aH) : Lq G d M_58 (13, [some (.ref 0), some (.int x1)], [.int s0, .int s1, .ref 27], σ) = Lq G d M_58 (15, [some (.ref 0), some (.int x1)], [.int (s0 + (1 : Int32)), .int s1, .ref 27], σ) :=
  (aUn_eq (tkd G.1 G.2) tmi (aRun (tkd G.1 G.2) tmi tmt d) M_58 [] 2 (13, [some (.ref 0), some (.int x1)], [.int s0, .int s1, .ref 27], σ)).trans rfl
set_option maxRecDepth 20000 in
theorem q_58_2636 (G : Nat × (Nat → Int32)) (d : Nat) (x1 : Int32) (s0 : Int32) (s1 : Int32) (σ : aH) : Lq G d M_58 (15, [some (.ref 0), some (.int x1)], [.int s0, .int s1, .ref 27], σ) = aCV (Rn G d 24 [.ref 27, .int s1, .int s0] σ) fun σ1 => Lq G d M_58 (18, [some (.ref 0), some (.int x1)], [], σ1) :=
  (aUn_eq (tkd G.1 G.2) tmi (aRun (tkd G.1 G.2) tmi tmt d) M_58 [] 1 (15, [some (.ref 0), some (.int x1)], [.int s0, .int s1, .ref 27], σ)).trans rfl
set_option maxRecDepth 20000 in
theorem q_58_2637 (G : Nat × (Nat → Int32)) (d : Nat) (x1 : Int32) (σ : aH) : Lq G d M_58 (18, [some (.ref 0), some (.int x1)], [], σ) = some (.inl none, σ) :=
  (aUn_eq (tkd G.1 G.2) tmi (aRun (tkd G.1 G.2) tmi tmt d) M_58 [] 1 (18, [some (.ref 0), some (.int x1)], [], σ)).trans rfl
set_option maxRecDepth 20000 in
theorem q_195_2638 (G : Nat × (Nat → Int32)) (d : Nat) (x1 : Int32) (x2 : Int32) (σ : aH) : Lq G d M_195 (0, [some (.ref 33), some (.int x1), some (.int x2), none], [], σ) = Lq G d M_195 (2, [some (.ref 33), some (.int x1), some (.int x2), some (.int (0 : Int32))], [], σ) :=
  (aUn_eq (tkd G.1 G.2) tmi (aRun (tkd G.1 G.2) tmi tmt d) M_195 [] 2 (0, [some (.ref 33), some (.int x1), some (.int x2), none], [], σ)).trans rfl
set_option maxRecDepth 20000 in
theorem q_195_2639 (G : Nat × (Nat → Int32)) (d : Nat) (x1 : Int32) (x2 : Int32) (x3 : Int32) (σ : aH) : Lq G d M_195 (2, [some (.ref 33), some (.int x1), some (.int x2), some (.int x3)], [], σ) = Lq G d M_195 (5, [some (.ref 33), some (.int x1), some (.int x2), some (.int x3)], [.int (17 : Int32), .int x3], σ) :=
  (aUn_eq (tkd G.1 G.2) tmi (aRun (tkd G.1 G.2) tmi tmt d) M_195 [] 2 (2, [some (.ref 33), some (.int x1), some (.int x2), some (.int x3)], [], σ)).trans rfl
set_option maxRecDepth 20000 in
theorem q_195_2640 (G : Nat × (Nat → Int32)) (d : Nat) (x1 : Int32) (x2 : Int32) (x3 : Int32) (s0 : Int32) (s1 : Int32) (σ : aH) : Lq G d M_195 (5, [some (.ref 33), some (.int x1), some (.int x2), some (.int x3)], [.int s0, .int s1], σ) = if s0 ≤ s1 then Lq G d M_195 (29, [some (.ref 33), some (.int x1), some (.int x2), some (.int x3)], [], σ) else Lq G d M_195 (8, [some (.ref 33), some (.int x1), some (.int x2), some (.int x3)], [], σ) :=
  (aUn_eq (tkd G.1 G.2) tmi (aRun (tkd G.1 G.2) tmi tmt d) M_195 [] 1 (5, [some (.ref 33), some (.int x1), some (.int x2), some (.int x3)], [.int s0, .int s1], σ)).trans rfl
set_option maxRecDepth 20000 in
theorem q_195_2641 (G : Nat × (Nat → Int32)) (d : Nat) (x1 : Int32) (x2 : Int32) (x3 : Int32) (σ : aH) : Lq G d M_195 (29, [some (.ref 33), some (.int x1), some (.int x2), some (.int x3)], [], σ) = Lq G d M_195 (44, [some (.ref 33), some (.int x1), some (.int x2), some (.int x3)], [.int x1, .int (((17 : Int32) * (σ.1 33 12)) + (15 : Int32)), .ref 40], σ) :=
  (aUn_eq (tkd G.1 G.2) tmi (aRun (tkd G.1 G.2) tmi tmt d) M_195 [] 9 (29, [some (.ref 33), some (.int x1), some (.int x2), some (.int x3)], [], σ)).trans rfl
set_option maxRecDepth 20000 in
theorem q_195_2642 (G : Nat × (Nat → Int32)) (d : Nat) (x1 : Int32) (x2 : Int32) (x3 : Int32) (s0 : Int32) (s1 : Int32) (σ : aH) : Lq G d M_195 (44, [some (.ref 33), some (.int x1), some (.int x2), some (.int x3)], [.int s0, .int s1, .ref 40], σ) = aIx (s1) 1020 fun j1 => Lq G d M_195 (45, [some (.ref 33), some (.int x1), some (.int x2), some (.int x3)], [], (aSI σ 40 j1 s0)) :=
  (aUn_eq (tkd G.1 G.2) tmi (aRun (tkd G.1 G.2) tmi tmt d) M_195 [] 1 (44, [some (.ref 33), some (.int x1), some (.int x2), some (.int x3)], [.int s0, .int s1, .ref 40], σ)).trans rfl
set_option maxRecDepth 20000 in
theorem q_195_2643 (G : Nat × (Nat → Int32)) (d : Nat) (x1 : Int32) (x2 : Int32) (x3 : Int32) (σ : aH) : Lq G d M_195 (45, [some (.ref 33), some (.int x1), some (.int x2), some (.int x3)], [], σ) = Lq G d M_195 (60, [some (.ref 33), some (.int x1), some (.int x2), some (.int x3)], [.int x2, .int (((17 : Int32) * (σ.1 33 12)) + (16 : Int32)), .ref 40], σ) :=
  (aUn_eq (tkd G.1 G.2) tmi (aRun (tkd G.1 G.2) tmi tmt d) M_195 [] 9 (45, [some (.ref 33), some (.int x1), some (.int x2), some (.int x3)], [], σ)).trans rfl
set_option maxRecDepth 20000 in
theorem q_195_2644 (G : Nat × (Nat → Int32)) (d : Nat) (x1 : Int32) (x2 : Int32) (x3 : Int32) (s0 : Int32) (s1 : Int32) (σ : aH) : Lq G d M_195 (60, [some (.ref 33), some (.int x1), some (.int x2), some (.int x3)], [.int s0, .int s1, .ref 40], σ) = aIx (s1) 1020 fun j1 => Lq G d M_195 (61, [some (.ref 33), some (.int x1), some (.int x2), some (.int x3)], [], (aSI σ 40 j1 s0)) :=
  (aUn_eq (tkd G.1 G.2) tmi (aRun (tkd G.1 G.2) tmi tmt d) M_195 [] 1 (60, [some (.ref 33), some (.int x1), some (.int x2), some (.int x3)], [.int s0, .int s1, .ref 40], σ)).trans rfl
set_option maxRecDepth 20000 in
theorem q_195_2645 (G : Nat × (Nat → Int32)) (d : Nat) (x1 : Int32) (x2 : Int32) (x3 : Int32) (σ : aH) : Lq G d M_195 (61, [some (.ref 33), some (.int x1), some (.int x2), some (.int x3)], [], σ) = Lq G d M_195 (70, [some (.ref 33), some (.int x1), some (.int x2), some (.int x3)], [.int (0 : Int32), .int (σ.1 33 12), .ref 54], σ) :=
  (aUn_eq (tkd G.1 G.2) tmi (aRun (tkd G.1 G.2) tmi tmt d) M_195 [] 5 (61, [some (.ref 33), some (.int x1), some (.int x2), some (.int x3)], [], σ)).trans rfl
set_option maxRecDepth 20000 in
theorem q_195_2646 (G : Nat × (Nat → Int32)) (d : Nat) (x1 : Int32) (x2 : Int32) (x3 : Int32) (s0 : Int32) (s1 : Int32) (σ : aH) : Lq G d M_195 (70, [some (.ref 33), some (.int x1), some (.int x2), some (.int x3)], [.int s0, .int s1, .ref 54], σ) = aIx (s1) 60 fun j1 => Lq G d M_195 (71, [some (.ref 33), some (.int x1), some (.int x2), some (.int x3)], [], (aSI σ 54 j1 (vp_nar .boolean s0))) :=
  (aUn_eq (tkd G.1 G.2) tmi (aRun (tkd G.1 G.2) tmi tmt d) M_195 [] 1 (70, [some (.ref 33), some (.int x1), some (.int x2), some (.int x3)], [.int s0, .int s1, .ref 54], σ)).trans rfl
set_option maxRecDepth 20000 in
theorem q_195_2647 (G : Nat × (Nat → Int32)) (d : Nat) (x1 : Int32) (x2 : Int32) (x3 : Int32) (σ : aH) : Lq G d M_195 (71, [some (.ref 33), some (.int x1), some (.int x2), some (.int x3)], [], σ) = Lq G d M_195 (80, [some (.ref 33), some (.int x1), some (.int x2), some (.int x3)], [.int (0 : Int32), .int (σ.1 33 12), .ref 53], σ) :=
  (aUn_eq (tkd G.1 G.2) tmi (aRun (tkd G.1 G.2) tmi tmt d) M_195 [] 5 (71, [some (.ref 33), some (.int x1), some (.int x2), some (.int x3)], [], σ)).trans rfl
set_option maxRecDepth 20000 in
theorem q_195_2648 (G : Nat × (Nat → Int32)) (d : Nat) (x1 : Int32) (x2 : Int32) (x3 : Int32) (s0 : Int32) (s1 : Int32) (σ : aH) : Lq G d M_195 (80, [some (.ref 33), some (.int x1), some (.int x2), some (.int x3)], [.int s0, .int s1, .ref 53], σ) = aIx (s1) 60 fun j1 => Lq G d M_195 (81, [some (.ref 33), some (.int x1), some (.int x2), some (.int x3)], [], (aSI σ 53 j1 s0)) :=
  (aUn_eq (tkd G.1 G.2) tmi (aRun (tkd G.1 G.2) tmi tmt d) M_195 [] 1 (80, [some (.ref 33), some (.int x1), some (.int x2), some (.int x3)], [.int s0, .int s1, .ref 53], σ)).trans rfl
set_option maxRecDepth 20000 in
theorem q_195_2649 (G : Nat × (Nat → Int32)) (d : Nat) (x1 : Int32) (x2 : Int32) (x3 : Int32) (σ : aH) : Lq G d M_195 (81, [some (.ref 33), some (.int x1), some (.int x2), some (.int x3)], [], σ) = Lq G d M_195 (97, [some (.ref 33), some (.int x1), some (.int x2), some (.int x3)], [.int (((σ.1 33 12) + (1 : Int32)) - (1 : Int32))], (aSI σ 33 12 ((σ.1 33 12) + (1 : Int32)))) :=
  (aUn_eq (tkd G.1 G.2) tmi (aRun (tkd G.1 G.2) tmi tmt d) M_195 [] 10 (81, [some (.ref 33), some (.int x1), some (.int x2), some (.int x3)], [], σ)).trans rfl
set_option maxRecDepth 20000 in
theorem q_195_2650 (G : Nat × (Nat → Int32)) (d : Nat) (x1 : Int32) (x2 : Int32) (x3 : Int32) (s0 : Int32) (σ : aH) : Lq G d M_195 (97, [some (.ref 33), some (.int x1), some (.int x2), some (.int x3)], [.int s0], σ) = some (.inl (some (.int s0)), σ) :=
  (aUn_eq (tkd G.1 G.2) tmi (aRun (tkd G.1 G.2) tmi tmt d) M_195 [] 1 (97, [some (.ref 33), some (.int x1), some (.int x2), some (.int x3)], [.int s0], σ)).trans rfl
set_option maxRecDepth 20000 in
theorem q_195_2651 (G : Nat × (Nat → Int32)) (d : Nat) (x1 : Int32) (x2 : Int32) (x3 : Int32) (σ : aH) : Lq G d M_195 (8, [some (.ref 33), some (.int x1), some (.int x2), some (.int x3)], [], σ) = Lq G d M_195 (22, [some (.ref 33), some (.int x1), some (.int x2), some (.int x3)], [.int (0 : Int32), .int (((17 : Int32) * (σ.1 33 12)) + x3), .ref 40], σ) :=
  (aUn_eq (tkd G.1 G.2) tmi (aRun (tkd G.1 G.2) tmi tmt d) M_195 [] 9 (8, [some (.ref 33), some (.int x1), some (.int x2), some (.int x3)], [], σ)).trans rfl
set_option maxRecDepth 20000 in
theorem q_195_2652 (G : Nat × (Nat → Int32)) (d : Nat) (x1 : Int32) (x2 : Int32) (x3 : Int32) (s0 : Int32) (s1 : Int32) (σ : aH) : Lq G d M_195 (22, [some (.ref 33), some (.int x1), some (.int x2), some (.int x3)], [.int s0, .int s1, .ref 40], σ) = aIx (s1) 1020 fun j1 => Lq G d M_195 (23, [some (.ref 33), some (.int x1), some (.int x2), some (.int x3)], [], (aSI σ 40 j1 s0)) :=
  (aUn_eq (tkd G.1 G.2) tmi (aRun (tkd G.1 G.2) tmi tmt d) M_195 [] 1 (22, [some (.ref 33), some (.int x1), some (.int x2), some (.int x3)], [.int s0, .int s1, .ref 40], σ)).trans rfl
set_option maxRecDepth 20000 in
theorem q_195_2653 (G : Nat × (Nat → Int32)) (d : Nat) (x1 : Int32) (x2 : Int32) (x3 : Int32) (σ : aH) : Lq G d M_195 (23, [some (.ref 33), some (.int x1), some (.int x2), some (.int x3)], [], σ) = Lq G d M_195 (2, [some (.ref 33), some (.int x1), some (.int x2), some (.int (x3 + (1 : Int32)))], [], σ) :=
  (aUn_eq (tkd G.1 G.2) tmi (aRun (tkd G.1 G.2) tmi tmt d) M_195 [] 2 (23, [some (.ref 33), some (.int x1), some (.int x2), some (.int x3)], [], σ)).trans rfl
set_option maxRecDepth 20000 in
theorem q_198_2654 (G : Nat × (Nat → Int32)) (d : Nat) (x1 : Int32) (σ : aH) : Lq G d M_198 (0, [some (.ref 13), some (.int x1)], [], σ) = Lq G d M_198 (1, [some (.ref 13), some (.int x1)], [.int x1], σ) :=
  (aUn_eq (tkd G.1 G.2) tmi (aRun (tkd G.1 G.2) tmi tmt d) M_198 [] 1 (0, [some (.ref 13), some (.int x1)], [], σ)).trans rfl
set_option maxRecDepth 20000 in
theorem q_198_2655 (G : Nat × (Nat → Int32)) (d : Nat) (x1 : Int32) (s0 : Int32) (σ : aH) : Lq G d M_198 (1, [some (.ref 13), some (.int x1)], [.int s0], σ) = if s0 < 0 then Lq G d M_198 (16, [some (.ref 13), some (.int x1)], [], σ) else Lq G d M_198 (4, [some (.ref 13), some (.int x1)], [], σ) :=
  (aUn_eq (tkd G.1 G.2) tmi (aRun (tkd G.1 G.2) tmi tmt d) M_198 [] 1 (1, [some (.ref 13), some (.int x1)], [.int s0], σ)).trans rfl
set_option maxRecDepth 20000 in
theorem q_198_2656 (G : Nat × (Nat → Int32)) (d : Nat) (x1 : Int32) (σ : aH) : Lq G d M_198 (16, [some (.ref 13), some (.int x1)], [], σ) = Lq G d M_198 (17, [some (.ref 13), some (.int x1)], [.int (0 : Int32)], σ) :=
  (aUn_eq (tkd G.1 G.2) tmi (aRun (tkd G.1 G.2) tmi tmt d) M_198 [] 1 (16, [some (.ref 13), some (.int x1)], [], σ)).trans rfl
set_option maxRecDepth 20000 in
theorem q_198_2657 (G : Nat × (Nat → Int32)) (d : Nat) (x1 : Int32) (s0 : Int32) (σ : aH) : Lq G d M_198 (17, [some (.ref 13), some (.int x1)], [.int s0], σ) = aNar .boolean (s0) (some (.inl (some (.int s0)), σ)) :=
  (aUn_eq (tkd G.1 G.2) tmi (aRun (tkd G.1 G.2) tmi tmt d) M_198 [] 1 (17, [some (.ref 13), some (.int x1)], [.int s0], σ)).trans rfl
set_option maxRecDepth 20000 in
theorem q_198_2658 (G : Nat × (Nat → Int32)) (d : Nat) (x1 : Int32) (σ : aH) : Lq G d M_198 (4, [some (.ref 13), some (.int x1)], [], σ) = Lq G d M_198 (9, [some (.ref 13), some (.int x1)], [.int (σ.1 13 1), .int x1], σ) :=
  (aUn_eq (tkd G.1 G.2) tmi (aRun (tkd G.1 G.2) tmi tmt d) M_198 [] 3 (4, [some (.ref 13), some (.int x1)], [], σ)).trans rfl
set_option maxRecDepth 20000 in
theorem q_198_2659 (G : Nat × (Nat → Int32)) (d : Nat) (x1 : Int32) (s0 : Int32) (s1 : Int32) (σ : aH) : Lq G d M_198 (9, [some (.ref 13), some (.int x1)], [.int s0, .int s1], σ) = if s0 ≤ s1 then Lq G d M_198 (16, [some (.ref 13), some (.int x1)], [], σ) else Lq G d M_198 (12, [some (.ref 13), some (.int x1)], [], σ) :=
  (aUn_eq (tkd G.1 G.2) tmi (aRun (tkd G.1 G.2) tmi tmt d) M_198 [] 1 (9, [some (.ref 13), some (.int x1)], [.int s0, .int s1], σ)).trans rfl
set_option maxRecDepth 20000 in
theorem q_198_2660 (G : Nat × (Nat → Int32)) (d : Nat) (x1 : Int32) (σ : aH) : Lq G d M_198 (12, [some (.ref 13), some (.int x1)], [], σ) = Lq G d M_198 (17, [some (.ref 13), some (.int x1)], [.int (1 : Int32)], σ) :=
  (aUn_eq (tkd G.1 G.2) tmi (aRun (tkd G.1 G.2) tmi tmt d) M_198 [] 2 (12, [some (.ref 13), some (.int x1)], [], σ)).trans rfl
set_option maxRecDepth 20000 in
theorem q_199_2661 (G : Nat × (Nat → Int32)) (d : Nat) (x0 : Int32) (σ : aH) : Lq G d M_199 (0, [some (.int x0)], [], σ) = Lq G d M_199 (4, [some (.int x0)], [.int x0, .ref 68], σ) :=
  (aUn_eq (tkd G.1 G.2) tmi (aRun (tkd G.1 G.2) tmi tmt d) M_199 [] 2 (0, [some (.int x0)], [], σ)).trans rfl
set_option maxRecDepth 20000 in
theorem q_199_2662 (G : Nat × (Nat → Int32)) (d : Nat) (x0 : Int32) (s0 : Int32) (σ : aH) : Lq G d M_199 (4, [some (.int x0)], [.int s0, .ref 68], σ) = aCI (Rn G d 32 [.ref 68, .int s0] σ) fun v2 σ1 => Lq G d M_199 (7, [some (.int x0)], [.int v2], σ1) :=
  (aUn_eq (tkd G.1 G.2) tmi (aRun (tkd G.1 G.2) tmi tmt d) M_199 [] 1 (4, [some (.int x0)], [.int s0, .ref 68], σ)).trans rfl
set_option maxRecDepth 20000 in
theorem q_199_2663 (G : Nat × (Nat → Int32)) (d : Nat) (x0 : Int32) (s0 : Int32) (σ : aH) : Lq G d M_199 (7, [some (.int x0)], [.int s0], σ) = some (.inl (some (.int s0)), σ) :=
  (aUn_eq (tkd G.1 G.2) tmi (aRun (tkd G.1 G.2) tmi tmt d) M_199 [] 1 (7, [some (.int x0)], [.int s0], σ)).trans rfl
set_option maxRecDepth 20000 in
theorem q_104_2664 (G : Nat × (Nat → Int32)) (d : Nat) (x0 : Int32) (σ : aH) : Lq G d M_104 (0, [some (.int x0)], [], σ) = Lq G d M_104 (4, [some (.int x0)], [.int x0, .ref 69], σ) :=
  (aUn_eq (tkd G.1 G.2) tmi (aRun (tkd G.1 G.2) tmi tmt d) M_104 [] 2 (0, [some (.int x0)], [], σ)).trans rfl
set_option maxRecDepth 20000 in
theorem q_104_2665 (G : Nat × (Nat → Int32)) (d : Nat) (x0 : Int32) (s0 : Int32) (σ : aH) : Lq G d M_104 (4, [some (.int x0)], [.int s0, .ref 69], σ) = aCI (Rn G d 32 [.ref 69, .int s0] σ) fun v2 σ1 => Lq G d M_104 (7, [some (.int x0)], [.int v2], σ1) :=
  (aUn_eq (tkd G.1 G.2) tmi (aRun (tkd G.1 G.2) tmi tmt d) M_104 [] 1 (4, [some (.int x0)], [.int s0, .ref 69], σ)).trans rfl
set_option maxRecDepth 20000 in
theorem q_104_2666 (G : Nat × (Nat → Int32)) (d : Nat) (x0 : Int32) (s0 : Int32) (σ : aH) : Lq G d M_104 (7, [some (.int x0)], [.int s0], σ) = some (.inl (some (.int s0)), σ) :=
  (aUn_eq (tkd G.1 G.2) tmi (aRun (tkd G.1 G.2) tmi tmt d) M_104 [] 1 (7, [some (.int x0)], [.int s0], σ)).trans rfl
set_option maxRecDepth 20000 in
theorem q_101_2667 (G : Nat × (Nat → Int32)) (d : Nat) (x1 : Int32) (x2 : Int32) (x3 : Int32) (σ : aH) : Lq G d M_101 (0, [some (.ref 13), some (.int x1), some (.int x2), some (.int x3)], [], σ) = Lq G d M_101 (11, [some (.ref 13), some (.int x1), some (.int x2), some (.int x3)], [.int x3, .int ((x1 * (18 : Int32)) + x2), .ref 14], σ) :=
  (aUn_eq (tkd G.1 G.2) tmi (aRun (tkd G.1 G.2) tmi tmt d) M_101 [] 8 (0, [some (.ref 13), some (.int x1), some (.int x2), some (.int x3)], [], σ)).trans rfl
set_option maxRecDepth 20000 in
theorem q_101_2668 (G : Nat × (Nat → Int32)) (d : Nat) (x1 : Int32) (x2 : Int32) (x3 : Int32) (s0 : Int32) (s1 : Int32) (σ : aH) : Lq G d M_101 (11, [some (.ref 13), some (.int x1), some (.int x2), some (.int x3)], [.int s0, .int s1, .ref 14], σ) = aCV (Rn G d 24 [.ref 14, .int s1, .int s0] σ) fun σ1 => Lq G d M_101 (14, [some (.ref 13), some (.int x1), some (.int x2), some (.int x3)], [], σ1) :=
  (aUn_eq (tkd G.1 G.2) tmi (aRun (tkd G.1 G.2) tmi tmt d) M_101 [] 1 (11, [some (.ref 13), some (.int x1), some (.int x2), some (.int x3)], [.int s0, .int s1, .ref 14], σ)).trans rfl
