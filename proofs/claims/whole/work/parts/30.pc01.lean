/-! ===== the methods in pieces, as equations (by wip/gen/emit_eqs2.py) ===== -/
set_option maxRecDepth 20000 in
theorem q_149_315 (G : Nat × (Nat → Int32)) (d : Nat) (x1 : Int32) (σ : aH) : Lq G d M_149 (43, [some (.ref 33), some (.int x1)], [], σ) = Lq G d M_149 (44, [some (.ref 33), some (.int x1)], [.int (0 : Int32)], σ) :=
  (aUn_eq (tkd G.1 G.2) tmi (aRun (tkd G.1 G.2) tmi tmt d) M_149 [] 1 (43, [some (.ref 33), some (.int x1)], [], σ)).trans rfl
set_option maxRecDepth 20000 in
theorem q_149_316 (G : Nat × (Nat → Int32)) (d : Nat) (x1 : Int32) (s0 : Int32) (σ : aH) : Lq G d M_149 (44, [some (.ref 33), some (.int x1)], [.int s0], σ) = aNar .boolean (s0) (some (.inl (some (.int s0)), σ)) :=
  (aUn_eq (tkd G.1 G.2) tmi (aRun (tkd G.1 G.2) tmi tmt d) M_149 [] 1 (44, [some (.ref 33), some (.int x1)], [.int s0], σ)).trans rfl
set_option maxRecDepth 20000 in
theorem q_149_317 (G : Nat × (Nat → Int32)) (d : Nat) (x1 : Int32) (σ : aH) : Lq G d M_149 (30, [some (.ref 33), some (.int x1)], [], σ) = Lq G d M_149 (35, [some (.ref 33), some (.int x1)], [.int x1, .ref 39], σ) :=
  (aUn_eq (tkd G.1 G.2) tmi (aRun (tkd G.1 G.2) tmi tmt d) M_149 [] 3 (30, [some (.ref 33), some (.int x1)], [], σ)).trans rfl
set_option maxRecDepth 20000 in
theorem q_149_318 (G : Nat × (Nat → Int32)) (d : Nat) (x1 : Int32) (s0 : Int32) (σ : aH) : Lq G d M_149 (35, [some (.ref 33), some (.int x1)], [.int s0, .ref 39], σ) = aIx (s0) 12 fun j1 => Lq G d M_149 (36, [some (.ref 33), some (.int x1)], [.int (σ.1 39 j1)], σ) :=
  (aUn_eq (tkd G.1 G.2) tmi (aRun (tkd G.1 G.2) tmi tmt d) M_149 [] 1 (35, [some (.ref 33), some (.int x1)], [.int s0, .ref 39], σ)).trans rfl
set_option maxRecDepth 20000 in
theorem q_149_319 (G : Nat × (Nat → Int32)) (d : Nat) (x1 : Int32) (s0 : Int32) (σ : aH) : Lq G d M_149 (36, [some (.ref 33), some (.int x1)], [.int s0], σ) = if s0 = 0 then Lq G d M_149 (43, [some (.ref 33), some (.int x1)], [], σ) else Lq G d M_149 (39, [some (.ref 33), some (.int x1)], [], σ) :=
  (aUn_eq (tkd G.1 G.2) tmi (aRun (tkd G.1 G.2) tmi tmt d) M_149 [] 1 (36, [some (.ref 33), some (.int x1)], [.int s0], σ)).trans rfl
set_option maxRecDepth 20000 in
theorem q_149_320 (G : Nat × (Nat → Int32)) (d : Nat) (x1 : Int32) (σ : aH) : Lq G d M_149 (39, [some (.ref 33), some (.int x1)], [], σ) = Lq G d M_149 (44, [some (.ref 33), some (.int x1)], [.int (1 : Int32)], σ) :=
  (aUn_eq (tkd G.1 G.2) tmi (aRun (tkd G.1 G.2) tmi tmt d) M_149 [] 2 (39, [some (.ref 33), some (.int x1)], [], σ)).trans rfl
set_option maxRecDepth 20000 in
theorem q_149_321 (G : Nat × (Nat → Int32)) (d : Nat) (x1 : Int32) (σ : aH) : Lq G d M_149 (10, [some (.ref 33), some (.int x1)], [.ref 33], σ) = Lq G d M_149 (15, [some (.ref 33), some (.int x1)], [.int (σ.1 33 4), .int x1, .ref 33], σ) :=
  (aUn_eq (tkd G.1 G.2) tmi (aRun (tkd G.1 G.2) tmi tmt d) M_149 [] 3 (10, [some (.ref 33), some (.int x1)], [.ref 33], σ)).trans rfl
set_option maxRecDepth 20000 in
theorem q_149_322 (G : Nat × (Nat → Int32)) (d : Nat) (x1 : Int32) (s0 : Int32) (s1 : Int32) (σ : aH) : Lq G d M_149 (15, [some (.ref 33), some (.int x1)], [.int s0, .int s1, .ref 33], σ) = if s0 ≤ s1 then Lq G d M_149 (22, [some (.ref 33), some (.int x1)], [.ref 33], σ) else Lq G d M_149 (18, [some (.ref 33), some (.int x1)], [.ref 33], σ) :=
  (aUn_eq (tkd G.1 G.2) tmi (aRun (tkd G.1 G.2) tmi tmt d) M_149 [] 1 (15, [some (.ref 33), some (.int x1)], [.int s0, .int s1, .ref 33], σ)).trans rfl
set_option maxRecDepth 20000 in
theorem q_149_323 (G : Nat × (Nat → Int32)) (d : Nat) (x1 : Int32) (σ : aH) : Lq G d M_149 (18, [some (.ref 33), some (.int x1)], [.ref 33], σ) = Lq G d M_149 (24, [some (.ref 33), some (.int x1)], [.int (1 : Int32), .int (1 : Int32), .ref 33], σ) :=
  (aUn_eq (tkd G.1 G.2) tmi (aRun (tkd G.1 G.2) tmi tmt d) M_149 [] 3 (18, [some (.ref 33), some (.int x1)], [.ref 33], σ)).trans rfl
set_option maxRecDepth 20000 in
theorem q_151_324 (G : Nat × (Nat → Int32)) (d : Nat) (x1 : Int32) (x2 : Int32) (σ : aH) : Lq G d M_151 (0, [some (.ref 0), some (.int x1), some (.int x2)], [], σ) = Lq G d M_151 (2, [some (.ref 0), some (.int x1), some (.int x2)], [.int (1 : Int32), .int x2], σ) :=
  (aUn_eq (tkd G.1 G.2) tmi (aRun (tkd G.1 G.2) tmi tmt d) M_151 [] 2 (0, [some (.ref 0), some (.int x1), some (.int x2)], [], σ)).trans rfl
set_option maxRecDepth 20000 in
theorem q_151_325 (G : Nat × (Nat → Int32)) (d : Nat) (x1 : Int32) (x2 : Int32) (s0 : Int32) (s1 : Int32) (σ : aH) : Lq G d M_151 (2, [some (.ref 0), some (.int x1), some (.int x2)], [.int s0, .int s1], σ) = if s1 < s0 then Lq G d M_151 (30, [some (.ref 0), some (.int x1), some (.int x2)], [], σ) else Lq G d M_151 (5, [some (.ref 0), some (.int x1), some (.int x2)], [], σ) :=
  (aUn_eq (tkd G.1 G.2) tmi (aRun (tkd G.1 G.2) tmi tmt d) M_151 [] 1 (2, [some (.ref 0), some (.int x1), some (.int x2)], [.int s0, .int s1], σ)).trans rfl
set_option maxRecDepth 20000 in
theorem q_151_326 (G : Nat × (Nat → Int32)) (d : Nat) (x1 : Int32) (x2 : Int32) (σ : aH) : Lq G d M_151 (30, [some (.ref 0), some (.int x1), some (.int x2)], [], σ) = Lq G d M_151 (31, [some (.ref 0), some (.int x1), some (.int x2)], [.int (0 : Int32)], σ) :=
  (aUn_eq (tkd G.1 G.2) tmi (aRun (tkd G.1 G.2) tmi tmt d) M_151 [] 1 (30, [some (.ref 0), some (.int x1), some (.int x2)], [], σ)).trans rfl
set_option maxRecDepth 20000 in
theorem q_151_327 (G : Nat × (Nat → Int32)) (d : Nat) (x1 : Int32) (x2 : Int32) (s0 : Int32) (σ : aH) : Lq G d M_151 (31, [some (.ref 0), some (.int x1), some (.int x2)], [.int s0], σ) = aXV (Rn G d 6 [.int s0] σ) (fun σ1 => Lq G d M_151 (34, [some (.ref 0), some (.int x1), some (.int x2)], [], σ1)) (fun k2 σ3 => some (.inr k2, σ3)) :=
  (aUn_eq (tkd G.1 G.2) tmi (aRun (tkd G.1 G.2) tmi tmt d) M_151 [] 1 (31, [some (.ref 0), some (.int x1), some (.int x2)], [.int s0], σ)).trans rfl
set_option maxRecDepth 20000 in
theorem q_151_328 (G : Nat × (Nat → Int32)) (d : Nat) (x1 : Int32) (x2 : Int32) (σ : aH) : Lq G d M_151 (34, [some (.ref 0), some (.int x1), some (.int x2)], [], σ) = Lq G d M_151 (36, [some (.ref 0), some (.int x1), some (.int x2)], [.int x2, .int x1], σ) :=
  (aUn_eq (tkd G.1 G.2) tmi (aRun (tkd G.1 G.2) tmi tmt d) M_151 [] 2 (34, [some (.ref 0), some (.int x1), some (.int x2)], [], σ)).trans rfl
set_option maxRecDepth 20000 in
theorem q_151_329 (G : Nat × (Nat → Int32)) (d : Nat) (x1 : Int32) (x2 : Int32) (s0 : Int32) (s1 : Int32) (σ : aH) : Lq G d M_151 (36, [some (.ref 0), some (.int x1), some (.int x2)], [.int s0, .int s1], σ) = aCI (Rn G d 152 [.int s1, .int s0] σ) fun v2 σ1 => Lq G d M_151 (39, [some (.ref 0), some (.int x1), some (.int x2)], [.int v2], σ1) :=
  (aUn_eq (tkd G.1 G.2) tmi (aRun (tkd G.1 G.2) tmi tmt d) M_151 [] 1 (36, [some (.ref 0), some (.int x1), some (.int x2)], [.int s0, .int s1], σ)).trans rfl
set_option maxRecDepth 20000 in
theorem q_151_330 (G : Nat × (Nat → Int32)) (d : Nat) (x1 : Int32) (x2 : Int32) (s0 : Int32) (σ : aH) : Lq G d M_151 (39, [some (.ref 0), some (.int x1), some (.int x2)], [.int s0], σ) = some (.inl (some (.int s0)), σ) :=
  (aUn_eq (tkd G.1 G.2) tmi (aRun (tkd G.1 G.2) tmi tmt d) M_151 [] 1 (39, [some (.ref 0), some (.int x1), some (.int x2)], [.int s0], σ)).trans rfl
set_option maxRecDepth 20000 in
theorem q_151_331 (G : Nat × (Nat → Int32)) (d : Nat) (x1 : Int32) (x2 : Int32) (σ : aH) : Lq G d M_151 (5, [some (.ref 0), some (.int x1), some (.int x2)], [], σ) = Lq G d M_151 (9, [some (.ref 0), some (.int x1), some (.int x2)], [.int (9999 : Int32), .int x2], σ) :=
  (aUn_eq (tkd G.1 G.2) tmi (aRun (tkd G.1 G.2) tmi tmt d) M_151 [] 2 (5, [some (.ref 0), some (.int x1), some (.int x2)], [], σ)).trans rfl
set_option maxRecDepth 20000 in
theorem q_151_332 (G : Nat × (Nat → Int32)) (d : Nat) (x1 : Int32) (x2 : Int32) (s0 : Int32) (s1 : Int32) (σ : aH) : Lq G d M_151 (9, [some (.ref 0), some (.int x1), some (.int x2)], [.int s0, .int s1], σ) = if s0 < s1 then Lq G d M_151 (30, [some (.ref 0), some (.int x1), some (.int x2)], [], σ) else Lq G d M_151 (12, [some (.ref 0), some (.int x1), some (.int x2)], [], σ) :=
  (aUn_eq (tkd G.1 G.2) tmi (aRun (tkd G.1 G.2) tmi tmt d) M_151 [] 1 (9, [some (.ref 0), some (.int x1), some (.int x2)], [.int s0, .int s1], σ)).trans rfl
set_option maxRecDepth 20000 in
theorem q_151_333 (G : Nat × (Nat → Int32)) (d : Nat) (x1 : Int32) (x2 : Int32) (σ : aH) : Lq G d M_151 (12, [some (.ref 0), some (.int x1), some (.int x2)], [], σ) = Lq G d M_151 (16, [some (.ref 0), some (.int x1), some (.int x2)], [.int (-9999 : Int32), .int x1], σ) :=
  (aUn_eq (tkd G.1 G.2) tmi (aRun (tkd G.1 G.2) tmi tmt d) M_151 [] 2 (12, [some (.ref 0), some (.int x1), some (.int x2)], [], σ)).trans rfl
set_option maxRecDepth 20000 in
theorem q_151_334 (G : Nat × (Nat → Int32)) (d : Nat) (x1 : Int32) (x2 : Int32) (s0 : Int32) (s1 : Int32) (σ : aH) : Lq G d M_151 (16, [some (.ref 0), some (.int x1), some (.int x2)], [.int s0, .int s1], σ) = if s1 < s0 then Lq G d M_151 (30, [some (.ref 0), some (.int x1), some (.int x2)], [], σ) else Lq G d M_151 (19, [some (.ref 0), some (.int x1), some (.int x2)], [], σ) :=
  (aUn_eq (tkd G.1 G.2) tmi (aRun (tkd G.1 G.2) tmi tmt d) M_151 [] 1 (16, [some (.ref 0), some (.int x1), some (.int x2)], [.int s0, .int s1], σ)).trans rfl
set_option maxRecDepth 20000 in
theorem q_151_335 (G : Nat × (Nat → Int32)) (d : Nat) (x1 : Int32) (x2 : Int32) (σ : aH) : Lq G d M_151 (19, [some (.ref 0), some (.int x1), some (.int x2)], [], σ) = Lq G d M_151 (23, [some (.ref 0), some (.int x1), some (.int x2)], [.int (9999 : Int32), .int x1], σ) :=
  (aUn_eq (tkd G.1 G.2) tmi (aRun (tkd G.1 G.2) tmi tmt d) M_151 [] 2 (19, [some (.ref 0), some (.int x1), some (.int x2)], [], σ)).trans rfl
set_option maxRecDepth 20000 in
theorem q_151_336 (G : Nat × (Nat → Int32)) (d : Nat) (x1 : Int32) (x2 : Int32) (s0 : Int32) (s1 : Int32) (σ : aH) : Lq G d M_151 (23, [some (.ref 0), some (.int x1), some (.int x2)], [.int s0, .int s1], σ) = if s0 < s1 then Lq G d M_151 (30, [some (.ref 0), some (.int x1), some (.int x2)], [], σ) else Lq G d M_151 (26, [some (.ref 0), some (.int x1), some (.int x2)], [], σ) :=
  (aUn_eq (tkd G.1 G.2) tmi (aRun (tkd G.1 G.2) tmi tmt d) M_151 [] 1 (23, [some (.ref 0), some (.int x1), some (.int x2)], [.int s0, .int s1], σ)).trans rfl
set_option maxRecDepth 20000 in
theorem q_151_337 (G : Nat × (Nat → Int32)) (d : Nat) (x1 : Int32) (x2 : Int32) (σ : aH) : Lq G d M_151 (26, [some (.ref 0), some (.int x1), some (.int x2)], [], σ) = Lq G d M_151 (31, [some (.ref 0), some (.int x1), some (.int x2)], [.int (1 : Int32)], σ) :=
  (aUn_eq (tkd G.1 G.2) tmi (aRun (tkd G.1 G.2) tmi tmt d) M_151 [] 2 (26, [some (.ref 0), some (.int x1), some (.int x2)], [], σ)).trans rfl
set_option maxRecDepth 20000 in
theorem q_153_338 (G : Nat × (Nat → Int32)) (d : Nat) (x1 : Int32) (x2 : Int32) (σ : aH) : Lq G d M_153 (0, [some (.ref 33), some (.int x1), some (.int x2)], [], σ) = Lq G d M_153 (11, [some (.ref 33), some (.int x1), some (.int x2)], [.int (9999 : Int32), .int (1 : Int32), .int x2, .ref 33], (aSI σ 33 0 (0 : Int32))) :=
  (aUn_eq (tkd G.1 G.2) tmi (aRun (tkd G.1 G.2) tmi tmt d) M_153 [] 7 (0, [some (.ref 33), some (.int x1), some (.int x2)], [], σ)).trans rfl
set_option maxRecDepth 20000 in
theorem q_153_339 (G : Nat × (Nat → Int32)) (d : Nat) (x1 : Int32) (x2 : Int32) (s0 : Int32) (s1 : Int32) (s2 : Int32) (σ : aH) : Lq G d M_153 (11, [some (.ref 33), some (.int x1), some (.int x2)], [.int s0, .int s1, .int s2, .ref 33], σ) = aCI (Rn G d 130 [.int s2, .int s1, .int s0] σ) fun v2 σ1 => Lq G d M_153 (14, [some (.ref 33), some (.int x1), some (.int x2)], [.int v2, .ref 33], σ1) :=
  (aUn_eq (tkd G.1 G.2) tmi (aRun (tkd G.1 G.2) tmi tmt d) M_153 [] 1 (11, [some (.ref 33), some (.int x1), some (.int x2)], [.int s0, .int s1, .int s2, .ref 33], σ)).trans rfl
set_option maxRecDepth 20000 in
theorem q_153_340 (G : Nat × (Nat → Int32)) (d : Nat) (x1 : Int32) (x2 : Int32) (s0 : Int32) (σ : aH) : Lq G d M_153 (14, [some (.ref 33), some (.int x1), some (.int x2)], [.int s0, .ref 33], σ) = if s0 = 0 then Lq G d M_153 (34, [some (.ref 33), some (.int x1), some (.int x2)], [.ref 33], σ) else Lq G d M_153 (17, [some (.ref 33), some (.int x1), some (.int x2)], [.ref 33], σ) :=
  (aUn_eq (tkd G.1 G.2) tmi (aRun (tkd G.1 G.2) tmi tmt d) M_153 [] 1 (14, [some (.ref 33), some (.int x1), some (.int x2)], [.int s0, .ref 33], σ)).trans rfl
set_option maxRecDepth 20000 in
theorem q_153_341 (G : Nat × (Nat → Int32)) (d : Nat) (x1 : Int32) (x2 : Int32) (σ : aH) : Lq G d M_153 (34, [some (.ref 33), some (.int x1), some (.int x2)], [.ref 33], σ) = Lq G d M_153 (36, [some (.ref 33), some (.int x1), some (.int x2)], [.int (1 : Int32), .int (0 : Int32), .ref 33], σ) :=
  (aUn_eq (tkd G.1 G.2) tmi (aRun (tkd G.1 G.2) tmi tmt d) M_153 [] 2 (34, [some (.ref 33), some (.int x1), some (.int x2)], [.ref 33], σ)).trans rfl
set_option maxRecDepth 20000 in
theorem q_153_342 (G : Nat × (Nat → Int32)) (d : Nat) (x1 : Int32) (x2 : Int32) (s0 : Int32) (s1 : Int32) (σ : aH) : Lq G d M_153 (36, [some (.ref 33), some (.int x1), some (.int x2)], [.int s0, .int s1, .ref 33], σ) = aCI (Rn G d 62 [.ref 33, .int s1, .int s0] σ) fun v2 σ1 => Lq G d M_153 (39, [some (.ref 33), some (.int x1), some (.int x2)], [.int v2], σ1) :=
  (aUn_eq (tkd G.1 G.2) tmi (aRun (tkd G.1 G.2) tmi tmt d) M_153 [] 1 (36, [some (.ref 33), some (.int x1), some (.int x2)], [.int s0, .int s1, .ref 33], σ)).trans rfl
set_option maxRecDepth 20000 in
theorem q_153_343 (G : Nat × (Nat → Int32)) (d : Nat) (x1 : Int32) (x2 : Int32) (s0 : Int32) (σ : aH) : Lq G d M_153 (39, [some (.ref 33), some (.int x1), some (.int x2)], [.int s0], σ) = if s0 = 0 then Lq G d M_153 (52, [some (.ref 33), some (.int x1), some (.int x2)], [], σ) else Lq G d M_153 (42, [some (.ref 33), some (.int x1), some (.int x2)], [], σ) :=
  (aUn_eq (tkd G.1 G.2) tmi (aRun (tkd G.1 G.2) tmi tmt d) M_153 [] 1 (39, [some (.ref 33), some (.int x1), some (.int x2)], [.int s0], σ)).trans rfl
set_option maxRecDepth 20000 in
theorem q_153_344 (G : Nat × (Nat → Int32)) (d : Nat) (x1 : Int32) (x2 : Int32) (σ : aH) : Lq G d M_153 (52, [some (.ref 33), some (.int x1), some (.int x2)], [], σ) = Lq G d M_153 (53, [some (.ref 33), some (.int x1), some (.int x2)], [.int (0 : Int32)], σ) :=
  (aUn_eq (tkd G.1 G.2) tmi (aRun (tkd G.1 G.2) tmi tmt d) M_153 [] 1 (52, [some (.ref 33), some (.int x1), some (.int x2)], [], σ)).trans rfl
set_option maxRecDepth 20000 in
theorem q_153_345 (G : Nat × (Nat → Int32)) (d : Nat) (x1 : Int32) (x2 : Int32) (s0 : Int32) (σ : aH) : Lq G d M_153 (53, [some (.ref 33), some (.int x1), some (.int x2)], [.int s0], σ) = some (.inl (some (.int s0)), σ) :=
  (aUn_eq (tkd G.1 G.2) tmi (aRun (tkd G.1 G.2) tmi tmt d) M_153 [] 1 (53, [some (.ref 33), some (.int x1), some (.int x2)], [.int s0], σ)).trans rfl
set_option maxRecDepth 20000 in
theorem q_153_346 (G : Nat × (Nat → Int32)) (d : Nat) (x1 : Int32) (x2 : Int32) (σ : aH) : Lq G d M_153 (42, [some (.ref 33), some (.int x1), some (.int x2)], [], σ) = Lq G d M_153 (46, [some (.ref 33), some (.int x1), some (.int x2)], [.long (x2).toInt64, .long (x1).toInt64], σ) :=
  (aUn_eq (tkd G.1 G.2) tmi (aRun (tkd G.1 G.2) tmi tmt d) M_153 [] 4 (42, [some (.ref 33), some (.int x1), some (.int x2)], [], σ)).trans rfl
set_option maxRecDepth 20000 in
theorem q_153_347 (G : Nat × (Nat → Int32)) (d : Nat) (x1 : Int32) (x2 : Int32) (s0 : Int64) (s1 : Int64) (σ : aH) : Lq G d M_153 (46, [some (.ref 33), some (.int x1), some (.int x2)], [.long s0, .long s1], σ) = aCI (Rn G d 154 [.long s1, .long s0] σ) fun v2 σ1 => Lq G d M_153 (49, [some (.ref 33), some (.int x1), some (.int x2)], [.int v2], σ1) :=
  (aUn_eq (tkd G.1 G.2) tmi (aRun (tkd G.1 G.2) tmi tmt d) M_153 [] 1 (46, [some (.ref 33), some (.int x1), some (.int x2)], [.long s0, .long s1], σ)).trans rfl
set_option maxRecDepth 20000 in
theorem q_153_348 (G : Nat × (Nat → Int32)) (d : Nat) (x1 : Int32) (x2 : Int32) (s0 : Int32) (σ : aH) : Lq G d M_153 (49, [some (.ref 33), some (.int x1), some (.int x2)], [.int s0], σ) = Lq G d M_153 (53, [some (.ref 33), some (.int x1), some (.int x2)], [.int s0], σ) :=
  (aUn_eq (tkd G.1 G.2) tmi (aRun (tkd G.1 G.2) tmi tmt d) M_153 [] 1 (49, [some (.ref 33), some (.int x1), some (.int x2)], [.int s0], σ)).trans rfl
set_option maxRecDepth 20000 in
theorem q_153_349 (G : Nat × (Nat → Int32)) (d : Nat) (x1 : Int32) (x2 : Int32) (σ : aH) : Lq G d M_153 (17, [some (.ref 33), some (.int x1), some (.int x2)], [.ref 33], σ) = Lq G d M_153 (24, [some (.ref 33), some (.int x1), some (.int x2)], [.int (9999 : Int32), .int (-9999 : Int32), .int x1, .ref 33], σ) :=
  (aUn_eq (tkd G.1 G.2) tmi (aRun (tkd G.1 G.2) tmi tmt d) M_153 [] 3 (17, [some (.ref 33), some (.int x1), some (.int x2)], [.ref 33], σ)).trans rfl
set_option maxRecDepth 20000 in
theorem q_153_350 (G : Nat × (Nat → Int32)) (d : Nat) (x1 : Int32) (x2 : Int32) (s0 : Int32) (s1 : Int32) (s2 : Int32) (σ : aH) : Lq G d M_153 (24, [some (.ref 33), some (.int x1), some (.int x2)], [.int s0, .int s1, .int s2, .ref 33], σ) = aCI (Rn G d 130 [.int s2, .int s1, .int s0] σ) fun v2 σ1 => Lq G d M_153 (27, [some (.ref 33), some (.int x1), some (.int x2)], [.int v2, .ref 33], σ1) :=
  (aUn_eq (tkd G.1 G.2) tmi (aRun (tkd G.1 G.2) tmi tmt d) M_153 [] 1 (24, [some (.ref 33), some (.int x1), some (.int x2)], [.int s0, .int s1, .int s2, .ref 33], σ)).trans rfl
set_option maxRecDepth 20000 in
theorem q_153_351 (G : Nat × (Nat → Int32)) (d : Nat) (x1 : Int32) (x2 : Int32) (s0 : Int32) (σ : aH) : Lq G d M_153 (27, [some (.ref 33), some (.int x1), some (.int x2)], [.int s0, .ref 33], σ) = if s0 = 0 then Lq G d M_153 (34, [some (.ref 33), some (.int x1), some (.int x2)], [.ref 33], σ) else Lq G d M_153 (30, [some (.ref 33), some (.int x1), some (.int x2)], [.ref 33], σ) :=
  (aUn_eq (tkd G.1 G.2) tmi (aRun (tkd G.1 G.2) tmi tmt d) M_153 [] 1 (27, [some (.ref 33), some (.int x1), some (.int x2)], [.int s0, .ref 33], σ)).trans rfl
set_option maxRecDepth 20000 in
theorem q_153_352 (G : Nat × (Nat → Int32)) (d : Nat) (x1 : Int32) (x2 : Int32) (σ : aH) : Lq G d M_153 (30, [some (.ref 33), some (.int x1), some (.int x2)], [.ref 33], σ) = Lq G d M_153 (36, [some (.ref 33), some (.int x1), some (.int x2)], [.int (1 : Int32), .int (1 : Int32), .ref 33], σ) :=
  (aUn_eq (tkd G.1 G.2) tmi (aRun (tkd G.1 G.2) tmi tmt d) M_153 [] 3 (30, [some (.ref 33), some (.int x1), some (.int x2)], [.ref 33], σ)).trans rfl
set_option maxRecDepth 20000 in
theorem q_156_353 (G : Nat × (Nat → Int32)) (d : Nat) (x1 : Int32) (x2 : Int32) (x3 : Int32) (x4 : Int32) (σ : aH) : Lq G d M_156 (0, [some (.ref 0), some (.int x1), some (.int x2), some (.int x3), some (.int x4)], [], σ) = Lq G d M_156 (4, [some (.ref 0), some (.int x1), some (.int x2), some (.int x3), some (.int x4)], [.int x3, .int x2, .int x1, .ref 0], σ) :=
  (aUn_eq (tkd G.1 G.2) tmi (aRun (tkd G.1 G.2) tmi tmt d) M_156 [] 4 (0, [some (.ref 0), some (.int x1), some (.int x2), some (.int x3), some (.int x4)], [], σ)).trans rfl
set_option maxRecDepth 20000 in
theorem q_156_354 (G : Nat × (Nat → Int32)) (d : Nat) (x1 : Int32) (x2 : Int32) (x3 : Int32) (x4 : Int32) (s0 : Int32) (s1 : Int32) (s2 : Int32) (σ : aH) : Lq G d M_156 (4, [some (.ref 0), some (.int x1), some (.int x2), some (.int x3), some (.int x4)], [.int s0, .int s1, .int s2, .ref 0], σ) = aXV (Rn G d 157 [.ref 0, .int s2, .int s1, .int s0] σ) (fun σ1 => Lq G d M_156 (7, [some (.ref 0), some (.int x1), some (.int x2), some (.int x3), some (.int x4)], [], σ1)) (fun k2 σ3 => some (.inr k2, σ3)) :=
  (aUn_eq (tkd G.1 G.2) tmi (aRun (tkd G.1 G.2) tmi tmt d) M_156 [] 1 (4, [some (.ref 0), some (.int x1), some (.int x2), some (.int x3), some (.int x4)], [.int s0, .int s1, .int s2, .ref 0], σ)).trans rfl
set_option maxRecDepth 20000 in
theorem q_156_355 (G : Nat × (Nat → Int32)) (d : Nat) (x1 : Int32) (x2 : Int32) (x3 : Int32) (x4 : Int32) (σ : aH) : Lq G d M_156 (7, [some (.ref 0), some (.int x1), some (.int x2), some (.int x3), some (.int x4)], [], σ) = Lq G d M_156 (9, [some (.ref 0), some (.int x1), some (.int x2), some (.int x3), some (.int x4)], [.int x4], σ) :=
  (aUn_eq (tkd G.1 G.2) tmi (aRun (tkd G.1 G.2) tmi tmt d) M_156 [] 1 (7, [some (.ref 0), some (.int x1), some (.int x2), some (.int x3), some (.int x4)], [], σ)).trans rfl
set_option maxRecDepth 20000 in
theorem q_156_356 (G : Nat × (Nat → Int32)) (d : Nat) (x1 : Int32) (x2 : Int32) (x3 : Int32) (x4 : Int32) (s0 : Int32) (σ : aH) : Lq G d M_156 (9, [some (.ref 0), some (.int x1), some (.int x2), some (.int x3), some (.int x4)], [.int s0], σ) = if s0 < 0 then Lq G d M_156 (31, [some (.ref 0), some (.int x1), some (.int x2), some (.int x3), some (.int x4)], [], σ) else Lq G d M_156 (12, [some (.ref 0), some (.int x1), some (.int x2), some (.int x3), some (.int x4)], [], σ) :=
  (aUn_eq (tkd G.1 G.2) tmi (aRun (tkd G.1 G.2) tmi tmt d) M_156 [] 1 (9, [some (.ref 0), some (.int x1), some (.int x2), some (.int x3), some (.int x4)], [.int s0], σ)).trans rfl
set_option maxRecDepth 20000 in
theorem q_156_357 (G : Nat × (Nat → Int32)) (d : Nat) (x1 : Int32) (x2 : Int32) (x3 : Int32) (x4 : Int32) (σ : aH) : Lq G d M_156 (31, [some (.ref 0), some (.int x1), some (.int x2), some (.int x3), some (.int x4)], [], σ) = Lq G d M_156 (32, [some (.ref 0), some (.int x1), some (.int x2), some (.int x3), some (.int x4)], [.int (0 : Int32)], σ) :=
  (aUn_eq (tkd G.1 G.2) tmi (aRun (tkd G.1 G.2) tmi tmt d) M_156 [] 1 (31, [some (.ref 0), some (.int x1), some (.int x2), some (.int x3), some (.int x4)], [], σ)).trans rfl
set_option maxRecDepth 20000 in
theorem q_156_358 (G : Nat × (Nat → Int32)) (d : Nat) (x1 : Int32) (x2 : Int32) (x3 : Int32) (x4 : Int32) (s0 : Int32) (σ : aH) : Lq G d M_156 (32, [some (.ref 0), some (.int x1), some (.int x2), some (.int x3), some (.int x4)], [.int s0], σ) = aXV (Rn G d 6 [.int s0] σ) (fun σ1 => Lq G d M_156 (35, [some (.ref 0), some (.int x1), some (.int x2), some (.int x3), some (.int x4)], [], σ1)) (fun k2 σ3 => some (.inr k2, σ3)) :=
  (aUn_eq (tkd G.1 G.2) tmi (aRun (tkd G.1 G.2) tmi tmt d) M_156 [] 1 (32, [some (.ref 0), some (.int x1), some (.int x2), some (.int x3), some (.int x4)], [.int s0], σ)).trans rfl
set_option maxRecDepth 20000 in
theorem q_156_359 (G : Nat × (Nat → Int32)) (d : Nat) (x1 : Int32) (x2 : Int32) (x3 : Int32) (x4 : Int32) (σ : aH) : Lq G d M_156 (35, [some (.ref 0), some (.int x1), some (.int x2), some (.int x3), some (.int x4)], [], σ) = Lq G d M_156 (46, [some (.ref 0), some (.int x1), some (.int x2), some (.int x3), some (.int x4)], [.int x3, .int x2, .int x1, .ref 3, .ref 24], σ) :=
  (aUn_eq (tkd G.1 G.2) tmi (aRun (tkd G.1 G.2) tmi tmt d) M_156 [] 7 (35, [some (.ref 0), some (.int x1), some (.int x2), some (.int x3), some (.int x4)], [], σ)).trans rfl
set_option maxRecDepth 20000 in
theorem q_156_360 (G : Nat × (Nat → Int32)) (d : Nat) (x1 : Int32) (x2 : Int32) (x3 : Int32) (x4 : Int32) (s0 : Int32) (s1 : Int32) (s2 : Int32) (σ : aH) : Lq G d M_156 (46, [some (.ref 0), some (.int x1), some (.int x2), some (.int x3), some (.int x4)], [.int s0, .int s1, .int s2, .ref 3, .ref 24], σ) = aCV (Rn G d 158 [.ref 24, .ref 3, .int s2, .int s1, .int s0] σ) fun σ1 => Lq G d M_156 (49, [some (.ref 0), some (.int x1), some (.int x2), some (.int x3), some (.int x4)], [], σ1) :=
  (aUn_eq (tkd G.1 G.2) tmi (aRun (tkd G.1 G.2) tmi tmt d) M_156 [] 1 (46, [some (.ref 0), some (.int x1), some (.int x2), some (.int x3), some (.int x4)], [.int s0, .int s1, .int s2, .ref 3, .ref 24], σ)).trans rfl
set_option maxRecDepth 20000 in
theorem q_156_361 (G : Nat × (Nat → Int32)) (d : Nat) (x1 : Int32) (x2 : Int32) (x3 : Int32) (x4 : Int32) (σ : aH) : Lq G d M_156 (49, [some (.ref 0), some (.int x1), some (.int x2), some (.int x3), some (.int x4)], [], σ) = Lq G d M_156 (55, [some (.ref 0), some (.int x1), some (.int x2), some (.int x3), some (.int x4)], [.int x4, .ref 24], σ) :=
  (aUn_eq (tkd G.1 G.2) tmi (aRun (tkd G.1 G.2) tmi tmt d) M_156 [] 3 (49, [some (.ref 0), some (.int x1), some (.int x2), some (.int x3), some (.int x4)], [], σ)).trans rfl
set_option maxRecDepth 20000 in
theorem q_156_362 (G : Nat × (Nat → Int32)) (d : Nat) (x1 : Int32) (x2 : Int32) (x3 : Int32) (x4 : Int32) (s0 : Int32) (σ : aH) : Lq G d M_156 (55, [some (.ref 0), some (.int x1), some (.int x2), some (.int x3), some (.int x4)], [.int s0, .ref 24], σ) = aCI (Rn G d 163 [.ref 24, .int s0] σ) fun v2 σ1 => Lq G d M_156 (58, [some (.ref 0), some (.int x1), some (.int x2), some (.int x3), some (.int x4)], [.int v2], σ1) :=
  (aUn_eq (tkd G.1 G.2) tmi (aRun (tkd G.1 G.2) tmi tmt d) M_156 [] 1 (55, [some (.ref 0), some (.int x1), some (.int x2), some (.int x3), some (.int x4)], [.int s0, .ref 24], σ)).trans rfl
set_option maxRecDepth 20000 in
theorem q_156_363 (G : Nat × (Nat → Int32)) (d : Nat) (x1 : Int32) (x2 : Int32) (x3 : Int32) (x4 : Int32) (s0 : Int32) (σ : aH) : Lq G d M_156 (58, [some (.ref 0), some (.int x1), some (.int x2), some (.int x3), some (.int x4)], [.int s0], σ) = some (.inl (some (.int s0)), σ) :=
  (aUn_eq (tkd G.1 G.2) tmi (aRun (tkd G.1 G.2) tmi tmt d) M_156 [] 1 (58, [some (.ref 0), some (.int x1), some (.int x2), some (.int x3), some (.int x4)], [.int s0], σ)).trans rfl
set_option maxRecDepth 20000 in
theorem q_156_364 (G : Nat × (Nat → Int32)) (d : Nat) (x1 : Int32) (x2 : Int32) (x3 : Int32) (x4 : Int32) (σ : aH) : Lq G d M_156 (12, [some (.ref 0), some (.int x1), some (.int x2), some (.int x3), some (.int x4)], [], σ) = Lq G d M_156 (21, [some (.ref 0), some (.int x1), some (.int x2), some (.int x3), some (.int x4)], [.int (5 : Int32), .int x3, .int (1 : Int32), .ref 3, .int x4], σ) :=
  (aUn_eq (tkd G.1 G.2) tmi (aRun (tkd G.1 G.2) tmi tmt d) M_156 [] 6 (12, [some (.ref 0), some (.int x1), some (.int x2), some (.int x3), some (.int x4)], [], σ)).trans rfl
set_option maxRecDepth 20000 in
theorem q_156_365 (G : Nat × (Nat → Int32)) (d : Nat) (x1 : Int32) (x2 : Int32) (x3 : Int32) (x4 : Int32) (s0 : Int32) (s1 : Int32) (s2 : Int32) (s4 : Int32) (σ : aH) : Lq G d M_156 (21, [some (.ref 0), some (.int x1), some (.int x2), some (.int x3), some (.int x4)], [.int s0, .int s1, .int s2, .ref 3, .int s4], σ) = aCI (Rn G d 119 [.ref 3, .int s2, .int s1, .int s0] σ) fun v2 σ1 => Lq G d M_156 (24, [some (.ref 0), some (.int x1), some (.int x2), some (.int x3), some (.int x4)], [.int v2, .int s4], σ1) :=
  (aUn_eq (tkd G.1 G.2) tmi (aRun (tkd G.1 G.2) tmi tmt d) M_156 [] 1 (21, [some (.ref 0), some (.int x1), some (.int x2), some (.int x3), some (.int x4)], [.int s0, .int s1, .int s2, .ref 3, .int s4], σ)).trans rfl
set_option maxRecDepth 20000 in
theorem q_156_366 (G : Nat × (Nat → Int32)) (d : Nat) (x1 : Int32) (x2 : Int32) (x3 : Int32) (x4 : Int32) (s0 : Int32) (s1 : Int32) (σ : aH) : Lq G d M_156 (24, [some (.ref 0), some (.int x1), some (.int x2), some (.int x3), some (.int x4)], [.int s0, .int s1], σ) = if s0 < s1 then Lq G d M_156 (31, [some (.ref 0), some (.int x1), some (.int x2), some (.int x3), some (.int x4)], [], σ) else Lq G d M_156 (27, [some (.ref 0), some (.int x1), some (.int x2), some (.int x3), some (.int x4)], [], σ) :=
  (aUn_eq (tkd G.1 G.2) tmi (aRun (tkd G.1 G.2) tmi tmt d) M_156 [] 1 (24, [some (.ref 0), some (.int x1), some (.int x2), some (.int x3), some (.int x4)], [.int s0, .int s1], σ)).trans rfl
set_option maxRecDepth 20000 in
theorem q_156_367 (G : Nat × (Nat → Int32)) (d : Nat) (x1 : Int32) (x2 : Int32) (x3 : Int32) (x4 : Int32) (σ : aH) : Lq G d M_156 (27, [some (.ref 0), some (.int x1), some (.int x2), some (.int x3), some (.int x4)], [], σ) = Lq G d M_156 (32, [some (.ref 0), some (.int x1), some (.int x2), some (.int x3), some (.int x4)], [.int (1 : Int32)], σ) :=
  (aUn_eq (tkd G.1 G.2) tmi (aRun (tkd G.1 G.2) tmi tmt d) M_156 [] 2 (27, [some (.ref 0), some (.int x1), some (.int x2), some (.int x3), some (.int x4)], [], σ)).trans rfl
set_option maxRecDepth 20000 in
theorem q_166_368 (G : Nat × (Nat → Int32)) (d : Nat) (x1 : Int32) (x2 : Int32) (x3 : Int32) (x4 : Int32) (σ : aH) : Lq G d M_166 (0, [some (.ref 33), some (.int x1), some (.int x2), some (.int x3), some (.int x4)], [], σ) = Lq G d M_166 (4, [some (.ref 33), some (.int x1), some (.int x2), some (.int x3), some (.int x4)], [.int x3, .int x2, .int x1, .ref 33], σ) :=
  (aUn_eq (tkd G.1 G.2) tmi (aRun (tkd G.1 G.2) tmi tmt d) M_166 [] 4 (0, [some (.ref 33), some (.int x1), some (.int x2), some (.int x3), some (.int x4)], [], σ)).trans rfl
set_option maxRecDepth 20000 in
theorem q_166_369 (G : Nat × (Nat → Int32)) (d : Nat) (x1 : Int32) (x2 : Int32) (x3 : Int32) (x4 : Int32) (s0 : Int32) (s1 : Int32) (s2 : Int32) (σ : aH) : Lq G d M_166 (4, [some (.ref 33), some (.int x1), some (.int x2), some (.int x3), some (.int x4)], [.int s0, .int s1, .int s2, .ref 33], σ) = aCI (Rn G d 167 [.ref 33, .int s2, .int s1, .int s0] σ) fun v2 σ1 => Lq G d M_166 (7, [some (.ref 33), some (.int x1), some (.int x2), some (.int x3), some (.int x4)], [.int v2], σ1) :=
  (aUn_eq (tkd G.1 G.2) tmi (aRun (tkd G.1 G.2) tmi tmt d) M_166 [] 1 (4, [some (.ref 33), some (.int x1), some (.int x2), some (.int x3), some (.int x4)], [.int s0, .int s1, .int s2, .ref 33], σ)).trans rfl
set_option maxRecDepth 20000 in
theorem q_166_370 (G : Nat × (Nat → Int32)) (d : Nat) (x1 : Int32) (x2 : Int32) (x3 : Int32) (x4 : Int32) (s0 : Int32) (σ : aH) : Lq G d M_166 (7, [some (.ref 33), some (.int x1), some (.int x2), some (.int x3), some (.int x4)], [.int s0], σ) = if s0 = 0 then Lq G d M_166 (30, [some (.ref 33), some (.int x1), some (.int x2), some (.int x3), some (.int x4)], [], σ) else Lq G d M_166 (10, [some (.ref 33), some (.int x1), some (.int x2), some (.int x3), some (.int x4)], [], σ) :=
  (aUn_eq (tkd G.1 G.2) tmi (aRun (tkd G.1 G.2) tmi tmt d) M_166 [] 1 (7, [some (.ref 33), some (.int x1), some (.int x2), some (.int x3), some (.int x4)], [.int s0], σ)).trans rfl
set_option maxRecDepth 20000 in
theorem q_166_371 (G : Nat × (Nat → Int32)) (d : Nat) (x1 : Int32) (x2 : Int32) (x3 : Int32) (x4 : Int32) (σ : aH) : Lq G d M_166 (30, [some (.ref 33), some (.int x1), some (.int x2), some (.int x3), some (.int x4)], [], σ) = Lq G d M_166 (31, [some (.ref 33), some (.int x1), some (.int x2), some (.int x3), some (.int x4)], [.int (0 : Int32)], σ) :=
  (aUn_eq (tkd G.1 G.2) tmi (aRun (tkd G.1 G.2) tmi tmt d) M_166 [] 1 (30, [some (.ref 33), some (.int x1), some (.int x2), some (.int x3), some (.int x4)], [], σ)).trans rfl
set_option maxRecDepth 20000 in
theorem q_166_372 (G : Nat × (Nat → Int32)) (d : Nat) (x1 : Int32) (x2 : Int32) (x3 : Int32) (x4 : Int32) (s0 : Int32) (σ : aH) : Lq G d M_166 (31, [some (.ref 33), some (.int x1), some (.int x2), some (.int x3), some (.int x4)], [.int s0], σ) = some (.inl (some (.int s0)), σ) :=
  (aUn_eq (tkd G.1 G.2) tmi (aRun (tkd G.1 G.2) tmi tmt d) M_166 [] 1 (31, [some (.ref 33), some (.int x1), some (.int x2), some (.int x3), some (.int x4)], [.int s0], σ)).trans rfl
set_option maxRecDepth 20000 in
theorem q_166_373 (G : Nat × (Nat → Int32)) (d : Nat) (x1 : Int32) (x2 : Int32) (x3 : Int32) (x4 : Int32) (σ : aH) : Lq G d M_166 (10, [some (.ref 33), some (.int x1), some (.int x2), some (.int x3), some (.int x4)], [], σ) = Lq G d M_166 (20, [some (.ref 33), some (.int x1), some (.int x2), some (.int x3), some (.int x4)], [.int (σ.1 51 5), .int (0 : Int32), .int x4, .ref 33], σ) :=
  (aUn_eq (tkd G.1 G.2) tmi (aRun (tkd G.1 G.2) tmi tmt d) M_166 [] 7 (10, [some (.ref 33), some (.int x1), some (.int x2), some (.int x3), some (.int x4)], [], σ)).trans rfl
set_option maxRecDepth 20000 in
theorem q_166_374 (G : Nat × (Nat → Int32)) (d : Nat) (x1 : Int32) (x2 : Int32) (x3 : Int32) (x4 : Int32) (s0 : Int32) (s1 : Int32) (s2 : Int32) (σ : aH) : Lq G d M_166 (20, [some (.ref 33), some (.int x1), some (.int x2), some (.int x3), some (.int x4)], [.int s0, .int s1, .int s2, .ref 33], σ) = aCI (Rn G d 130 [.int s2, .int s1, .int s0] σ) fun v2 σ1 => Lq G d M_166 (23, [some (.ref 33), some (.int x1), some (.int x2), some (.int x3), some (.int x4)], [.int v2, .ref 33], σ1) :=
  (aUn_eq (tkd G.1 G.2) tmi (aRun (tkd G.1 G.2) tmi tmt d) M_166 [] 1 (20, [some (.ref 33), some (.int x1), some (.int x2), some (.int x3), some (.int x4)], [.int s0, .int s1, .int s2, .ref 33], σ)).trans rfl
set_option maxRecDepth 20000 in
theorem q_166_375 (G : Nat × (Nat → Int32)) (d : Nat) (x1 : Int32) (x2 : Int32) (x3 : Int32) (x4 : Int32) (s0 : Int32) (σ : aH) : Lq G d M_166 (23, [some (.ref 33), some (.int x1), some (.int x2), some (.int x3), some (.int x4)], [.int s0, .ref 33], σ) = Lq G d M_166 (24, [some (.ref 33), some (.int x1), some (.int x2), some (.int x3), some (.int x4)], [.int (2 : Int32), .int s0, .ref 33], σ) :=
  (aUn_eq (tkd G.1 G.2) tmi (aRun (tkd G.1 G.2) tmi tmt d) M_166 [] 1 (23, [some (.ref 33), some (.int x1), some (.int x2), some (.int x3), some (.int x4)], [.int s0, .ref 33], σ)).trans rfl
set_option maxRecDepth 20000 in
theorem q_166_376 (G : Nat × (Nat → Int32)) (d : Nat) (x1 : Int32) (x2 : Int32) (x3 : Int32) (x4 : Int32) (s0 : Int32) (s1 : Int32) (σ : aH) : Lq G d M_166 (24, [some (.ref 33), some (.int x1), some (.int x2), some (.int x3), some (.int x4)], [.int s0, .int s1, .ref 33], σ) = aCI (Rn G d 62 [.ref 33, .int s1, .int s0] σ) fun v2 σ1 => Lq G d M_166 (27, [some (.ref 33), some (.int x1), some (.int x2), some (.int x3), some (.int x4)], [.int v2], σ1) :=
  (aUn_eq (tkd G.1 G.2) tmi (aRun (tkd G.1 G.2) tmi tmt d) M_166 [] 1 (24, [some (.ref 33), some (.int x1), some (.int x2), some (.int x3), some (.int x4)], [.int s0, .int s1, .ref 33], σ)).trans rfl
set_option maxRecDepth 20000 in
theorem q_166_377 (G : Nat × (Nat → Int32)) (d : Nat) (x1 : Int32) (x2 : Int32) (x3 : Int32) (x4 : Int32) (s0 : Int32) (σ : aH) : Lq G d M_166 (27, [some (.ref 33), some (.int x1), some (.int x2), some (.int x3), some (.int x4)], [.int s0], σ) = if s0 = 0 then Lq G d M_166 (30, [some (.ref 33), some (.int x1), some (.int x2), some (.int x3), some (.int x4)], [], σ) else Lq G d M_166 (32, [some (.ref 33), some (.int x1), some (.int x2), some (.int x3), some (.int x4)], [], σ) :=
  (aUn_eq (tkd G.1 G.2) tmi (aRun (tkd G.1 G.2) tmi tmt d) M_166 [] 1 (27, [some (.ref 33), some (.int x1), some (.int x2), some (.int x3), some (.int x4)], [.int s0], σ)).trans rfl
set_option maxRecDepth 20000 in
theorem q_166_378 (G : Nat × (Nat → Int32)) (d : Nat) (x1 : Int32) (x2 : Int32) (x3 : Int32) (x4 : Int32) (σ : aH) : Lq G d M_166 (32, [some (.ref 33), some (.int x1), some (.int x2), some (.int x3), some (.int x4)], [], σ) = Lq G d M_166 (36, [some (.ref 33), some (.int x1), some (.int x2), some (.int x3), some (.int x4)], [.int x4, .int x1, .ref 33], σ) :=
  (aUn_eq (tkd G.1 G.2) tmi (aRun (tkd G.1 G.2) tmi tmt d) M_166 [] 3 (32, [some (.ref 33), some (.int x1), some (.int x2), some (.int x3), some (.int x4)], [], σ)).trans rfl
set_option maxRecDepth 20000 in
theorem q_166_379 (G : Nat × (Nat → Int32)) (d : Nat) (x1 : Int32) (x2 : Int32) (x3 : Int32) (x4 : Int32) (s0 : Int32) (s1 : Int32) (σ : aH) : Lq G d M_166 (36, [some (.ref 33), some (.int x1), some (.int x2), some (.int x3), some (.int x4)], [.int s0, .int s1, .ref 33], σ) = aCI (Rn G d 169 [.ref 33, .int s1, .int s0] σ) fun v2 σ1 => Lq G d M_166 (39, [some (.ref 33), some (.int x1), some (.int x2), some (.int x3), some (.int x4)], [.int v2], σ1) :=
  (aUn_eq (tkd G.1 G.2) tmi (aRun (tkd G.1 G.2) tmi tmt d) M_166 [] 1 (36, [some (.ref 33), some (.int x1), some (.int x2), some (.int x3), some (.int x4)], [.int s0, .int s1, .ref 33], σ)).trans rfl
set_option maxRecDepth 20000 in
theorem q_166_380 (G : Nat × (Nat → Int32)) (d : Nat) (x1 : Int32) (x2 : Int32) (x3 : Int32) (x4 : Int32) (s0 : Int32) (σ : aH) : Lq G d M_166 (39, [some (.ref 33), some (.int x1), some (.int x2), some (.int x3), some (.int x4)], [.int s0], σ) = some (.inl (some (.int s0)), σ) :=
  (aUn_eq (tkd G.1 G.2) tmi (aRun (tkd G.1 G.2) tmi tmt d) M_166 [] 1 (39, [some (.ref 33), some (.int x1), some (.int x2), some (.int x3), some (.int x4)], [.int s0], σ)).trans rfl
set_option maxRecDepth 20000 in
theorem q_174_381 (G : Nat × (Nat → Int32)) (d : Nat) (x1 : Int32) (x2 : Int32) (x3 : Int32) (x4 : Int32) (σ : aH) : Lq G d M_174 (0, [some (.ref 0), some (.int x1), some (.int x2), some (.int x3), some (.int x4)], [], σ) = Lq G d M_174 (4, [some (.ref 0), some (.int x1), some (.int x2), some (.int x3), some (.int x4)], [.int x3, .int x2, .int x1, .ref 0], σ) :=
  (aUn_eq (tkd G.1 G.2) tmi (aRun (tkd G.1 G.2) tmi tmt d) M_174 [] 4 (0, [some (.ref 0), some (.int x1), some (.int x2), some (.int x3), some (.int x4)], [], σ)).trans rfl
set_option maxRecDepth 20000 in
theorem q_174_382 (G : Nat × (Nat → Int32)) (d : Nat) (x1 : Int32) (x2 : Int32) (x3 : Int32) (x4 : Int32) (s0 : Int32) (s1 : Int32) (s2 : Int32) (σ : aH) : Lq G d M_174 (4, [some (.ref 0), some (.int x1), some (.int x2), some (.int x3), some (.int x4)], [.int s0, .int s1, .int s2, .ref 0], σ) = aXV (Rn G d 157 [.ref 0, .int s2, .int s1, .int s0] σ) (fun σ1 => Lq G d M_174 (7, [some (.ref 0), some (.int x1), some (.int x2), some (.int x3), some (.int x4)], [], σ1)) (fun k2 σ3 => some (.inr k2, σ3)) :=
  (aUn_eq (tkd G.1 G.2) tmi (aRun (tkd G.1 G.2) tmi tmt d) M_174 [] 1 (4, [some (.ref 0), some (.int x1), some (.int x2), some (.int x3), some (.int x4)], [.int s0, .int s1, .int s2, .ref 0], σ)).trans rfl
set_option maxRecDepth 20000 in
theorem q_174_383 (G : Nat × (Nat → Int32)) (d : Nat) (x1 : Int32) (x2 : Int32) (x3 : Int32) (x4 : Int32) (σ : aH) : Lq G d M_174 (7, [some (.ref 0), some (.int x1), some (.int x2), some (.int x3), some (.int x4)], [], σ) = Lq G d M_174 (9, [some (.ref 0), some (.int x1), some (.int x2), some (.int x3), some (.int x4)], [.int x4], σ) :=
  (aUn_eq (tkd G.1 G.2) tmi (aRun (tkd G.1 G.2) tmi tmt d) M_174 [] 1 (7, [some (.ref 0), some (.int x1), some (.int x2), some (.int x3), some (.int x4)], [], σ)).trans rfl
set_option maxRecDepth 20000 in
theorem q_174_384 (G : Nat × (Nat → Int32)) (d : Nat) (x1 : Int32) (x2 : Int32) (x3 : Int32) (x4 : Int32) (s0 : Int32) (σ : aH) : Lq G d M_174 (9, [some (.ref 0), some (.int x1), some (.int x2), some (.int x3), some (.int x4)], [.int s0], σ) = if s0 < 0 then Lq G d M_174 (22, [some (.ref 0), some (.int x1), some (.int x2), some (.int x3), some (.int x4)], [], σ) else Lq G d M_174 (12, [some (.ref 0), some (.int x1), some (.int x2), some (.int x3), some (.int x4)], [], σ) :=
  (aUn_eq (tkd G.1 G.2) tmi (aRun (tkd G.1 G.2) tmi tmt d) M_174 [] 1 (9, [some (.ref 0), some (.int x1), some (.int x2), some (.int x3), some (.int x4)], [.int s0], σ)).trans rfl
set_option maxRecDepth 20000 in
theorem q_174_385 (G : Nat × (Nat → Int32)) (d : Nat) (x1 : Int32) (x2 : Int32) (x3 : Int32) (x4 : Int32) (σ : aH) : Lq G d M_174 (22, [some (.ref 0), some (.int x1), some (.int x2), some (.int x3), some (.int x4)], [], σ) = Lq G d M_174 (23, [some (.ref 0), some (.int x1), some (.int x2), some (.int x3), some (.int x4)], [.int (0 : Int32)], σ) :=
  (aUn_eq (tkd G.1 G.2) tmi (aRun (tkd G.1 G.2) tmi tmt d) M_174 [] 1 (22, [some (.ref 0), some (.int x1), some (.int x2), some (.int x3), some (.int x4)], [], σ)).trans rfl
set_option maxRecDepth 20000 in
theorem q_174_386 (G : Nat × (Nat → Int32)) (d : Nat) (x1 : Int32) (x2 : Int32) (x3 : Int32) (x4 : Int32) (s0 : Int32) (σ : aH) : Lq G d M_174 (23, [some (.ref 0), some (.int x1), some (.int x2), some (.int x3), some (.int x4)], [.int s0], σ) = aXV (Rn G d 114 [.int s0] σ) (fun σ1 => Lq G d M_174 (26, [some (.ref 0), some (.int x1), some (.int x2), some (.int x3), some (.int x4)], [], σ1)) (fun k2 σ3 => some (.inr k2, σ3)) :=
  (aUn_eq (tkd G.1 G.2) tmi (aRun (tkd G.1 G.2) tmi tmt d) M_174 [] 1 (23, [some (.ref 0), some (.int x1), some (.int x2), some (.int x3), some (.int x4)], [.int s0], σ)).trans rfl
set_option maxRecDepth 20000 in
theorem q_174_387 (G : Nat × (Nat → Int32)) (d : Nat) (x1 : Int32) (x2 : Int32) (x3 : Int32) (x4 : Int32) (σ : aH) : Lq G d M_174 (26, [some (.ref 0), some (.int x1), some (.int x2), some (.int x3), some (.int x4)], [], σ) = Lq G d M_174 (37, [some (.ref 0), some (.int x1), some (.int x2), some (.int x3), some (.int x4)], [.int x3, .int x2, .int x1, .ref 3, .ref 24], σ) :=
  (aUn_eq (tkd G.1 G.2) tmi (aRun (tkd G.1 G.2) tmi tmt d) M_174 [] 7 (26, [some (.ref 0), some (.int x1), some (.int x2), some (.int x3), some (.int x4)], [], σ)).trans rfl
set_option maxRecDepth 20000 in
theorem q_174_388 (G : Nat × (Nat → Int32)) (d : Nat) (x1 : Int32) (x2 : Int32) (x3 : Int32) (x4 : Int32) (s0 : Int32) (s1 : Int32) (s2 : Int32) (σ : aH) : Lq G d M_174 (37, [some (.ref 0), some (.int x1), some (.int x2), some (.int x3), some (.int x4)], [.int s0, .int s1, .int s2, .ref 3, .ref 24], σ) = aCV (Rn G d 158 [.ref 24, .ref 3, .int s2, .int s1, .int s0] σ) fun σ1 => Lq G d M_174 (40, [some (.ref 0), some (.int x1), some (.int x2), some (.int x3), some (.int x4)], [], σ1) :=
  (aUn_eq (tkd G.1 G.2) tmi (aRun (tkd G.1 G.2) tmi tmt d) M_174 [] 1 (37, [some (.ref 0), some (.int x1), some (.int x2), some (.int x3), some (.int x4)], [.int s0, .int s1, .int s2, .ref 3, .ref 24], σ)).trans rfl
set_option maxRecDepth 20000 in
theorem q_174_389 (G : Nat × (Nat → Int32)) (d : Nat) (x1 : Int32) (x2 : Int32) (x3 : Int32) (x4 : Int32) (σ : aH) : Lq G d M_174 (40, [some (.ref 0), some (.int x1), some (.int x2), some (.int x3), some (.int x4)], [], σ) = Lq G d M_174 (43, [some (.ref 0), some (.int x1), some (.int x2), some (.int x3), some (.int x4)], [.int (2 : Int32), .int x4], σ) :=
  (aUn_eq (tkd G.1 G.2) tmi (aRun (tkd G.1 G.2) tmi tmt d) M_174 [] 2 (40, [some (.ref 0), some (.int x1), some (.int x2), some (.int x3), some (.int x4)], [], σ)).trans rfl
set_option maxRecDepth 20000 in
theorem q_174_390 (G : Nat × (Nat → Int32)) (d : Nat) (x1 : Int32) (x2 : Int32) (x3 : Int32) (x4 : Int32) (s0 : Int32) (s1 : Int32) (σ : aH) : Lq G d M_174 (43, [some (.ref 0), some (.int x1), some (.int x2), some (.int x3), some (.int x4)], [.int s0, .int s1], σ) = if s1 = s0 then Lq G d M_174 (46, [some (.ref 0), some (.int x1), some (.int x2), some (.int x3), some (.int x4)], [], σ) else Lq G d M_174 (54, [some (.ref 0), some (.int x1), some (.int x2), some (.int x3), some (.int x4)], [], σ) :=
  (aUn_eq (tkd G.1 G.2) tmi (aRun (tkd G.1 G.2) tmi tmt d) M_174 [] 1 (43, [some (.ref 0), some (.int x1), some (.int x2), some (.int x3), some (.int x4)], [.int s0, .int s1], σ)).trans rfl
set_option maxRecDepth 20000 in
theorem q_174_391 (G : Nat × (Nat → Int32)) (d : Nat) (x1 : Int32) (x2 : Int32) (x3 : Int32) (x4 : Int32) (σ : aH) : Lq G d M_174 (46, [some (.ref 0), some (.int x1), some (.int x2), some (.int x3), some (.int x4)], [], σ) = Lq G d M_174 (50, [some (.ref 0), some (.int x1), some (.int x2), some (.int x3), some (.int x4)], [.ref 24], σ) :=
  (aUn_eq (tkd G.1 G.2) tmi (aRun (tkd G.1 G.2) tmi tmt d) M_174 [] 2 (46, [some (.ref 0), some (.int x1), some (.int x2), some (.int x3), some (.int x4)], [], σ)).trans rfl
set_option maxRecDepth 20000 in
theorem q_174_392 (G : Nat × (Nat → Int32)) (d : Nat) (x1 : Int32) (x2 : Int32) (x3 : Int32) (x4 : Int32) (σ : aH) : Lq G d M_174 (50, [some (.ref 0), some (.int x1), some (.int x2), some (.int x3), some (.int x4)], [.ref 24], σ) = aCI (Rn G d 175 [.ref 24] σ) fun v2 σ1 => Lq G d M_174 (53, [some (.ref 0), some (.int x1), some (.int x2), some (.int x3), some (.int x4)], [.int v2], σ1) :=
  (aUn_eq (tkd G.1 G.2) tmi (aRun (tkd G.1 G.2) tmi tmt d) M_174 [] 1 (50, [some (.ref 0), some (.int x1), some (.int x2), some (.int x3), some (.int x4)], [.ref 24], σ)).trans rfl
set_option maxRecDepth 20000 in
theorem q_174_393 (G : Nat × (Nat → Int32)) (d : Nat) (x1 : Int32) (x2 : Int32) (x3 : Int32) (x4 : Int32) (s0 : Int32) (σ : aH) : Lq G d M_174 (53, [some (.ref 0), some (.int x1), some (.int x2), some (.int x3), some (.int x4)], [.int s0], σ) = some (.inl (some (.int s0)), σ) :=
  (aUn_eq (tkd G.1 G.2) tmi (aRun (tkd G.1 G.2) tmi tmt d) M_174 [] 1 (53, [some (.ref 0), some (.int x1), some (.int x2), some (.int x3), some (.int x4)], [.int s0], σ)).trans rfl
set_option maxRecDepth 20000 in
theorem q_174_394 (G : Nat × (Nat → Int32)) (d : Nat) (x1 : Int32) (x2 : Int32) (x3 : Int32) (x4 : Int32) (σ : aH) : Lq G d M_174 (54, [some (.ref 0), some (.int x1), some (.int x2), some (.int x3), some (.int x4)], [], σ) = Lq G d M_174 (58, [some (.ref 0), some (.int x1), some (.int x2), some (.int x3), some (.int x4)], [.ref 24], σ) :=
  (aUn_eq (tkd G.1 G.2) tmi (aRun (tkd G.1 G.2) tmi tmt d) M_174 [] 2 (54, [some (.ref 0), some (.int x1), some (.int x2), some (.int x3), some (.int x4)], [], σ)).trans rfl
set_option maxRecDepth 20000 in
theorem q_174_395 (G : Nat × (Nat → Int32)) (d : Nat) (x1 : Int32) (x2 : Int32) (x3 : Int32) (x4 : Int32) (σ : aH) : Lq G d M_174 (58, [some (.ref 0), some (.int x1), some (.int x2), some (.int x3), some (.int x4)], [.ref 24], σ) = aCV (Rn G d 176 [.ref 24] σ) fun σ1 => Lq G d M_174 (61, [some (.ref 0), some (.int x1), some (.int x2), some (.int x3), some (.int x4)], [], σ1) :=
  (aUn_eq (tkd G.1 G.2) tmi (aRun (tkd G.1 G.2) tmi tmt d) M_174 [] 1 (58, [some (.ref 0), some (.int x1), some (.int x2), some (.int x3), some (.int x4)], [.ref 24], σ)).trans rfl
set_option maxRecDepth 20000 in
theorem q_174_396 (G : Nat × (Nat → Int32)) (d : Nat) (x1 : Int32) (x2 : Int32) (x3 : Int32) (x4 : Int32) (σ : aH) : Lq G d M_174 (61, [some (.ref 0), some (.int x1), some (.int x2), some (.int x3), some (.int x4)], [], σ) = Lq G d M_174 (63, [some (.ref 0), some (.int x1), some (.int x2), some (.int x3), some (.int x4)], [.int x4], σ) :=
  (aUn_eq (tkd G.1 G.2) tmi (aRun (tkd G.1 G.2) tmi tmt d) M_174 [] 1 (61, [some (.ref 0), some (.int x1), some (.int x2), some (.int x3), some (.int x4)], [], σ)).trans rfl
set_option maxRecDepth 20000 in
theorem q_174_397 (G : Nat × (Nat → Int32)) (d : Nat) (x1 : Int32) (x2 : Int32) (x3 : Int32) (x4 : Int32) (s0 : Int32) (σ : aH) : Lq G d M_174 (63, [some (.ref 0), some (.int x1), some (.int x2), some (.int x3), some (.int x4)], [.int s0], σ) = if s0 = 0 then Lq G d M_174 (66, [some (.ref 0), some (.int x1), some (.int x2), some (.int x3), some (.int x4)], [], σ) else Lq G d M_174 (76, [some (.ref 0), some (.int x1), some (.int x2), some (.int x3), some (.int x4)], [], σ) :=
  (aUn_eq (tkd G.1 G.2) tmi (aRun (tkd G.1 G.2) tmi tmt d) M_174 [] 1 (63, [some (.ref 0), some (.int x1), some (.int x2), some (.int x3), some (.int x4)], [.int s0], σ)).trans rfl
set_option maxRecDepth 20000 in
theorem q_174_398 (G : Nat × (Nat → Int32)) (d : Nat) (x1 : Int32) (x2 : Int32) (x3 : Int32) (x4 : Int32) (σ : aH) : Lq G d M_174 (66, [some (.ref 0), some (.int x1), some (.int x2), some (.int x3), some (.int x4)], [], σ) = Lq G d M_174 (83, [some (.ref 0), some (.int x1), some (.int x2), some (.int x3), some (.int x4)], [.int (σ.1 24 16)], σ) :=
  (aUn_eq (tkd G.1 G.2) tmi (aRun (tkd G.1 G.2) tmi tmt d) M_174 [] 4 (66, [some (.ref 0), some (.int x1), some (.int x2), some (.int x3), some (.int x4)], [], σ)).trans rfl
set_option maxRecDepth 20000 in
theorem q_174_399 (G : Nat × (Nat → Int32)) (d : Nat) (x1 : Int32) (x2 : Int32) (x3 : Int32) (x4 : Int32) (s0 : Int32) (σ : aH) : Lq G d M_174 (83, [some (.ref 0), some (.int x1), some (.int x2), some (.int x3), some (.int x4)], [.int s0], σ) = some (.inl (some (.int s0)), σ) :=
  (aUn_eq (tkd G.1 G.2) tmi (aRun (tkd G.1 G.2) tmi tmt d) M_174 [] 1 (83, [some (.ref 0), some (.int x1), some (.int x2), some (.int x3), some (.int x4)], [.int s0], σ)).trans rfl
set_option maxRecDepth 20000 in
theorem q_174_400 (G : Nat × (Nat → Int32)) (d : Nat) (x1 : Int32) (x2 : Int32) (x3 : Int32) (x4 : Int32) (σ : aH) : Lq G d M_174 (76, [some (.ref 0), some (.int x1), some (.int x2), some (.int x3), some (.int x4)], [], σ) = Lq G d M_174 (80, [some (.ref 0), some (.int x1), some (.int x2), some (.int x3), some (.int x4)], [.ref 24], σ) :=
  (aUn_eq (tkd G.1 G.2) tmi (aRun (tkd G.1 G.2) tmi tmt d) M_174 [] 2 (76, [some (.ref 0), some (.int x1), some (.int x2), some (.int x3), some (.int x4)], [], σ)).trans rfl
set_option maxRecDepth 20000 in
theorem q_174_401 (G : Nat × (Nat → Int32)) (d : Nat) (x1 : Int32) (x2 : Int32) (x3 : Int32) (x4 : Int32) (σ : aH) : Lq G d M_174 (80, [some (.ref 0), some (.int x1), some (.int x2), some (.int x3), some (.int x4)], [.ref 24], σ) = aCI (Rn G d 177 [.ref 24] σ) fun v2 σ1 => Lq G d M_174 (83, [some (.ref 0), some (.int x1), some (.int x2), some (.int x3), some (.int x4)], [.int v2], σ1) :=
  (aUn_eq (tkd G.1 G.2) tmi (aRun (tkd G.1 G.2) tmi tmt d) M_174 [] 1 (80, [some (.ref 0), some (.int x1), some (.int x2), some (.int x3), some (.int x4)], [.ref 24], σ)).trans rfl
set_option maxRecDepth 20000 in
theorem q_174_402 (G : Nat × (Nat → Int32)) (d : Nat) (x1 : Int32) (x2 : Int32) (x3 : Int32) (x4 : Int32) (σ : aH) : Lq G d M_174 (12, [some (.ref 0), some (.int x1), some (.int x2), some (.int x3), some (.int x4)], [], σ) = Lq G d M_174 (15, [some (.ref 0), some (.int x1), some (.int x2), some (.int x3), some (.int x4)], [.int (2 : Int32), .int x4], σ) :=
  (aUn_eq (tkd G.1 G.2) tmi (aRun (tkd G.1 G.2) tmi tmt d) M_174 [] 2 (12, [some (.ref 0), some (.int x1), some (.int x2), some (.int x3), some (.int x4)], [], σ)).trans rfl
set_option maxRecDepth 20000 in
theorem q_174_403 (G : Nat × (Nat → Int32)) (d : Nat) (x1 : Int32) (x2 : Int32) (x3 : Int32) (x4 : Int32) (s0 : Int32) (s1 : Int32) (σ : aH) : Lq G d M_174 (15, [some (.ref 0), some (.int x1), some (.int x2), some (.int x3), some (.int x4)], [.int s0, .int s1], σ) = if s0 < s1 then Lq G d M_174 (22, [some (.ref 0), some (.int x1), some (.int x2), some (.int x3), some (.int x4)], [], σ) else Lq G d M_174 (18, [some (.ref 0), some (.int x1), some (.int x2), some (.int x3), some (.int x4)], [], σ) :=
  (aUn_eq (tkd G.1 G.2) tmi (aRun (tkd G.1 G.2) tmi tmt d) M_174 [] 1 (15, [some (.ref 0), some (.int x1), some (.int x2), some (.int x3), some (.int x4)], [.int s0, .int s1], σ)).trans rfl
set_option maxRecDepth 20000 in
theorem q_174_404 (G : Nat × (Nat → Int32)) (d : Nat) (x1 : Int32) (x2 : Int32) (x3 : Int32) (x4 : Int32) (σ : aH) : Lq G d M_174 (18, [some (.ref 0), some (.int x1), some (.int x2), some (.int x3), some (.int x4)], [], σ) = Lq G d M_174 (23, [some (.ref 0), some (.int x1), some (.int x2), some (.int x3), some (.int x4)], [.int (1 : Int32)], σ) :=
  (aUn_eq (tkd G.1 G.2) tmi (aRun (tkd G.1 G.2) tmi tmt d) M_174 [] 2 (18, [some (.ref 0), some (.int x1), some (.int x2), some (.int x3), some (.int x4)], [], σ)).trans rfl
set_option maxRecDepth 20000 in
theorem q_178_405 (G : Nat × (Nat → Int32)) (d : Nat) (x1 : Int32) (x2 : Int32) (x3 : Int32) (x4 : Int32) (σ : aH) : Lq G d M_178 (0, [some (.ref 33), some (.int x1), some (.int x2), some (.int x3), some (.int x4)], [], σ) = Lq G d M_178 (4, [some (.ref 33), some (.int x1), some (.int x2), some (.int x3), some (.int x4)], [.int x3, .int x2, .int x1, .ref 33], σ) :=
  (aUn_eq (tkd G.1 G.2) tmi (aRun (tkd G.1 G.2) tmi tmt d) M_178 [] 4 (0, [some (.ref 33), some (.int x1), some (.int x2), some (.int x3), some (.int x4)], [], σ)).trans rfl
set_option maxRecDepth 20000 in
theorem q_178_406 (G : Nat × (Nat → Int32)) (d : Nat) (x1 : Int32) (x2 : Int32) (x3 : Int32) (x4 : Int32) (s0 : Int32) (s1 : Int32) (s2 : Int32) (σ : aH) : Lq G d M_178 (4, [some (.ref 33), some (.int x1), some (.int x2), some (.int x3), some (.int x4)], [.int s0, .int s1, .int s2, .ref 33], σ) = aCI (Rn G d 167 [.ref 33, .int s2, .int s1, .int s0] σ) fun v2 σ1 => Lq G d M_178 (7, [some (.ref 33), some (.int x1), some (.int x2), some (.int x3), some (.int x4)], [.int v2], σ1) :=
  (aUn_eq (tkd G.1 G.2) tmi (aRun (tkd G.1 G.2) tmi tmt d) M_178 [] 1 (4, [some (.ref 33), some (.int x1), some (.int x2), some (.int x3), some (.int x4)], [.int s0, .int s1, .int s2, .ref 33], σ)).trans rfl
set_option maxRecDepth 20000 in
theorem q_178_407 (G : Nat × (Nat → Int32)) (d : Nat) (x1 : Int32) (x2 : Int32) (x3 : Int32) (x4 : Int32) (s0 : Int32) (σ : aH) : Lq G d M_178 (7, [some (.ref 33), some (.int x1), some (.int x2), some (.int x3), some (.int x4)], [.int s0], σ) = if s0 = 0 then Lq G d M_178 (25, [some (.ref 33), some (.int x1), some (.int x2), some (.int x3), some (.int x4)], [], σ) else Lq G d M_178 (10, [some (.ref 33), some (.int x1), some (.int x2), some (.int x3), some (.int x4)], [], σ) :=
  (aUn_eq (tkd G.1 G.2) tmi (aRun (tkd G.1 G.2) tmi tmt d) M_178 [] 1 (7, [some (.ref 33), some (.int x1), some (.int x2), some (.int x3), some (.int x4)], [.int s0], σ)).trans rfl
set_option maxRecDepth 20000 in
theorem q_178_408 (G : Nat × (Nat → Int32)) (d : Nat) (x1 : Int32) (x2 : Int32) (x3 : Int32) (x4 : Int32) (σ : aH) : Lq G d M_178 (25, [some (.ref 33), some (.int x1), some (.int x2), some (.int x3), some (.int x4)], [], σ) = Lq G d M_178 (26, [some (.ref 33), some (.int x1), some (.int x2), some (.int x3), some (.int x4)], [.int (0 : Int32)], σ) :=
  (aUn_eq (tkd G.1 G.2) tmi (aRun (tkd G.1 G.2) tmi tmt d) M_178 [] 1 (25, [some (.ref 33), some (.int x1), some (.int x2), some (.int x3), some (.int x4)], [], σ)).trans rfl
set_option maxRecDepth 20000 in
theorem q_178_409 (G : Nat × (Nat → Int32)) (d : Nat) (x1 : Int32) (x2 : Int32) (x3 : Int32) (x4 : Int32) (s0 : Int32) (σ : aH) : Lq G d M_178 (26, [some (.ref 33), some (.int x1), some (.int x2), some (.int x3), some (.int x4)], [.int s0], σ) = some (.inl (some (.int s0)), σ) :=
  (aUn_eq (tkd G.1 G.2) tmi (aRun (tkd G.1 G.2) tmi tmt d) M_178 [] 1 (26, [some (.ref 33), some (.int x1), some (.int x2), some (.int x3), some (.int x4)], [.int s0], σ)).trans rfl
set_option maxRecDepth 20000 in
theorem q_178_410 (G : Nat × (Nat → Int32)) (d : Nat) (x1 : Int32) (x2 : Int32) (x3 : Int32) (x4 : Int32) (σ : aH) : Lq G d M_178 (10, [some (.ref 33), some (.int x1), some (.int x2), some (.int x3), some (.int x4)], [], σ) = Lq G d M_178 (15, [some (.ref 33), some (.int x1), some (.int x2), some (.int x3), some (.int x4)], [.int (2 : Int32), .int (0 : Int32), .int x4, .ref 33], σ) :=
  (aUn_eq (tkd G.1 G.2) tmi (aRun (tkd G.1 G.2) tmi tmt d) M_178 [] 4 (10, [some (.ref 33), some (.int x1), some (.int x2), some (.int x3), some (.int x4)], [], σ)).trans rfl
set_option maxRecDepth 20000 in
theorem q_178_411 (G : Nat × (Nat → Int32)) (d : Nat) (x1 : Int32) (x2 : Int32) (x3 : Int32) (x4 : Int32) (s0 : Int32) (s1 : Int32) (s2 : Int32) (σ : aH) : Lq G d M_178 (15, [some (.ref 33), some (.int x1), some (.int x2), some (.int x3), some (.int x4)], [.int s0, .int s1, .int s2, .ref 33], σ) = aCI (Rn G d 130 [.int s2, .int s1, .int s0] σ) fun v2 σ1 => Lq G d M_178 (18, [some (.ref 33), some (.int x1), some (.int x2), some (.int x3), some (.int x4)], [.int v2, .ref 33], σ1) :=
  (aUn_eq (tkd G.1 G.2) tmi (aRun (tkd G.1 G.2) tmi tmt d) M_178 [] 1 (15, [some (.ref 33), some (.int x1), some (.int x2), some (.int x3), some (.int x4)], [.int s0, .int s1, .int s2, .ref 33], σ)).trans rfl
set_option maxRecDepth 20000 in
theorem q_178_412 (G : Nat × (Nat → Int32)) (d : Nat) (x1 : Int32) (x2 : Int32) (x3 : Int32) (x4 : Int32) (s0 : Int32) (σ : aH) : Lq G d M_178 (18, [some (.ref 33), some (.int x1), some (.int x2), some (.int x3), some (.int x4)], [.int s0, .ref 33], σ) = Lq G d M_178 (19, [some (.ref 33), some (.int x1), some (.int x2), some (.int x3), some (.int x4)], [.int (1 : Int32), .int s0, .ref 33], σ) :=
  (aUn_eq (tkd G.1 G.2) tmi (aRun (tkd G.1 G.2) tmi tmt d) M_178 [] 1 (18, [some (.ref 33), some (.int x1), some (.int x2), some (.int x3), some (.int x4)], [.int s0, .ref 33], σ)).trans rfl
set_option maxRecDepth 20000 in
theorem q_178_413 (G : Nat × (Nat → Int32)) (d : Nat) (x1 : Int32) (x2 : Int32) (x3 : Int32) (x4 : Int32) (s0 : Int32) (s1 : Int32) (σ : aH) : Lq G d M_178 (19, [some (.ref 33), some (.int x1), some (.int x2), some (.int x3), some (.int x4)], [.int s0, .int s1, .ref 33], σ) = aCI (Rn G d 62 [.ref 33, .int s1, .int s0] σ) fun v2 σ1 => Lq G d M_178 (22, [some (.ref 33), some (.int x1), some (.int x2), some (.int x3), some (.int x4)], [.int v2], σ1) :=
  (aUn_eq (tkd G.1 G.2) tmi (aRun (tkd G.1 G.2) tmi tmt d) M_178 [] 1 (19, [some (.ref 33), some (.int x1), some (.int x2), some (.int x3), some (.int x4)], [.int s0, .int s1, .ref 33], σ)).trans rfl
set_option maxRecDepth 20000 in
theorem q_178_414 (G : Nat × (Nat → Int32)) (d : Nat) (x1 : Int32) (x2 : Int32) (x3 : Int32) (x4 : Int32) (s0 : Int32) (σ : aH) : Lq G d M_178 (22, [some (.ref 33), some (.int x1), some (.int x2), some (.int x3), some (.int x4)], [.int s0], σ) = if s0 = 0 then Lq G d M_178 (25, [some (.ref 33), some (.int x1), some (.int x2), some (.int x3), some (.int x4)], [], σ) else Lq G d M_178 (27, [some (.ref 33), some (.int x1), some (.int x2), some (.int x3), some (.int x4)], [], σ) :=
  (aUn_eq (tkd G.1 G.2) tmi (aRun (tkd G.1 G.2) tmi tmt d) M_178 [] 1 (22, [some (.ref 33), some (.int x1), some (.int x2), some (.int x3), some (.int x4)], [.int s0], σ)).trans rfl
set_option maxRecDepth 20000 in
theorem q_178_415 (G : Nat × (Nat → Int32)) (d : Nat) (x1 : Int32) (x2 : Int32) (x3 : Int32) (x4 : Int32) (σ : aH) : Lq G d M_178 (27, [some (.ref 33), some (.int x1), some (.int x2), some (.int x3), some (.int x4)], [], σ) = Lq G d M_178 (29, [some (.ref 33), some (.int x1), some (.int x2), some (.int x3), some (.int x4)], [.int x4], σ) :=
  (aUn_eq (tkd G.1 G.2) tmi (aRun (tkd G.1 G.2) tmi tmt d) M_178 [] 1 (27, [some (.ref 33), some (.int x1), some (.int x2), some (.int x3), some (.int x4)], [], σ)).trans rfl
set_option maxRecDepth 20000 in
theorem q_178_416 (G : Nat × (Nat → Int32)) (d : Nat) (x1 : Int32) (x2 : Int32) (x3 : Int32) (x4 : Int32) (s0 : Int32) (σ : aH) : Lq G d M_178 (29, [some (.ref 33), some (.int x1), some (.int x2), some (.int x3), some (.int x4)], [.int s0], σ) = if s0 = 0 then Lq G d M_178 (32, [some (.ref 33), some (.int x1), some (.int x2), some (.int x3), some (.int x4)], [], σ) else Lq G d M_178 (40, [some (.ref 33), some (.int x1), some (.int x2), some (.int x3), some (.int x4)], [], σ) :=
  (aUn_eq (tkd G.1 G.2) tmi (aRun (tkd G.1 G.2) tmi tmt d) M_178 [] 1 (29, [some (.ref 33), some (.int x1), some (.int x2), some (.int x3), some (.int x4)], [.int s0], σ)).trans rfl
set_option maxRecDepth 20000 in
theorem q_178_417 (G : Nat × (Nat → Int32)) (d : Nat) (x1 : Int32) (x2 : Int32) (x3 : Int32) (x4 : Int32) (σ : aH) : Lq G d M_178 (32, [some (.ref 33), some (.int x1), some (.int x2), some (.int x3), some (.int x4)], [], σ) = Lq G d M_178 (34, [some (.ref 33), some (.int x1), some (.int x2), some (.int x3), some (.int x4)], [.int x1, .ref 33], σ) :=
  (aUn_eq (tkd G.1 G.2) tmi (aRun (tkd G.1 G.2) tmi tmt d) M_178 [] 2 (32, [some (.ref 33), some (.int x1), some (.int x2), some (.int x3), some (.int x4)], [], σ)).trans rfl
set_option maxRecDepth 20000 in
theorem q_178_418 (G : Nat × (Nat → Int32)) (d : Nat) (x1 : Int32) (x2 : Int32) (x3 : Int32) (x4 : Int32) (s0 : Int32) (σ : aH) : Lq G d M_178 (34, [some (.ref 33), some (.int x1), some (.int x2), some (.int x3), some (.int x4)], [.int s0, .ref 33], σ) = aCI (Rn G d 179 [.ref 33, .int s0] σ) fun v2 σ1 => Lq G d M_178 (37, [some (.ref 33), some (.int x1), some (.int x2), some (.int x3), some (.int x4)], [.int v2], σ1) :=
  (aUn_eq (tkd G.1 G.2) tmi (aRun (tkd G.1 G.2) tmi tmt d) M_178 [] 1 (34, [some (.ref 33), some (.int x1), some (.int x2), some (.int x3), some (.int x4)], [.int s0, .ref 33], σ)).trans rfl
set_option maxRecDepth 20000 in
theorem q_178_419 (G : Nat × (Nat → Int32)) (d : Nat) (x1 : Int32) (x2 : Int32) (x3 : Int32) (x4 : Int32) (s0 : Int32) (σ : aH) : Lq G d M_178 (37, [some (.ref 33), some (.int x1), some (.int x2), some (.int x3), some (.int x4)], [.int s0], σ) = Lq G d M_178 (59, [some (.ref 33), some (.int x1), some (.int x2), some (.int x3), some (.int x4)], [.int s0], σ) :=
  (aUn_eq (tkd G.1 G.2) tmi (aRun (tkd G.1 G.2) tmi tmt d) M_178 [] 1 (37, [some (.ref 33), some (.int x1), some (.int x2), some (.int x3), some (.int x4)], [.int s0], σ)).trans rfl
set_option maxRecDepth 20000 in
theorem q_178_420 (G : Nat × (Nat → Int32)) (d : Nat) (x1 : Int32) (x2 : Int32) (x3 : Int32) (x4 : Int32) (s0 : Int32) (σ : aH) : Lq G d M_178 (59, [some (.ref 33), some (.int x1), some (.int x2), some (.int x3), some (.int x4)], [.int s0], σ) = some (.inl (some (.int s0)), σ) :=
  (aUn_eq (tkd G.1 G.2) tmi (aRun (tkd G.1 G.2) tmi tmt d) M_178 [] 1 (59, [some (.ref 33), some (.int x1), some (.int x2), some (.int x3), some (.int x4)], [.int s0], σ)).trans rfl
set_option maxRecDepth 20000 in
theorem q_178_421 (G : Nat × (Nat → Int32)) (d : Nat) (x1 : Int32) (x2 : Int32) (x3 : Int32) (x4 : Int32) (σ : aH) : Lq G d M_178 (40, [some (.ref 33), some (.int x1), some (.int x2), some (.int x3), some (.int x4)], [], σ) = Lq G d M_178 (43, [some (.ref 33), some (.int x1), some (.int x2), some (.int x3), some (.int x4)], [.int (1 : Int32), .int x4], σ) :=
  (aUn_eq (tkd G.1 G.2) tmi (aRun (tkd G.1 G.2) tmi tmt d) M_178 [] 2 (40, [some (.ref 33), some (.int x1), some (.int x2), some (.int x3), some (.int x4)], [], σ)).trans rfl
set_option maxRecDepth 20000 in
theorem q_178_422 (G : Nat × (Nat → Int32)) (d : Nat) (x1 : Int32) (x2 : Int32) (x3 : Int32) (x4 : Int32) (s0 : Int32) (s1 : Int32) (σ : aH) : Lq G d M_178 (43, [some (.ref 33), some (.int x1), some (.int x2), some (.int x3), some (.int x4)], [.int s0, .int s1], σ) = if s1 = s0 then Lq G d M_178 (46, [some (.ref 33), some (.int x1), some (.int x2), some (.int x3), some (.int x4)], [], σ) else Lq G d M_178 (54, [some (.ref 33), some (.int x1), some (.int x2), some (.int x3), some (.int x4)], [], σ) :=
  (aUn_eq (tkd G.1 G.2) tmi (aRun (tkd G.1 G.2) tmi tmt d) M_178 [] 1 (43, [some (.ref 33), some (.int x1), some (.int x2), some (.int x3), some (.int x4)], [.int s0, .int s1], σ)).trans rfl
set_option maxRecDepth 20000 in
theorem q_178_423 (G : Nat × (Nat → Int32)) (d : Nat) (x1 : Int32) (x2 : Int32) (x3 : Int32) (x4 : Int32) (σ : aH) : Lq G d M_178 (46, [some (.ref 33), some (.int x1), some (.int x2), some (.int x3), some (.int x4)], [], σ) = Lq G d M_178 (48, [some (.ref 33), some (.int x1), some (.int x2), some (.int x3), some (.int x4)], [.int x1, .ref 33], σ) :=
  (aUn_eq (tkd G.1 G.2) tmi (aRun (tkd G.1 G.2) tmi tmt d) M_178 [] 2 (46, [some (.ref 33), some (.int x1), some (.int x2), some (.int x3), some (.int x4)], [], σ)).trans rfl
set_option maxRecDepth 20000 in
theorem q_178_424 (G : Nat × (Nat → Int32)) (d : Nat) (x1 : Int32) (x2 : Int32) (x3 : Int32) (x4 : Int32) (s0 : Int32) (σ : aH) : Lq G d M_178 (48, [some (.ref 33), some (.int x1), some (.int x2), some (.int x3), some (.int x4)], [.int s0, .ref 33], σ) = aCI (Rn G d 180 [.ref 33, .int s0] σ) fun v2 σ1 => Lq G d M_178 (51, [some (.ref 33), some (.int x1), some (.int x2), some (.int x3), some (.int x4)], [.int v2], σ1) :=
  (aUn_eq (tkd G.1 G.2) tmi (aRun (tkd G.1 G.2) tmi tmt d) M_178 [] 1 (48, [some (.ref 33), some (.int x1), some (.int x2), some (.int x3), some (.int x4)], [.int s0, .ref 33], σ)).trans rfl
set_option maxRecDepth 20000 in
theorem q_178_425 (G : Nat × (Nat → Int32)) (d : Nat) (x1 : Int32) (x2 : Int32) (x3 : Int32) (x4 : Int32) (s0 : Int32) (σ : aH) : Lq G d M_178 (51, [some (.ref 33), some (.int x1), some (.int x2), some (.int x3), some (.int x4)], [.int s0], σ) = Lq G d M_178 (59, [some (.ref 33), some (.int x1), some (.int x2), some (.int x3), some (.int x4)], [.int s0], σ) :=
  (aUn_eq (tkd G.1 G.2) tmi (aRun (tkd G.1 G.2) tmi tmt d) M_178 [] 1 (51, [some (.ref 33), some (.int x1), some (.int x2), some (.int x3), some (.int x4)], [.int s0], σ)).trans rfl
set_option maxRecDepth 20000 in
theorem q_178_426 (G : Nat × (Nat → Int32)) (d : Nat) (x1 : Int32) (x2 : Int32) (x3 : Int32) (x4 : Int32) (σ : aH) : Lq G d M_178 (54, [some (.ref 33), some (.int x1), some (.int x2), some (.int x3), some (.int x4)], [], σ) = Lq G d M_178 (56, [some (.ref 33), some (.int x1), some (.int x2), some (.int x3), some (.int x4)], [.int x1, .ref 33], σ) :=
  (aUn_eq (tkd G.1 G.2) tmi (aRun (tkd G.1 G.2) tmi tmt d) M_178 [] 2 (54, [some (.ref 33), some (.int x1), some (.int x2), some (.int x3), some (.int x4)], [], σ)).trans rfl
set_option maxRecDepth 20000 in
theorem q_178_427 (G : Nat × (Nat → Int32)) (d : Nat) (x1 : Int32) (x2 : Int32) (x3 : Int32) (x4 : Int32) (s0 : Int32) (σ : aH) : Lq G d M_178 (56, [some (.ref 33), some (.int x1), some (.int x2), some (.int x3), some (.int x4)], [.int s0, .ref 33], σ) = aCI (Rn G d 181 [.ref 33, .int s0] σ) fun v2 σ1 => Lq G d M_178 (59, [some (.ref 33), some (.int x1), some (.int x2), some (.int x3), some (.int x4)], [.int v2], σ1) :=
  (aUn_eq (tkd G.1 G.2) tmi (aRun (tkd G.1 G.2) tmi tmt d) M_178 [] 1 (56, [some (.ref 33), some (.int x1), some (.int x2), some (.int x3), some (.int x4)], [.int s0, .ref 33], σ)).trans rfl
set_option maxRecDepth 20000 in
theorem q_183_428 (G : Nat × (Nat → Int32)) (d : Nat) (x1 : Int32) (x2 : Int32) (x3 : Int32) (x4 : Int32) (σ : aH) : Lq G d M_183 (0, [some (.ref 0), some (.int x1), some (.int x2), some (.int x3), some (.int x4), none], [], σ) = Lq G d M_183 (4, [some (.ref 0), some (.int x1), some (.int x2), some (.int x3), some (.int x4), none], [.int x3, .int x2, .int x1, .ref 0], σ) :=
  (aUn_eq (tkd G.1 G.2) tmi (aRun (tkd G.1 G.2) tmi tmt d) M_183 [] 4 (0, [some (.ref 0), some (.int x1), some (.int x2), some (.int x3), some (.int x4), none], [], σ)).trans rfl
set_option maxRecDepth 20000 in
theorem q_183_429 (G : Nat × (Nat → Int32)) (d : Nat) (x1 : Int32) (x2 : Int32) (x3 : Int32) (x4 : Int32) (s0 : Int32) (s1 : Int32) (s2 : Int32) (σ : aH) : Lq G d M_183 (4, [some (.ref 0), some (.int x1), some (.int x2), some (.int x3), some (.int x4), none], [.int s0, .int s1, .int s2, .ref 0], σ) = aXV (Rn G d 157 [.ref 0, .int s2, .int s1, .int s0] σ) (fun σ1 => Lq G d M_183 (7, [some (.ref 0), some (.int x1), some (.int x2), some (.int x3), some (.int x4), none], [], σ1)) (fun k2 σ3 => some (.inr k2, σ3)) :=
  (aUn_eq (tkd G.1 G.2) tmi (aRun (tkd G.1 G.2) tmi tmt d) M_183 [] 1 (4, [some (.ref 0), some (.int x1), some (.int x2), some (.int x3), some (.int x4), none], [.int s0, .int s1, .int s2, .ref 0], σ)).trans rfl
set_option maxRecDepth 20000 in
theorem q_183_430 (G : Nat × (Nat → Int32)) (d : Nat) (x1 : Int32) (x2 : Int32) (x3 : Int32) (x4 : Int32) (σ : aH) : Lq G d M_183 (7, [some (.ref 0), some (.int x1), some (.int x2), some (.int x3), some (.int x4), none], [], σ) = Lq G d M_183 (12, [some (.ref 0), some (.int x1), some (.int x2), some (.int x3), some (.int x4), none], [.int (22 : Int32), .int x4, .ref 0], σ) :=
  (aUn_eq (tkd G.1 G.2) tmi (aRun (tkd G.1 G.2) tmi tmt d) M_183 [] 3 (7, [some (.ref 0), some (.int x1), some (.int x2), some (.int x3), some (.int x4), none], [], σ)).trans rfl
set_option maxRecDepth 20000 in
theorem q_183_431 (G : Nat × (Nat → Int32)) (d : Nat) (x1 : Int32) (x2 : Int32) (x3 : Int32) (x4 : Int32) (s0 : Int32) (s1 : Int32) (σ : aH) : Lq G d M_183 (12, [some (.ref 0), some (.int x1), some (.int x2), some (.int x3), some (.int x4), none], [.int s0, .int s1, .ref 0], σ) = aCI (Rn G d 184 [.ref 0, .int s1, .int s0] σ) fun v2 σ1 => Lq G d M_183 (15, [some (.ref 0), some (.int x1), some (.int x2), some (.int x3), some (.int x4), none], [.int v2], σ1) :=
  (aUn_eq (tkd G.1 G.2) tmi (aRun (tkd G.1 G.2) tmi tmt d) M_183 [] 1 (12, [some (.ref 0), some (.int x1), some (.int x2), some (.int x3), some (.int x4), none], [.int s0, .int s1, .ref 0], σ)).trans rfl
set_option maxRecDepth 20000 in
theorem q_183_432 (G : Nat × (Nat → Int32)) (d : Nat) (x1 : Int32) (x2 : Int32) (x3 : Int32) (x4 : Int32) (s0 : Int32) (σ : aH) : Lq G d M_183 (15, [some (.ref 0), some (.int x1), some (.int x2), some (.int x3), some (.int x4), none], [.int s0], σ) = Lq G d M_183 (19, [some (.ref 0), some (.int x1), some (.int x2), some (.int x3), some (.int x4), some (.int s0)], [.int s0], σ) :=
  (aUn_eq (tkd G.1 G.2) tmi (aRun (tkd G.1 G.2) tmi tmt d) M_183 [] 2 (15, [some (.ref 0), some (.int x1), some (.int x2), some (.int x3), some (.int x4), none], [.int s0], σ)).trans rfl
set_option maxRecDepth 20000 in
theorem q_183_433 (G : Nat × (Nat → Int32)) (d : Nat) (x1 : Int32) (x2 : Int32) (x3 : Int32) (x4 : Int32) (x5 : Int32) (s0 : Int32) (σ : aH) : Lq G d M_183 (19, [some (.ref 0), some (.int x1), some (.int x2), some (.int x3), some (.int x4), some (.int x5)], [.int s0], σ) = if s0 < 0 then Lq G d M_183 (26, [some (.ref 0), some (.int x1), some (.int x2), some (.int x3), some (.int x4), some (.int x5)], [], σ) else Lq G d M_183 (22, [some (.ref 0), some (.int x1), some (.int x2), some (.int x3), some (.int x4), some (.int x5)], [], σ) :=
  (aUn_eq (tkd G.1 G.2) tmi (aRun (tkd G.1 G.2) tmi tmt d) M_183 [] 1 (19, [some (.ref 0), some (.int x1), some (.int x2), some (.int x3), some (.int x4), some (.int x5)], [.int s0], σ)).trans rfl
set_option maxRecDepth 20000 in
theorem q_183_434 (G : Nat × (Nat → Int32)) (d : Nat) (x1 : Int32) (x2 : Int32) (x3 : Int32) (x4 : Int32) (x5 : Int32) (σ : aH) : Lq G d M_183 (26, [some (.ref 0), some (.int x1), some (.int x2), some (.int x3), some (.int x4), some (.int x5)], [], σ) = Lq G d M_183 (27, [some (.ref 0), some (.int x1), some (.int x2), some (.int x3), some (.int x4), some (.int x5)], [.int (0 : Int32)], σ) :=
  (aUn_eq (tkd G.1 G.2) tmi (aRun (tkd G.1 G.2) tmi tmt d) M_183 [] 1 (26, [some (.ref 0), some (.int x1), some (.int x2), some (.int x3), some (.int x4), some (.int x5)], [], σ)).trans rfl
set_option maxRecDepth 20000 in
theorem q_183_435 (G : Nat × (Nat → Int32)) (d : Nat) (x1 : Int32) (x2 : Int32) (x3 : Int32) (x4 : Int32) (x5 : Int32) (s0 : Int32) (σ : aH) : Lq G d M_183 (27, [some (.ref 0), some (.int x1), some (.int x2), some (.int x3), some (.int x4), some (.int x5)], [.int s0], σ) = aXV (Rn G d 114 [.int s0] σ) (fun σ1 => Lq G d M_183 (30, [some (.ref 0), some (.int x1), some (.int x2), some (.int x3), some (.int x4), some (.int x5)], [], σ1)) (fun k2 σ3 => some (.inr k2, σ3)) :=
  (aUn_eq (tkd G.1 G.2) tmi (aRun (tkd G.1 G.2) tmi tmt d) M_183 [] 1 (27, [some (.ref 0), some (.int x1), some (.int x2), some (.int x3), some (.int x4), some (.int x5)], [.int s0], σ)).trans rfl
set_option maxRecDepth 20000 in
theorem q_183_436 (G : Nat × (Nat → Int32)) (d : Nat) (x1 : Int32) (x2 : Int32) (x3 : Int32) (x4 : Int32) (x5 : Int32) (σ : aH) : Lq G d M_183 (30, [some (.ref 0), some (.int x1), some (.int x2), some (.int x3), some (.int x4), some (.int x5)], [], σ) = Lq G d M_183 (41, [some (.ref 0), some (.int x1), some (.int x2), some (.int x3), some (.int x4), some (.int x5)], [.int x3, .int x2, .int x1, .ref 3, .ref 24], σ) :=
  (aUn_eq (tkd G.1 G.2) tmi (aRun (tkd G.1 G.2) tmi tmt d) M_183 [] 7 (30, [some (.ref 0), some (.int x1), some (.int x2), some (.int x3), some (.int x4), some (.int x5)], [], σ)).trans rfl
set_option maxRecDepth 20000 in
theorem q_183_437 (G : Nat × (Nat → Int32)) (d : Nat) (x1 : Int32) (x2 : Int32) (x3 : Int32) (x4 : Int32) (x5 : Int32) (s0 : Int32) (s1 : Int32) (s2 : Int32) (σ : aH) : Lq G d M_183 (41, [some (.ref 0), some (.int x1), some (.int x2), some (.int x3), some (.int x4), some (.int x5)], [.int s0, .int s1, .int s2, .ref 3, .ref 24], σ) = aCV (Rn G d 158 [.ref 24, .ref 3, .int s2, .int s1, .int s0] σ) fun σ1 => Lq G d M_183 (44, [some (.ref 0), some (.int x1), some (.int x2), some (.int x3), some (.int x4), some (.int x5)], [], σ1) :=
  (aUn_eq (tkd G.1 G.2) tmi (aRun (tkd G.1 G.2) tmi tmt d) M_183 [] 1 (41, [some (.ref 0), some (.int x1), some (.int x2), some (.int x3), some (.int x4), some (.int x5)], [.int s0, .int s1, .int s2, .ref 3, .ref 24], σ)).trans rfl
set_option maxRecDepth 20000 in
theorem q_183_438 (G : Nat × (Nat → Int32)) (d : Nat) (x1 : Int32) (x2 : Int32) (x3 : Int32) (x4 : Int32) (x5 : Int32) (σ : aH) : Lq G d M_183 (44, [some (.ref 0), some (.int x1), some (.int x2), some (.int x3), some (.int x4), some (.int x5)], [], σ) = Lq G d M_183 (48, [some (.ref 0), some (.int x1), some (.int x2), some (.int x3), some (.int x4), some (.int x5)], [.ref 24], σ) :=
  (aUn_eq (tkd G.1 G.2) tmi (aRun (tkd G.1 G.2) tmi tmt d) M_183 [] 2 (44, [some (.ref 0), some (.int x1), some (.int x2), some (.int x3), some (.int x4), some (.int x5)], [], σ)).trans rfl
set_option maxRecDepth 20000 in
theorem q_183_439 (G : Nat × (Nat → Int32)) (d : Nat) (x1 : Int32) (x2 : Int32) (x3 : Int32) (x4 : Int32) (x5 : Int32) (σ : aH) : Lq G d M_183 (48, [some (.ref 0), some (.int x1), some (.int x2), some (.int x3), some (.int x4), some (.int x5)], [.ref 24], σ) = aCV (Rn G d 176 [.ref 24] σ) fun σ1 => Lq G d M_183 (51, [some (.ref 0), some (.int x1), some (.int x2), some (.int x3), some (.int x4), some (.int x5)], [], σ1) :=
  (aUn_eq (tkd G.1 G.2) tmi (aRun (tkd G.1 G.2) tmi tmt d) M_183 [] 1 (48, [some (.ref 0), some (.int x1), some (.int x2), some (.int x3), some (.int x4), some (.int x5)], [.ref 24], σ)).trans rfl
set_option maxRecDepth 20000 in
theorem q_183_440 (G : Nat × (Nat → Int32)) (d : Nat) (x1 : Int32) (x2 : Int32) (x3 : Int32) (x4 : Int32) (x5 : Int32) (σ : aH) : Lq G d M_183 (51, [some (.ref 0), some (.int x1), some (.int x2), some (.int x3), some (.int x4), some (.int x5)], [], σ) = Lq G d M_183 (63, [some (.ref 0), some (.int x1), some (.int x2), some (.int x3), some (.int x4), some (.int x5)], [.int x5, .ref 3, .int x5, .ref 24], σ) :=
  (aUn_eq (tkd G.1 G.2) tmi (aRun (tkd G.1 G.2) tmi tmt d) M_183 [] 6 (51, [some (.ref 0), some (.int x1), some (.int x2), some (.int x3), some (.int x4), some (.int x5)], [], σ)).trans rfl
set_option maxRecDepth 20000 in
theorem q_183_441 (G : Nat × (Nat → Int32)) (d : Nat) (x1 : Int32) (x2 : Int32) (x3 : Int32) (x4 : Int32) (x5 : Int32) (s0 : Int32) (s2 : Int32) (σ : aH) : Lq G d M_183 (63, [some (.ref 0), some (.int x1), some (.int x2), some (.int x3), some (.int x4), some (.int x5)], [.int s0, .ref 3, .int s2, .ref 24], σ) = aCI (Rn G d 118 [.ref 3, .int s0] σ) fun v2 σ1 => Lq G d M_183 (66, [some (.ref 0), some (.int x1), some (.int x2), some (.int x3), some (.int x4), some (.int x5)], [.int v2, .int s2, .ref 24], σ1) :=
  (aUn_eq (tkd G.1 G.2) tmi (aRun (tkd G.1 G.2) tmi tmt d) M_183 [] 1 (63, [some (.ref 0), some (.int x1), some (.int x2), some (.int x3), some (.int x4), some (.int x5)], [.int s0, .ref 3, .int s2, .ref 24], σ)).trans rfl
set_option maxRecDepth 20000 in
theorem q_183_442 (G : Nat × (Nat → Int32)) (d : Nat) (x1 : Int32) (x2 : Int32) (x3 : Int32) (x4 : Int32) (x5 : Int32) (s0 : Int32) (s1 : Int32) (σ : aH) : Lq G d M_183 (66, [some (.ref 0), some (.int x1), some (.int x2), some (.int x3), some (.int x4), some (.int x5)], [.int s0, .int s1, .ref 24], σ) = aCI (Rn G d 185 [.ref 24, .int s1, .int s0] σ) fun v2 σ1 => Lq G d M_183 (69, [some (.ref 0), some (.int x1), some (.int x2), some (.int x3), some (.int x4), some (.int x5)], [.int v2], σ1) :=
  (aUn_eq (tkd G.1 G.2) tmi (aRun (tkd G.1 G.2) tmi tmt d) M_183 [] 1 (66, [some (.ref 0), some (.int x1), some (.int x2), some (.int x3), some (.int x4), some (.int x5)], [.int s0, .int s1, .ref 24], σ)).trans rfl
set_option maxRecDepth 20000 in
theorem q_183_443 (G : Nat × (Nat → Int32)) (d : Nat) (x1 : Int32) (x2 : Int32) (x3 : Int32) (x4 : Int32) (x5 : Int32) (s0 : Int32) (σ : aH) : Lq G d M_183 (69, [some (.ref 0), some (.int x1), some (.int x2), some (.int x3), some (.int x4), some (.int x5)], [.int s0], σ) = some (.inl (some (.int s0)), σ) :=
  (aUn_eq (tkd G.1 G.2) tmi (aRun (tkd G.1 G.2) tmi tmt d) M_183 [] 1 (69, [some (.ref 0), some (.int x1), some (.int x2), some (.int x3), some (.int x4), some (.int x5)], [.int s0], σ)).trans rfl
set_option maxRecDepth 20000 in
theorem q_183_444 (G : Nat × (Nat → Int32)) (d : Nat) (x1 : Int32) (x2 : Int32) (x3 : Int32) (x4 : Int32) (x5 : Int32) (σ : aH) : Lq G d M_183 (22, [some (.ref 0), some (.int x1), some (.int x2), some (.int x3), some (.int x4), some (.int x5)], [], σ) = Lq G d M_183 (27, [some (.ref 0), some (.int x1), some (.int x2), some (.int x3), some (.int x4), some (.int x5)], [.int (1 : Int32)], σ) :=
  (aUn_eq (tkd G.1 G.2) tmi (aRun (tkd G.1 G.2) tmi tmt d) M_183 [] 2 (22, [some (.ref 0), some (.int x1), some (.int x2), some (.int x3), some (.int x4), some (.int x5)], [], σ)).trans rfl
set_option maxRecDepth 20000 in
theorem q_188_445 (G : Nat × (Nat → Int32)) (d : Nat) (x1 : Int32) (x2 : Int32) (x3 : Int32) (x4 : Int32) (σ : aH) : Lq G d M_188 (0, [some (.ref 33), some (.int x1), some (.int x2), some (.int x3), some (.int x4)], [], σ) = Lq G d M_188 (4, [some (.ref 33), some (.int x1), some (.int x2), some (.int x3), some (.int x4)], [.int x3, .int x2, .int x1, .ref 33], σ) :=
  (aUn_eq (tkd G.1 G.2) tmi (aRun (tkd G.1 G.2) tmi tmt d) M_188 [] 4 (0, [some (.ref 33), some (.int x1), some (.int x2), some (.int x3), some (.int x4)], [], σ)).trans rfl
set_option maxRecDepth 20000 in
theorem q_188_446 (G : Nat × (Nat → Int32)) (d : Nat) (x1 : Int32) (x2 : Int32) (x3 : Int32) (x4 : Int32) (s0 : Int32) (s1 : Int32) (s2 : Int32) (σ : aH) : Lq G d M_188 (4, [some (.ref 33), some (.int x1), some (.int x2), some (.int x3), some (.int x4)], [.int s0, .int s1, .int s2, .ref 33], σ) = aCI (Rn G d 167 [.ref 33, .int s2, .int s1, .int s0] σ) fun v2 σ1 => Lq G d M_188 (7, [some (.ref 33), some (.int x1), some (.int x2), some (.int x3), some (.int x4)], [.int v2], σ1) :=
  (aUn_eq (tkd G.1 G.2) tmi (aRun (tkd G.1 G.2) tmi tmt d) M_188 [] 1 (4, [some (.ref 33), some (.int x1), some (.int x2), some (.int x3), some (.int x4)], [.int s0, .int s1, .int s2, .ref 33], σ)).trans rfl
set_option maxRecDepth 20000 in
theorem q_188_447 (G : Nat × (Nat → Int32)) (d : Nat) (x1 : Int32) (x2 : Int32) (x3 : Int32) (x4 : Int32) (s0 : Int32) (σ : aH) : Lq G d M_188 (7, [some (.ref 33), some (.int x1), some (.int x2), some (.int x3), some (.int x4)], [.int s0], σ) = if s0 = 0 then Lq G d M_188 (49, [some (.ref 33), some (.int x1), some (.int x2), some (.int x3), some (.int x4)], [], σ) else Lq G d M_188 (10, [some (.ref 33), some (.int x1), some (.int x2), some (.int x3), some (.int x4)], [], σ) :=
  (aUn_eq (tkd G.1 G.2) tmi (aRun (tkd G.1 G.2) tmi tmt d) M_188 [] 1 (7, [some (.ref 33), some (.int x1), some (.int x2), some (.int x3), some (.int x4)], [.int s0], σ)).trans rfl
set_option maxRecDepth 20000 in
theorem q_188_448 (G : Nat × (Nat → Int32)) (d : Nat) (x1 : Int32) (x2 : Int32) (x3 : Int32) (x4 : Int32) (σ : aH) : Lq G d M_188 (49, [some (.ref 33), some (.int x1), some (.int x2), some (.int x3), some (.int x4)], [], σ) = Lq G d M_188 (50, [some (.ref 33), some (.int x1), some (.int x2), some (.int x3), some (.int x4)], [.int (0 : Int32)], σ) :=
  (aUn_eq (tkd G.1 G.2) tmi (aRun (tkd G.1 G.2) tmi tmt d) M_188 [] 1 (49, [some (.ref 33), some (.int x1), some (.int x2), some (.int x3), some (.int x4)], [], σ)).trans rfl
set_option maxRecDepth 20000 in
theorem q_188_449 (G : Nat × (Nat → Int32)) (d : Nat) (x1 : Int32) (x2 : Int32) (x3 : Int32) (x4 : Int32) (s0 : Int32) (σ : aH) : Lq G d M_188 (50, [some (.ref 33), some (.int x1), some (.int x2), some (.int x3), some (.int x4)], [.int s0], σ) = some (.inl (some (.int s0)), σ) :=
  (aUn_eq (tkd G.1 G.2) tmi (aRun (tkd G.1 G.2) tmi tmt d) M_188 [] 1 (50, [some (.ref 33), some (.int x1), some (.int x2), some (.int x3), some (.int x4)], [.int s0], σ)).trans rfl
set_option maxRecDepth 20000 in
theorem q_188_450 (G : Nat × (Nat → Int32)) (d : Nat) (x1 : Int32) (x2 : Int32) (x3 : Int32) (x4 : Int32) (σ : aH) : Lq G d M_188 (10, [some (.ref 33), some (.int x1), some (.int x2), some (.int x3), some (.int x4)], [], σ) = Lq G d M_188 (13, [some (.ref 33), some (.int x1), some (.int x2), some (.int x3), some (.int x4)], [.int x4, .ref 33], σ) :=
  (aUn_eq (tkd G.1 G.2) tmi (aRun (tkd G.1 G.2) tmi tmt d) M_188 [] 2 (10, [some (.ref 33), some (.int x1), some (.int x2), some (.int x3), some (.int x4)], [], σ)).trans rfl
set_option maxRecDepth 20000 in
theorem q_188_451 (G : Nat × (Nat → Int32)) (d : Nat) (x1 : Int32) (x2 : Int32) (x3 : Int32) (x4 : Int32) (s0 : Int32) (σ : aH) : Lq G d M_188 (13, [some (.ref 33), some (.int x1), some (.int x2), some (.int x3), some (.int x4)], [.int s0, .ref 33], σ) = if s0 < 0 then Lq G d M_188 (25, [some (.ref 33), some (.int x1), some (.int x2), some (.int x3), some (.int x4)], [.ref 33], σ) else Lq G d M_188 (16, [some (.ref 33), some (.int x1), some (.int x2), some (.int x3), some (.int x4)], [.ref 33], σ) :=
  (aUn_eq (tkd G.1 G.2) tmi (aRun (tkd G.1 G.2) tmi tmt d) M_188 [] 1 (13, [some (.ref 33), some (.int x1), some (.int x2), some (.int x3), some (.int x4)], [.int s0, .ref 33], σ)).trans rfl
set_option maxRecDepth 20000 in
theorem q_188_452 (G : Nat × (Nat → Int32)) (d : Nat) (x1 : Int32) (x2 : Int32) (x3 : Int32) (x4 : Int32) (σ : aH) : Lq G d M_188 (25, [some (.ref 33), some (.int x1), some (.int x2), some (.int x3), some (.int x4)], [.ref 33], σ) = Lq G d M_188 (31, [some (.ref 33), some (.int x1), some (.int x2), some (.int x3), some (.int x4)], [.int (22 : Int32), .int (20 : Int32), .int x4, .ref 33], σ) :=
  (aUn_eq (tkd G.1 G.2) tmi (aRun (tkd G.1 G.2) tmi tmt d) M_188 [] 3 (25, [some (.ref 33), some (.int x1), some (.int x2), some (.int x3), some (.int x4)], [.ref 33], σ)).trans rfl
set_option maxRecDepth 20000 in
theorem q_188_453 (G : Nat × (Nat → Int32)) (d : Nat) (x1 : Int32) (x2 : Int32) (x3 : Int32) (x4 : Int32) (s0 : Int32) (s1 : Int32) (s2 : Int32) (σ : aH) : Lq G d M_188 (31, [some (.ref 33), some (.int x1), some (.int x2), some (.int x3), some (.int x4)], [.int s0, .int s1, .int s2, .ref 33], σ) = aCI (Rn G d 130 [.int s2, .int s1, .int s0] σ) fun v2 σ1 => Lq G d M_188 (34, [some (.ref 33), some (.int x1), some (.int x2), some (.int x3), some (.int x4)], [.int v2, .ref 33], σ1) :=
  (aUn_eq (tkd G.1 G.2) tmi (aRun (tkd G.1 G.2) tmi tmt d) M_188 [] 1 (31, [some (.ref 33), some (.int x1), some (.int x2), some (.int x3), some (.int x4)], [.int s0, .int s1, .int s2, .ref 33], σ)).trans rfl
set_option maxRecDepth 20000 in
theorem q_188_454 (G : Nat × (Nat → Int32)) (d : Nat) (x1 : Int32) (x2 : Int32) (x3 : Int32) (x4 : Int32) (s0 : Int32) (σ : aH) : Lq G d M_188 (34, [some (.ref 33), some (.int x1), some (.int x2), some (.int x3), some (.int x4)], [.int s0, .ref 33], σ) = if s0 = 0 then Lq G d M_188 (41, [some (.ref 33), some (.int x1), some (.int x2), some (.int x3), some (.int x4)], [.ref 33], σ) else Lq G d M_188 (37, [some (.ref 33), some (.int x1), some (.int x2), some (.int x3), some (.int x4)], [.ref 33], σ) :=
  (aUn_eq (tkd G.1 G.2) tmi (aRun (tkd G.1 G.2) tmi tmt d) M_188 [] 1 (34, [some (.ref 33), some (.int x1), some (.int x2), some (.int x3), some (.int x4)], [.int s0, .ref 33], σ)).trans rfl
set_option maxRecDepth 20000 in
theorem q_188_455 (G : Nat × (Nat → Int32)) (d : Nat) (x1 : Int32) (x2 : Int32) (x3 : Int32) (x4 : Int32) (σ : aH) : Lq G d M_188 (41, [some (.ref 33), some (.int x1), some (.int x2), some (.int x3), some (.int x4)], [.ref 33], σ) = Lq G d M_188 (43, [some (.ref 33), some (.int x1), some (.int x2), some (.int x3), some (.int x4)], [.int (1 : Int32), .int (0 : Int32), .ref 33], σ) :=
  (aUn_eq (tkd G.1 G.2) tmi (aRun (tkd G.1 G.2) tmi tmt d) M_188 [] 2 (41, [some (.ref 33), some (.int x1), some (.int x2), some (.int x3), some (.int x4)], [.ref 33], σ)).trans rfl
set_option maxRecDepth 20000 in
theorem q_188_456 (G : Nat × (Nat → Int32)) (d : Nat) (x1 : Int32) (x2 : Int32) (x3 : Int32) (x4 : Int32) (s0 : Int32) (s1 : Int32) (σ : aH) : Lq G d M_188 (43, [some (.ref 33), some (.int x1), some (.int x2), some (.int x3), some (.int x4)], [.int s0, .int s1, .ref 33], σ) = aCI (Rn G d 62 [.ref 33, .int s1, .int s0] σ) fun v2 σ1 => Lq G d M_188 (46, [some (.ref 33), some (.int x1), some (.int x2), some (.int x3), some (.int x4)], [.int v2], σ1) :=
  (aUn_eq (tkd G.1 G.2) tmi (aRun (tkd G.1 G.2) tmi tmt d) M_188 [] 1 (43, [some (.ref 33), some (.int x1), some (.int x2), some (.int x3), some (.int x4)], [.int s0, .int s1, .ref 33], σ)).trans rfl
set_option maxRecDepth 20000 in
theorem q_188_457 (G : Nat × (Nat → Int32)) (d : Nat) (x1 : Int32) (x2 : Int32) (x3 : Int32) (x4 : Int32) (s0 : Int32) (σ : aH) : Lq G d M_188 (46, [some (.ref 33), some (.int x1), some (.int x2), some (.int x3), some (.int x4)], [.int s0], σ) = if s0 = 0 then Lq G d M_188 (49, [some (.ref 33), some (.int x1), some (.int x2), some (.int x3), some (.int x4)], [], σ) else Lq G d M_188 (51, [some (.ref 33), some (.int x1), some (.int x2), some (.int x3), some (.int x4)], [], σ) :=
  (aUn_eq (tkd G.1 G.2) tmi (aRun (tkd G.1 G.2) tmi tmt d) M_188 [] 1 (46, [some (.ref 33), some (.int x1), some (.int x2), some (.int x3), some (.int x4)], [.int s0], σ)).trans rfl
set_option maxRecDepth 20000 in
theorem q_188_458 (G : Nat × (Nat → Int32)) (d : Nat) (x1 : Int32) (x2 : Int32) (x3 : Int32) (x4 : Int32) (σ : aH) : Lq G d M_188 (51, [some (.ref 33), some (.int x1), some (.int x2), some (.int x3), some (.int x4)], [], σ) = Lq G d M_188 (55, [some (.ref 33), some (.int x1), some (.int x2), some (.int x3), some (.int x4)], [.int x4, .int x1, .ref 33], σ) :=
  (aUn_eq (tkd G.1 G.2) tmi (aRun (tkd G.1 G.2) tmi tmt d) M_188 [] 3 (51, [some (.ref 33), some (.int x1), some (.int x2), some (.int x3), some (.int x4)], [], σ)).trans rfl
set_option maxRecDepth 20000 in
theorem q_188_459 (G : Nat × (Nat → Int32)) (d : Nat) (x1 : Int32) (x2 : Int32) (x3 : Int32) (x4 : Int32) (s0 : Int32) (s1 : Int32) (σ : aH) : Lq G d M_188 (55, [some (.ref 33), some (.int x1), some (.int x2), some (.int x3), some (.int x4)], [.int s0, .int s1, .ref 33], σ) = aCI (Rn G d 189 [.ref 33, .int s1, .int s0] σ) fun v2 σ1 => Lq G d M_188 (58, [some (.ref 33), some (.int x1), some (.int x2), some (.int x3), some (.int x4)], [.int v2], σ1) :=
  (aUn_eq (tkd G.1 G.2) tmi (aRun (tkd G.1 G.2) tmi tmt d) M_188 [] 1 (55, [some (.ref 33), some (.int x1), some (.int x2), some (.int x3), some (.int x4)], [.int s0, .int s1, .ref 33], σ)).trans rfl
set_option maxRecDepth 20000 in
theorem q_188_460 (G : Nat × (Nat → Int32)) (d : Nat) (x1 : Int32) (x2 : Int32) (x3 : Int32) (x4 : Int32) (s0 : Int32) (σ : aH) : Lq G d M_188 (58, [some (.ref 33), some (.int x1), some (.int x2), some (.int x3), some (.int x4)], [.int s0], σ) = some (.inl (some (.int s0)), σ) :=
  (aUn_eq (tkd G.1 G.2) tmi (aRun (tkd G.1 G.2) tmi tmt d) M_188 [] 1 (58, [some (.ref 33), some (.int x1), some (.int x2), some (.int x3), some (.int x4)], [.int s0], σ)).trans rfl
set_option maxRecDepth 20000 in
theorem q_188_461 (G : Nat × (Nat → Int32)) (d : Nat) (x1 : Int32) (x2 : Int32) (x3 : Int32) (x4 : Int32) (σ : aH) : Lq G d M_188 (37, [some (.ref 33), some (.int x1), some (.int x2), some (.int x3), some (.int x4)], [.ref 33], σ) = Lq G d M_188 (43, [some (.ref 33), some (.int x1), some (.int x2), some (.int x3), some (.int x4)], [.int (1 : Int32), .int (1 : Int32), .ref 33], σ) :=
  (aUn_eq (tkd G.1 G.2) tmi (aRun (tkd G.1 G.2) tmi tmt d) M_188 [] 3 (37, [some (.ref 33), some (.int x1), some (.int x2), some (.int x3), some (.int x4)], [.ref 33], σ)).trans rfl
set_option maxRecDepth 20000 in
theorem q_188_462 (G : Nat × (Nat → Int32)) (d : Nat) (x1 : Int32) (x2 : Int32) (x3 : Int32) (x4 : Int32) (σ : aH) : Lq G d M_188 (16, [some (.ref 33), some (.int x1), some (.int x2), some (.int x3), some (.int x4)], [.ref 33], σ) = Lq G d M_188 (22, [some (.ref 33), some (.int x1), some (.int x2), some (.int x3), some (.int x4)], [.int (σ.1 33 4), .int x4, .ref 33], σ) :=
  (aUn_eq (tkd G.1 G.2) tmi (aRun (tkd G.1 G.2) tmi tmt d) M_188 [] 3 (16, [some (.ref 33), some (.int x1), some (.int x2), some (.int x3), some (.int x4)], [.ref 33], σ)).trans rfl
set_option maxRecDepth 20000 in
theorem q_188_463 (G : Nat × (Nat → Int32)) (d : Nat) (x1 : Int32) (x2 : Int32) (x3 : Int32) (x4 : Int32) (s0 : Int32) (s1 : Int32) (σ : aH) : Lq G d M_188 (22, [some (.ref 33), some (.int x1), some (.int x2), some (.int x3), some (.int x4)], [.int s0, .int s1, .ref 33], σ) = if s1 < s0 then Lq G d M_188 (37, [some (.ref 33), some (.int x1), some (.int x2), some (.int x3), some (.int x4)], [.ref 33], σ) else Lq G d M_188 (25, [some (.ref 33), some (.int x1), some (.int x2), some (.int x3), some (.int x4)], [.ref 33], σ) :=
  (aUn_eq (tkd G.1 G.2) tmi (aRun (tkd G.1 G.2) tmi tmt d) M_188 [] 1 (22, [some (.ref 33), some (.int x1), some (.int x2), some (.int x3), some (.int x4)], [.int s0, .int s1, .ref 33], σ)).trans rfl
set_option maxRecDepth 20000 in
theorem q_193_464 (G : Nat × (Nat → Int32)) (d : Nat) (x1 : Int32) (x2 : Int32) (σ : aH) : Lq G d M_193 (0, [some (.ref 0), some (.int x1), some (.int x2)], [], σ) = Lq G d M_193 (6, [some (.ref 0), some (.int x1), some (.int x2)], [.int x1, .int (0 : Int32), .ref 3], σ) :=
  (aUn_eq (tkd G.1 G.2) tmi (aRun (tkd G.1 G.2) tmi tmt d) M_193 [] 4 (0, [some (.ref 0), some (.int x1), some (.int x2)], [], σ)).trans rfl
set_option maxRecDepth 20000 in
theorem q_193_465 (G : Nat × (Nat → Int32)) (d : Nat) (x1 : Int32) (x2 : Int32) (s0 : Int32) (s1 : Int32) (σ : aH) : Lq G d M_193 (6, [some (.ref 0), some (.int x1), some (.int x2)], [.int s0, .int s1, .ref 3], σ) = aCI (Rn G d 103 [.ref 3, .int s1, .int s0] σ) fun v2 σ1 => Lq G d M_193 (9, [some (.ref 0), some (.int x1), some (.int x2)], [.int v2], σ1) :=
  (aUn_eq (tkd G.1 G.2) tmi (aRun (tkd G.1 G.2) tmi tmt d) M_193 [] 1 (6, [some (.ref 0), some (.int x1), some (.int x2)], [.int s0, .int s1, .ref 3], σ)).trans rfl
set_option maxRecDepth 20000 in
theorem q_193_466 (G : Nat × (Nat → Int32)) (d : Nat) (x1 : Int32) (x2 : Int32) (s0 : Int32) (σ : aH) : Lq G d M_193 (9, [some (.ref 0), some (.int x1), some (.int x2)], [.int s0], σ) = if s0 = 0 then Lq G d M_193 (28, [some (.ref 0), some (.int x1), some (.int x2)], [], σ) else Lq G d M_193 (12, [some (.ref 0), some (.int x1), some (.int x2)], [], σ) :=
  (aUn_eq (tkd G.1 G.2) tmi (aRun (tkd G.1 G.2) tmi tmt d) M_193 [] 1 (9, [some (.ref 0), some (.int x1), some (.int x2)], [.int s0], σ)).trans rfl
set_option maxRecDepth 20000 in
theorem q_193_467 (G : Nat × (Nat → Int32)) (d : Nat) (x1 : Int32) (x2 : Int32) (σ : aH) : Lq G d M_193 (28, [some (.ref 0), some (.int x1), some (.int x2)], [], σ) = Lq G d M_193 (29, [some (.ref 0), some (.int x1), some (.int x2)], [.int (0 : Int32)], σ) :=
  (aUn_eq (tkd G.1 G.2) tmi (aRun (tkd G.1 G.2) tmi tmt d) M_193 [] 1 (28, [some (.ref 0), some (.int x1), some (.int x2)], [], σ)).trans rfl
set_option maxRecDepth 20000 in
theorem q_193_468 (G : Nat × (Nat → Int32)) (d : Nat) (x1 : Int32) (x2 : Int32) (s0 : Int32) (σ : aH) : Lq G d M_193 (29, [some (.ref 0), some (.int x1), some (.int x2)], [.int s0], σ) = aXV (Rn G d 114 [.int s0] σ) (fun σ1 => Lq G d M_193 (32, [some (.ref 0), some (.int x1), some (.int x2)], [], σ1)) (fun k2 σ3 => some (.inr k2, σ3)) :=
  (aUn_eq (tkd G.1 G.2) tmi (aRun (tkd G.1 G.2) tmi tmt d) M_193 [] 1 (29, [some (.ref 0), some (.int x1), some (.int x2)], [.int s0], σ)).trans rfl
set_option maxRecDepth 20000 in
theorem q_193_469 (G : Nat × (Nat → Int32)) (d : Nat) (x1 : Int32) (x2 : Int32) (σ : aH) : Lq G d M_193 (32, [some (.ref 0), some (.int x1), some (.int x2)], [], σ) = Lq G d M_193 (41, [some (.ref 0), some (.int x1), some (.int x2)], [.int (60 : Int32), .int (σ.1 13 1)], σ) :=
  (aUn_eq (tkd G.1 G.2) tmi (aRun (tkd G.1 G.2) tmi tmt d) M_193 [] 4 (32, [some (.ref 0), some (.int x1), some (.int x2)], [], σ)).trans rfl
set_option maxRecDepth 20000 in
theorem q_193_470 (G : Nat × (Nat → Int32)) (d : Nat) (x1 : Int32) (x2 : Int32) (s0 : Int32) (s1 : Int32) (σ : aH) : Lq G d M_193 (41, [some (.ref 0), some (.int x1), some (.int x2)], [.int s0, .int s1], σ) = if s1 < s0 then Lq G d M_193 (51, [some (.ref 0), some (.int x1), some (.int x2)], [], σ) else Lq G d M_193 (44, [some (.ref 0), some (.int x1), some (.int x2)], [], σ) :=
  (aUn_eq (tkd G.1 G.2) tmi (aRun (tkd G.1 G.2) tmi tmt d) M_193 [] 1 (41, [some (.ref 0), some (.int x1), some (.int x2)], [.int s0, .int s1], σ)).trans rfl
set_option maxRecDepth 20000 in
theorem q_193_471 (G : Nat × (Nat → Int32)) (d : Nat) (x1 : Int32) (x2 : Int32) (σ : aH) : Lq G d M_193 (51, [some (.ref 0), some (.int x1), some (.int x2)], [], σ) = Lq G d M_193 (64, [some (.ref 0), some (.int x1), some (.int x2)], [.int x2, .int x1, .int (σ.1 13 1), .ref 13], σ) :=
  (aUn_eq (tkd G.1 G.2) tmi (aRun (tkd G.1 G.2) tmi tmt d) M_193 [] 7 (51, [some (.ref 0), some (.int x1), some (.int x2)], [], σ)).trans rfl
set_option maxRecDepth 20000 in
theorem q_193_472 (G : Nat × (Nat → Int32)) (d : Nat) (x1 : Int32) (x2 : Int32) (s0 : Int32) (s1 : Int32) (s2 : Int32) (σ : aH) : Lq G d M_193 (64, [some (.ref 0), some (.int x1), some (.int x2)], [.int s0, .int s1, .int s2, .ref 13], σ) = aCV (Rn G d 100 [.ref 13, .int s2, .int s1, .int s0] σ) fun σ1 => Lq G d M_193 (67, [some (.ref 0), some (.int x1), some (.int x2)], [], σ1) :=
  (aUn_eq (tkd G.1 G.2) tmi (aRun (tkd G.1 G.2) tmi tmt d) M_193 [] 1 (64, [some (.ref 0), some (.int x1), some (.int x2)], [.int s0, .int s1, .int s2, .ref 13], σ)).trans rfl
set_option maxRecDepth 20000 in
theorem q_193_473 (G : Nat × (Nat → Int32)) (d : Nat) (x1 : Int32) (x2 : Int32) (σ : aH) : Lq G d M_193 (67, [some (.ref 0), some (.int x1), some (.int x2)], [], σ) = Lq G d M_193 (89, [some (.ref 0), some (.int x1), some (.int x2)], [.int (((σ.1 13 1) + (1 : Int32)) - (1 : Int32))], (aSI σ 13 1 ((σ.1 13 1) + (1 : Int32)))) :=
  (aUn_eq (tkd G.1 G.2) tmi (aRun (tkd G.1 G.2) tmi tmt d) M_193 [] 12 (67, [some (.ref 0), some (.int x1), some (.int x2)], [], σ)).trans rfl
set_option maxRecDepth 20000 in
theorem q_193_474 (G : Nat × (Nat → Int32)) (d : Nat) (x1 : Int32) (x2 : Int32) (s0 : Int32) (σ : aH) : Lq G d M_193 (89, [some (.ref 0), some (.int x1), some (.int x2)], [.int s0], σ) = some (.inl (some (.int s0)), σ) :=
  (aUn_eq (tkd G.1 G.2) tmi (aRun (tkd G.1 G.2) tmi tmt d) M_193 [] 1 (89, [some (.ref 0), some (.int x1), some (.int x2)], [.int s0], σ)).trans rfl
set_option maxRecDepth 20000 in
theorem q_193_475 (G : Nat × (Nat → Int32)) (d : Nat) (x1 : Int32) (x2 : Int32) (σ : aH) : Lq G d M_193 (44, [some (.ref 0), some (.int x1), some (.int x2)], [], σ) = Lq G d M_193 (46, [some (.ref 0), some (.int x1), some (.int x2)], [.int (2 : Int32), .ref 0], σ) :=
  (aUn_eq (tkd G.1 G.2) tmi (aRun (tkd G.1 G.2) tmi tmt d) M_193 [] 2 (44, [some (.ref 0), some (.int x1), some (.int x2)], [], σ)).trans rfl
set_option maxRecDepth 20000 in
theorem q_193_476 (G : Nat × (Nat → Int32)) (d : Nat) (x1 : Int32) (x2 : Int32) (s0 : Int32) (σ : aH) : Lq G d M_193 (46, [some (.ref 0), some (.int x1), some (.int x2)], [.int s0, .ref 0], σ) = aCV (Rn G d 58 [.ref 0, .int s0] σ) fun σ1 => Lq G d M_193 (49, [some (.ref 0), some (.int x1), some (.int x2)], [], σ1) :=
  (aUn_eq (tkd G.1 G.2) tmi (aRun (tkd G.1 G.2) tmi tmt d) M_193 [] 1 (46, [some (.ref 0), some (.int x1), some (.int x2)], [.int s0, .ref 0], σ)).trans rfl
set_option maxRecDepth 20000 in
theorem q_193_477 (G : Nat × (Nat → Int32)) (d : Nat) (x1 : Int32) (x2 : Int32) (σ : aH) : Lq G d M_193 (49, [some (.ref 0), some (.int x1), some (.int x2)], [], σ) = Lq G d M_193 (50, [some (.ref 0), some (.int x1), some (.int x2)], [.int (-1 : Int32)], σ) :=
  (aUn_eq (tkd G.1 G.2) tmi (aRun (tkd G.1 G.2) tmi tmt d) M_193 [] 1 (49, [some (.ref 0), some (.int x1), some (.int x2)], [], σ)).trans rfl
set_option maxRecDepth 20000 in
theorem q_193_478 (G : Nat × (Nat → Int32)) (d : Nat) (x1 : Int32) (x2 : Int32) (s0 : Int32) (σ : aH) : Lq G d M_193 (50, [some (.ref 0), some (.int x1), some (.int x2)], [.int s0], σ) = some (.inl (some (.int s0)), σ) :=
  (aUn_eq (tkd G.1 G.2) tmi (aRun (tkd G.1 G.2) tmi tmt d) M_193 [] 1 (50, [some (.ref 0), some (.int x1), some (.int x2)], [.int s0], σ)).trans rfl
set_option maxRecDepth 20000 in
theorem q_193_479 (G : Nat × (Nat → Int32)) (d : Nat) (x1 : Int32) (x2 : Int32) (σ : aH) : Lq G d M_193 (12, [some (.ref 0), some (.int x1), some (.int x2)], [], σ) = Lq G d M_193 (18, [some (.ref 0), some (.int x1), some (.int x2)], [.int x2, .int (1 : Int32), .ref 3], σ) :=
  (aUn_eq (tkd G.1 G.2) tmi (aRun (tkd G.1 G.2) tmi tmt d) M_193 [] 4 (12, [some (.ref 0), some (.int x1), some (.int x2)], [], σ)).trans rfl
set_option maxRecDepth 20000 in
theorem q_193_480 (G : Nat × (Nat → Int32)) (d : Nat) (x1 : Int32) (x2 : Int32) (s0 : Int32) (s1 : Int32) (σ : aH) : Lq G d M_193 (18, [some (.ref 0), some (.int x1), some (.int x2)], [.int s0, .int s1, .ref 3], σ) = aCI (Rn G d 103 [.ref 3, .int s1, .int s0] σ) fun v2 σ1 => Lq G d M_193 (21, [some (.ref 0), some (.int x1), some (.int x2)], [.int v2], σ1) :=
  (aUn_eq (tkd G.1 G.2) tmi (aRun (tkd G.1 G.2) tmi tmt d) M_193 [] 1 (18, [some (.ref 0), some (.int x1), some (.int x2)], [.int s0, .int s1, .ref 3], σ)).trans rfl
set_option maxRecDepth 20000 in
theorem q_193_481 (G : Nat × (Nat → Int32)) (d : Nat) (x1 : Int32) (x2 : Int32) (s0 : Int32) (σ : aH) : Lq G d M_193 (21, [some (.ref 0), some (.int x1), some (.int x2)], [.int s0], σ) = if s0 = 0 then Lq G d M_193 (28, [some (.ref 0), some (.int x1), some (.int x2)], [], σ) else Lq G d M_193 (24, [some (.ref 0), some (.int x1), some (.int x2)], [], σ) :=
  (aUn_eq (tkd G.1 G.2) tmi (aRun (tkd G.1 G.2) tmi tmt d) M_193 [] 1 (21, [some (.ref 0), some (.int x1), some (.int x2)], [.int s0], σ)).trans rfl
set_option maxRecDepth 20000 in
theorem q_193_482 (G : Nat × (Nat → Int32)) (d : Nat) (x1 : Int32) (x2 : Int32) (σ : aH) : Lq G d M_193 (24, [some (.ref 0), some (.int x1), some (.int x2)], [], σ) = Lq G d M_193 (29, [some (.ref 0), some (.int x1), some (.int x2)], [.int (1 : Int32)], σ) :=
  (aUn_eq (tkd G.1 G.2) tmi (aRun (tkd G.1 G.2) tmi tmt d) M_193 [] 2 (24, [some (.ref 0), some (.int x1), some (.int x2)], [], σ)).trans rfl
set_option maxRecDepth 20000 in
theorem q_194_483 (G : Nat × (Nat → Int32)) (d : Nat) (x1 : Int32) (x2 : Int32) (σ : aH) : Lq G d M_194 (0, [some (.ref 33), some (.int x1), some (.int x2)], [], σ) = Lq G d M_194 (7, [some (.ref 33), some (.int x1), some (.int x2)], [.int x1, .ref 33], (aSI σ 33 0 (0 : Int32))) :=
  (aUn_eq (tkd G.1 G.2) tmi (aRun (tkd G.1 G.2) tmi tmt d) M_194 [] 5 (0, [some (.ref 33), some (.int x1), some (.int x2)], [], σ)).trans rfl
set_option maxRecDepth 20000 in
theorem q_194_484 (G : Nat × (Nat → Int32)) (d : Nat) (x1 : Int32) (x2 : Int32) (s0 : Int32) (σ : aH) : Lq G d M_194 (7, [some (.ref 33), some (.int x1), some (.int x2)], [.int s0, .ref 33], σ) = if s0 < 0 then Lq G d M_194 (34, [some (.ref 33), some (.int x1), some (.int x2)], [.ref 33], σ) else Lq G d M_194 (10, [some (.ref 33), some (.int x1), some (.int x2)], [.ref 33], σ) :=
  (aUn_eq (tkd G.1 G.2) tmi (aRun (tkd G.1 G.2) tmi tmt d) M_194 [] 1 (7, [some (.ref 33), some (.int x1), some (.int x2)], [.int s0, .ref 33], σ)).trans rfl
set_option maxRecDepth 20000 in
theorem q_194_485 (G : Nat × (Nat → Int32)) (d : Nat) (x1 : Int32) (x2 : Int32) (σ : aH) : Lq G d M_194 (34, [some (.ref 33), some (.int x1), some (.int x2)], [.ref 33], σ) = Lq G d M_194 (36, [some (.ref 33), some (.int x1), some (.int x2)], [.int (1 : Int32), .int (0 : Int32), .ref 33], σ) :=
  (aUn_eq (tkd G.1 G.2) tmi (aRun (tkd G.1 G.2) tmi tmt d) M_194 [] 2 (34, [some (.ref 33), some (.int x1), some (.int x2)], [.ref 33], σ)).trans rfl
set_option maxRecDepth 20000 in
theorem q_194_486 (G : Nat × (Nat → Int32)) (d : Nat) (x1 : Int32) (x2 : Int32) (s0 : Int32) (s1 : Int32) (σ : aH) : Lq G d M_194 (36, [some (.ref 33), some (.int x1), some (.int x2)], [.int s0, .int s1, .ref 33], σ) = aCI (Rn G d 62 [.ref 33, .int s1, .int s0] σ) fun v2 σ1 => Lq G d M_194 (39, [some (.ref 33), some (.int x1), some (.int x2)], [.int v2], σ1) :=
  (aUn_eq (tkd G.1 G.2) tmi (aRun (tkd G.1 G.2) tmi tmt d) M_194 [] 1 (36, [some (.ref 33), some (.int x1), some (.int x2)], [.int s0, .int s1, .ref 33], σ)).trans rfl
set_option maxRecDepth 20000 in
theorem q_194_487 (G : Nat × (Nat → Int32)) (d : Nat) (x1 : Int32) (x2 : Int32) (s0 : Int32) (σ : aH) : Lq G d M_194 (39, [some (.ref 33), some (.int x1), some (.int x2)], [.int s0], σ) = if s0 = 0 then Lq G d M_194 (42, [some (.ref 33), some (.int x1), some (.int x2)], [], σ) else Lq G d M_194 (44, [some (.ref 33), some (.int x1), some (.int x2)], [], σ) :=
  (aUn_eq (tkd G.1 G.2) tmi (aRun (tkd G.1 G.2) tmi tmt d) M_194 [] 1 (39, [some (.ref 33), some (.int x1), some (.int x2)], [.int s0], σ)).trans rfl
set_option maxRecDepth 20000 in
theorem q_194_488 (G : Nat × (Nat → Int32)) (d : Nat) (x1 : Int32) (x2 : Int32) (σ : aH) : Lq G d M_194 (42, [some (.ref 33), some (.int x1), some (.int x2)], [], σ) = Lq G d M_194 (43, [some (.ref 33), some (.int x1), some (.int x2)], [.int (0 : Int32)], σ) :=
  (aUn_eq (tkd G.1 G.2) tmi (aRun (tkd G.1 G.2) tmi tmt d) M_194 [] 1 (42, [some (.ref 33), some (.int x1), some (.int x2)], [], σ)).trans rfl
set_option maxRecDepth 20000 in
theorem q_194_489 (G : Nat × (Nat → Int32)) (d : Nat) (x1 : Int32) (x2 : Int32) (s0 : Int32) (σ : aH) : Lq G d M_194 (43, [some (.ref 33), some (.int x1), some (.int x2)], [.int s0], σ) = some (.inl (some (.int s0)), σ) :=
  (aUn_eq (tkd G.1 G.2) tmi (aRun (tkd G.1 G.2) tmi tmt d) M_194 [] 1 (43, [some (.ref 33), some (.int x1), some (.int x2)], [.int s0], σ)).trans rfl
set_option maxRecDepth 20000 in
theorem q_194_490 (G : Nat × (Nat → Int32)) (d : Nat) (x1 : Int32) (x2 : Int32) (σ : aH) : Lq G d M_194 (44, [some (.ref 33), some (.int x1), some (.int x2)], [], σ) = Lq G d M_194 (50, [some (.ref 33), some (.int x1), some (.int x2)], [.int (60 : Int32), .int (σ.1 33 12)], σ) :=
  (aUn_eq (tkd G.1 G.2) tmi (aRun (tkd G.1 G.2) tmi tmt d) M_194 [] 3 (44, [some (.ref 33), some (.int x1), some (.int x2)], [], σ)).trans rfl
set_option maxRecDepth 20000 in
theorem q_194_491 (G : Nat × (Nat → Int32)) (d : Nat) (x1 : Int32) (x2 : Int32) (s0 : Int32) (s1 : Int32) (σ : aH) : Lq G d M_194 (50, [some (.ref 33), some (.int x1), some (.int x2)], [.int s0, .int s1], σ) = if s1 = s0 then Lq G d M_194 (53, [some (.ref 33), some (.int x1), some (.int x2)], [], σ) else Lq G d M_194 (65, [some (.ref 33), some (.int x1), some (.int x2)], [], σ) :=
  (aUn_eq (tkd G.1 G.2) tmi (aRun (tkd G.1 G.2) tmi tmt d) M_194 [] 1 (50, [some (.ref 33), some (.int x1), some (.int x2)], [.int s0, .int s1], σ)).trans rfl
set_option maxRecDepth 20000 in
theorem q_194_492 (G : Nat × (Nat → Int32)) (d : Nat) (x1 : Int32) (x2 : Int32) (σ : aH) : Lq G d M_194 (53, [some (.ref 33), some (.int x1), some (.int x2)], [], σ) = Lq G d M_194 (64, [some (.ref 33), some (.int x1), some (.int x2)], [.int (-1 : Int32)], (aSI σ 52 2 ((σ.1 52 2) + (1 : Int32)))) :=
  (aUn_eq (tkd G.1 G.2) tmi (aRun (tkd G.1 G.2) tmi tmt d) M_194 [] 9 (53, [some (.ref 33), some (.int x1), some (.int x2)], [], σ)).trans rfl
set_option maxRecDepth 20000 in
theorem q_194_493 (G : Nat × (Nat → Int32)) (d : Nat) (x1 : Int32) (x2 : Int32) (s0 : Int32) (σ : aH) : Lq G d M_194 (64, [some (.ref 33), some (.int x1), some (.int x2)], [.int s0], σ) = some (.inl (some (.int s0)), σ) :=
  (aUn_eq (tkd G.1 G.2) tmi (aRun (tkd G.1 G.2) tmi tmt d) M_194 [] 1 (64, [some (.ref 33), some (.int x1), some (.int x2)], [.int s0], σ)).trans rfl
set_option maxRecDepth 20000 in
theorem q_194_494 (G : Nat × (Nat → Int32)) (d : Nat) (x1 : Int32) (x2 : Int32) (σ : aH) : Lq G d M_194 (65, [some (.ref 33), some (.int x1), some (.int x2)], [], σ) = Lq G d M_194 (68, [some (.ref 33), some (.int x1), some (.int x2)], [.int x2, .int x1, .ref 33], σ) :=
  (aUn_eq (tkd G.1 G.2) tmi (aRun (tkd G.1 G.2) tmi tmt d) M_194 [] 3 (65, [some (.ref 33), some (.int x1), some (.int x2)], [], σ)).trans rfl
set_option maxRecDepth 20000 in
theorem q_194_495 (G : Nat × (Nat → Int32)) (d : Nat) (x1 : Int32) (x2 : Int32) (s0 : Int32) (s1 : Int32) (σ : aH) : Lq G d M_194 (68, [some (.ref 33), some (.int x1), some (.int x2)], [.int s0, .int s1, .ref 33], σ) = aCI (Rn G d 195 [.ref 33, .int s1, .int s0] σ) fun v2 σ1 => Lq G d M_194 (71, [some (.ref 33), some (.int x1), some (.int x2)], [.int v2], σ1) :=
  (aUn_eq (tkd G.1 G.2) tmi (aRun (tkd G.1 G.2) tmi tmt d) M_194 [] 1 (68, [some (.ref 33), some (.int x1), some (.int x2)], [.int s0, .int s1, .ref 33], σ)).trans rfl
set_option maxRecDepth 20000 in
theorem q_194_496 (G : Nat × (Nat → Int32)) (d : Nat) (x1 : Int32) (x2 : Int32) (s0 : Int32) (σ : aH) : Lq G d M_194 (71, [some (.ref 33), some (.int x1), some (.int x2)], [.int s0], σ) = some (.inl (some (.int s0)), σ) :=
  (aUn_eq (tkd G.1 G.2) tmi (aRun (tkd G.1 G.2) tmi tmt d) M_194 [] 1 (71, [some (.ref 33), some (.int x1), some (.int x2)], [.int s0], σ)).trans rfl
set_option maxRecDepth 20000 in
theorem q_194_497 (G : Nat × (Nat → Int32)) (d : Nat) (x1 : Int32) (x2 : Int32) (σ : aH) : Lq G d M_194 (10, [some (.ref 33), some (.int x1), some (.int x2)], [.ref 33], σ) = Lq G d M_194 (15, [some (.ref 33), some (.int x1), some (.int x2)], [.int (σ.1 33 1), .int x1, .ref 33], σ) :=
  (aUn_eq (tkd G.1 G.2) tmi (aRun (tkd G.1 G.2) tmi tmt d) M_194 [] 3 (10, [some (.ref 33), some (.int x1), some (.int x2)], [.ref 33], σ)).trans rfl
set_option maxRecDepth 20000 in
theorem q_194_498 (G : Nat × (Nat → Int32)) (d : Nat) (x1 : Int32) (x2 : Int32) (s0 : Int32) (s1 : Int32) (σ : aH) : Lq G d M_194 (15, [some (.ref 33), some (.int x1), some (.int x2)], [.int s0, .int s1, .ref 33], σ) = if s0 ≤ s1 then Lq G d M_194 (34, [some (.ref 33), some (.int x1), some (.int x2)], [.ref 33], σ) else Lq G d M_194 (18, [some (.ref 33), some (.int x1), some (.int x2)], [.ref 33], σ) :=
  (aUn_eq (tkd G.1 G.2) tmi (aRun (tkd G.1 G.2) tmi tmt d) M_194 [] 1 (15, [some (.ref 33), some (.int x1), some (.int x2)], [.int s0, .int s1, .ref 33], σ)).trans rfl
set_option maxRecDepth 20000 in
theorem q_194_499 (G : Nat × (Nat → Int32)) (d : Nat) (x1 : Int32) (x2 : Int32) (σ : aH) : Lq G d M_194 (18, [some (.ref 33), some (.int x1), some (.int x2)], [.ref 33], σ) = Lq G d M_194 (19, [some (.ref 33), some (.int x1), some (.int x2)], [.int x2, .ref 33], σ) :=
  (aUn_eq (tkd G.1 G.2) tmi (aRun (tkd G.1 G.2) tmi tmt d) M_194 [] 1 (18, [some (.ref 33), some (.int x1), some (.int x2)], [.ref 33], σ)).trans rfl
set_option maxRecDepth 20000 in
theorem q_194_500 (G : Nat × (Nat → Int32)) (d : Nat) (x1 : Int32) (x2 : Int32) (s0 : Int32) (σ : aH) : Lq G d M_194 (19, [some (.ref 33), some (.int x1), some (.int x2)], [.int s0, .ref 33], σ) = if s0 < 0 then Lq G d M_194 (34, [some (.ref 33), some (.int x1), some (.int x2)], [.ref 33], σ) else Lq G d M_194 (22, [some (.ref 33), some (.int x1), some (.int x2)], [.ref 33], σ) :=
  (aUn_eq (tkd G.1 G.2) tmi (aRun (tkd G.1 G.2) tmi tmt d) M_194 [] 1 (19, [some (.ref 33), some (.int x1), some (.int x2)], [.int s0, .ref 33], σ)).trans rfl
set_option maxRecDepth 20000 in
theorem q_194_501 (G : Nat × (Nat → Int32)) (d : Nat) (x1 : Int32) (x2 : Int32) (σ : aH) : Lq G d M_194 (22, [some (.ref 33), some (.int x1), some (.int x2)], [.ref 33], σ) = Lq G d M_194 (27, [some (.ref 33), some (.int x1), some (.int x2)], [.int (σ.1 33 2), .int x2, .ref 33], σ) :=
  (aUn_eq (tkd G.1 G.2) tmi (aRun (tkd G.1 G.2) tmi tmt d) M_194 [] 3 (22, [some (.ref 33), some (.int x1), some (.int x2)], [.ref 33], σ)).trans rfl
set_option maxRecDepth 20000 in
theorem q_194_502 (G : Nat × (Nat → Int32)) (d : Nat) (x1 : Int32) (x2 : Int32) (s0 : Int32) (s1 : Int32) (σ : aH) : Lq G d M_194 (27, [some (.ref 33), some (.int x1), some (.int x2)], [.int s0, .int s1, .ref 33], σ) = if s0 ≤ s1 then Lq G d M_194 (34, [some (.ref 33), some (.int x1), some (.int x2)], [.ref 33], σ) else Lq G d M_194 (30, [some (.ref 33), some (.int x1), some (.int x2)], [.ref 33], σ) :=
  (aUn_eq (tkd G.1 G.2) tmi (aRun (tkd G.1 G.2) tmi tmt d) M_194 [] 1 (27, [some (.ref 33), some (.int x1), some (.int x2)], [.int s0, .int s1, .ref 33], σ)).trans rfl
set_option maxRecDepth 20000 in
theorem q_194_503 (G : Nat × (Nat → Int32)) (d : Nat) (x1 : Int32) (x2 : Int32) (σ : aH) : Lq G d M_194 (30, [some (.ref 33), some (.int x1), some (.int x2)], [.ref 33], σ) = Lq G d M_194 (36, [some (.ref 33), some (.int x1), some (.int x2)], [.int (1 : Int32), .int (1 : Int32), .ref 33], σ) :=
  (aUn_eq (tkd G.1 G.2) tmi (aRun (tkd G.1 G.2) tmi tmt d) M_194 [] 3 (30, [some (.ref 33), some (.int x1), some (.int x2)], [.ref 33], σ)).trans rfl
set_option maxRecDepth 20000 in
theorem q_197_504 (G : Nat × (Nat → Int32)) (d : Nat) (x1 : Int32) (x2 : Int32) (x3 : Int32) (σ : aH) : Lq G d M_197 (0, [some (.ref 0), some (.int x1), some (.int x2), some (.int x3), none], [], σ) = Lq G d M_197 (4, [some (.ref 0), some (.int x1), some (.int x2), some (.int x3), none], [.int (23 : Int32), .int x2, .ref 0], σ) :=
  (aUn_eq (tkd G.1 G.2) tmi (aRun (tkd G.1 G.2) tmi tmt d) M_197 [] 3 (0, [some (.ref 0), some (.int x1), some (.int x2), some (.int x3), none], [], σ)).trans rfl
set_option maxRecDepth 20000 in
theorem q_197_505 (G : Nat × (Nat → Int32)) (d : Nat) (x1 : Int32) (x2 : Int32) (x3 : Int32) (s0 : Int32) (s1 : Int32) (σ : aH) : Lq G d M_197 (4, [some (.ref 0), some (.int x1), some (.int x2), some (.int x3), none], [.int s0, .int s1, .ref 0], σ) = aCI (Rn G d 184 [.ref 0, .int s1, .int s0] σ) fun v2 σ1 => Lq G d M_197 (7, [some (.ref 0), some (.int x1), some (.int x2), some (.int x3), none], [.int v2], σ1) :=
  (aUn_eq (tkd G.1 G.2) tmi (aRun (tkd G.1 G.2) tmi tmt d) M_197 [] 1 (4, [some (.ref 0), some (.int x1), some (.int x2), some (.int x3), none], [.int s0, .int s1, .ref 0], σ)).trans rfl
set_option maxRecDepth 20000 in
theorem q_197_506 (G : Nat × (Nat → Int32)) (d : Nat) (x1 : Int32) (x2 : Int32) (x3 : Int32) (s0 : Int32) (σ : aH) : Lq G d M_197 (7, [some (.ref 0), some (.int x1), some (.int x2), some (.int x3), none], [.int s0], σ) = Lq G d M_197 (14, [some (.ref 0), some (.int x1), some (.int x2), some (.int x3), some (.int s0)], [.int x1, .ref 13], σ) :=
  (aUn_eq (tkd G.1 G.2) tmi (aRun (tkd G.1 G.2) tmi tmt d) M_197 [] 4 (7, [some (.ref 0), some (.int x1), some (.int x2), some (.int x3), none], [.int s0], σ)).trans rfl
set_option maxRecDepth 20000 in
theorem q_197_507 (G : Nat × (Nat → Int32)) (d : Nat) (x1 : Int32) (x2 : Int32) (x3 : Int32) (x4 : Int32) (s0 : Int32) (σ : aH) : Lq G d M_197 (14, [some (.ref 0), some (.int x1), some (.int x2), some (.int x3), some (.int x4)], [.int s0, .ref 13], σ) = aCI (Rn G d 198 [.ref 13, .int s0] σ) fun v2 σ1 => Lq G d M_197 (17, [some (.ref 0), some (.int x1), some (.int x2), some (.int x3), some (.int x4)], [.int v2], σ1) :=
  (aUn_eq (tkd G.1 G.2) tmi (aRun (tkd G.1 G.2) tmi tmt d) M_197 [] 1 (14, [some (.ref 0), some (.int x1), some (.int x2), some (.int x3), some (.int x4)], [.int s0, .ref 13], σ)).trans rfl
set_option maxRecDepth 20000 in
theorem q_197_508 (G : Nat × (Nat → Int32)) (d : Nat) (x1 : Int32) (x2 : Int32) (x3 : Int32) (x4 : Int32) (s0 : Int32) (σ : aH) : Lq G d M_197 (17, [some (.ref 0), some (.int x1), some (.int x2), some (.int x3), some (.int x4)], [.int s0], σ) = if s0 = 0 then Lq G d M_197 (29, [some (.ref 0), some (.int x1), some (.int x2), some (.int x3), some (.int x4)], [], σ) else Lq G d M_197 (20, [some (.ref 0), some (.int x1), some (.int x2), some (.int x3), some (.int x4)], [], σ) :=
  (aUn_eq (tkd G.1 G.2) tmi (aRun (tkd G.1 G.2) tmi tmt d) M_197 [] 1 (17, [some (.ref 0), some (.int x1), some (.int x2), some (.int x3), some (.int x4)], [.int s0], σ)).trans rfl
set_option maxRecDepth 20000 in
theorem q_197_509 (G : Nat × (Nat → Int32)) (d : Nat) (x1 : Int32) (x2 : Int32) (x3 : Int32) (x4 : Int32) (σ : aH) : Lq G d M_197 (29, [some (.ref 0), some (.int x1), some (.int x2), some (.int x3), some (.int x4)], [], σ) = Lq G d M_197 (30, [some (.ref 0), some (.int x1), some (.int x2), some (.int x3), some (.int x4)], [.int (0 : Int32)], σ) :=
  (aUn_eq (tkd G.1 G.2) tmi (aRun (tkd G.1 G.2) tmi tmt d) M_197 [] 1 (29, [some (.ref 0), some (.int x1), some (.int x2), some (.int x3), some (.int x4)], [], σ)).trans rfl
set_option maxRecDepth 20000 in
theorem q_197_510 (G : Nat × (Nat → Int32)) (d : Nat) (x1 : Int32) (x2 : Int32) (x3 : Int32) (x4 : Int32) (s0 : Int32) (σ : aH) : Lq G d M_197 (30, [some (.ref 0), some (.int x1), some (.int x2), some (.int x3), some (.int x4)], [.int s0], σ) = aXV (Rn G d 114 [.int s0] σ) (fun σ1 => Lq G d M_197 (33, [some (.ref 0), some (.int x1), some (.int x2), some (.int x3), some (.int x4)], [], σ1)) (fun k2 σ3 => some (.inr k2, σ3)) :=
  (aUn_eq (tkd G.1 G.2) tmi (aRun (tkd G.1 G.2) tmi tmt d) M_197 [] 1 (30, [some (.ref 0), some (.int x1), some (.int x2), some (.int x3), some (.int x4)], [.int s0], σ)).trans rfl
set_option maxRecDepth 20000 in
theorem q_197_511 (G : Nat × (Nat → Int32)) (d : Nat) (x1 : Int32) (x2 : Int32) (x3 : Int32) (x4 : Int32) (σ : aH) : Lq G d M_197 (33, [some (.ref 0), some (.int x1), some (.int x2), some (.int x3), some (.int x4)], [], σ) = Lq G d M_197 (36, [some (.ref 0), some (.int x1), some (.int x2), some (.int x3), some (.int x4)], [.int x4, .int x3], σ) :=
  (aUn_eq (tkd G.1 G.2) tmi (aRun (tkd G.1 G.2) tmi tmt d) M_197 [] 2 (33, [some (.ref 0), some (.int x1), some (.int x2), some (.int x3), some (.int x4)], [], σ)).trans rfl
set_option maxRecDepth 20000 in
theorem q_197_512 (G : Nat × (Nat → Int32)) (d : Nat) (x1 : Int32) (x2 : Int32) (x3 : Int32) (x4 : Int32) (s0 : Int32) (s1 : Int32) (σ : aH) : Lq G d M_197 (36, [some (.ref 0), some (.int x1), some (.int x2), some (.int x3), some (.int x4)], [.int s0, .int s1], σ) = aCI (Rn G d 199 [.int s0] σ) fun v2 σ1 => Lq G d M_197 (39, [some (.ref 0), some (.int x1), some (.int x2), some (.int x3), some (.int x4)], [.int v2, .int s1], σ1) :=
  (aUn_eq (tkd G.1 G.2) tmi (aRun (tkd G.1 G.2) tmi tmt d) M_197 [] 1 (36, [some (.ref 0), some (.int x1), some (.int x2), some (.int x3), some (.int x4)], [.int s0, .int s1], σ)).trans rfl
set_option maxRecDepth 20000 in
theorem q_197_513 (G : Nat × (Nat → Int32)) (d : Nat) (x1 : Int32) (x2 : Int32) (x3 : Int32) (x4 : Int32) (s0 : Int32) (s1 : Int32) (σ : aH) : Lq G d M_197 (39, [some (.ref 0), some (.int x1), some (.int x2), some (.int x3), some (.int x4)], [.int s0, .int s1], σ) = if s1 < s0 then Lq G d M_197 (51, [some (.ref 0), some (.int x1), some (.int x2), some (.int x3), some (.int x4)], [], σ) else Lq G d M_197 (42, [some (.ref 0), some (.int x1), some (.int x2), some (.int x3), some (.int x4)], [], σ) :=
  (aUn_eq (tkd G.1 G.2) tmi (aRun (tkd G.1 G.2) tmi tmt d) M_197 [] 1 (39, [some (.ref 0), some (.int x1), some (.int x2), some (.int x3), some (.int x4)], [.int s0, .int s1], σ)).trans rfl
set_option maxRecDepth 20000 in
theorem q_197_514 (G : Nat × (Nat → Int32)) (d : Nat) (x1 : Int32) (x2 : Int32) (x3 : Int32) (x4 : Int32) (σ : aH) : Lq G d M_197 (51, [some (.ref 0), some (.int x1), some (.int x2), some (.int x3), some (.int x4)], [], σ) = Lq G d M_197 (53, [some (.ref 0), some (.int x1), some (.int x2), some (.int x3), some (.int x4)], [.int (1 : Int32), .ref 0], σ) :=
  (aUn_eq (tkd G.1 G.2) tmi (aRun (tkd G.1 G.2) tmi tmt d) M_197 [] 2 (51, [some (.ref 0), some (.int x1), some (.int x2), some (.int x3), some (.int x4)], [], σ)).trans rfl
set_option maxRecDepth 20000 in
theorem q_197_515 (G : Nat × (Nat → Int32)) (d : Nat) (x1 : Int32) (x2 : Int32) (x3 : Int32) (x4 : Int32) (s0 : Int32) (σ : aH) : Lq G d M_197 (53, [some (.ref 0), some (.int x1), some (.int x2), some (.int x3), some (.int x4)], [.int s0, .ref 0], σ) = aCV (Rn G d 58 [.ref 0, .int s0] σ) fun σ1 => Lq G d M_197 (56, [some (.ref 0), some (.int x1), some (.int x2), some (.int x3), some (.int x4)], [], σ1) :=
  (aUn_eq (tkd G.1 G.2) tmi (aRun (tkd G.1 G.2) tmi tmt d) M_197 [] 1 (53, [some (.ref 0), some (.int x1), some (.int x2), some (.int x3), some (.int x4)], [.int s0, .ref 0], σ)).trans rfl
set_option maxRecDepth 20000 in
theorem q_197_516 (G : Nat × (Nat → Int32)) (d : Nat) (x1 : Int32) (x2 : Int32) (x3 : Int32) (x4 : Int32) (σ : aH) : Lq G d M_197 (56, [some (.ref 0), some (.int x1), some (.int x2), some (.int x3), some (.int x4)], [], σ) = Lq G d M_197 (57, [some (.ref 0), some (.int x1), some (.int x2), some (.int x3), some (.int x4)], [.int (0 : Int32)], σ) :=
  (aUn_eq (tkd G.1 G.2) tmi (aRun (tkd G.1 G.2) tmi tmt d) M_197 [] 1 (56, [some (.ref 0), some (.int x1), some (.int x2), some (.int x3), some (.int x4)], [], σ)).trans rfl
set_option maxRecDepth 20000 in
theorem q_197_517 (G : Nat × (Nat → Int32)) (d : Nat) (x1 : Int32) (x2 : Int32) (x3 : Int32) (x4 : Int32) (s0 : Int32) (σ : aH) : Lq G d M_197 (57, [some (.ref 0), some (.int x1), some (.int x2), some (.int x3), some (.int x4)], [.int s0], σ) = aNar .boolean (s0) (some (.inl (some (.int s0)), σ)) :=
  (aUn_eq (tkd G.1 G.2) tmi (aRun (tkd G.1 G.2) tmi tmt d) M_197 [] 1 (57, [some (.ref 0), some (.int x1), some (.int x2), some (.int x3), some (.int x4)], [.int s0], σ)).trans rfl
set_option maxRecDepth 20000 in
theorem q_197_518 (G : Nat × (Nat → Int32)) (d : Nat) (x1 : Int32) (x2 : Int32) (x3 : Int32) (x4 : Int32) (σ : aH) : Lq G d M_197 (42, [some (.ref 0), some (.int x1), some (.int x2), some (.int x3), some (.int x4)], [], σ) = Lq G d M_197 (45, [some (.ref 0), some (.int x1), some (.int x2), some (.int x3), some (.int x4)], [.int x4, .int x3], σ) :=
  (aUn_eq (tkd G.1 G.2) tmi (aRun (tkd G.1 G.2) tmi tmt d) M_197 [] 2 (42, [some (.ref 0), some (.int x1), some (.int x2), some (.int x3), some (.int x4)], [], σ)).trans rfl
set_option maxRecDepth 20000 in
theorem q_197_519 (G : Nat × (Nat → Int32)) (d : Nat) (x1 : Int32) (x2 : Int32) (x3 : Int32) (x4 : Int32) (s0 : Int32) (s1 : Int32) (σ : aH) : Lq G d M_197 (45, [some (.ref 0), some (.int x1), some (.int x2), some (.int x3), some (.int x4)], [.int s0, .int s1], σ) = aCI (Rn G d 104 [.int s0] σ) fun v2 σ1 => Lq G d M_197 (48, [some (.ref 0), some (.int x1), some (.int x2), some (.int x3), some (.int x4)], [.int v2, .int s1], σ1) :=
  (aUn_eq (tkd G.1 G.2) tmi (aRun (tkd G.1 G.2) tmi tmt d) M_197 [] 1 (45, [some (.ref 0), some (.int x1), some (.int x2), some (.int x3), some (.int x4)], [.int s0, .int s1], σ)).trans rfl
set_option maxRecDepth 20000 in
theorem q_197_520 (G : Nat × (Nat → Int32)) (d : Nat) (x1 : Int32) (x2 : Int32) (x3 : Int32) (x4 : Int32) (s0 : Int32) (s1 : Int32) (σ : aH) : Lq G d M_197 (48, [some (.ref 0), some (.int x1), some (.int x2), some (.int x3), some (.int x4)], [.int s0, .int s1], σ) = if s1 ≤ s0 then Lq G d M_197 (58, [some (.ref 0), some (.int x1), some (.int x2), some (.int x3), some (.int x4)], [], σ) else Lq G d M_197 (51, [some (.ref 0), some (.int x1), some (.int x2), some (.int x3), some (.int x4)], [], σ) :=
  (aUn_eq (tkd G.1 G.2) tmi (aRun (tkd G.1 G.2) tmi tmt d) M_197 [] 1 (48, [some (.ref 0), some (.int x1), some (.int x2), some (.int x3), some (.int x4)], [.int s0, .int s1], σ)).trans rfl
set_option maxRecDepth 20000 in
theorem q_197_521 (G : Nat × (Nat → Int32)) (d : Nat) (x1 : Int32) (x2 : Int32) (x3 : Int32) (x4 : Int32) (σ : aH) : Lq G d M_197 (58, [some (.ref 0), some (.int x1), some (.int x2), some (.int x3), some (.int x4)], [], σ) = Lq G d M_197 (66, [some (.ref 0), some (.int x1), some (.int x2), some (.int x3), some (.int x4)], [.int x3, .int x4, .int x1, .ref 13], σ) :=
  (aUn_eq (tkd G.1 G.2) tmi (aRun (tkd G.1 G.2) tmi tmt d) M_197 [] 5 (58, [some (.ref 0), some (.int x1), some (.int x2), some (.int x3), some (.int x4)], [], σ)).trans rfl
set_option maxRecDepth 20000 in
theorem q_197_522 (G : Nat × (Nat → Int32)) (d : Nat) (x1 : Int32) (x2 : Int32) (x3 : Int32) (x4 : Int32) (s0 : Int32) (s1 : Int32) (s2 : Int32) (σ : aH) : Lq G d M_197 (66, [some (.ref 0), some (.int x1), some (.int x2), some (.int x3), some (.int x4)], [.int s0, .int s1, .int s2, .ref 13], σ) = aCV (Rn G d 101 [.ref 13, .int s2, .int s1, .int s0] σ) fun σ1 => Lq G d M_197 (69, [some (.ref 0), some (.int x1), some (.int x2), some (.int x3), some (.int x4)], [], σ1) :=
  (aUn_eq (tkd G.1 G.2) tmi (aRun (tkd G.1 G.2) tmi tmt d) M_197 [] 1 (66, [some (.ref 0), some (.int x1), some (.int x2), some (.int x3), some (.int x4)], [.int s0, .int s1, .int s2, .ref 13], σ)).trans rfl
set_option maxRecDepth 20000 in
theorem q_197_523 (G : Nat × (Nat → Int32)) (d : Nat) (x1 : Int32) (x2 : Int32) (x3 : Int32) (x4 : Int32) (σ : aH) : Lq G d M_197 (69, [some (.ref 0), some (.int x1), some (.int x2), some (.int x3), some (.int x4)], [], σ) = Lq G d M_197 (70, [some (.ref 0), some (.int x1), some (.int x2), some (.int x3), some (.int x4)], [.int (1 : Int32)], σ) :=
  (aUn_eq (tkd G.1 G.2) tmi (aRun (tkd G.1 G.2) tmi tmt d) M_197 [] 1 (69, [some (.ref 0), some (.int x1), some (.int x2), some (.int x3), some (.int x4)], [], σ)).trans rfl
set_option maxRecDepth 20000 in
theorem q_197_524 (G : Nat × (Nat → Int32)) (d : Nat) (x1 : Int32) (x2 : Int32) (x3 : Int32) (x4 : Int32) (s0 : Int32) (σ : aH) : Lq G d M_197 (70, [some (.ref 0), some (.int x1), some (.int x2), some (.int x3), some (.int x4)], [.int s0], σ) = aNar .boolean (s0) (some (.inl (some (.int s0)), σ)) :=
  (aUn_eq (tkd G.1 G.2) tmi (aRun (tkd G.1 G.2) tmi tmt d) M_197 [] 1 (70, [some (.ref 0), some (.int x1), some (.int x2), some (.int x3), some (.int x4)], [.int s0], σ)).trans rfl
set_option maxRecDepth 20000 in
theorem q_197_525 (G : Nat × (Nat → Int32)) (d : Nat) (x1 : Int32) (x2 : Int32) (x3 : Int32) (x4 : Int32) (σ : aH) : Lq G d M_197 (20, [some (.ref 0), some (.int x1), some (.int x2), some (.int x3), some (.int x4)], [], σ) = Lq G d M_197 (22, [some (.ref 0), some (.int x1), some (.int x2), some (.int x3), some (.int x4)], [.int x4], σ) :=
  (aUn_eq (tkd G.1 G.2) tmi (aRun (tkd G.1 G.2) tmi tmt d) M_197 [] 1 (20, [some (.ref 0), some (.int x1), some (.int x2), some (.int x3), some (.int x4)], [], σ)).trans rfl
set_option maxRecDepth 20000 in
theorem q_197_526 (G : Nat × (Nat → Int32)) (d : Nat) (x1 : Int32) (x2 : Int32) (x3 : Int32) (x4 : Int32) (s0 : Int32) (σ : aH) : Lq G d M_197 (22, [some (.ref 0), some (.int x1), some (.int x2), some (.int x3), some (.int x4)], [.int s0], σ) = if s0 < 0 then Lq G d M_197 (29, [some (.ref 0), some (.int x1), some (.int x2), some (.int x3), some (.int x4)], [], σ) else Lq G d M_197 (25, [some (.ref 0), some (.int x1), some (.int x2), some (.int x3), some (.int x4)], [], σ) :=
  (aUn_eq (tkd G.1 G.2) tmi (aRun (tkd G.1 G.2) tmi tmt d) M_197 [] 1 (22, [some (.ref 0), some (.int x1), some (.int x2), some (.int x3), some (.int x4)], [.int s0], σ)).trans rfl
set_option maxRecDepth 20000 in
theorem q_197_527 (G : Nat × (Nat → Int32)) (d : Nat) (x1 : Int32) (x2 : Int32) (x3 : Int32) (x4 : Int32) (σ : aH) : Lq G d M_197 (25, [some (.ref 0), some (.int x1), some (.int x2), some (.int x3), some (.int x4)], [], σ) = Lq G d M_197 (30, [some (.ref 0), some (.int x1), some (.int x2), some (.int x3), some (.int x4)], [.int (1 : Int32)], σ) :=
  (aUn_eq (tkd G.1 G.2) tmi (aRun (tkd G.1 G.2) tmi tmt d) M_197 [] 2 (25, [some (.ref 0), some (.int x1), some (.int x2), some (.int x3), some (.int x4)], [], σ)).trans rfl
set_option maxRecDepth 20000 in
theorem q_200_528 (G : Nat × (Nat → Int32)) (d : Nat) (x1 : Int32) (x2 : Int32) (x3 : Int32) (σ : aH) : Lq G d M_200 (0, [some (.ref 33), some (.int x1), some (.int x2), some (.int x3)], [], σ) = Lq G d M_200 (2, [some (.ref 33), some (.int x1), some (.int x2), some (.int x3)], [.int x1, .ref 33], σ) :=
  (aUn_eq (tkd G.1 G.2) tmi (aRun (tkd G.1 G.2) tmi tmt d) M_200 [] 2 (0, [some (.ref 33), some (.int x1), some (.int x2), some (.int x3)], [], σ)).trans rfl
set_option maxRecDepth 20000 in
theorem q_200_529 (G : Nat × (Nat → Int32)) (d : Nat) (x1 : Int32) (x2 : Int32) (x3 : Int32) (s0 : Int32) (σ : aH) : Lq G d M_200 (2, [some (.ref 33), some (.int x1), some (.int x2), some (.int x3)], [.int s0, .ref 33], σ) = aCI (Rn G d 201 [.ref 33, .int s0] σ) fun v2 σ1 => Lq G d M_200 (5, [some (.ref 33), some (.int x1), some (.int x2), some (.int x3)], [.int v2], σ1) :=
  (aUn_eq (tkd G.1 G.2) tmi (aRun (tkd G.1 G.2) tmi tmt d) M_200 [] 1 (2, [some (.ref 33), some (.int x1), some (.int x2), some (.int x3)], [.int s0, .ref 33], σ)).trans rfl
set_option maxRecDepth 20000 in
theorem q_200_530 (G : Nat × (Nat → Int32)) (d : Nat) (x1 : Int32) (x2 : Int32) (x3 : Int32) (s0 : Int32) (σ : aH) : Lq G d M_200 (5, [some (.ref 33), some (.int x1), some (.int x2), some (.int x3)], [.int s0], σ) = if s0 = 0 then Lq G d M_200 (16, [some (.ref 33), some (.int x1), some (.int x2), some (.int x3)], [], σ) else Lq G d M_200 (8, [some (.ref 33), some (.int x1), some (.int x2), some (.int x3)], [], σ) :=
  (aUn_eq (tkd G.1 G.2) tmi (aRun (tkd G.1 G.2) tmi tmt d) M_200 [] 1 (5, [some (.ref 33), some (.int x1), some (.int x2), some (.int x3)], [.int s0], σ)).trans rfl
set_option maxRecDepth 20000 in
theorem q_200_531 (G : Nat × (Nat → Int32)) (d : Nat) (x1 : Int32) (x2 : Int32) (x3 : Int32) (σ : aH) : Lq G d M_200 (16, [some (.ref 33), some (.int x1), some (.int x2), some (.int x3)], [], σ) = Lq G d M_200 (17, [some (.ref 33), some (.int x1), some (.int x2), some (.int x3)], [.int (0 : Int32)], σ) :=
  (aUn_eq (tkd G.1 G.2) tmi (aRun (tkd G.1 G.2) tmi tmt d) M_200 [] 1 (16, [some (.ref 33), some (.int x1), some (.int x2), some (.int x3)], [], σ)).trans rfl
set_option maxRecDepth 20000 in
theorem q_200_532 (G : Nat × (Nat → Int32)) (d : Nat) (x1 : Int32) (x2 : Int32) (x3 : Int32) (s0 : Int32) (σ : aH) : Lq G d M_200 (17, [some (.ref 33), some (.int x1), some (.int x2), some (.int x3)], [.int s0], σ) = aNar .boolean (s0) (some (.inl (some (.int s0)), σ)) :=
  (aUn_eq (tkd G.1 G.2) tmi (aRun (tkd G.1 G.2) tmi tmt d) M_200 [] 1 (17, [some (.ref 33), some (.int x1), some (.int x2), some (.int x3)], [.int s0], σ)).trans rfl
set_option maxRecDepth 20000 in
theorem q_200_533 (G : Nat × (Nat → Int32)) (d : Nat) (x1 : Int32) (x2 : Int32) (x3 : Int32) (σ : aH) : Lq G d M_200 (8, [some (.ref 33), some (.int x1), some (.int x2), some (.int x3)], [], σ) = Lq G d M_200 (10, [some (.ref 33), some (.int x1), some (.int x2), some (.int x3)], [.int x2, .ref 33], σ) :=
  (aUn_eq (tkd G.1 G.2) tmi (aRun (tkd G.1 G.2) tmi tmt d) M_200 [] 2 (8, [some (.ref 33), some (.int x1), some (.int x2), some (.int x3)], [], σ)).trans rfl
set_option maxRecDepth 20000 in
theorem q_200_534 (G : Nat × (Nat → Int32)) (d : Nat) (x1 : Int32) (x2 : Int32) (x3 : Int32) (s0 : Int32) (σ : aH) : Lq G d M_200 (10, [some (.ref 33), some (.int x1), some (.int x2), some (.int x3)], [.int s0, .ref 33], σ) = aCI (Rn G d 202 [.ref 33, .int s0] σ) fun v2 σ1 => Lq G d M_200 (13, [some (.ref 33), some (.int x1), some (.int x2), some (.int x3)], [.int v2], σ1) :=
  (aUn_eq (tkd G.1 G.2) tmi (aRun (tkd G.1 G.2) tmi tmt d) M_200 [] 1 (10, [some (.ref 33), some (.int x1), some (.int x2), some (.int x3)], [.int s0, .ref 33], σ)).trans rfl
set_option maxRecDepth 20000 in
theorem q_200_535 (G : Nat × (Nat → Int32)) (d : Nat) (x1 : Int32) (x2 : Int32) (x3 : Int32) (s0 : Int32) (σ : aH) : Lq G d M_200 (13, [some (.ref 33), some (.int x1), some (.int x2), some (.int x3)], [.int s0], σ) = if s0 = 0 then Lq G d M_200 (16, [some (.ref 33), some (.int x1), some (.int x2), some (.int x3)], [], σ) else Lq G d M_200 (18, [some (.ref 33), some (.int x1), some (.int x2), some (.int x3)], [], σ) :=
  (aUn_eq (tkd G.1 G.2) tmi (aRun (tkd G.1 G.2) tmi tmt d) M_200 [] 1 (13, [some (.ref 33), some (.int x1), some (.int x2), some (.int x3)], [.int s0], σ)).trans rfl
set_option maxRecDepth 20000 in
theorem q_200_536 (G : Nat × (Nat → Int32)) (d : Nat) (x1 : Int32) (x2 : Int32) (x3 : Int32) (σ : aH) : Lq G d M_200 (18, [some (.ref 33), some (.int x1), some (.int x2), some (.int x3)], [], σ) = Lq G d M_200 (20, [some (.ref 33), some (.int x1), some (.int x2), some (.int x3)], [.int x2, .int x3], σ) :=
  (aUn_eq (tkd G.1 G.2) tmi (aRun (tkd G.1 G.2) tmi tmt d) M_200 [] 2 (18, [some (.ref 33), some (.int x1), some (.int x2), some (.int x3)], [], σ)).trans rfl
set_option maxRecDepth 20000 in
theorem q_200_537 (G : Nat × (Nat → Int32)) (d : Nat) (x1 : Int32) (x2 : Int32) (x3 : Int32) (s0 : Int32) (s1 : Int32) (σ : aH) : Lq G d M_200 (20, [some (.ref 33), some (.int x1), some (.int x2), some (.int x3)], [.int s0, .int s1], σ) = aCI (Rn G d 203 [.int s0] σ) fun v2 σ1 => Lq G d M_200 (23, [some (.ref 33), some (.int x1), some (.int x2), some (.int x3)], [.int v2, .int s1], σ1) :=
  (aUn_eq (tkd G.1 G.2) tmi (aRun (tkd G.1 G.2) tmi tmt d) M_200 [] 1 (20, [some (.ref 33), some (.int x1), some (.int x2), some (.int x3)], [.int s0, .int s1], σ)).trans rfl
set_option maxRecDepth 20000 in
theorem q_200_538 (G : Nat × (Nat → Int32)) (d : Nat) (x1 : Int32) (x2 : Int32) (x3 : Int32) (s0 : Int32) (s1 : Int32) (σ : aH) : Lq G d M_200 (23, [some (.ref 33), some (.int x1), some (.int x2), some (.int x3)], [.int s0, .int s1], σ) = Lq G d M_200 (24, [some (.ref 33), some (.int x1), some (.int x2), some (.int x3)], [.int x2, .int s0, .int s1], σ) :=
  (aUn_eq (tkd G.1 G.2) tmi (aRun (tkd G.1 G.2) tmi tmt d) M_200 [] 1 (23, [some (.ref 33), some (.int x1), some (.int x2), some (.int x3)], [.int s0, .int s1], σ)).trans rfl
set_option maxRecDepth 20000 in
theorem q_200_539 (G : Nat × (Nat → Int32)) (d : Nat) (x1 : Int32) (x2 : Int32) (x3 : Int32) (s0 : Int32) (s1 : Int32) (s2 : Int32) (σ : aH) : Lq G d M_200 (24, [some (.ref 33), some (.int x1), some (.int x2), some (.int x3)], [.int s0, .int s1, .int s2], σ) = aCI (Rn G d 204 [.int s0] σ) fun v2 σ1 => Lq G d M_200 (27, [some (.ref 33), some (.int x1), some (.int x2), some (.int x3)], [.int v2, .int s1, .int s2], σ1) :=
  (aUn_eq (tkd G.1 G.2) tmi (aRun (tkd G.1 G.2) tmi tmt d) M_200 [] 1 (24, [some (.ref 33), some (.int x1), some (.int x2), some (.int x3)], [.int s0, .int s1, .int s2], σ)).trans rfl
set_option maxRecDepth 20000 in
theorem q_200_540 (G : Nat × (Nat → Int32)) (d : Nat) (x1 : Int32) (x2 : Int32) (x3 : Int32) (s0 : Int32) (s1 : Int32) (s2 : Int32) (σ : aH) : Lq G d M_200 (27, [some (.ref 33), some (.int x1), some (.int x2), some (.int x3)], [.int s0, .int s1, .int s2], σ) = aCI (Rn G d 130 [.int s2, .int s1, .int s0] σ) fun v2 σ1 => Lq G d M_200 (30, [some (.ref 33), some (.int x1), some (.int x2), some (.int x3)], [.int v2], σ1) :=
  (aUn_eq (tkd G.1 G.2) tmi (aRun (tkd G.1 G.2) tmi tmt d) M_200 [] 1 (27, [some (.ref 33), some (.int x1), some (.int x2), some (.int x3)], [.int s0, .int s1, .int s2], σ)).trans rfl
set_option maxRecDepth 20000 in
theorem q_200_541 (G : Nat × (Nat → Int32)) (d : Nat) (x1 : Int32) (x2 : Int32) (x3 : Int32) (s0 : Int32) (σ : aH) : Lq G d M_200 (30, [some (.ref 33), some (.int x1), some (.int x2), some (.int x3)], [.int s0], σ) = if s0 = 0 then Lq G d M_200 (33, [some (.ref 33), some (.int x1), some (.int x2), some (.int x3)], [], σ) else Lq G d M_200 (45, [some (.ref 33), some (.int x1), some (.int x2), some (.int x3)], [], σ) :=
  (aUn_eq (tkd G.1 G.2) tmi (aRun (tkd G.1 G.2) tmi tmt d) M_200 [] 1 (30, [some (.ref 33), some (.int x1), some (.int x2), some (.int x3)], [.int s0], σ)).trans rfl
set_option maxRecDepth 20000 in
theorem q_200_542 (G : Nat × (Nat → Int32)) (d : Nat) (x1 : Int32) (x2 : Int32) (x3 : Int32) (σ : aH) : Lq G d M_200 (33, [some (.ref 33), some (.int x1), some (.int x2), some (.int x3)], [], σ) = Lq G d M_200 (44, [some (.ref 33), some (.int x1), some (.int x2), some (.int x3)], [.int (0 : Int32)], (aSI σ 52 1 ((σ.1 52 1) + (1 : Int32)))) :=
  (aUn_eq (tkd G.1 G.2) tmi (aRun (tkd G.1 G.2) tmi tmt d) M_200 [] 9 (33, [some (.ref 33), some (.int x1), some (.int x2), some (.int x3)], [], σ)).trans rfl
set_option maxRecDepth 20000 in
theorem q_200_543 (G : Nat × (Nat → Int32)) (d : Nat) (x1 : Int32) (x2 : Int32) (x3 : Int32) (s0 : Int32) (σ : aH) : Lq G d M_200 (44, [some (.ref 33), some (.int x1), some (.int x2), some (.int x3)], [.int s0], σ) = aNar .boolean (s0) (some (.inl (some (.int s0)), σ)) :=
  (aUn_eq (tkd G.1 G.2) tmi (aRun (tkd G.1 G.2) tmi tmt d) M_200 [] 1 (44, [some (.ref 33), some (.int x1), some (.int x2), some (.int x3)], [.int s0], σ)).trans rfl
set_option maxRecDepth 20000 in
theorem q_200_544 (G : Nat × (Nat → Int32)) (d : Nat) (x1 : Int32) (x2 : Int32) (x3 : Int32) (σ : aH) : Lq G d M_200 (45, [some (.ref 33), some (.int x1), some (.int x2), some (.int x3)], [], σ) = Lq G d M_200 (48, [some (.ref 33), some (.int x1), some (.int x2), some (.int x3)], [.int (23 : Int32), .int x2], σ) :=
  (aUn_eq (tkd G.1 G.2) tmi (aRun (tkd G.1 G.2) tmi tmt d) M_200 [] 2 (45, [some (.ref 33), some (.int x1), some (.int x2), some (.int x3)], [], σ)).trans rfl
set_option maxRecDepth 20000 in
theorem q_200_545 (G : Nat × (Nat → Int32)) (d : Nat) (x1 : Int32) (x2 : Int32) (x3 : Int32) (s0 : Int32) (s1 : Int32) (σ : aH) : Lq G d M_200 (48, [some (.ref 33), some (.int x1), some (.int x2), some (.int x3)], [.int s0, .int s1], σ) = if s1 = s0 then Lq G d M_200 (51, [some (.ref 33), some (.int x1), some (.int x2), some (.int x3)], [], σ) else Lq G d M_200 (68, [some (.ref 33), some (.int x1), some (.int x2), some (.int x3)], [], σ) :=
  (aUn_eq (tkd G.1 G.2) tmi (aRun (tkd G.1 G.2) tmi tmt d) M_200 [] 1 (48, [some (.ref 33), some (.int x1), some (.int x2), some (.int x3)], [.int s0, .int s1], σ)).trans rfl
set_option maxRecDepth 20000 in
theorem q_200_546 (G : Nat × (Nat → Int32)) (d : Nat) (x1 : Int32) (x2 : Int32) (x3 : Int32) (σ : aH) : Lq G d M_200 (51, [some (.ref 33), some (.int x1), some (.int x2), some (.int x3)], [], σ) = Lq G d M_200 (57, [some (.ref 33), some (.int x1), some (.int x2), some (.int x3)], [.int x3, .int x1, .ref 53], σ) :=
  (aUn_eq (tkd G.1 G.2) tmi (aRun (tkd G.1 G.2) tmi tmt d) M_200 [] 4 (51, [some (.ref 33), some (.int x1), some (.int x2), some (.int x3)], [], σ)).trans rfl
set_option maxRecDepth 20000 in
theorem q_200_547 (G : Nat × (Nat → Int32)) (d : Nat) (x1 : Int32) (x2 : Int32) (x3 : Int32) (s0 : Int32) (s1 : Int32) (σ : aH) : Lq G d M_200 (57, [some (.ref 33), some (.int x1), some (.int x2), some (.int x3)], [.int s0, .int s1, .ref 53], σ) = aIx (s1) 60 fun j1 => Lq G d M_200 (58, [some (.ref 33), some (.int x1), some (.int x2), some (.int x3)], [], (aSI σ 53 j1 s0)) :=
  (aUn_eq (tkd G.1 G.2) tmi (aRun (tkd G.1 G.2) tmi tmt d) M_200 [] 1 (57, [some (.ref 33), some (.int x1), some (.int x2), some (.int x3)], [.int s0, .int s1, .ref 53], σ)).trans rfl
set_option maxRecDepth 20000 in
theorem q_200_548 (G : Nat × (Nat → Int32)) (d : Nat) (x1 : Int32) (x2 : Int32) (x3 : Int32) (σ : aH) : Lq G d M_200 (58, [some (.ref 33), some (.int x1), some (.int x2), some (.int x3)], [], σ) = Lq G d M_200 (64, [some (.ref 33), some (.int x1), some (.int x2), some (.int x3)], [.int (1 : Int32), .int x1, .ref 54], σ) :=
  (aUn_eq (tkd G.1 G.2) tmi (aRun (tkd G.1 G.2) tmi tmt d) M_200 [] 4 (58, [some (.ref 33), some (.int x1), some (.int x2), some (.int x3)], [], σ)).trans rfl
set_option maxRecDepth 20000 in
theorem q_200_549 (G : Nat × (Nat → Int32)) (d : Nat) (x1 : Int32) (x2 : Int32) (x3 : Int32) (s0 : Int32) (s1 : Int32) (σ : aH) : Lq G d M_200 (64, [some (.ref 33), some (.int x1), some (.int x2), some (.int x3)], [.int s0, .int s1, .ref 54], σ) = aIx (s1) 60 fun j1 => Lq G d M_200 (65, [some (.ref 33), some (.int x1), some (.int x2), some (.int x3)], [], (aSI σ 54 j1 (vp_nar .boolean s0))) :=
  (aUn_eq (tkd G.1 G.2) tmi (aRun (tkd G.1 G.2) tmi tmt d) M_200 [] 1 (64, [some (.ref 33), some (.int x1), some (.int x2), some (.int x3)], [.int s0, .int s1, .ref 54], σ)).trans rfl
set_option maxRecDepth 20000 in
theorem q_200_550 (G : Nat × (Nat → Int32)) (d : Nat) (x1 : Int32) (x2 : Int32) (x3 : Int32) (σ : aH) : Lq G d M_200 (65, [some (.ref 33), some (.int x1), some (.int x2), some (.int x3)], [], σ) = Lq G d M_200 (84, [some (.ref 33), some (.int x1), some (.int x2), some (.int x3)], [.int (1 : Int32)], σ) :=
  (aUn_eq (tkd G.1 G.2) tmi (aRun (tkd G.1 G.2) tmi tmt d) M_200 [] 2 (65, [some (.ref 33), some (.int x1), some (.int x2), some (.int x3)], [], σ)).trans rfl
set_option maxRecDepth 20000 in
theorem q_200_551 (G : Nat × (Nat → Int32)) (d : Nat) (x1 : Int32) (x2 : Int32) (x3 : Int32) (s0 : Int32) (σ : aH) : Lq G d M_200 (84, [some (.ref 33), some (.int x1), some (.int x2), some (.int x3)], [.int s0], σ) = aNar .boolean (s0) (some (.inl (some (.int s0)), σ)) :=
  (aUn_eq (tkd G.1 G.2) tmi (aRun (tkd G.1 G.2) tmi tmt d) M_200 [] 1 (84, [some (.ref 33), some (.int x1), some (.int x2), some (.int x3)], [.int s0], σ)).trans rfl
set_option maxRecDepth 20000 in
theorem q_200_552 (G : Nat × (Nat → Int32)) (d : Nat) (x1 : Int32) (x2 : Int32) (x3 : Int32) (σ : aH) : Lq G d M_200 (68, [some (.ref 33), some (.int x1), some (.int x2), some (.int x3)], [], σ) = Lq G d M_200 (77, [some (.ref 33), some (.int x1), some (.int x2), some (.int x3)], [.int x2, .int ((17 : Int32) * x1), .ref 40], σ) :=
  (aUn_eq (tkd G.1 G.2) tmi (aRun (tkd G.1 G.2) tmi tmt d) M_200 [] 6 (68, [some (.ref 33), some (.int x1), some (.int x2), some (.int x3)], [], σ)).trans rfl
set_option maxRecDepth 20000 in
theorem q_200_553 (G : Nat × (Nat → Int32)) (d : Nat) (x1 : Int32) (x2 : Int32) (x3 : Int32) (s0 : Int32) (s1 : Int32) (σ : aH) : Lq G d M_200 (77, [some (.ref 33), some (.int x1), some (.int x2), some (.int x3)], [.int s0, .int s1, .ref 40], σ) = aCI (Rn G d 205 [.int s0] σ) fun v2 σ1 => Lq G d M_200 (80, [some (.ref 33), some (.int x1), some (.int x2), some (.int x3)], [.int v2, .int s1, .ref 40], σ1) :=
  (aUn_eq (tkd G.1 G.2) tmi (aRun (tkd G.1 G.2) tmi tmt d) M_200 [] 1 (77, [some (.ref 33), some (.int x1), some (.int x2), some (.int x3)], [.int s0, .int s1, .ref 40], σ)).trans rfl
set_option maxRecDepth 20000 in
theorem q_200_554 (G : Nat × (Nat → Int32)) (d : Nat) (x1 : Int32) (x2 : Int32) (x3 : Int32) (s0 : Int32) (s1 : Int32) (σ : aH) : Lq G d M_200 (80, [some (.ref 33), some (.int x1), some (.int x2), some (.int x3)], [.int s0, .int s1, .ref 40], σ) = Lq G d M_200 (82, [some (.ref 33), some (.int x1), some (.int x2), some (.int x3)], [.int x3, .int (s1 + s0), .ref 40], σ) :=
  (aUn_eq (tkd G.1 G.2) tmi (aRun (tkd G.1 G.2) tmi tmt d) M_200 [] 2 (80, [some (.ref 33), some (.int x1), some (.int x2), some (.int x3)], [.int s0, .int s1, .ref 40], σ)).trans rfl
set_option maxRecDepth 20000 in
theorem q_200_555 (G : Nat × (Nat → Int32)) (d : Nat) (x1 : Int32) (x2 : Int32) (x3 : Int32) (s0 : Int32) (s1 : Int32) (σ : aH) : Lq G d M_200 (82, [some (.ref 33), some (.int x1), some (.int x2), some (.int x3)], [.int s0, .int s1, .ref 40], σ) = aIx (s1) 1020 fun j1 => Lq G d M_200 (83, [some (.ref 33), some (.int x1), some (.int x2), some (.int x3)], [], (aSI σ 40 j1 s0)) :=
  (aUn_eq (tkd G.1 G.2) tmi (aRun (tkd G.1 G.2) tmi tmt d) M_200 [] 1 (82, [some (.ref 33), some (.int x1), some (.int x2), some (.int x3)], [.int s0, .int s1, .ref 40], σ)).trans rfl
set_option maxRecDepth 20000 in
theorem q_200_556 (G : Nat × (Nat → Int32)) (d : Nat) (x1 : Int32) (x2 : Int32) (x3 : Int32) (σ : aH) : Lq G d M_200 (83, [some (.ref 33), some (.int x1), some (.int x2), some (.int x3)], [], σ) = Lq G d M_200 (84, [some (.ref 33), some (.int x1), some (.int x2), some (.int x3)], [.int (1 : Int32)], σ) :=
  (aUn_eq (tkd G.1 G.2) tmi (aRun (tkd G.1 G.2) tmi tmt d) M_200 [] 1 (83, [some (.ref 33), some (.int x1), some (.int x2), some (.int x3)], [], σ)).trans rfl
set_option maxRecDepth 20000 in
theorem q_207_557 (G : Nat × (Nat → Int32)) (d : Nat) (x1 : Int32) (x2 : Int32) (σ : aH) : Lq G d M_207 (0, [some (.ref 0), some (.int x1), some (.int x2), none], [], σ) = Lq G d M_207 (4, [some (.ref 0), some (.int x1), some (.int x2), none], [.int (23 : Int32), .int x2, .ref 0], σ) :=
  (aUn_eq (tkd G.1 G.2) tmi (aRun (tkd G.1 G.2) tmi tmt d) M_207 [] 3 (0, [some (.ref 0), some (.int x1), some (.int x2), none], [], σ)).trans rfl
set_option maxRecDepth 20000 in
theorem q_207_558 (G : Nat × (Nat → Int32)) (d : Nat) (x1 : Int32) (x2 : Int32) (s0 : Int32) (s1 : Int32) (σ : aH) : Lq G d M_207 (4, [some (.ref 0), some (.int x1), some (.int x2), none], [.int s0, .int s1, .ref 0], σ) = aCI (Rn G d 184 [.ref 0, .int s1, .int s0] σ) fun v2 σ1 => Lq G d M_207 (7, [some (.ref 0), some (.int x1), some (.int x2), none], [.int v2], σ1) :=
  (aUn_eq (tkd G.1 G.2) tmi (aRun (tkd G.1 G.2) tmi tmt d) M_207 [] 1 (4, [some (.ref 0), some (.int x1), some (.int x2), none], [.int s0, .int s1, .ref 0], σ)).trans rfl
set_option maxRecDepth 20000 in
theorem q_207_559 (G : Nat × (Nat → Int32)) (d : Nat) (x1 : Int32) (x2 : Int32) (s0 : Int32) (σ : aH) : Lq G d M_207 (7, [some (.ref 0), some (.int x1), some (.int x2), none], [.int s0], σ) = Lq G d M_207 (13, [some (.ref 0), some (.int x1), some (.int x2), some (.int s0)], [.int x1, .ref 13], σ) :=
  (aUn_eq (tkd G.1 G.2) tmi (aRun (tkd G.1 G.2) tmi tmt d) M_207 [] 4 (7, [some (.ref 0), some (.int x1), some (.int x2), none], [.int s0], σ)).trans rfl
set_option maxRecDepth 20000 in
theorem q_207_560 (G : Nat × (Nat → Int32)) (d : Nat) (x1 : Int32) (x2 : Int32) (x3 : Int32) (s0 : Int32) (σ : aH) : Lq G d M_207 (13, [some (.ref 0), some (.int x1), some (.int x2), some (.int x3)], [.int s0, .ref 13], σ) = aCI (Rn G d 198 [.ref 13, .int s0] σ) fun v2 σ1 => Lq G d M_207 (16, [some (.ref 0), some (.int x1), some (.int x2), some (.int x3)], [.int v2], σ1) :=
  (aUn_eq (tkd G.1 G.2) tmi (aRun (tkd G.1 G.2) tmi tmt d) M_207 [] 1 (13, [some (.ref 0), some (.int x1), some (.int x2), some (.int x3)], [.int s0, .ref 13], σ)).trans rfl
set_option maxRecDepth 20000 in
theorem q_207_561 (G : Nat × (Nat → Int32)) (d : Nat) (x1 : Int32) (x2 : Int32) (x3 : Int32) (s0 : Int32) (σ : aH) : Lq G d M_207 (16, [some (.ref 0), some (.int x1), some (.int x2), some (.int x3)], [.int s0], σ) = if s0 = 0 then Lq G d M_207 (39, [some (.ref 0), some (.int x1), some (.int x2), some (.int x3)], [], σ) else Lq G d M_207 (19, [some (.ref 0), some (.int x1), some (.int x2), some (.int x3)], [], σ) :=
  (aUn_eq (tkd G.1 G.2) tmi (aRun (tkd G.1 G.2) tmi tmt d) M_207 [] 1 (16, [some (.ref 0), some (.int x1), some (.int x2), some (.int x3)], [.int s0], σ)).trans rfl
set_option maxRecDepth 20000 in
theorem q_207_562 (G : Nat × (Nat → Int32)) (d : Nat) (x1 : Int32) (x2 : Int32) (x3 : Int32) (σ : aH) : Lq G d M_207 (39, [some (.ref 0), some (.int x1), some (.int x2), some (.int x3)], [], σ) = Lq G d M_207 (40, [some (.ref 0), some (.int x1), some (.int x2), some (.int x3)], [.int (0 : Int32)], σ) :=
  (aUn_eq (tkd G.1 G.2) tmi (aRun (tkd G.1 G.2) tmi tmt d) M_207 [] 1 (39, [some (.ref 0), some (.int x1), some (.int x2), some (.int x3)], [], σ)).trans rfl
set_option maxRecDepth 20000 in
theorem q_207_563 (G : Nat × (Nat → Int32)) (d : Nat) (x1 : Int32) (x2 : Int32) (x3 : Int32) (s0 : Int32) (σ : aH) : Lq G d M_207 (40, [some (.ref 0), some (.int x1), some (.int x2), some (.int x3)], [.int s0], σ) = aXV (Rn G d 114 [.int s0] σ) (fun σ1 => Lq G d M_207 (43, [some (.ref 0), some (.int x1), some (.int x2), some (.int x3)], [], σ1)) (fun k2 σ3 => some (.inr k2, σ3)) :=
  (aUn_eq (tkd G.1 G.2) tmi (aRun (tkd G.1 G.2) tmi tmt d) M_207 [] 1 (40, [some (.ref 0), some (.int x1), some (.int x2), some (.int x3)], [.int s0], σ)).trans rfl
set_option maxRecDepth 20000 in
theorem q_207_564 (G : Nat × (Nat → Int32)) (d : Nat) (x1 : Int32) (x2 : Int32) (x3 : Int32) (σ : aH) : Lq G d M_207 (43, [some (.ref 0), some (.int x1), some (.int x2), some (.int x3)], [], σ) = Lq G d M_207 (44, [some (.ref 0), some (.int x1), some (.int x2), some (.int x3)], [.int x3], σ) :=
  (aUn_eq (tkd G.1 G.2) tmi (aRun (tkd G.1 G.2) tmi tmt d) M_207 [] 1 (43, [some (.ref 0), some (.int x1), some (.int x2), some (.int x3)], [], σ)).trans rfl
set_option maxRecDepth 20000 in
theorem q_207_565 (G : Nat × (Nat → Int32)) (d : Nat) (x1 : Int32) (x2 : Int32) (x3 : Int32) (s0 : Int32) (σ : aH) : Lq G d M_207 (44, [some (.ref 0), some (.int x1), some (.int x2), some (.int x3)], [.int s0], σ) = if s0 < 0 then Lq G d M_207 (57, [some (.ref 0), some (.int x1), some (.int x2), some (.int x3)], [], σ) else Lq G d M_207 (47, [some (.ref 0), some (.int x1), some (.int x2), some (.int x3)], [], σ) :=
  (aUn_eq (tkd G.1 G.2) tmi (aRun (tkd G.1 G.2) tmi tmt d) M_207 [] 1 (44, [some (.ref 0), some (.int x1), some (.int x2), some (.int x3)], [.int s0], σ)).trans rfl
set_option maxRecDepth 20000 in
theorem q_207_566 (G : Nat × (Nat → Int32)) (d : Nat) (x1 : Int32) (x2 : Int32) (x3 : Int32) (σ : aH) : Lq G d M_207 (57, [some (.ref 0), some (.int x1), some (.int x2), some (.int x3)], [], σ) = Lq G d M_207 (69, [some (.ref 0), some (.int x1), some (.int x2), some (.int x3)], [.ref 13, .ref 3, .ref 17], σ) :=
  (aUn_eq (tkd G.1 G.2) tmi (aRun (tkd G.1 G.2) tmi tmt d) M_207 [] 6 (57, [some (.ref 0), some (.int x1), some (.int x2), some (.int x3)], [], σ)).trans rfl
set_option maxRecDepth 20000 in
theorem q_207_567 (G : Nat × (Nat → Int32)) (d : Nat) (x1 : Int32) (x2 : Int32) (x3 : Int32) (σ : aH) : Lq G d M_207 (69, [some (.ref 0), some (.int x1), some (.int x2), some (.int x3)], [.ref 13, .ref 3, .ref 17], σ) = aCV (Rn G d 115 [.ref 17, .ref 3, .ref 13] σ) fun σ1 => Lq G d M_207 (72, [some (.ref 0), some (.int x1), some (.int x2), some (.int x3)], [], σ1) :=
  (aUn_eq (tkd G.1 G.2) tmi (aRun (tkd G.1 G.2) tmi tmt d) M_207 [] 1 (69, [some (.ref 0), some (.int x1), some (.int x2), some (.int x3)], [.ref 13, .ref 3, .ref 17], σ)).trans rfl
set_option maxRecDepth 20000 in
theorem q_207_568 (G : Nat × (Nat → Int32)) (d : Nat) (x1 : Int32) (x2 : Int32) (x3 : Int32) (σ : aH) : Lq G d M_207 (72, [some (.ref 0), some (.int x1), some (.int x2), some (.int x3)], [], σ) = Lq G d M_207 (73, [some (.ref 0), some (.int x1), some (.int x2), some (.int x3)], [.int x2], σ) :=
  (aUn_eq (tkd G.1 G.2) tmi (aRun (tkd G.1 G.2) tmi tmt d) M_207 [] 1 (72, [some (.ref 0), some (.int x1), some (.int x2), some (.int x3)], [], σ)).trans rfl
set_option maxRecDepth 20000 in
theorem q_207_569 (G : Nat × (Nat → Int32)) (d : Nat) (x1 : Int32) (x2 : Int32) (x3 : Int32) (s0 : Int32) (σ : aH) : Lq G d M_207 (73, [some (.ref 0), some (.int x1), some (.int x2), some (.int x3)], [.int s0], σ) = if s0 = (30 : Int32) then Lq G d M_207 (104, [some (.ref 0), some (.int x1), some (.int x2), some (.int x3)], [], σ) else if s0 = (31 : Int32) then Lq G d M_207 (115, [some (.ref 0), some (.int x1), some (.int x2), some (.int x3)], [], σ) else if s0 = (32 : Int32) then Lq G d M_207 (126, [some (.ref 0), some (.int x1), some (.int x2), some (.int x3)], [], σ) else if s0 = (33 : Int32) then Lq G d M_207 (135, [some (.ref 0), some (.int x1), some (.int x2), some (.int x3)], [], σ) else Lq G d M_207 (144, [some (.ref 0), some (.int x1), some (.int x2), some (.int x3)], [], σ) :=
  (aUn_eq (tkd G.1 G.2) tmi (aRun (tkd G.1 G.2) tmi tmt d) M_207 [] 1 (73, [some (.ref 0), some (.int x1), some (.int x2), some (.int x3)], [.int s0], σ)).trans rfl
set_option maxRecDepth 20000 in
theorem q_207_570 (G : Nat × (Nat → Int32)) (d : Nat) (x1 : Int32) (x2 : Int32) (x3 : Int32) (σ : aH) : Lq G d M_207 (104, [some (.ref 0), some (.int x1), some (.int x2), some (.int x3)], [], σ) = Lq G d M_207 (111, [some (.ref 0), some (.int x1), some (.int x2), some (.int x3)], [.int (16 : Int32), .int x1, .ref 13], σ) :=
  (aUn_eq (tkd G.1 G.2) tmi (aRun (tkd G.1 G.2) tmi tmt d) M_207 [] 4 (104, [some (.ref 0), some (.int x1), some (.int x2), some (.int x3)], [], σ)).trans rfl
set_option maxRecDepth 20000 in
theorem q_207_571 (G : Nat × (Nat → Int32)) (d : Nat) (x1 : Int32) (x2 : Int32) (x3 : Int32) (s0 : Int32) (s1 : Int32) (σ : aH) : Lq G d M_207 (111, [some (.ref 0), some (.int x1), some (.int x2), some (.int x3)], [.int s0, .int s1, .ref 13], σ) = aCI (Rn G d 117 [.ref 13, .int s1, .int s0] σ) fun v2 σ1 => Lq G d M_207 (114, [some (.ref 0), some (.int x1), some (.int x2), some (.int x3)], [.int v2], σ1) :=
  (aUn_eq (tkd G.1 G.2) tmi (aRun (tkd G.1 G.2) tmi tmt d) M_207 [] 1 (111, [some (.ref 0), some (.int x1), some (.int x2), some (.int x3)], [.int s0, .int s1, .ref 13], σ)).trans rfl
set_option maxRecDepth 20000 in
theorem q_207_572 (G : Nat × (Nat → Int32)) (d : Nat) (x1 : Int32) (x2 : Int32) (x3 : Int32) (s0 : Int32) (σ : aH) : Lq G d M_207 (114, [some (.ref 0), some (.int x1), some (.int x2), some (.int x3)], [.int s0], σ) = some (.inl (some (.int s0)), σ) :=
  (aUn_eq (tkd G.1 G.2) tmi (aRun (tkd G.1 G.2) tmi tmt d) M_207 [] 1 (114, [some (.ref 0), some (.int x1), some (.int x2), some (.int x3)], [.int s0], σ)).trans rfl
set_option maxRecDepth 20000 in
theorem q_207_573 (G : Nat × (Nat → Int32)) (d : Nat) (x1 : Int32) (x2 : Int32) (x3 : Int32) (σ : aH) : Lq G d M_207 (115, [some (.ref 0), some (.int x1), some (.int x2), some (.int x3)], [], σ) = Lq G d M_207 (122, [some (.ref 0), some (.int x1), some (.int x2), some (.int x3)], [.int (17 : Int32), .int x1, .ref 13], σ) :=
  (aUn_eq (tkd G.1 G.2) tmi (aRun (tkd G.1 G.2) tmi tmt d) M_207 [] 4 (115, [some (.ref 0), some (.int x1), some (.int x2), some (.int x3)], [], σ)).trans rfl
set_option maxRecDepth 20000 in
theorem q_207_574 (G : Nat × (Nat → Int32)) (d : Nat) (x1 : Int32) (x2 : Int32) (x3 : Int32) (s0 : Int32) (s1 : Int32) (σ : aH) : Lq G d M_207 (122, [some (.ref 0), some (.int x1), some (.int x2), some (.int x3)], [.int s0, .int s1, .ref 13], σ) = aCI (Rn G d 117 [.ref 13, .int s1, .int s0] σ) fun v2 σ1 => Lq G d M_207 (125, [some (.ref 0), some (.int x1), some (.int x2), some (.int x3)], [.int v2], σ1) :=
  (aUn_eq (tkd G.1 G.2) tmi (aRun (tkd G.1 G.2) tmi tmt d) M_207 [] 1 (122, [some (.ref 0), some (.int x1), some (.int x2), some (.int x3)], [.int s0, .int s1, .ref 13], σ)).trans rfl
set_option maxRecDepth 20000 in
theorem q_207_575 (G : Nat × (Nat → Int32)) (d : Nat) (x1 : Int32) (x2 : Int32) (x3 : Int32) (s0 : Int32) (σ : aH) : Lq G d M_207 (125, [some (.ref 0), some (.int x1), some (.int x2), some (.int x3)], [.int s0], σ) = some (.inl (some (.int s0)), σ) :=
  (aUn_eq (tkd G.1 G.2) tmi (aRun (tkd G.1 G.2) tmi tmt d) M_207 [] 1 (125, [some (.ref 0), some (.int x1), some (.int x2), some (.int x3)], [.int s0], σ)).trans rfl
set_option maxRecDepth 20000 in
theorem q_207_576 (G : Nat × (Nat → Int32)) (d : Nat) (x1 : Int32) (x2 : Int32) (x3 : Int32) (σ : aH) : Lq G d M_207 (126, [some (.ref 0), some (.int x1), some (.int x2), some (.int x3)], [], σ) = Lq G d M_207 (131, [some (.ref 0), some (.int x1), some (.int x2), some (.int x3)], [.int x1, .ref 17], σ) :=
  (aUn_eq (tkd G.1 G.2) tmi (aRun (tkd G.1 G.2) tmi tmt d) M_207 [] 3 (126, [some (.ref 0), some (.int x1), some (.int x2), some (.int x3)], [], σ)).trans rfl
set_option maxRecDepth 20000 in
theorem q_207_577 (G : Nat × (Nat → Int32)) (d : Nat) (x1 : Int32) (x2 : Int32) (x3 : Int32) (s0 : Int32) (σ : aH) : Lq G d M_207 (131, [some (.ref 0), some (.int x1), some (.int x2), some (.int x3)], [.int s0, .ref 17], σ) = aCI (Rn G d 121 [.ref 17, .int s0] σ) fun v2 σ1 => Lq G d M_207 (134, [some (.ref 0), some (.int x1), some (.int x2), some (.int x3)], [.int v2], σ1) :=
  (aUn_eq (tkd G.1 G.2) tmi (aRun (tkd G.1 G.2) tmi tmt d) M_207 [] 1 (131, [some (.ref 0), some (.int x1), some (.int x2), some (.int x3)], [.int s0, .ref 17], σ)).trans rfl
set_option maxRecDepth 20000 in
theorem q_207_578 (G : Nat × (Nat → Int32)) (d : Nat) (x1 : Int32) (x2 : Int32) (x3 : Int32) (s0 : Int32) (σ : aH) : Lq G d M_207 (134, [some (.ref 0), some (.int x1), some (.int x2), some (.int x3)], [.int s0], σ) = some (.inl (some (.int s0)), σ) :=
  (aUn_eq (tkd G.1 G.2) tmi (aRun (tkd G.1 G.2) tmi tmt d) M_207 [] 1 (134, [some (.ref 0), some (.int x1), some (.int x2), some (.int x3)], [.int s0], σ)).trans rfl
set_option maxRecDepth 20000 in
theorem q_207_579 (G : Nat × (Nat → Int32)) (d : Nat) (x1 : Int32) (x2 : Int32) (x3 : Int32) (σ : aH) : Lq G d M_207 (135, [some (.ref 0), some (.int x1), some (.int x2), some (.int x3)], [], σ) = Lq G d M_207 (140, [some (.ref 0), some (.int x1), some (.int x2), some (.int x3)], [.int x1, .ref 17], σ) :=
  (aUn_eq (tkd G.1 G.2) tmi (aRun (tkd G.1 G.2) tmi tmt d) M_207 [] 3 (135, [some (.ref 0), some (.int x1), some (.int x2), some (.int x3)], [], σ)).trans rfl
set_option maxRecDepth 20000 in
theorem q_207_580 (G : Nat × (Nat → Int32)) (d : Nat) (x1 : Int32) (x2 : Int32) (x3 : Int32) (s0 : Int32) (σ : aH) : Lq G d M_207 (140, [some (.ref 0), some (.int x1), some (.int x2), some (.int x3)], [.int s0, .ref 17], σ) = aCI (Rn G d 122 [.ref 17, .int s0] σ) fun v2 σ1 => Lq G d M_207 (143, [some (.ref 0), some (.int x1), some (.int x2), some (.int x3)], [.int v2], σ1) :=
  (aUn_eq (tkd G.1 G.2) tmi (aRun (tkd G.1 G.2) tmi tmt d) M_207 [] 1 (140, [some (.ref 0), some (.int x1), some (.int x2), some (.int x3)], [.int s0, .ref 17], σ)).trans rfl
set_option maxRecDepth 20000 in
theorem q_207_581 (G : Nat × (Nat → Int32)) (d : Nat) (x1 : Int32) (x2 : Int32) (x3 : Int32) (s0 : Int32) (σ : aH) : Lq G d M_207 (143, [some (.ref 0), some (.int x1), some (.int x2), some (.int x3)], [.int s0], σ) = some (.inl (some (.int s0)), σ) :=
  (aUn_eq (tkd G.1 G.2) tmi (aRun (tkd G.1 G.2) tmi tmt d) M_207 [] 1 (143, [some (.ref 0), some (.int x1), some (.int x2), some (.int x3)], [.int s0], σ)).trans rfl
set_option maxRecDepth 20000 in
theorem q_207_582 (G : Nat × (Nat → Int32)) (d : Nat) (x1 : Int32) (x2 : Int32) (x3 : Int32) (σ : aH) : Lq G d M_207 (144, [some (.ref 0), some (.int x1), some (.int x2), some (.int x3)], [], σ) = Lq G d M_207 (149, [some (.ref 0), some (.int x1), some (.int x2), some (.int x3)], [.int x1, .ref 17], σ) :=
  (aUn_eq (tkd G.1 G.2) tmi (aRun (tkd G.1 G.2) tmi tmt d) M_207 [] 3 (144, [some (.ref 0), some (.int x1), some (.int x2), some (.int x3)], [], σ)).trans rfl
set_option maxRecDepth 20000 in
theorem q_207_583 (G : Nat × (Nat → Int32)) (d : Nat) (x1 : Int32) (x2 : Int32) (x3 : Int32) (s0 : Int32) (σ : aH) : Lq G d M_207 (149, [some (.ref 0), some (.int x1), some (.int x2), some (.int x3)], [.int s0, .ref 17], σ) = aCI (Rn G d 208 [.ref 17, .int s0] σ) fun v2 σ1 => Lq G d M_207 (152, [some (.ref 0), some (.int x1), some (.int x2), some (.int x3)], [.int v2], σ1) :=
  (aUn_eq (tkd G.1 G.2) tmi (aRun (tkd G.1 G.2) tmi tmt d) M_207 [] 1 (149, [some (.ref 0), some (.int x1), some (.int x2), some (.int x3)], [.int s0, .ref 17], σ)).trans rfl
set_option maxRecDepth 20000 in
theorem q_207_584 (G : Nat × (Nat → Int32)) (d : Nat) (x1 : Int32) (x2 : Int32) (x3 : Int32) (s0 : Int32) (σ : aH) : Lq G d M_207 (152, [some (.ref 0), some (.int x1), some (.int x2), some (.int x3)], [.int s0], σ) = some (.inl (some (.int s0)), σ) :=
  (aUn_eq (tkd G.1 G.2) tmi (aRun (tkd G.1 G.2) tmi tmt d) M_207 [] 1 (152, [some (.ref 0), some (.int x1), some (.int x2), some (.int x3)], [.int s0], σ)).trans rfl
set_option maxRecDepth 20000 in
theorem q_207_585 (G : Nat × (Nat → Int32)) (d : Nat) (x1 : Int32) (x2 : Int32) (x3 : Int32) (σ : aH) : Lq G d M_207 (47, [some (.ref 0), some (.int x1), some (.int x2), some (.int x3)], [], σ) = Lq G d M_207 (53, [some (.ref 0), some (.int x1), some (.int x2), some (.int x3)], [.int x3, .int x1, .ref 13], σ) :=
  (aUn_eq (tkd G.1 G.2) tmi (aRun (tkd G.1 G.2) tmi tmt d) M_207 [] 4 (47, [some (.ref 0), some (.int x1), some (.int x2), some (.int x3)], [], σ)).trans rfl
set_option maxRecDepth 20000 in
theorem q_207_586 (G : Nat × (Nat → Int32)) (d : Nat) (x1 : Int32) (x2 : Int32) (x3 : Int32) (s0 : Int32) (s1 : Int32) (σ : aH) : Lq G d M_207 (53, [some (.ref 0), some (.int x1), some (.int x2), some (.int x3)], [.int s0, .int s1, .ref 13], σ) = aCI (Rn G d 117 [.ref 13, .int s1, .int s0] σ) fun v2 σ1 => Lq G d M_207 (56, [some (.ref 0), some (.int x1), some (.int x2), some (.int x3)], [.int v2], σ1) :=
  (aUn_eq (tkd G.1 G.2) tmi (aRun (tkd G.1 G.2) tmi tmt d) M_207 [] 1 (53, [some (.ref 0), some (.int x1), some (.int x2), some (.int x3)], [.int s0, .int s1, .ref 13], σ)).trans rfl
set_option maxRecDepth 20000 in
theorem q_207_587 (G : Nat × (Nat → Int32)) (d : Nat) (x1 : Int32) (x2 : Int32) (x3 : Int32) (s0 : Int32) (σ : aH) : Lq G d M_207 (56, [some (.ref 0), some (.int x1), some (.int x2), some (.int x3)], [.int s0], σ) = some (.inl (some (.int s0)), σ) :=
  (aUn_eq (tkd G.1 G.2) tmi (aRun (tkd G.1 G.2) tmi tmt d) M_207 [] 1 (56, [some (.ref 0), some (.int x1), some (.int x2), some (.int x3)], [.int s0], σ)).trans rfl
set_option maxRecDepth 20000 in
theorem q_207_588 (G : Nat × (Nat → Int32)) (d : Nat) (x1 : Int32) (x2 : Int32) (x3 : Int32) (σ : aH) : Lq G d M_207 (19, [some (.ref 0), some (.int x1), some (.int x2), some (.int x3)], [], σ) = Lq G d M_207 (20, [some (.ref 0), some (.int x1), some (.int x2), some (.int x3)], [.int x3], σ) :=
  (aUn_eq (tkd G.1 G.2) tmi (aRun (tkd G.1 G.2) tmi tmt d) M_207 [] 1 (19, [some (.ref 0), some (.int x1), some (.int x2), some (.int x3)], [], σ)).trans rfl
set_option maxRecDepth 20000 in
theorem q_207_589 (G : Nat × (Nat → Int32)) (d : Nat) (x1 : Int32) (x2 : Int32) (x3 : Int32) (s0 : Int32) (σ : aH) : Lq G d M_207 (20, [some (.ref 0), some (.int x1), some (.int x2), some (.int x3)], [.int s0], σ) = if 0 ≤ s0 then Lq G d M_207 (35, [some (.ref 0), some (.int x1), some (.int x2), some (.int x3)], [], σ) else Lq G d M_207 (23, [some (.ref 0), some (.int x1), some (.int x2), some (.int x3)], [], σ) :=
  (aUn_eq (tkd G.1 G.2) tmi (aRun (tkd G.1 G.2) tmi tmt d) M_207 [] 1 (20, [some (.ref 0), some (.int x1), some (.int x2), some (.int x3)], [.int s0], σ)).trans rfl
set_option maxRecDepth 20000 in
theorem q_207_590 (G : Nat × (Nat → Int32)) (d : Nat) (x1 : Int32) (x2 : Int32) (x3 : Int32) (σ : aH) : Lq G d M_207 (35, [some (.ref 0), some (.int x1), some (.int x2), some (.int x3)], [], σ) = Lq G d M_207 (40, [some (.ref 0), some (.int x1), some (.int x2), some (.int x3)], [.int (1 : Int32)], σ) :=
  (aUn_eq (tkd G.1 G.2) tmi (aRun (tkd G.1 G.2) tmi tmt d) M_207 [] 2 (35, [some (.ref 0), some (.int x1), some (.int x2), some (.int x3)], [], σ)).trans rfl
set_option maxRecDepth 20000 in
theorem q_207_591 (G : Nat × (Nat → Int32)) (d : Nat) (x1 : Int32) (x2 : Int32) (x3 : Int32) (σ : aH) : Lq G d M_207 (23, [some (.ref 0), some (.int x1), some (.int x2), some (.int x3)], [], σ) = Lq G d M_207 (26, [some (.ref 0), some (.int x1), some (.int x2), some (.int x3)], [.int (30 : Int32), .int x2], σ) :=
  (aUn_eq (tkd G.1 G.2) tmi (aRun (tkd G.1 G.2) tmi tmt d) M_207 [] 2 (23, [some (.ref 0), some (.int x1), some (.int x2), some (.int x3)], [], σ)).trans rfl
set_option maxRecDepth 20000 in
theorem q_207_592 (G : Nat × (Nat → Int32)) (d : Nat) (x1 : Int32) (x2 : Int32) (x3 : Int32) (s0 : Int32) (s1 : Int32) (σ : aH) : Lq G d M_207 (26, [some (.ref 0), some (.int x1), some (.int x2), some (.int x3)], [.int s0, .int s1], σ) = if s1 < s0 then Lq G d M_207 (39, [some (.ref 0), some (.int x1), some (.int x2), some (.int x3)], [], σ) else Lq G d M_207 (29, [some (.ref 0), some (.int x1), some (.int x2), some (.int x3)], [], σ) :=
  (aUn_eq (tkd G.1 G.2) tmi (aRun (tkd G.1 G.2) tmi tmt d) M_207 [] 1 (26, [some (.ref 0), some (.int x1), some (.int x2), some (.int x3)], [.int s0, .int s1], σ)).trans rfl
