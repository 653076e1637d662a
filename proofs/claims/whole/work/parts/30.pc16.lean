/-! ===== the methods in pieces, as equations (by wip/gen/emit_eqs2.py) ===== -/
set_option maxRecDepth 20000 in
theorem q_12_4410 (G : Nat × (Nat → Int32)) (d : Nat) (x1 : Int32) (s0 : Int32) (σ : aH) : Lq G d M_12 (6, [some (.ref 88), some (.int x1)], [.int s0], σ) = some (.inl (some (.int s0)), σ) :=
  (aUn_eq (tkd G.1 G.2) tmi (aRun (tkd G.1 G.2) tmi tmt d) M_12 [] 1 (6, [some (.ref 88), some (.int x1)], [.int s0], σ)).trans rfl
set_option maxRecDepth 20000 in
theorem q_12_4411 (G : Nat × (Nat → Int32)) (d : Nat) (x1 : Int32) (σ : aH) : Lq G d M_12 (0, [some (.ref 90), some (.int x1)], [], σ) = Lq G d M_12 (3, [some (.ref 90), some (.int x1)], [.int (0 : Int32), .int x1, .ref 90], σ) :=
  (aUn_eq (tkd G.1 G.2) tmi (aRun (tkd G.1 G.2) tmi tmt d) M_12 [] 3 (0, [some (.ref 90), some (.int x1)], [], σ)).trans rfl
set_option maxRecDepth 20000 in
theorem q_12_4412 (G : Nat × (Nat → Int32)) (d : Nat) (x1 : Int32) (s0 : Int32) (s1 : Int32) (σ : aH) : Lq G d M_12 (3, [some (.ref 90), some (.int x1)], [.int s0, .int s1, .ref 90], σ) = aCI (Rn G d 13 [.ref 90, .int s1, .int s0] σ) fun v2 σ1 => Lq G d M_12 (6, [some (.ref 90), some (.int x1)], [.int v2], σ1) :=
  (aUn_eq (tkd G.1 G.2) tmi (aRun (tkd G.1 G.2) tmi tmt d) M_12 [] 1 (3, [some (.ref 90), some (.int x1)], [.int s0, .int s1, .ref 90], σ)).trans rfl
set_option maxRecDepth 20000 in
theorem q_12_4413 (G : Nat × (Nat → Int32)) (d : Nat) (x1 : Int32) (s0 : Int32) (σ : aH) : Lq G d M_12 (6, [some (.ref 90), some (.int x1)], [.int s0], σ) = some (.inl (some (.int s0)), σ) :=
  (aUn_eq (tkd G.1 G.2) tmi (aRun (tkd G.1 G.2) tmi tmt d) M_12 [] 1 (6, [some (.ref 90), some (.int x1)], [.int s0], σ)).trans rfl
set_option maxRecDepth 20000 in
theorem q_12_4414 (G : Nat × (Nat → Int32)) (d : Nat) (x1 : Int32) (σ : aH) : Lq G d M_12 (0, [some (.ref 92), some (.int x1)], [], σ) = Lq G d M_12 (3, [some (.ref 92), some (.int x1)], [.int (0 : Int32), .int x1, .ref 92], σ) :=
  (aUn_eq (tkd G.1 G.2) tmi (aRun (tkd G.1 G.2) tmi tmt d) M_12 [] 3 (0, [some (.ref 92), some (.int x1)], [], σ)).trans rfl
set_option maxRecDepth 20000 in
theorem q_12_4415 (G : Nat × (Nat → Int32)) (d : Nat) (x1 : Int32) (s0 : Int32) (s1 : Int32) (σ : aH) : Lq G d M_12 (3, [some (.ref 92), some (.int x1)], [.int s0, .int s1, .ref 92], σ) = aCI (Rn G d 13 [.ref 92, .int s1, .int s0] σ) fun v2 σ1 => Lq G d M_12 (6, [some (.ref 92), some (.int x1)], [.int v2], σ1) :=
  (aUn_eq (tkd G.1 G.2) tmi (aRun (tkd G.1 G.2) tmi tmt d) M_12 [] 1 (3, [some (.ref 92), some (.int x1)], [.int s0, .int s1, .ref 92], σ)).trans rfl
set_option maxRecDepth 20000 in
theorem q_12_4416 (G : Nat × (Nat → Int32)) (d : Nat) (x1 : Int32) (s0 : Int32) (σ : aH) : Lq G d M_12 (6, [some (.ref 92), some (.int x1)], [.int s0], σ) = some (.inl (some (.int s0)), σ) :=
  (aUn_eq (tkd G.1 G.2) tmi (aRun (tkd G.1 G.2) tmi tmt d) M_12 [] 1 (6, [some (.ref 92), some (.int x1)], [.int s0], σ)).trans rfl
set_option maxRecDepth 20000 in
theorem q_12_4417 (G : Nat × (Nat → Int32)) (d : Nat) (x1 : Int32) (σ : aH) : Lq G d M_12 (0, [some (.ref 94), some (.int x1)], [], σ) = Lq G d M_12 (3, [some (.ref 94), some (.int x1)], [.int (0 : Int32), .int x1, .ref 94], σ) :=
  (aUn_eq (tkd G.1 G.2) tmi (aRun (tkd G.1 G.2) tmi tmt d) M_12 [] 3 (0, [some (.ref 94), some (.int x1)], [], σ)).trans rfl
set_option maxRecDepth 20000 in
theorem q_12_4418 (G : Nat × (Nat → Int32)) (d : Nat) (x1 : Int32) (s0 : Int32) (s1 : Int32) (σ : aH) : Lq G d M_12 (3, [some (.ref 94), some (.int x1)], [.int s0, .int s1, .ref 94], σ) = aCI (Rn G d 13 [.ref 94, .int s1, .int s0] σ) fun v2 σ1 => Lq G d M_12 (6, [some (.ref 94), some (.int x1)], [.int v2], σ1) :=
  (aUn_eq (tkd G.1 G.2) tmi (aRun (tkd G.1 G.2) tmi tmt d) M_12 [] 1 (3, [some (.ref 94), some (.int x1)], [.int s0, .int s1, .ref 94], σ)).trans rfl
set_option maxRecDepth 20000 in
theorem q_12_4419 (G : Nat × (Nat → Int32)) (d : Nat) (x1 : Int32) (s0 : Int32) (σ : aH) : Lq G d M_12 (6, [some (.ref 94), some (.int x1)], [.int s0], σ) = some (.inl (some (.int s0)), σ) :=
  (aUn_eq (tkd G.1 G.2) tmi (aRun (tkd G.1 G.2) tmi tmt d) M_12 [] 1 (6, [some (.ref 94), some (.int x1)], [.int s0], σ)).trans rfl
set_option maxRecDepth 20000 in
theorem q_12_4420 (G : Nat × (Nat → Int32)) (d : Nat) (x1 : Int32) (σ : aH) : Lq G d M_12 (0, [some (.ref 96), some (.int x1)], [], σ) = Lq G d M_12 (3, [some (.ref 96), some (.int x1)], [.int (0 : Int32), .int x1, .ref 96], σ) :=
  (aUn_eq (tkd G.1 G.2) tmi (aRun (tkd G.1 G.2) tmi tmt d) M_12 [] 3 (0, [some (.ref 96), some (.int x1)], [], σ)).trans rfl
set_option maxRecDepth 20000 in
theorem q_12_4421 (G : Nat × (Nat → Int32)) (d : Nat) (x1 : Int32) (s0 : Int32) (s1 : Int32) (σ : aH) : Lq G d M_12 (3, [some (.ref 96), some (.int x1)], [.int s0, .int s1, .ref 96], σ) = aCI (Rn G d 13 [.ref 96, .int s1, .int s0] σ) fun v2 σ1 => Lq G d M_12 (6, [some (.ref 96), some (.int x1)], [.int v2], σ1) :=
  (aUn_eq (tkd G.1 G.2) tmi (aRun (tkd G.1 G.2) tmi tmt d) M_12 [] 1 (3, [some (.ref 96), some (.int x1)], [.int s0, .int s1, .ref 96], σ)).trans rfl
set_option maxRecDepth 20000 in
theorem q_12_4422 (G : Nat × (Nat → Int32)) (d : Nat) (x1 : Int32) (s0 : Int32) (σ : aH) : Lq G d M_12 (6, [some (.ref 96), some (.int x1)], [.int s0], σ) = some (.inl (some (.int s0)), σ) :=
  (aUn_eq (tkd G.1 G.2) tmi (aRun (tkd G.1 G.2) tmi tmt d) M_12 [] 1 (6, [some (.ref 96), some (.int x1)], [.int s0], σ)).trans rfl
set_option maxRecDepth 20000 in
theorem q_12_4423 (G : Nat × (Nat → Int32)) (d : Nat) (x1 : Int32) (σ : aH) : Lq G d M_12 (0, [some (.ref 98), some (.int x1)], [], σ) = Lq G d M_12 (3, [some (.ref 98), some (.int x1)], [.int (0 : Int32), .int x1, .ref 98], σ) :=
  (aUn_eq (tkd G.1 G.2) tmi (aRun (tkd G.1 G.2) tmi tmt d) M_12 [] 3 (0, [some (.ref 98), some (.int x1)], [], σ)).trans rfl
set_option maxRecDepth 20000 in
theorem q_12_4424 (G : Nat × (Nat → Int32)) (d : Nat) (x1 : Int32) (s0 : Int32) (s1 : Int32) (σ : aH) : Lq G d M_12 (3, [some (.ref 98), some (.int x1)], [.int s0, .int s1, .ref 98], σ) = aCI (Rn G d 13 [.ref 98, .int s1, .int s0] σ) fun v2 σ1 => Lq G d M_12 (6, [some (.ref 98), some (.int x1)], [.int v2], σ1) :=
  (aUn_eq (tkd G.1 G.2) tmi (aRun (tkd G.1 G.2) tmi tmt d) M_12 [] 1 (3, [some (.ref 98), some (.int x1)], [.int s0, .int s1, .ref 98], σ)).trans rfl
set_option maxRecDepth 20000 in
theorem q_12_4425 (G : Nat × (Nat → Int32)) (d : Nat) (x1 : Int32) (s0 : Int32) (σ : aH) : Lq G d M_12 (6, [some (.ref 98), some (.int x1)], [.int s0], σ) = some (.inl (some (.int s0)), σ) :=
  (aUn_eq (tkd G.1 G.2) tmi (aRun (tkd G.1 G.2) tmi tmt d) M_12 [] 1 (6, [some (.ref 98), some (.int x1)], [.int s0], σ)).trans rfl
set_option maxRecDepth 20000 in
theorem q_12_4426 (G : Nat × (Nat → Int32)) (d : Nat) (x1 : Int32) (σ : aH) : Lq G d M_12 (0, [some (.ref 100), some (.int x1)], [], σ) = Lq G d M_12 (3, [some (.ref 100), some (.int x1)], [.int (0 : Int32), .int x1, .ref 100], σ) :=
  (aUn_eq (tkd G.1 G.2) tmi (aRun (tkd G.1 G.2) tmi tmt d) M_12 [] 3 (0, [some (.ref 100), some (.int x1)], [], σ)).trans rfl
set_option maxRecDepth 20000 in
theorem q_12_4427 (G : Nat × (Nat → Int32)) (d : Nat) (x1 : Int32) (s0 : Int32) (s1 : Int32) (σ : aH) : Lq G d M_12 (3, [some (.ref 100), some (.int x1)], [.int s0, .int s1, .ref 100], σ) = aCI (Rn G d 13 [.ref 100, .int s1, .int s0] σ) fun v2 σ1 => Lq G d M_12 (6, [some (.ref 100), some (.int x1)], [.int v2], σ1) :=
  (aUn_eq (tkd G.1 G.2) tmi (aRun (tkd G.1 G.2) tmi tmt d) M_12 [] 1 (3, [some (.ref 100), some (.int x1)], [.int s0, .int s1, .ref 100], σ)).trans rfl
set_option maxRecDepth 20000 in
theorem q_12_4428 (G : Nat × (Nat → Int32)) (d : Nat) (x1 : Int32) (s0 : Int32) (σ : aH) : Lq G d M_12 (6, [some (.ref 100), some (.int x1)], [.int s0], σ) = some (.inl (some (.int s0)), σ) :=
  (aUn_eq (tkd G.1 G.2) tmi (aRun (tkd G.1 G.2) tmi tmt d) M_12 [] 1 (6, [some (.ref 100), some (.int x1)], [.int s0], σ)).trans rfl
set_option maxRecDepth 20000 in
theorem q_12_4429 (G : Nat × (Nat → Int32)) (d : Nat) (x1 : Int32) (σ : aH) : Lq G d M_12 (0, [some (.ref 102), some (.int x1)], [], σ) = Lq G d M_12 (3, [some (.ref 102), some (.int x1)], [.int (0 : Int32), .int x1, .ref 102], σ) :=
  (aUn_eq (tkd G.1 G.2) tmi (aRun (tkd G.1 G.2) tmi tmt d) M_12 [] 3 (0, [some (.ref 102), some (.int x1)], [], σ)).trans rfl
set_option maxRecDepth 20000 in
theorem q_12_4430 (G : Nat × (Nat → Int32)) (d : Nat) (x1 : Int32) (s0 : Int32) (s1 : Int32) (σ : aH) : Lq G d M_12 (3, [some (.ref 102), some (.int x1)], [.int s0, .int s1, .ref 102], σ) = aCI (Rn G d 13 [.ref 102, .int s1, .int s0] σ) fun v2 σ1 => Lq G d M_12 (6, [some (.ref 102), some (.int x1)], [.int v2], σ1) :=
  (aUn_eq (tkd G.1 G.2) tmi (aRun (tkd G.1 G.2) tmi tmt d) M_12 [] 1 (3, [some (.ref 102), some (.int x1)], [.int s0, .int s1, .ref 102], σ)).trans rfl
set_option maxRecDepth 20000 in
theorem q_12_4431 (G : Nat × (Nat → Int32)) (d : Nat) (x1 : Int32) (s0 : Int32) (σ : aH) : Lq G d M_12 (6, [some (.ref 102), some (.int x1)], [.int s0], σ) = some (.inl (some (.int s0)), σ) :=
  (aUn_eq (tkd G.1 G.2) tmi (aRun (tkd G.1 G.2) tmi tmt d) M_12 [] 1 (6, [some (.ref 102), some (.int x1)], [.int s0], σ)).trans rfl
set_option maxRecDepth 20000 in
theorem q_12_4432 (G : Nat × (Nat → Int32)) (d : Nat) (x1 : Int32) (σ : aH) : Lq G d M_12 (0, [some (.ref 104), some (.int x1)], [], σ) = Lq G d M_12 (3, [some (.ref 104), some (.int x1)], [.int (0 : Int32), .int x1, .ref 104], σ) :=
  (aUn_eq (tkd G.1 G.2) tmi (aRun (tkd G.1 G.2) tmi tmt d) M_12 [] 3 (0, [some (.ref 104), some (.int x1)], [], σ)).trans rfl
set_option maxRecDepth 20000 in
theorem q_12_4433 (G : Nat × (Nat → Int32)) (d : Nat) (x1 : Int32) (s0 : Int32) (s1 : Int32) (σ : aH) : Lq G d M_12 (3, [some (.ref 104), some (.int x1)], [.int s0, .int s1, .ref 104], σ) = aCI (Rn G d 13 [.ref 104, .int s1, .int s0] σ) fun v2 σ1 => Lq G d M_12 (6, [some (.ref 104), some (.int x1)], [.int v2], σ1) :=
  (aUn_eq (tkd G.1 G.2) tmi (aRun (tkd G.1 G.2) tmi tmt d) M_12 [] 1 (3, [some (.ref 104), some (.int x1)], [.int s0, .int s1, .ref 104], σ)).trans rfl
set_option maxRecDepth 20000 in
theorem q_12_4434 (G : Nat × (Nat → Int32)) (d : Nat) (x1 : Int32) (s0 : Int32) (σ : aH) : Lq G d M_12 (6, [some (.ref 104), some (.int x1)], [.int s0], σ) = some (.inl (some (.int s0)), σ) :=
  (aUn_eq (tkd G.1 G.2) tmi (aRun (tkd G.1 G.2) tmi tmt d) M_12 [] 1 (6, [some (.ref 104), some (.int x1)], [.int s0], σ)).trans rfl
set_option maxRecDepth 20000 in
theorem q_12_4435 (G : Nat × (Nat → Int32)) (d : Nat) (x1 : Int32) (σ : aH) : Lq G d M_12 (0, [some (.ref 106), some (.int x1)], [], σ) = Lq G d M_12 (3, [some (.ref 106), some (.int x1)], [.int (0 : Int32), .int x1, .ref 106], σ) :=
  (aUn_eq (tkd G.1 G.2) tmi (aRun (tkd G.1 G.2) tmi tmt d) M_12 [] 3 (0, [some (.ref 106), some (.int x1)], [], σ)).trans rfl
set_option maxRecDepth 20000 in
theorem q_12_4436 (G : Nat × (Nat → Int32)) (d : Nat) (x1 : Int32) (s0 : Int32) (s1 : Int32) (σ : aH) : Lq G d M_12 (3, [some (.ref 106), some (.int x1)], [.int s0, .int s1, .ref 106], σ) = aCI (Rn G d 13 [.ref 106, .int s1, .int s0] σ) fun v2 σ1 => Lq G d M_12 (6, [some (.ref 106), some (.int x1)], [.int v2], σ1) :=
  (aUn_eq (tkd G.1 G.2) tmi (aRun (tkd G.1 G.2) tmi tmt d) M_12 [] 1 (3, [some (.ref 106), some (.int x1)], [.int s0, .int s1, .ref 106], σ)).trans rfl
set_option maxRecDepth 20000 in
theorem q_12_4437 (G : Nat × (Nat → Int32)) (d : Nat) (x1 : Int32) (s0 : Int32) (σ : aH) : Lq G d M_12 (6, [some (.ref 106), some (.int x1)], [.int s0], σ) = some (.inl (some (.int s0)), σ) :=
  (aUn_eq (tkd G.1 G.2) tmi (aRun (tkd G.1 G.2) tmi tmt d) M_12 [] 1 (6, [some (.ref 106), some (.int x1)], [.int s0], σ)).trans rfl
set_option maxRecDepth 20000 in
theorem q_12_4438 (G : Nat × (Nat → Int32)) (d : Nat) (x1 : Int32) (σ : aH) : Lq G d M_12 (0, [some (.ref 108), some (.int x1)], [], σ) = Lq G d M_12 (3, [some (.ref 108), some (.int x1)], [.int (0 : Int32), .int x1, .ref 108], σ) :=
  (aUn_eq (tkd G.1 G.2) tmi (aRun (tkd G.1 G.2) tmi tmt d) M_12 [] 3 (0, [some (.ref 108), some (.int x1)], [], σ)).trans rfl
set_option maxRecDepth 20000 in
theorem q_12_4439 (G : Nat × (Nat → Int32)) (d : Nat) (x1 : Int32) (s0 : Int32) (s1 : Int32) (σ : aH) : Lq G d M_12 (3, [some (.ref 108), some (.int x1)], [.int s0, .int s1, .ref 108], σ) = aCI (Rn G d 13 [.ref 108, .int s1, .int s0] σ) fun v2 σ1 => Lq G d M_12 (6, [some (.ref 108), some (.int x1)], [.int v2], σ1) :=
  (aUn_eq (tkd G.1 G.2) tmi (aRun (tkd G.1 G.2) tmi tmt d) M_12 [] 1 (3, [some (.ref 108), some (.int x1)], [.int s0, .int s1, .ref 108], σ)).trans rfl
set_option maxRecDepth 20000 in
theorem q_12_4440 (G : Nat × (Nat → Int32)) (d : Nat) (x1 : Int32) (s0 : Int32) (σ : aH) : Lq G d M_12 (6, [some (.ref 108), some (.int x1)], [.int s0], σ) = some (.inl (some (.int s0)), σ) :=
  (aUn_eq (tkd G.1 G.2) tmi (aRun (tkd G.1 G.2) tmi tmt d) M_12 [] 1 (6, [some (.ref 108), some (.int x1)], [.int s0], σ)).trans rfl
set_option maxRecDepth 20000 in
theorem q_12_4441 (G : Nat × (Nat → Int32)) (d : Nat) (x1 : Int32) (σ : aH) : Lq G d M_12 (0, [some (.ref 110), some (.int x1)], [], σ) = Lq G d M_12 (3, [some (.ref 110), some (.int x1)], [.int (0 : Int32), .int x1, .ref 110], σ) :=
  (aUn_eq (tkd G.1 G.2) tmi (aRun (tkd G.1 G.2) tmi tmt d) M_12 [] 3 (0, [some (.ref 110), some (.int x1)], [], σ)).trans rfl
set_option maxRecDepth 20000 in
theorem q_12_4442 (G : Nat × (Nat → Int32)) (d : Nat) (x1 : Int32) (s0 : Int32) (s1 : Int32) (σ : aH) : Lq G d M_12 (3, [some (.ref 110), some (.int x1)], [.int s0, .int s1, .ref 110], σ) = aCI (Rn G d 13 [.ref 110, .int s1, .int s0] σ) fun v2 σ1 => Lq G d M_12 (6, [some (.ref 110), some (.int x1)], [.int v2], σ1) :=
  (aUn_eq (tkd G.1 G.2) tmi (aRun (tkd G.1 G.2) tmi tmt d) M_12 [] 1 (3, [some (.ref 110), some (.int x1)], [.int s0, .int s1, .ref 110], σ)).trans rfl
set_option maxRecDepth 20000 in
theorem q_12_4443 (G : Nat × (Nat → Int32)) (d : Nat) (x1 : Int32) (s0 : Int32) (σ : aH) : Lq G d M_12 (6, [some (.ref 110), some (.int x1)], [.int s0], σ) = some (.inl (some (.int s0)), σ) :=
  (aUn_eq (tkd G.1 G.2) tmi (aRun (tkd G.1 G.2) tmi tmt d) M_12 [] 1 (6, [some (.ref 110), some (.int x1)], [.int s0], σ)).trans rfl
set_option maxRecDepth 20000 in
theorem q_12_4444 (G : Nat × (Nat → Int32)) (d : Nat) (x1 : Int32) (σ : aH) : Lq G d M_12 (0, [some (.ref 112), some (.int x1)], [], σ) = Lq G d M_12 (3, [some (.ref 112), some (.int x1)], [.int (0 : Int32), .int x1, .ref 112], σ) :=
  (aUn_eq (tkd G.1 G.2) tmi (aRun (tkd G.1 G.2) tmi tmt d) M_12 [] 3 (0, [some (.ref 112), some (.int x1)], [], σ)).trans rfl
set_option maxRecDepth 20000 in
theorem q_12_4445 (G : Nat × (Nat → Int32)) (d : Nat) (x1 : Int32) (s0 : Int32) (s1 : Int32) (σ : aH) : Lq G d M_12 (3, [some (.ref 112), some (.int x1)], [.int s0, .int s1, .ref 112], σ) = aCI (Rn G d 13 [.ref 112, .int s1, .int s0] σ) fun v2 σ1 => Lq G d M_12 (6, [some (.ref 112), some (.int x1)], [.int v2], σ1) :=
  (aUn_eq (tkd G.1 G.2) tmi (aRun (tkd G.1 G.2) tmi tmt d) M_12 [] 1 (3, [some (.ref 112), some (.int x1)], [.int s0, .int s1, .ref 112], σ)).trans rfl
set_option maxRecDepth 20000 in
theorem q_12_4446 (G : Nat × (Nat → Int32)) (d : Nat) (x1 : Int32) (s0 : Int32) (σ : aH) : Lq G d M_12 (6, [some (.ref 112), some (.int x1)], [.int s0], σ) = some (.inl (some (.int s0)), σ) :=
  (aUn_eq (tkd G.1 G.2) tmi (aRun (tkd G.1 G.2) tmi tmt d) M_12 [] 1 (6, [some (.ref 112), some (.int x1)], [.int s0], σ)).trans rfl
set_option maxRecDepth 20000 in
theorem q_12_4447 (G : Nat × (Nat → Int32)) (d : Nat) (x1 : Int32) (σ : aH) : Lq G d M_12 (0, [some (.ref 114), some (.int x1)], [], σ) = Lq G d M_12 (3, [some (.ref 114), some (.int x1)], [.int (0 : Int32), .int x1, .ref 114], σ) :=
  (aUn_eq (tkd G.1 G.2) tmi (aRun (tkd G.1 G.2) tmi tmt d) M_12 [] 3 (0, [some (.ref 114), some (.int x1)], [], σ)).trans rfl
set_option maxRecDepth 20000 in
theorem q_12_4448 (G : Nat × (Nat → Int32)) (d : Nat) (x1 : Int32) (s0 : Int32) (s1 : Int32) (σ : aH) : Lq G d M_12 (3, [some (.ref 114), some (.int x1)], [.int s0, .int s1, .ref 114], σ) = aCI (Rn G d 13 [.ref 114, .int s1, .int s0] σ) fun v2 σ1 => Lq G d M_12 (6, [some (.ref 114), some (.int x1)], [.int v2], σ1) :=
  (aUn_eq (tkd G.1 G.2) tmi (aRun (tkd G.1 G.2) tmi tmt d) M_12 [] 1 (3, [some (.ref 114), some (.int x1)], [.int s0, .int s1, .ref 114], σ)).trans rfl
set_option maxRecDepth 20000 in
theorem q_12_4449 (G : Nat × (Nat → Int32)) (d : Nat) (x1 : Int32) (s0 : Int32) (σ : aH) : Lq G d M_12 (6, [some (.ref 114), some (.int x1)], [.int s0], σ) = some (.inl (some (.int s0)), σ) :=
  (aUn_eq (tkd G.1 G.2) tmi (aRun (tkd G.1 G.2) tmi tmt d) M_12 [] 1 (6, [some (.ref 114), some (.int x1)], [.int s0], σ)).trans rfl
set_option maxRecDepth 20000 in
theorem q_12_4450 (G : Nat × (Nat → Int32)) (d : Nat) (x1 : Int32) (σ : aH) : Lq G d M_12 (0, [some (.ref 116), some (.int x1)], [], σ) = Lq G d M_12 (3, [some (.ref 116), some (.int x1)], [.int (0 : Int32), .int x1, .ref 116], σ) :=
  (aUn_eq (tkd G.1 G.2) tmi (aRun (tkd G.1 G.2) tmi tmt d) M_12 [] 3 (0, [some (.ref 116), some (.int x1)], [], σ)).trans rfl
set_option maxRecDepth 20000 in
theorem q_12_4451 (G : Nat × (Nat → Int32)) (d : Nat) (x1 : Int32) (s0 : Int32) (s1 : Int32) (σ : aH) : Lq G d M_12 (3, [some (.ref 116), some (.int x1)], [.int s0, .int s1, .ref 116], σ) = aCI (Rn G d 13 [.ref 116, .int s1, .int s0] σ) fun v2 σ1 => Lq G d M_12 (6, [some (.ref 116), some (.int x1)], [.int v2], σ1) :=
  (aUn_eq (tkd G.1 G.2) tmi (aRun (tkd G.1 G.2) tmi tmt d) M_12 [] 1 (3, [some (.ref 116), some (.int x1)], [.int s0, .int s1, .ref 116], σ)).trans rfl
set_option maxRecDepth 20000 in
theorem q_12_4452 (G : Nat × (Nat → Int32)) (d : Nat) (x1 : Int32) (s0 : Int32) (σ : aH) : Lq G d M_12 (6, [some (.ref 116), some (.int x1)], [.int s0], σ) = some (.inl (some (.int s0)), σ) :=
  (aUn_eq (tkd G.1 G.2) tmi (aRun (tkd G.1 G.2) tmi tmt d) M_12 [] 1 (6, [some (.ref 116), some (.int x1)], [.int s0], σ)).trans rfl
set_option maxRecDepth 20000 in
theorem q_12_4453 (G : Nat × (Nat → Int32)) (d : Nat) (x1 : Int32) (σ : aH) : Lq G d M_12 (0, [some (.ref 118), some (.int x1)], [], σ) = Lq G d M_12 (3, [some (.ref 118), some (.int x1)], [.int (0 : Int32), .int x1, .ref 118], σ) :=
  (aUn_eq (tkd G.1 G.2) tmi (aRun (tkd G.1 G.2) tmi tmt d) M_12 [] 3 (0, [some (.ref 118), some (.int x1)], [], σ)).trans rfl
set_option maxRecDepth 20000 in
theorem q_12_4454 (G : Nat × (Nat → Int32)) (d : Nat) (x1 : Int32) (s0 : Int32) (s1 : Int32) (σ : aH) : Lq G d M_12 (3, [some (.ref 118), some (.int x1)], [.int s0, .int s1, .ref 118], σ) = aCI (Rn G d 13 [.ref 118, .int s1, .int s0] σ) fun v2 σ1 => Lq G d M_12 (6, [some (.ref 118), some (.int x1)], [.int v2], σ1) :=
  (aUn_eq (tkd G.1 G.2) tmi (aRun (tkd G.1 G.2) tmi tmt d) M_12 [] 1 (3, [some (.ref 118), some (.int x1)], [.int s0, .int s1, .ref 118], σ)).trans rfl
set_option maxRecDepth 20000 in
theorem q_12_4455 (G : Nat × (Nat → Int32)) (d : Nat) (x1 : Int32) (s0 : Int32) (σ : aH) : Lq G d M_12 (6, [some (.ref 118), some (.int x1)], [.int s0], σ) = some (.inl (some (.int s0)), σ) :=
  (aUn_eq (tkd G.1 G.2) tmi (aRun (tkd G.1 G.2) tmi tmt d) M_12 [] 1 (6, [some (.ref 118), some (.int x1)], [.int s0], σ)).trans rfl
set_option maxRecDepth 20000 in
theorem q_12_4456 (G : Nat × (Nat → Int32)) (d : Nat) (x1 : Int32) (σ : aH) : Lq G d M_12 (0, [some (.ref 120), some (.int x1)], [], σ) = Lq G d M_12 (3, [some (.ref 120), some (.int x1)], [.int (0 : Int32), .int x1, .ref 120], σ) :=
  (aUn_eq (tkd G.1 G.2) tmi (aRun (tkd G.1 G.2) tmi tmt d) M_12 [] 3 (0, [some (.ref 120), some (.int x1)], [], σ)).trans rfl
set_option maxRecDepth 20000 in
theorem q_12_4457 (G : Nat × (Nat → Int32)) (d : Nat) (x1 : Int32) (s0 : Int32) (s1 : Int32) (σ : aH) : Lq G d M_12 (3, [some (.ref 120), some (.int x1)], [.int s0, .int s1, .ref 120], σ) = aCI (Rn G d 13 [.ref 120, .int s1, .int s0] σ) fun v2 σ1 => Lq G d M_12 (6, [some (.ref 120), some (.int x1)], [.int v2], σ1) :=
  (aUn_eq (tkd G.1 G.2) tmi (aRun (tkd G.1 G.2) tmi tmt d) M_12 [] 1 (3, [some (.ref 120), some (.int x1)], [.int s0, .int s1, .ref 120], σ)).trans rfl
set_option maxRecDepth 20000 in
theorem q_12_4458 (G : Nat × (Nat → Int32)) (d : Nat) (x1 : Int32) (s0 : Int32) (σ : aH) : Lq G d M_12 (6, [some (.ref 120), some (.int x1)], [.int s0], σ) = some (.inl (some (.int s0)), σ) :=
  (aUn_eq (tkd G.1 G.2) tmi (aRun (tkd G.1 G.2) tmi tmt d) M_12 [] 1 (6, [some (.ref 120), some (.int x1)], [.int s0], σ)).trans rfl
set_option maxRecDepth 20000 in
theorem q_12_4459 (G : Nat × (Nat → Int32)) (d : Nat) (x1 : Int32) (σ : aH) : Lq G d M_12 (0, [some (.ref 122), some (.int x1)], [], σ) = Lq G d M_12 (3, [some (.ref 122), some (.int x1)], [.int (0 : Int32), .int x1, .ref 122], σ) :=
  (aUn_eq (tkd G.1 G.2) tmi (aRun (tkd G.1 G.2) tmi tmt d) M_12 [] 3 (0, [some (.ref 122), some (.int x1)], [], σ)).trans rfl
set_option maxRecDepth 20000 in
theorem q_12_4460 (G : Nat × (Nat → Int32)) (d : Nat) (x1 : Int32) (s0 : Int32) (s1 : Int32) (σ : aH) : Lq G d M_12 (3, [some (.ref 122), some (.int x1)], [.int s0, .int s1, .ref 122], σ) = aCI (Rn G d 13 [.ref 122, .int s1, .int s0] σ) fun v2 σ1 => Lq G d M_12 (6, [some (.ref 122), some (.int x1)], [.int v2], σ1) :=
  (aUn_eq (tkd G.1 G.2) tmi (aRun (tkd G.1 G.2) tmi tmt d) M_12 [] 1 (3, [some (.ref 122), some (.int x1)], [.int s0, .int s1, .ref 122], σ)).trans rfl
set_option maxRecDepth 20000 in
theorem q_12_4461 (G : Nat × (Nat → Int32)) (d : Nat) (x1 : Int32) (s0 : Int32) (σ : aH) : Lq G d M_12 (6, [some (.ref 122), some (.int x1)], [.int s0], σ) = some (.inl (some (.int s0)), σ) :=
  (aUn_eq (tkd G.1 G.2) tmi (aRun (tkd G.1 G.2) tmi tmt d) M_12 [] 1 (6, [some (.ref 122), some (.int x1)], [.int s0], σ)).trans rfl
set_option maxRecDepth 20000 in
theorem q_12_4462 (G : Nat × (Nat → Int32)) (d : Nat) (x1 : Int32) (σ : aH) : Lq G d M_12 (0, [some (.ref 124), some (.int x1)], [], σ) = Lq G d M_12 (3, [some (.ref 124), some (.int x1)], [.int (0 : Int32), .int x1, .ref 124], σ) :=
  (aUn_eq (tkd G.1 G.2) tmi (aRun (tkd G.1 G.2) tmi tmt d) M_12 [] 3 (0, [some (.ref 124), some (.int x1)], [], σ)).trans rfl
set_option maxRecDepth 20000 in
theorem q_12_4463 (G : Nat × (Nat → Int32)) (d : Nat) (x1 : Int32) (s0 : Int32) (s1 : Int32) (σ : aH) : Lq G d M_12 (3, [some (.ref 124), some (.int x1)], [.int s0, .int s1, .ref 124], σ) = aCI (Rn G d 13 [.ref 124, .int s1, .int s0] σ) fun v2 σ1 => Lq G d M_12 (6, [some (.ref 124), some (.int x1)], [.int v2], σ1) :=
  (aUn_eq (tkd G.1 G.2) tmi (aRun (tkd G.1 G.2) tmi tmt d) M_12 [] 1 (3, [some (.ref 124), some (.int x1)], [.int s0, .int s1, .ref 124], σ)).trans rfl
set_option maxRecDepth 20000 in
theorem q_12_4464 (G : Nat × (Nat → Int32)) (d : Nat) (x1 : Int32) (s0 : Int32) (σ : aH) : Lq G d M_12 (6, [some (.ref 124), some (.int x1)], [.int s0], σ) = some (.inl (some (.int s0)), σ) :=
  (aUn_eq (tkd G.1 G.2) tmi (aRun (tkd G.1 G.2) tmi tmt d) M_12 [] 1 (6, [some (.ref 124), some (.int x1)], [.int s0], σ)).trans rfl
set_option maxRecDepth 20000 in
theorem q_12_4465 (G : Nat × (Nat → Int32)) (d : Nat) (x1 : Int32) (σ : aH) : Lq G d M_12 (0, [some (.ref 126), some (.int x1)], [], σ) = Lq G d M_12 (3, [some (.ref 126), some (.int x1)], [.int (0 : Int32), .int x1, .ref 126], σ) :=
  (aUn_eq (tkd G.1 G.2) tmi (aRun (tkd G.1 G.2) tmi tmt d) M_12 [] 3 (0, [some (.ref 126), some (.int x1)], [], σ)).trans rfl
set_option maxRecDepth 20000 in
theorem q_12_4466 (G : Nat × (Nat → Int32)) (d : Nat) (x1 : Int32) (s0 : Int32) (s1 : Int32) (σ : aH) : Lq G d M_12 (3, [some (.ref 126), some (.int x1)], [.int s0, .int s1, .ref 126], σ) = aCI (Rn G d 13 [.ref 126, .int s1, .int s0] σ) fun v2 σ1 => Lq G d M_12 (6, [some (.ref 126), some (.int x1)], [.int v2], σ1) :=
  (aUn_eq (tkd G.1 G.2) tmi (aRun (tkd G.1 G.2) tmi tmt d) M_12 [] 1 (3, [some (.ref 126), some (.int x1)], [.int s0, .int s1, .ref 126], σ)).trans rfl
set_option maxRecDepth 20000 in
theorem q_12_4467 (G : Nat × (Nat → Int32)) (d : Nat) (x1 : Int32) (s0 : Int32) (σ : aH) : Lq G d M_12 (6, [some (.ref 126), some (.int x1)], [.int s0], σ) = some (.inl (some (.int s0)), σ) :=
  (aUn_eq (tkd G.1 G.2) tmi (aRun (tkd G.1 G.2) tmi tmt d) M_12 [] 1 (6, [some (.ref 126), some (.int x1)], [.int s0], σ)).trans rfl
set_option maxRecDepth 20000 in
theorem q_12_4468 (G : Nat × (Nat → Int32)) (d : Nat) (x1 : Int32) (σ : aH) : Lq G d M_12 (0, [some (.ref 128), some (.int x1)], [], σ) = Lq G d M_12 (3, [some (.ref 128), some (.int x1)], [.int (0 : Int32), .int x1, .ref 128], σ) :=
  (aUn_eq (tkd G.1 G.2) tmi (aRun (tkd G.1 G.2) tmi tmt d) M_12 [] 3 (0, [some (.ref 128), some (.int x1)], [], σ)).trans rfl
set_option maxRecDepth 20000 in
theorem q_12_4469 (G : Nat × (Nat → Int32)) (d : Nat) (x1 : Int32) (s0 : Int32) (s1 : Int32) (σ : aH) : Lq G d M_12 (3, [some (.ref 128), some (.int x1)], [.int s0, .int s1, .ref 128], σ) = aCI (Rn G d 13 [.ref 128, .int s1, .int s0] σ) fun v2 σ1 => Lq G d M_12 (6, [some (.ref 128), some (.int x1)], [.int v2], σ1) :=
  (aUn_eq (tkd G.1 G.2) tmi (aRun (tkd G.1 G.2) tmi tmt d) M_12 [] 1 (3, [some (.ref 128), some (.int x1)], [.int s0, .int s1, .ref 128], σ)).trans rfl
set_option maxRecDepth 20000 in
theorem q_12_4470 (G : Nat × (Nat → Int32)) (d : Nat) (x1 : Int32) (s0 : Int32) (σ : aH) : Lq G d M_12 (6, [some (.ref 128), some (.int x1)], [.int s0], σ) = some (.inl (some (.int s0)), σ) :=
  (aUn_eq (tkd G.1 G.2) tmi (aRun (tkd G.1 G.2) tmi tmt d) M_12 [] 1 (6, [some (.ref 128), some (.int x1)], [.int s0], σ)).trans rfl
set_option maxRecDepth 20000 in
theorem q_10_4471 (G : Nat × (Nat → Int32)) (d : Nat) (x1 : Int32) (x2 : Int32) (σ : aH) : Lq G d M_10 (0, [some (.ref 1), some (.int x1), some (.int x2), none], [], σ) = Lq G d M_10 (5, [some (.ref 1), some (.int x1), some (.int x2), some (.int (σ.1 1 3))], [], σ) :=
  (aUn_eq (tkd G.1 G.2) tmi (aRun (tkd G.1 G.2) tmi tmt d) M_10 [] 3 (0, [some (.ref 1), some (.int x1), some (.int x2), none], [], σ)).trans rfl
set_option maxRecDepth 20000 in
theorem q_10_4472 (G : Nat × (Nat → Int32)) (d : Nat) (x1 : Int32) (x2 : Int32) (x3 : Int32) (σ : aH) : Lq G d M_10 (5, [some (.ref 1), some (.int x1), some (.int x2), some (.int x3)], [], σ) = Lq G d M_10 (10, [some (.ref 1), some (.int x1), some (.int x2), some (.int x3)], [.int (σ.1 1 6), .int x3], σ) :=
  (aUn_eq (tkd G.1 G.2) tmi (aRun (tkd G.1 G.2) tmi tmt d) M_10 [] 3 (5, [some (.ref 1), some (.int x1), some (.int x2), some (.int x3)], [], σ)).trans rfl
set_option maxRecDepth 20000 in
theorem q_10_4473 (G : Nat × (Nat → Int32)) (d : Nat) (x1 : Int32) (x2 : Int32) (x3 : Int32) (s0 : Int32) (s1 : Int32) (σ : aH) : Lq G d M_10 (10, [some (.ref 1), some (.int x1), some (.int x2), some (.int x3)], [.int s0, .int s1], σ) = if s0 ≤ s1 then Lq G d M_10 (44, [some (.ref 1), some (.int x1), some (.int x2), some (.int x3)], [], σ) else Lq G d M_10 (13, [some (.ref 1), some (.int x1), some (.int x2), some (.int x3)], [], σ) :=
  (aUn_eq (tkd G.1 G.2) tmi (aRun (tkd G.1 G.2) tmi tmt d) M_10 [] 1 (10, [some (.ref 1), some (.int x1), some (.int x2), some (.int x3)], [.int s0, .int s1], σ)).trans rfl
set_option maxRecDepth 20000 in
theorem q_10_4474 (G : Nat × (Nat → Int32)) (d : Nat) (x1 : Int32) (x2 : Int32) (x3 : Int32) (σ : aH) : Lq G d M_10 (44, [some (.ref 1), some (.int x1), some (.int x2), some (.int x3)], [], σ) = some (.inl none, σ) :=
  (aUn_eq (tkd G.1 G.2) tmi (aRun (tkd G.1 G.2) tmi tmt d) M_10 [] 1 (44, [some (.ref 1), some (.int x1), some (.int x2), some (.int x3)], [], σ)).trans rfl
set_option maxRecDepth 20000 in
theorem q_10_4475 (G : Nat × (Nat → Int32)) (d : Nat) (x1 : Int32) (x2 : Int32) (x3 : Int32) (σ : aH) : Lq G d M_10 (13, [some (.ref 1), some (.int x1), some (.int x2), some (.int x3)], [], σ) = Lq G d M_10 (15, [some (.ref 1), some (.int x1), some (.int x2), some (.int x3)], [.int x3, .ref 1], σ) :=
  (aUn_eq (tkd G.1 G.2) tmi (aRun (tkd G.1 G.2) tmi tmt d) M_10 [] 2 (13, [some (.ref 1), some (.int x1), some (.int x2), some (.int x3)], [], σ)).trans rfl
set_option maxRecDepth 20000 in
theorem q_10_4476 (G : Nat × (Nat → Int32)) (d : Nat) (x1 : Int32) (x2 : Int32) (x3 : Int32) (s0 : Int32) (σ : aH) : Lq G d M_10 (15, [some (.ref 1), some (.int x1), some (.int x2), some (.int x3)], [.int s0, .ref 1], σ) = aCI (Rn G d 9 [.ref 1, .int s0] σ) fun v2 σ1 => Lq G d M_10 (18, [some (.ref 1), some (.int x1), some (.int x2), some (.int x3)], [.int v2], σ1) :=
  (aUn_eq (tkd G.1 G.2) tmi (aRun (tkd G.1 G.2) tmi tmt d) M_10 [] 1 (15, [some (.ref 1), some (.int x1), some (.int x2), some (.int x3)], [.int s0, .ref 1], σ)).trans rfl
set_option maxRecDepth 20000 in
theorem q_10_4477 (G : Nat × (Nat → Int32)) (d : Nat) (x1 : Int32) (x2 : Int32) (x3 : Int32) (s0 : Int32) (σ : aH) : Lq G d M_10 (18, [some (.ref 1), some (.int x1), some (.int x2), some (.int x3)], [.int s0], σ) = Lq G d M_10 (19, [some (.ref 1), some (.int x1), some (.int x2), some (.int x3)], [.int x1, .int s0], σ) :=
  (aUn_eq (tkd G.1 G.2) tmi (aRun (tkd G.1 G.2) tmi tmt d) M_10 [] 1 (18, [some (.ref 1), some (.int x1), some (.int x2), some (.int x3)], [.int s0], σ)).trans rfl
set_option maxRecDepth 20000 in
theorem q_10_4478 (G : Nat × (Nat → Int32)) (d : Nat) (x1 : Int32) (x2 : Int32) (x3 : Int32) (s0 : Int32) (s1 : Int32) (σ : aH) : Lq G d M_10 (19, [some (.ref 1), some (.int x1), some (.int x2), some (.int x3)], [.int s0, .int s1], σ) = if s1 < s0 then Lq G d M_10 (44, [some (.ref 1), some (.int x1), some (.int x2), some (.int x3)], [], σ) else Lq G d M_10 (22, [some (.ref 1), some (.int x1), some (.int x2), some (.int x3)], [], σ) :=
  (aUn_eq (tkd G.1 G.2) tmi (aRun (tkd G.1 G.2) tmi tmt d) M_10 [] 1 (19, [some (.ref 1), some (.int x1), some (.int x2), some (.int x3)], [.int s0, .int s1], σ)).trans rfl
set_option maxRecDepth 20000 in
theorem q_10_4479 (G : Nat × (Nat → Int32)) (d : Nat) (x1 : Int32) (x2 : Int32) (x3 : Int32) (σ : aH) : Lq G d M_10 (22, [some (.ref 1), some (.int x1), some (.int x2), some (.int x3)], [], σ) = Lq G d M_10 (24, [some (.ref 1), some (.int x1), some (.int x2), some (.int x3)], [.int x3, .ref 1], σ) :=
  (aUn_eq (tkd G.1 G.2) tmi (aRun (tkd G.1 G.2) tmi tmt d) M_10 [] 2 (22, [some (.ref 1), some (.int x1), some (.int x2), some (.int x3)], [], σ)).trans rfl
set_option maxRecDepth 20000 in
theorem q_10_4480 (G : Nat × (Nat → Int32)) (d : Nat) (x1 : Int32) (x2 : Int32) (x3 : Int32) (s0 : Int32) (σ : aH) : Lq G d M_10 (24, [some (.ref 1), some (.int x1), some (.int x2), some (.int x3)], [.int s0, .ref 1], σ) = aCI (Rn G d 9 [.ref 1, .int s0] σ) fun v2 σ1 => Lq G d M_10 (27, [some (.ref 1), some (.int x1), some (.int x2), some (.int x3)], [.int v2], σ1) :=
  (aUn_eq (tkd G.1 G.2) tmi (aRun (tkd G.1 G.2) tmi tmt d) M_10 [] 1 (24, [some (.ref 1), some (.int x1), some (.int x2), some (.int x3)], [.int s0, .ref 1], σ)).trans rfl
set_option maxRecDepth 20000 in
theorem q_10_4481 (G : Nat × (Nat → Int32)) (d : Nat) (x1 : Int32) (x2 : Int32) (x3 : Int32) (s0 : Int32) (σ : aH) : Lq G d M_10 (27, [some (.ref 1), some (.int x1), some (.int x2), some (.int x3)], [.int s0], σ) = Lq G d M_10 (28, [some (.ref 1), some (.int x1), some (.int x2), some (.int x3)], [.int x2, .int s0], σ) :=
  (aUn_eq (tkd G.1 G.2) tmi (aRun (tkd G.1 G.2) tmi tmt d) M_10 [] 1 (27, [some (.ref 1), some (.int x1), some (.int x2), some (.int x3)], [.int s0], σ)).trans rfl
set_option maxRecDepth 20000 in
theorem q_10_4482 (G : Nat × (Nat → Int32)) (d : Nat) (x1 : Int32) (x2 : Int32) (x3 : Int32) (s0 : Int32) (s1 : Int32) (σ : aH) : Lq G d M_10 (28, [some (.ref 1), some (.int x1), some (.int x2), some (.int x3)], [.int s0, .int s1], σ) = if s0 < s1 then Lq G d M_10 (44, [some (.ref 1), some (.int x1), some (.int x2), some (.int x3)], [], σ) else Lq G d M_10 (31, [some (.ref 1), some (.int x1), some (.int x2), some (.int x3)], [], σ) :=
  (aUn_eq (tkd G.1 G.2) tmi (aRun (tkd G.1 G.2) tmi tmt d) M_10 [] 1 (28, [some (.ref 1), some (.int x1), some (.int x2), some (.int x3)], [.int s0, .int s1], σ)).trans rfl
set_option maxRecDepth 20000 in
theorem q_10_4483 (G : Nat × (Nat → Int32)) (d : Nat) (x1 : Int32) (x2 : Int32) (x3 : Int32) (σ : aH) : Lq G d M_10 (31, [some (.ref 1), some (.int x1), some (.int x2), some (.int x3)], [], σ) = Lq G d M_10 (5, [some (.ref 1), some (.int x1), some (.int x2), some (.int (x3 + (1 : Int32)))], [], (aSI σ 1 7 (x3 + (1 : Int32)))) :=
  (aUn_eq (tkd G.1 G.2) tmi (aRun (tkd G.1 G.2) tmi tmt d) M_10 [] 7 (31, [some (.ref 1), some (.int x1), some (.int x2), some (.int x3)], [], σ)).trans rfl
set_option maxRecDepth 20000 in
theorem q_11_4484 (G : Nat × (Nat → Int32)) (d : Nat)  (σ : aH) : Lq G d M_11 (0, [some (.ref 1), none], [], σ) = Lq G d M_11 (10, [some (.ref 1), some (.int (σ.1 1 3))], [], (aSI σ 1 5 (0 : Int32))) :=
  (aUn_eq (tkd G.1 G.2) tmi (aRun (tkd G.1 G.2) tmi tmt d) M_11 [] 6 (0, [some (.ref 1), none], [], σ)).trans rfl
set_option maxRecDepth 20000 in
theorem q_11_4485 (G : Nat × (Nat → Int32)) (d : Nat) (x1 : Int32) (σ : aH) : Lq G d M_11 (10, [some (.ref 1), some (.int x1)], [], σ) = Lq G d M_11 (15, [some (.ref 1), some (.int x1)], [.int (σ.1 1 7), .int x1], σ) :=
  (aUn_eq (tkd G.1 G.2) tmi (aRun (tkd G.1 G.2) tmi tmt d) M_11 [] 3 (10, [some (.ref 1), some (.int x1)], [], σ)).trans rfl
set_option maxRecDepth 20000 in
theorem q_11_4486 (G : Nat × (Nat → Int32)) (d : Nat) (x1 : Int32) (s0 : Int32) (s1 : Int32) (σ : aH) : Lq G d M_11 (15, [some (.ref 1), some (.int x1)], [.int s0, .int s1], σ) = if s0 ≤ s1 then Lq G d M_11 (54, [some (.ref 1), some (.int x1)], [], σ) else Lq G d M_11 (18, [some (.ref 1), some (.int x1)], [], σ) :=
  (aUn_eq (tkd G.1 G.2) tmi (aRun (tkd G.1 G.2) tmi tmt d) M_11 [] 1 (15, [some (.ref 1), some (.int x1)], [.int s0, .int s1], σ)).trans rfl
set_option maxRecDepth 20000 in
theorem q_11_4487 (G : Nat × (Nat → Int32)) (d : Nat) (x1 : Int32) (σ : aH) : Lq G d M_11 (54, [some (.ref 1), some (.int x1)], [], σ) = Lq G d M_11 (64, [some (.ref 1), some (.int x1)], [.int (4 : Int32), .int ((σ.1 1 7) - (σ.1 1 3))], σ) :=
  (aUn_eq (tkd G.1 G.2) tmi (aRun (tkd G.1 G.2) tmi tmt d) M_11 [] 6 (54, [some (.ref 1), some (.int x1)], [], σ)).trans rfl
set_option maxRecDepth 20000 in
theorem q_11_4488 (G : Nat × (Nat → Int32)) (d : Nat) (x1 : Int32) (s0 : Int32) (s1 : Int32) (σ : aH) : Lq G d M_11 (64, [some (.ref 1), some (.int x1)], [.int s0, .int s1], σ) = if s1 ≤ s0 then Lq G d M_11 (74, [some (.ref 1), some (.int x1)], [], σ) else Lq G d M_11 (67, [some (.ref 1), some (.int x1)], [], σ) :=
  (aUn_eq (tkd G.1 G.2) tmi (aRun (tkd G.1 G.2) tmi tmt d) M_11 [] 1 (64, [some (.ref 1), some (.int x1)], [.int s0, .int s1], σ)).trans rfl
set_option maxRecDepth 20000 in
theorem q_11_4489 (G : Nat × (Nat → Int32)) (d : Nat) (x1 : Int32) (σ : aH) : Lq G d M_11 (74, [some (.ref 1), some (.int x1)], [], σ) = some (.inl none, σ) :=
  (aUn_eq (tkd G.1 G.2) tmi (aRun (tkd G.1 G.2) tmi tmt d) M_11 [] 1 (74, [some (.ref 1), some (.int x1)], [], σ)).trans rfl
set_option maxRecDepth 20000 in
theorem q_11_4490 (G : Nat × (Nat → Int32)) (d : Nat) (x1 : Int32) (σ : aH) : Lq G d M_11 (67, [some (.ref 1), some (.int x1)], [], σ) = Lq G d M_11 (74, [some (.ref 1), some (.int x1)], [], (aSI σ 1 5 (10000 : Int32))) :=
  (aUn_eq (tkd G.1 G.2) tmi (aRun (tkd G.1 G.2) tmi tmt d) M_11 [] 3 (67, [some (.ref 1), some (.int x1)], [], σ)).trans rfl
set_option maxRecDepth 20000 in
theorem q_11_4491 (G : Nat × (Nat → Int32)) (d : Nat) (x1 : Int32) (σ : aH) : Lq G d M_11 (18, [some (.ref 1), some (.int x1)], [], σ) = Lq G d M_11 (25, [some (.ref 1), some (.int x1)], [.int ((σ.1 1 3) + (4 : Int32)), .int x1], σ) :=
  (aUn_eq (tkd G.1 G.2) tmi (aRun (tkd G.1 G.2) tmi tmt d) M_11 [] 5 (18, [some (.ref 1), some (.int x1)], [], σ)).trans rfl
set_option maxRecDepth 20000 in
theorem q_11_4492 (G : Nat × (Nat → Int32)) (d : Nat) (x1 : Int32) (s0 : Int32) (s1 : Int32) (σ : aH) : Lq G d M_11 (25, [some (.ref 1), some (.int x1)], [.int s0, .int s1], σ) = if s0 ≤ s1 then Lq G d M_11 (54, [some (.ref 1), some (.int x1)], [], σ) else Lq G d M_11 (28, [some (.ref 1), some (.int x1)], [], σ) :=
  (aUn_eq (tkd G.1 G.2) tmi (aRun (tkd G.1 G.2) tmi tmt d) M_11 [] 1 (25, [some (.ref 1), some (.int x1)], [.int s0, .int s1], σ)).trans rfl
set_option maxRecDepth 20000 in
theorem q_11_4493 (G : Nat × (Nat → Int32)) (d : Nat) (x1 : Int32) (σ : aH) : Lq G d M_11 (28, [some (.ref 1), some (.int x1)], [], σ) = Lq G d M_11 (38, [some (.ref 1), some (.int x1)], [.int x1, .ref 1, .int ((σ.1 1 5) * (10 : Int32)), .ref 1], σ) :=
  (aUn_eq (tkd G.1 G.2) tmi (aRun (tkd G.1 G.2) tmi tmt d) M_11 [] 7 (28, [some (.ref 1), some (.int x1)], [], σ)).trans rfl
set_option maxRecDepth 20000 in
theorem q_11_4494 (G : Nat × (Nat → Int32)) (d : Nat) (x1 : Int32) (s0 : Int32) (s2 : Int32) (σ : aH) : Lq G d M_11 (38, [some (.ref 1), some (.int x1)], [.int s0, .ref 1, .int s2, .ref 1], σ) = aCI (Rn G d 9 [.ref 1, .int s0] σ) fun v2 σ1 => Lq G d M_11 (41, [some (.ref 1), some (.int x1)], [.int v2, .int s2, .ref 1], σ1) :=
  (aUn_eq (tkd G.1 G.2) tmi (aRun (tkd G.1 G.2) tmi tmt d) M_11 [] 1 (38, [some (.ref 1), some (.int x1)], [.int s0, .ref 1, .int s2, .ref 1], σ)).trans rfl
set_option maxRecDepth 20000 in
theorem q_11_4495 (G : Nat × (Nat → Int32)) (d : Nat) (x1 : Int32) (s0 : Int32) (s1 : Int32) (σ : aH) : Lq G d M_11 (41, [some (.ref 1), some (.int x1)], [.int s0, .int s1, .ref 1], σ) = Lq G d M_11 (10, [some (.ref 1), some (.int (x1 + (1 : Int32)))], [], (aSI σ 1 5 ((s1 + s0) - (48 : Int32)))) :=
  (aUn_eq (tkd G.1 G.2) tmi (aRun (tkd G.1 G.2) tmi tmt d) M_11 [] 6 (41, [some (.ref 1), some (.int x1)], [.int s0, .int s1, .ref 1], σ)).trans rfl
set_option maxRecDepth 20000 in
theorem q_15_4496 (G : Nat × (Nat → Int32)) (d : Nat)  (σ : aH) : Lq G d M_15 (0, [some (.ref 70)], [], σ) = Lq G d M_15 (6, [some (.ref 70)], [.ref 70, .int (27 : Int32)], σ) :=
  (aUn_eq (tkd G.1 G.2) tmi (aRun (tkd G.1 G.2) tmi tmt d) M_15 [] 4 (0, [some (.ref 70)], [], σ)).trans rfl
set_option maxRecDepth 20000 in
theorem q_15_4497 (G : Nat × (Nat → Int32)) (d : Nat) (s1 : Int32) (σ : aH) : Lq G d M_15 (6, [some (.ref 70)], [.ref 70, .int s1], σ) = aCI (Rn G d 16 [.ref 70] σ) fun v2 σ1 => Lq G d M_15 (9, [some (.ref 70)], [.int v2, .int s1], σ1) :=
  (aUn_eq (tkd G.1 G.2) tmi (aRun (tkd G.1 G.2) tmi tmt d) M_15 [] 1 (6, [some (.ref 70)], [.ref 70, .int s1], σ)).trans rfl
set_option maxRecDepth 20000 in
theorem q_15_4498 (G : Nat × (Nat → Int32)) (d : Nat) (s0 : Int32) (s1 : Int32) (σ : aH) : Lq G d M_15 (9, [some (.ref 70)], [.int s0, .int s1], σ) = Lq G d M_15 (10, [some (.ref 70)], [.int (s1 >>> (s0 &&& 31))], σ) :=
  (aUn_eq (tkd G.1 G.2) tmi (aRun (tkd G.1 G.2) tmi tmt d) M_15 [] 1 (9, [some (.ref 70)], [.int s0, .int s1], σ)).trans rfl
set_option maxRecDepth 20000 in
theorem q_15_4499 (G : Nat × (Nat → Int32)) (d : Nat) (s0 : Int32) (σ : aH) : Lq G d M_15 (10, [some (.ref 70)], [.int s0], σ) = some (.inl (some (.int s0)), σ) :=
  (aUn_eq (tkd G.1 G.2) tmi (aRun (tkd G.1 G.2) tmi tmt d) M_15 [] 1 (10, [some (.ref 70)], [.int s0], σ)).trans rfl
set_option maxRecDepth 20000 in
theorem q_15_4500 (G : Nat × (Nat → Int32)) (d : Nat)  (σ : aH) : Lq G d M_15 (0, [some (.ref 72)], [], σ) = Lq G d M_15 (6, [some (.ref 72)], [.ref 72, .int (9 : Int32)], σ) :=
  (aUn_eq (tkd G.1 G.2) tmi (aRun (tkd G.1 G.2) tmi tmt d) M_15 [] 4 (0, [some (.ref 72)], [], σ)).trans rfl
set_option maxRecDepth 20000 in
theorem q_15_4501 (G : Nat × (Nat → Int32)) (d : Nat) (s1 : Int32) (σ : aH) : Lq G d M_15 (6, [some (.ref 72)], [.ref 72, .int s1], σ) = aCI (Rn G d 16 [.ref 72] σ) fun v2 σ1 => Lq G d M_15 (9, [some (.ref 72)], [.int v2, .int s1], σ1) :=
  (aUn_eq (tkd G.1 G.2) tmi (aRun (tkd G.1 G.2) tmi tmt d) M_15 [] 1 (6, [some (.ref 72)], [.ref 72, .int s1], σ)).trans rfl
set_option maxRecDepth 20000 in
theorem q_15_4502 (G : Nat × (Nat → Int32)) (d : Nat) (s0 : Int32) (s1 : Int32) (σ : aH) : Lq G d M_15 (9, [some (.ref 72)], [.int s0, .int s1], σ) = Lq G d M_15 (10, [some (.ref 72)], [.int (s1 >>> (s0 &&& 31))], σ) :=
  (aUn_eq (tkd G.1 G.2) tmi (aRun (tkd G.1 G.2) tmi tmt d) M_15 [] 1 (9, [some (.ref 72)], [.int s0, .int s1], σ)).trans rfl
set_option maxRecDepth 20000 in
theorem q_15_4503 (G : Nat × (Nat → Int32)) (d : Nat) (s0 : Int32) (σ : aH) : Lq G d M_15 (10, [some (.ref 72)], [.int s0], σ) = some (.inl (some (.int s0)), σ) :=
  (aUn_eq (tkd G.1 G.2) tmi (aRun (tkd G.1 G.2) tmi tmt d) M_15 [] 1 (10, [some (.ref 72)], [.int s0], σ)).trans rfl
set_option maxRecDepth 20000 in
theorem q_15_4504 (G : Nat × (Nat → Int32)) (d : Nat)  (σ : aH) : Lq G d M_15 (0, [some (.ref 74)], [], σ) = Lq G d M_15 (6, [some (.ref 74)], [.ref 74, .int (5 : Int32)], σ) :=
  (aUn_eq (tkd G.1 G.2) tmi (aRun (tkd G.1 G.2) tmi tmt d) M_15 [] 4 (0, [some (.ref 74)], [], σ)).trans rfl
set_option maxRecDepth 20000 in
theorem q_15_4505 (G : Nat × (Nat → Int32)) (d : Nat) (s1 : Int32) (σ : aH) : Lq G d M_15 (6, [some (.ref 74)], [.ref 74, .int s1], σ) = aCI (Rn G d 16 [.ref 74] σ) fun v2 σ1 => Lq G d M_15 (9, [some (.ref 74)], [.int v2, .int s1], σ1) :=
  (aUn_eq (tkd G.1 G.2) tmi (aRun (tkd G.1 G.2) tmi tmt d) M_15 [] 1 (6, [some (.ref 74)], [.ref 74, .int s1], σ)).trans rfl
set_option maxRecDepth 20000 in
theorem q_15_4506 (G : Nat × (Nat → Int32)) (d : Nat) (s0 : Int32) (s1 : Int32) (σ : aH) : Lq G d M_15 (9, [some (.ref 74)], [.int s0, .int s1], σ) = Lq G d M_15 (10, [some (.ref 74)], [.int (s1 >>> (s0 &&& 31))], σ) :=
  (aUn_eq (tkd G.1 G.2) tmi (aRun (tkd G.1 G.2) tmi tmt d) M_15 [] 1 (9, [some (.ref 74)], [.int s0, .int s1], σ)).trans rfl
set_option maxRecDepth 20000 in
theorem q_15_4507 (G : Nat × (Nat → Int32)) (d : Nat) (s0 : Int32) (σ : aH) : Lq G d M_15 (10, [some (.ref 74)], [.int s0], σ) = some (.inl (some (.int s0)), σ) :=
  (aUn_eq (tkd G.1 G.2) tmi (aRun (tkd G.1 G.2) tmi tmt d) M_15 [] 1 (10, [some (.ref 74)], [.int s0], σ)).trans rfl
set_option maxRecDepth 20000 in
theorem q_15_4508 (G : Nat × (Nat → Int32)) (d : Nat)  (σ : aH) : Lq G d M_15 (0, [some (.ref 76)], [], σ) = Lq G d M_15 (6, [some (.ref 76)], [.ref 76, .int (5 : Int32)], σ) :=
  (aUn_eq (tkd G.1 G.2) tmi (aRun (tkd G.1 G.2) tmi tmt d) M_15 [] 4 (0, [some (.ref 76)], [], σ)).trans rfl
set_option maxRecDepth 20000 in
theorem q_15_4509 (G : Nat × (Nat → Int32)) (d : Nat) (s1 : Int32) (σ : aH) : Lq G d M_15 (6, [some (.ref 76)], [.ref 76, .int s1], σ) = aCI (Rn G d 16 [.ref 76] σ) fun v2 σ1 => Lq G d M_15 (9, [some (.ref 76)], [.int v2, .int s1], σ1) :=
  (aUn_eq (tkd G.1 G.2) tmi (aRun (tkd G.1 G.2) tmi tmt d) M_15 [] 1 (6, [some (.ref 76)], [.ref 76, .int s1], σ)).trans rfl
set_option maxRecDepth 20000 in
theorem q_15_4510 (G : Nat × (Nat → Int32)) (d : Nat) (s0 : Int32) (s1 : Int32) (σ : aH) : Lq G d M_15 (9, [some (.ref 76)], [.int s0, .int s1], σ) = Lq G d M_15 (10, [some (.ref 76)], [.int (s1 >>> (s0 &&& 31))], σ) :=
  (aUn_eq (tkd G.1 G.2) tmi (aRun (tkd G.1 G.2) tmi tmt d) M_15 [] 1 (9, [some (.ref 76)], [.int s0, .int s1], σ)).trans rfl
set_option maxRecDepth 20000 in
theorem q_15_4511 (G : Nat × (Nat → Int32)) (d : Nat) (s0 : Int32) (σ : aH) : Lq G d M_15 (10, [some (.ref 76)], [.int s0], σ) = some (.inl (some (.int s0)), σ) :=
  (aUn_eq (tkd G.1 G.2) tmi (aRun (tkd G.1 G.2) tmi tmt d) M_15 [] 1 (10, [some (.ref 76)], [.int s0], σ)).trans rfl
set_option maxRecDepth 20000 in
theorem q_15_4512 (G : Nat × (Nat → Int32)) (d : Nat)  (σ : aH) : Lq G d M_15 (0, [some (.ref 78)], [], σ) = Lq G d M_15 (6, [some (.ref 78)], [.ref 78, .int (5 : Int32)], σ) :=
  (aUn_eq (tkd G.1 G.2) tmi (aRun (tkd G.1 G.2) tmi tmt d) M_15 [] 4 (0, [some (.ref 78)], [], σ)).trans rfl
set_option maxRecDepth 20000 in
theorem q_15_4513 (G : Nat × (Nat → Int32)) (d : Nat) (s1 : Int32) (σ : aH) : Lq G d M_15 (6, [some (.ref 78)], [.ref 78, .int s1], σ) = aCI (Rn G d 16 [.ref 78] σ) fun v2 σ1 => Lq G d M_15 (9, [some (.ref 78)], [.int v2, .int s1], σ1) :=
  (aUn_eq (tkd G.1 G.2) tmi (aRun (tkd G.1 G.2) tmi tmt d) M_15 [] 1 (6, [some (.ref 78)], [.ref 78, .int s1], σ)).trans rfl
set_option maxRecDepth 20000 in
theorem q_15_4514 (G : Nat × (Nat → Int32)) (d : Nat) (s0 : Int32) (s1 : Int32) (σ : aH) : Lq G d M_15 (9, [some (.ref 78)], [.int s0, .int s1], σ) = Lq G d M_15 (10, [some (.ref 78)], [.int (s1 >>> (s0 &&& 31))], σ) :=
  (aUn_eq (tkd G.1 G.2) tmi (aRun (tkd G.1 G.2) tmi tmt d) M_15 [] 1 (9, [some (.ref 78)], [.int s0, .int s1], σ)).trans rfl
set_option maxRecDepth 20000 in
theorem q_15_4515 (G : Nat × (Nat → Int32)) (d : Nat) (s0 : Int32) (σ : aH) : Lq G d M_15 (10, [some (.ref 78)], [.int s0], σ) = some (.inl (some (.int s0)), σ) :=
  (aUn_eq (tkd G.1 G.2) tmi (aRun (tkd G.1 G.2) tmi tmt d) M_15 [] 1 (10, [some (.ref 78)], [.int s0], σ)).trans rfl
set_option maxRecDepth 20000 in
theorem q_15_4516 (G : Nat × (Nat → Int32)) (d : Nat)  (σ : aH) : Lq G d M_15 (0, [some (.ref 80)], [], σ) = Lq G d M_15 (6, [some (.ref 80)], [.ref 80, .int (5 : Int32)], σ) :=
  (aUn_eq (tkd G.1 G.2) tmi (aRun (tkd G.1 G.2) tmi tmt d) M_15 [] 4 (0, [some (.ref 80)], [], σ)).trans rfl
set_option maxRecDepth 20000 in
theorem q_15_4517 (G : Nat × (Nat → Int32)) (d : Nat) (s1 : Int32) (σ : aH) : Lq G d M_15 (6, [some (.ref 80)], [.ref 80, .int s1], σ) = aCI (Rn G d 16 [.ref 80] σ) fun v2 σ1 => Lq G d M_15 (9, [some (.ref 80)], [.int v2, .int s1], σ1) :=
  (aUn_eq (tkd G.1 G.2) tmi (aRun (tkd G.1 G.2) tmi tmt d) M_15 [] 1 (6, [some (.ref 80)], [.ref 80, .int s1], σ)).trans rfl
set_option maxRecDepth 20000 in
theorem q_15_4518 (G : Nat × (Nat → Int32)) (d : Nat) (s0 : Int32) (s1 : Int32) (σ : aH) : Lq G d M_15 (9, [some (.ref 80)], [.int s0, .int s1], σ) = Lq G d M_15 (10, [some (.ref 80)], [.int (s1 >>> (s0 &&& 31))], σ) :=
  (aUn_eq (tkd G.1 G.2) tmi (aRun (tkd G.1 G.2) tmi tmt d) M_15 [] 1 (9, [some (.ref 80)], [.int s0, .int s1], σ)).trans rfl
set_option maxRecDepth 20000 in
theorem q_15_4519 (G : Nat × (Nat → Int32)) (d : Nat) (s0 : Int32) (σ : aH) : Lq G d M_15 (10, [some (.ref 80)], [.int s0], σ) = some (.inl (some (.int s0)), σ) :=
  (aUn_eq (tkd G.1 G.2) tmi (aRun (tkd G.1 G.2) tmi tmt d) M_15 [] 1 (10, [some (.ref 80)], [.int s0], σ)).trans rfl
set_option maxRecDepth 20000 in
theorem q_15_4520 (G : Nat × (Nat → Int32)) (d : Nat)  (σ : aH) : Lq G d M_15 (0, [some (.ref 82)], [], σ) = Lq G d M_15 (6, [some (.ref 82)], [.ref 82, .int (3 : Int32)], σ) :=
  (aUn_eq (tkd G.1 G.2) tmi (aRun (tkd G.1 G.2) tmi tmt d) M_15 [] 4 (0, [some (.ref 82)], [], σ)).trans rfl
set_option maxRecDepth 20000 in
theorem q_15_4521 (G : Nat × (Nat → Int32)) (d : Nat) (s1 : Int32) (σ : aH) : Lq G d M_15 (6, [some (.ref 82)], [.ref 82, .int s1], σ) = aCI (Rn G d 16 [.ref 82] σ) fun v2 σ1 => Lq G d M_15 (9, [some (.ref 82)], [.int v2, .int s1], σ1) :=
  (aUn_eq (tkd G.1 G.2) tmi (aRun (tkd G.1 G.2) tmi tmt d) M_15 [] 1 (6, [some (.ref 82)], [.ref 82, .int s1], σ)).trans rfl
set_option maxRecDepth 20000 in
theorem q_15_4522 (G : Nat × (Nat → Int32)) (d : Nat) (s0 : Int32) (s1 : Int32) (σ : aH) : Lq G d M_15 (9, [some (.ref 82)], [.int s0, .int s1], σ) = Lq G d M_15 (10, [some (.ref 82)], [.int (s1 >>> (s0 &&& 31))], σ) :=
  (aUn_eq (tkd G.1 G.2) tmi (aRun (tkd G.1 G.2) tmi tmt d) M_15 [] 1 (9, [some (.ref 82)], [.int s0, .int s1], σ)).trans rfl
set_option maxRecDepth 20000 in
theorem q_15_4523 (G : Nat × (Nat → Int32)) (d : Nat) (s0 : Int32) (σ : aH) : Lq G d M_15 (10, [some (.ref 82)], [.int s0], σ) = some (.inl (some (.int s0)), σ) :=
  (aUn_eq (tkd G.1 G.2) tmi (aRun (tkd G.1 G.2) tmi tmt d) M_15 [] 1 (10, [some (.ref 82)], [.int s0], σ)).trans rfl
set_option maxRecDepth 20000 in
theorem q_15_4524 (G : Nat × (Nat → Int32)) (d : Nat)  (σ : aH) : Lq G d M_15 (0, [some (.ref 84)], [], σ) = Lq G d M_15 (6, [some (.ref 84)], [.ref 84, .int (4 : Int32)], σ) :=
  (aUn_eq (tkd G.1 G.2) tmi (aRun (tkd G.1 G.2) tmi tmt d) M_15 [] 4 (0, [some (.ref 84)], [], σ)).trans rfl
set_option maxRecDepth 20000 in
theorem q_15_4525 (G : Nat × (Nat → Int32)) (d : Nat) (s1 : Int32) (σ : aH) : Lq G d M_15 (6, [some (.ref 84)], [.ref 84, .int s1], σ) = aCI (Rn G d 16 [.ref 84] σ) fun v2 σ1 => Lq G d M_15 (9, [some (.ref 84)], [.int v2, .int s1], σ1) :=
  (aUn_eq (tkd G.1 G.2) tmi (aRun (tkd G.1 G.2) tmi tmt d) M_15 [] 1 (6, [some (.ref 84)], [.ref 84, .int s1], σ)).trans rfl
set_option maxRecDepth 20000 in
theorem q_15_4526 (G : Nat × (Nat → Int32)) (d : Nat) (s0 : Int32) (s1 : Int32) (σ : aH) : Lq G d M_15 (9, [some (.ref 84)], [.int s0, .int s1], σ) = Lq G d M_15 (10, [some (.ref 84)], [.int (s1 >>> (s0 &&& 31))], σ) :=
  (aUn_eq (tkd G.1 G.2) tmi (aRun (tkd G.1 G.2) tmi tmt d) M_15 [] 1 (9, [some (.ref 84)], [.int s0, .int s1], σ)).trans rfl
set_option maxRecDepth 20000 in
theorem q_15_4527 (G : Nat × (Nat → Int32)) (d : Nat) (s0 : Int32) (σ : aH) : Lq G d M_15 (10, [some (.ref 84)], [.int s0], σ) = some (.inl (some (.int s0)), σ) :=
  (aUn_eq (tkd G.1 G.2) tmi (aRun (tkd G.1 G.2) tmi tmt d) M_15 [] 1 (10, [some (.ref 84)], [.int s0], σ)).trans rfl
set_option maxRecDepth 20000 in
theorem q_15_4528 (G : Nat × (Nat → Int32)) (d : Nat)  (σ : aH) : Lq G d M_15 (0, [some (.ref 86)], [], σ) = Lq G d M_15 (6, [some (.ref 86)], [.ref 86, .int (3 : Int32)], σ) :=
  (aUn_eq (tkd G.1 G.2) tmi (aRun (tkd G.1 G.2) tmi tmt d) M_15 [] 4 (0, [some (.ref 86)], [], σ)).trans rfl
set_option maxRecDepth 20000 in
theorem q_15_4529 (G : Nat × (Nat → Int32)) (d : Nat) (s1 : Int32) (σ : aH) : Lq G d M_15 (6, [some (.ref 86)], [.ref 86, .int s1], σ) = aCI (Rn G d 16 [.ref 86] σ) fun v2 σ1 => Lq G d M_15 (9, [some (.ref 86)], [.int v2, .int s1], σ1) :=
  (aUn_eq (tkd G.1 G.2) tmi (aRun (tkd G.1 G.2) tmi tmt d) M_15 [] 1 (6, [some (.ref 86)], [.ref 86, .int s1], σ)).trans rfl
set_option maxRecDepth 20000 in
theorem q_15_4530 (G : Nat × (Nat → Int32)) (d : Nat) (s0 : Int32) (s1 : Int32) (σ : aH) : Lq G d M_15 (9, [some (.ref 86)], [.int s0, .int s1], σ) = Lq G d M_15 (10, [some (.ref 86)], [.int (s1 >>> (s0 &&& 31))], σ) :=
  (aUn_eq (tkd G.1 G.2) tmi (aRun (tkd G.1 G.2) tmi tmt d) M_15 [] 1 (9, [some (.ref 86)], [.int s0, .int s1], σ)).trans rfl
set_option maxRecDepth 20000 in
theorem q_15_4531 (G : Nat × (Nat → Int32)) (d : Nat) (s0 : Int32) (σ : aH) : Lq G d M_15 (10, [some (.ref 86)], [.int s0], σ) = some (.inl (some (.int s0)), σ) :=
  (aUn_eq (tkd G.1 G.2) tmi (aRun (tkd G.1 G.2) tmi tmt d) M_15 [] 1 (10, [some (.ref 86)], [.int s0], σ)).trans rfl
set_option maxRecDepth 20000 in
theorem q_15_4532 (G : Nat × (Nat → Int32)) (d : Nat)  (σ : aH) : Lq G d M_15 (0, [some (.ref 88)], [], σ) = Lq G d M_15 (6, [some (.ref 88)], [.ref 88, .int (4 : Int32)], σ) :=
  (aUn_eq (tkd G.1 G.2) tmi (aRun (tkd G.1 G.2) tmi tmt d) M_15 [] 4 (0, [some (.ref 88)], [], σ)).trans rfl
set_option maxRecDepth 20000 in
theorem q_15_4533 (G : Nat × (Nat → Int32)) (d : Nat) (s1 : Int32) (σ : aH) : Lq G d M_15 (6, [some (.ref 88)], [.ref 88, .int s1], σ) = aCI (Rn G d 16 [.ref 88] σ) fun v2 σ1 => Lq G d M_15 (9, [some (.ref 88)], [.int v2, .int s1], σ1) :=
  (aUn_eq (tkd G.1 G.2) tmi (aRun (tkd G.1 G.2) tmi tmt d) M_15 [] 1 (6, [some (.ref 88)], [.ref 88, .int s1], σ)).trans rfl
set_option maxRecDepth 20000 in
theorem q_15_4534 (G : Nat × (Nat → Int32)) (d : Nat) (s0 : Int32) (s1 : Int32) (σ : aH) : Lq G d M_15 (9, [some (.ref 88)], [.int s0, .int s1], σ) = Lq G d M_15 (10, [some (.ref 88)], [.int (s1 >>> (s0 &&& 31))], σ) :=
  (aUn_eq (tkd G.1 G.2) tmi (aRun (tkd G.1 G.2) tmi tmt d) M_15 [] 1 (9, [some (.ref 88)], [.int s0, .int s1], σ)).trans rfl
set_option maxRecDepth 20000 in
theorem q_15_4535 (G : Nat × (Nat → Int32)) (d : Nat) (s0 : Int32) (σ : aH) : Lq G d M_15 (10, [some (.ref 88)], [.int s0], σ) = some (.inl (some (.int s0)), σ) :=
  (aUn_eq (tkd G.1 G.2) tmi (aRun (tkd G.1 G.2) tmi tmt d) M_15 [] 1 (10, [some (.ref 88)], [.int s0], σ)).trans rfl
set_option maxRecDepth 20000 in
theorem q_15_4536 (G : Nat × (Nat → Int32)) (d : Nat)  (σ : aH) : Lq G d M_15 (0, [some (.ref 90)], [], σ) = Lq G d M_15 (6, [some (.ref 90)], [.ref 90, .int (12 : Int32)], σ) :=
  (aUn_eq (tkd G.1 G.2) tmi (aRun (tkd G.1 G.2) tmi tmt d) M_15 [] 4 (0, [some (.ref 90)], [], σ)).trans rfl
set_option maxRecDepth 20000 in
theorem q_15_4537 (G : Nat × (Nat → Int32)) (d : Nat) (s1 : Int32) (σ : aH) : Lq G d M_15 (6, [some (.ref 90)], [.ref 90, .int s1], σ) = aCI (Rn G d 16 [.ref 90] σ) fun v2 σ1 => Lq G d M_15 (9, [some (.ref 90)], [.int v2, .int s1], σ1) :=
  (aUn_eq (tkd G.1 G.2) tmi (aRun (tkd G.1 G.2) tmi tmt d) M_15 [] 1 (6, [some (.ref 90)], [.ref 90, .int s1], σ)).trans rfl
set_option maxRecDepth 20000 in
theorem q_15_4538 (G : Nat × (Nat → Int32)) (d : Nat) (s0 : Int32) (s1 : Int32) (σ : aH) : Lq G d M_15 (9, [some (.ref 90)], [.int s0, .int s1], σ) = Lq G d M_15 (10, [some (.ref 90)], [.int (s1 >>> (s0 &&& 31))], σ) :=
  (aUn_eq (tkd G.1 G.2) tmi (aRun (tkd G.1 G.2) tmi tmt d) M_15 [] 1 (9, [some (.ref 90)], [.int s0, .int s1], σ)).trans rfl
set_option maxRecDepth 20000 in
theorem q_15_4539 (G : Nat × (Nat → Int32)) (d : Nat) (s0 : Int32) (σ : aH) : Lq G d M_15 (10, [some (.ref 90)], [.int s0], σ) = some (.inl (some (.int s0)), σ) :=
  (aUn_eq (tkd G.1 G.2) tmi (aRun (tkd G.1 G.2) tmi tmt d) M_15 [] 1 (10, [some (.ref 90)], [.int s0], σ)).trans rfl
set_option maxRecDepth 20000 in
theorem q_15_4540 (G : Nat × (Nat → Int32)) (d : Nat)  (σ : aH) : Lq G d M_15 (0, [some (.ref 92)], [], σ) = Lq G d M_15 (6, [some (.ref 92)], [.ref 92, .int (9 : Int32)], σ) :=
  (aUn_eq (tkd G.1 G.2) tmi (aRun (tkd G.1 G.2) tmi tmt d) M_15 [] 4 (0, [some (.ref 92)], [], σ)).trans rfl
set_option maxRecDepth 20000 in
theorem q_15_4541 (G : Nat × (Nat → Int32)) (d : Nat) (s1 : Int32) (σ : aH) : Lq G d M_15 (6, [some (.ref 92)], [.ref 92, .int s1], σ) = aCI (Rn G d 16 [.ref 92] σ) fun v2 σ1 => Lq G d M_15 (9, [some (.ref 92)], [.int v2, .int s1], σ1) :=
  (aUn_eq (tkd G.1 G.2) tmi (aRun (tkd G.1 G.2) tmi tmt d) M_15 [] 1 (6, [some (.ref 92)], [.ref 92, .int s1], σ)).trans rfl
set_option maxRecDepth 20000 in
theorem q_15_4542 (G : Nat × (Nat → Int32)) (d : Nat) (s0 : Int32) (s1 : Int32) (σ : aH) : Lq G d M_15 (9, [some (.ref 92)], [.int s0, .int s1], σ) = Lq G d M_15 (10, [some (.ref 92)], [.int (s1 >>> (s0 &&& 31))], σ) :=
  (aUn_eq (tkd G.1 G.2) tmi (aRun (tkd G.1 G.2) tmi tmt d) M_15 [] 1 (9, [some (.ref 92)], [.int s0, .int s1], σ)).trans rfl
set_option maxRecDepth 20000 in
theorem q_15_4543 (G : Nat × (Nat → Int32)) (d : Nat) (s0 : Int32) (σ : aH) : Lq G d M_15 (10, [some (.ref 92)], [.int s0], σ) = some (.inl (some (.int s0)), σ) :=
  (aUn_eq (tkd G.1 G.2) tmi (aRun (tkd G.1 G.2) tmi tmt d) M_15 [] 1 (10, [some (.ref 92)], [.int s0], σ)).trans rfl
set_option maxRecDepth 20000 in
theorem q_15_4544 (G : Nat × (Nat → Int32)) (d : Nat)  (σ : aH) : Lq G d M_15 (0, [some (.ref 94)], [], σ) = Lq G d M_15 (6, [some (.ref 94)], [.ref 94, .int (4 : Int32)], σ) :=
  (aUn_eq (tkd G.1 G.2) tmi (aRun (tkd G.1 G.2) tmi tmt d) M_15 [] 4 (0, [some (.ref 94)], [], σ)).trans rfl
set_option maxRecDepth 20000 in
theorem q_15_4545 (G : Nat × (Nat → Int32)) (d : Nat) (s1 : Int32) (σ : aH) : Lq G d M_15 (6, [some (.ref 94)], [.ref 94, .int s1], σ) = aCI (Rn G d 16 [.ref 94] σ) fun v2 σ1 => Lq G d M_15 (9, [some (.ref 94)], [.int v2, .int s1], σ1) :=
  (aUn_eq (tkd G.1 G.2) tmi (aRun (tkd G.1 G.2) tmi tmt d) M_15 [] 1 (6, [some (.ref 94)], [.ref 94, .int s1], σ)).trans rfl
set_option maxRecDepth 20000 in
theorem q_15_4546 (G : Nat × (Nat → Int32)) (d : Nat) (s0 : Int32) (s1 : Int32) (σ : aH) : Lq G d M_15 (9, [some (.ref 94)], [.int s0, .int s1], σ) = Lq G d M_15 (10, [some (.ref 94)], [.int (s1 >>> (s0 &&& 31))], σ) :=
  (aUn_eq (tkd G.1 G.2) tmi (aRun (tkd G.1 G.2) tmi tmt d) M_15 [] 1 (9, [some (.ref 94)], [.int s0, .int s1], σ)).trans rfl
set_option maxRecDepth 20000 in
theorem q_15_4547 (G : Nat × (Nat → Int32)) (d : Nat) (s0 : Int32) (σ : aH) : Lq G d M_15 (10, [some (.ref 94)], [.int s0], σ) = some (.inl (some (.int s0)), σ) :=
  (aUn_eq (tkd G.1 G.2) tmi (aRun (tkd G.1 G.2) tmi tmt d) M_15 [] 1 (10, [some (.ref 94)], [.int s0], σ)).trans rfl
set_option maxRecDepth 20000 in
theorem q_15_4548 (G : Nat × (Nat → Int32)) (d : Nat)  (σ : aH) : Lq G d M_15 (0, [some (.ref 96)], [], σ) = Lq G d M_15 (6, [some (.ref 96)], [.ref 96, .int (7 : Int32)], σ) :=
  (aUn_eq (tkd G.1 G.2) tmi (aRun (tkd G.1 G.2) tmi tmt d) M_15 [] 4 (0, [some (.ref 96)], [], σ)).trans rfl
set_option maxRecDepth 20000 in
theorem q_15_4549 (G : Nat × (Nat → Int32)) (d : Nat) (s1 : Int32) (σ : aH) : Lq G d M_15 (6, [some (.ref 96)], [.ref 96, .int s1], σ) = aCI (Rn G d 16 [.ref 96] σ) fun v2 σ1 => Lq G d M_15 (9, [some (.ref 96)], [.int v2, .int s1], σ1) :=
  (aUn_eq (tkd G.1 G.2) tmi (aRun (tkd G.1 G.2) tmi tmt d) M_15 [] 1 (6, [some (.ref 96)], [.ref 96, .int s1], σ)).trans rfl
set_option maxRecDepth 20000 in
theorem q_15_4550 (G : Nat × (Nat → Int32)) (d : Nat) (s0 : Int32) (s1 : Int32) (σ : aH) : Lq G d M_15 (9, [some (.ref 96)], [.int s0, .int s1], σ) = Lq G d M_15 (10, [some (.ref 96)], [.int (s1 >>> (s0 &&& 31))], σ) :=
  (aUn_eq (tkd G.1 G.2) tmi (aRun (tkd G.1 G.2) tmi tmt d) M_15 [] 1 (9, [some (.ref 96)], [.int s0, .int s1], σ)).trans rfl
set_option maxRecDepth 20000 in
theorem q_15_4551 (G : Nat × (Nat → Int32)) (d : Nat) (s0 : Int32) (σ : aH) : Lq G d M_15 (10, [some (.ref 96)], [.int s0], σ) = some (.inl (some (.int s0)), σ) :=
  (aUn_eq (tkd G.1 G.2) tmi (aRun (tkd G.1 G.2) tmi tmt d) M_15 [] 1 (10, [some (.ref 96)], [.int s0], σ)).trans rfl
set_option maxRecDepth 20000 in
theorem q_15_4552 (G : Nat × (Nat → Int32)) (d : Nat)  (σ : aH) : Lq G d M_15 (0, [some (.ref 98)], [], σ) = Lq G d M_15 (6, [some (.ref 98)], [.ref 98, .int (15 : Int32)], σ) :=
  (aUn_eq (tkd G.1 G.2) tmi (aRun (tkd G.1 G.2) tmi tmt d) M_15 [] 4 (0, [some (.ref 98)], [], σ)).trans rfl
set_option maxRecDepth 20000 in
theorem q_15_4553 (G : Nat × (Nat → Int32)) (d : Nat) (s1 : Int32) (σ : aH) : Lq G d M_15 (6, [some (.ref 98)], [.ref 98, .int s1], σ) = aCI (Rn G d 16 [.ref 98] σ) fun v2 σ1 => Lq G d M_15 (9, [some (.ref 98)], [.int v2, .int s1], σ1) :=
  (aUn_eq (tkd G.1 G.2) tmi (aRun (tkd G.1 G.2) tmi tmt d) M_15 [] 1 (6, [some (.ref 98)], [.ref 98, .int s1], σ)).trans rfl
set_option maxRecDepth 20000 in
theorem q_15_4554 (G : Nat × (Nat → Int32)) (d : Nat) (s0 : Int32) (s1 : Int32) (σ : aH) : Lq G d M_15 (9, [some (.ref 98)], [.int s0, .int s1], σ) = Lq G d M_15 (10, [some (.ref 98)], [.int (s1 >>> (s0 &&& 31))], σ) :=
  (aUn_eq (tkd G.1 G.2) tmi (aRun (tkd G.1 G.2) tmi tmt d) M_15 [] 1 (9, [some (.ref 98)], [.int s0, .int s1], σ)).trans rfl
set_option maxRecDepth 20000 in
theorem q_15_4555 (G : Nat × (Nat → Int32)) (d : Nat) (s0 : Int32) (σ : aH) : Lq G d M_15 (10, [some (.ref 98)], [.int s0], σ) = some (.inl (some (.int s0)), σ) :=
  (aUn_eq (tkd G.1 G.2) tmi (aRun (tkd G.1 G.2) tmi tmt d) M_15 [] 1 (10, [some (.ref 98)], [.int s0], σ)).trans rfl
set_option maxRecDepth 20000 in
theorem q_15_4556 (G : Nat × (Nat → Int32)) (d : Nat)  (σ : aH) : Lq G d M_15 (0, [some (.ref 100)], [], σ) = Lq G d M_15 (6, [some (.ref 100)], [.ref 100, .int (3 : Int32)], σ) :=
  (aUn_eq (tkd G.1 G.2) tmi (aRun (tkd G.1 G.2) tmi tmt d) M_15 [] 4 (0, [some (.ref 100)], [], σ)).trans rfl
set_option maxRecDepth 20000 in
theorem q_15_4557 (G : Nat × (Nat → Int32)) (d : Nat) (s1 : Int32) (σ : aH) : Lq G d M_15 (6, [some (.ref 100)], [.ref 100, .int s1], σ) = aCI (Rn G d 16 [.ref 100] σ) fun v2 σ1 => Lq G d M_15 (9, [some (.ref 100)], [.int v2, .int s1], σ1) :=
  (aUn_eq (tkd G.1 G.2) tmi (aRun (tkd G.1 G.2) tmi tmt d) M_15 [] 1 (6, [some (.ref 100)], [.ref 100, .int s1], σ)).trans rfl
set_option maxRecDepth 20000 in
theorem q_15_4558 (G : Nat × (Nat → Int32)) (d : Nat) (s0 : Int32) (s1 : Int32) (σ : aH) : Lq G d M_15 (9, [some (.ref 100)], [.int s0, .int s1], σ) = Lq G d M_15 (10, [some (.ref 100)], [.int (s1 >>> (s0 &&& 31))], σ) :=
  (aUn_eq (tkd G.1 G.2) tmi (aRun (tkd G.1 G.2) tmi tmt d) M_15 [] 1 (9, [some (.ref 100)], [.int s0, .int s1], σ)).trans rfl
set_option maxRecDepth 20000 in
theorem q_15_4559 (G : Nat × (Nat → Int32)) (d : Nat) (s0 : Int32) (σ : aH) : Lq G d M_15 (10, [some (.ref 100)], [.int s0], σ) = some (.inl (some (.int s0)), σ) :=
  (aUn_eq (tkd G.1 G.2) tmi (aRun (tkd G.1 G.2) tmi tmt d) M_15 [] 1 (10, [some (.ref 100)], [.int s0], σ)).trans rfl
set_option maxRecDepth 20000 in
theorem q_15_4560 (G : Nat × (Nat → Int32)) (d : Nat)  (σ : aH) : Lq G d M_15 (0, [some (.ref 102)], [], σ) = Lq G d M_15 (6, [some (.ref 102)], [.ref 102, .int (6 : Int32)], σ) :=
  (aUn_eq (tkd G.1 G.2) tmi (aRun (tkd G.1 G.2) tmi tmt d) M_15 [] 4 (0, [some (.ref 102)], [], σ)).trans rfl
set_option maxRecDepth 20000 in
theorem q_15_4561 (G : Nat × (Nat → Int32)) (d : Nat) (s1 : Int32) (σ : aH) : Lq G d M_15 (6, [some (.ref 102)], [.ref 102, .int s1], σ) = aCI (Rn G d 16 [.ref 102] σ) fun v2 σ1 => Lq G d M_15 (9, [some (.ref 102)], [.int v2, .int s1], σ1) :=
  (aUn_eq (tkd G.1 G.2) tmi (aRun (tkd G.1 G.2) tmi tmt d) M_15 [] 1 (6, [some (.ref 102)], [.ref 102, .int s1], σ)).trans rfl
set_option maxRecDepth 20000 in
theorem q_15_4562 (G : Nat × (Nat → Int32)) (d : Nat) (s0 : Int32) (s1 : Int32) (σ : aH) : Lq G d M_15 (9, [some (.ref 102)], [.int s0, .int s1], σ) = Lq G d M_15 (10, [some (.ref 102)], [.int (s1 >>> (s0 &&& 31))], σ) :=
  (aUn_eq (tkd G.1 G.2) tmi (aRun (tkd G.1 G.2) tmi tmt d) M_15 [] 1 (9, [some (.ref 102)], [.int s0, .int s1], σ)).trans rfl
set_option maxRecDepth 20000 in
theorem q_15_4563 (G : Nat × (Nat → Int32)) (d : Nat) (s0 : Int32) (σ : aH) : Lq G d M_15 (10, [some (.ref 102)], [.int s0], σ) = some (.inl (some (.int s0)), σ) :=
  (aUn_eq (tkd G.1 G.2) tmi (aRun (tkd G.1 G.2) tmi tmt d) M_15 [] 1 (10, [some (.ref 102)], [.int s0], σ)).trans rfl
set_option maxRecDepth 20000 in
theorem q_15_4564 (G : Nat × (Nat → Int32)) (d : Nat)  (σ : aH) : Lq G d M_15 (0, [some (.ref 104)], [], σ) = Lq G d M_15 (6, [some (.ref 104)], [.ref 104, .int (4 : Int32)], σ) :=
  (aUn_eq (tkd G.1 G.2) tmi (aRun (tkd G.1 G.2) tmi tmt d) M_15 [] 4 (0, [some (.ref 104)], [], σ)).trans rfl
set_option maxRecDepth 20000 in
theorem q_15_4565 (G : Nat × (Nat → Int32)) (d : Nat) (s1 : Int32) (σ : aH) : Lq G d M_15 (6, [some (.ref 104)], [.ref 104, .int s1], σ) = aCI (Rn G d 16 [.ref 104] σ) fun v2 σ1 => Lq G d M_15 (9, [some (.ref 104)], [.int v2, .int s1], σ1) :=
  (aUn_eq (tkd G.1 G.2) tmi (aRun (tkd G.1 G.2) tmi tmt d) M_15 [] 1 (6, [some (.ref 104)], [.ref 104, .int s1], σ)).trans rfl
set_option maxRecDepth 20000 in
theorem q_15_4566 (G : Nat × (Nat → Int32)) (d : Nat) (s0 : Int32) (s1 : Int32) (σ : aH) : Lq G d M_15 (9, [some (.ref 104)], [.int s0, .int s1], σ) = Lq G d M_15 (10, [some (.ref 104)], [.int (s1 >>> (s0 &&& 31))], σ) :=
  (aUn_eq (tkd G.1 G.2) tmi (aRun (tkd G.1 G.2) tmi tmt d) M_15 [] 1 (9, [some (.ref 104)], [.int s0, .int s1], σ)).trans rfl
set_option maxRecDepth 20000 in
theorem q_15_4567 (G : Nat × (Nat → Int32)) (d : Nat) (s0 : Int32) (σ : aH) : Lq G d M_15 (10, [some (.ref 104)], [.int s0], σ) = some (.inl (some (.int s0)), σ) :=
  (aUn_eq (tkd G.1 G.2) tmi (aRun (tkd G.1 G.2) tmi tmt d) M_15 [] 1 (10, [some (.ref 104)], [.int s0], σ)).trans rfl
set_option maxRecDepth 20000 in
theorem q_15_4568 (G : Nat × (Nat → Int32)) (d : Nat)  (σ : aH) : Lq G d M_15 (0, [some (.ref 106)], [], σ) = Lq G d M_15 (6, [some (.ref 106)], [.ref 106, .int (5 : Int32)], σ) :=
  (aUn_eq (tkd G.1 G.2) tmi (aRun (tkd G.1 G.2) tmi tmt d) M_15 [] 4 (0, [some (.ref 106)], [], σ)).trans rfl
set_option maxRecDepth 20000 in
theorem q_15_4569 (G : Nat × (Nat → Int32)) (d : Nat) (s1 : Int32) (σ : aH) : Lq G d M_15 (6, [some (.ref 106)], [.ref 106, .int s1], σ) = aCI (Rn G d 16 [.ref 106] σ) fun v2 σ1 => Lq G d M_15 (9, [some (.ref 106)], [.int v2, .int s1], σ1) :=
  (aUn_eq (tkd G.1 G.2) tmi (aRun (tkd G.1 G.2) tmi tmt d) M_15 [] 1 (6, [some (.ref 106)], [.ref 106, .int s1], σ)).trans rfl
set_option maxRecDepth 20000 in
theorem q_15_4570 (G : Nat × (Nat → Int32)) (d : Nat) (s0 : Int32) (s1 : Int32) (σ : aH) : Lq G d M_15 (9, [some (.ref 106)], [.int s0, .int s1], σ) = Lq G d M_15 (10, [some (.ref 106)], [.int (s1 >>> (s0 &&& 31))], σ) :=
  (aUn_eq (tkd G.1 G.2) tmi (aRun (tkd G.1 G.2) tmi tmt d) M_15 [] 1 (9, [some (.ref 106)], [.int s0, .int s1], σ)).trans rfl
set_option maxRecDepth 20000 in
theorem q_15_4571 (G : Nat × (Nat → Int32)) (d : Nat) (s0 : Int32) (σ : aH) : Lq G d M_15 (10, [some (.ref 106)], [.int s0], σ) = some (.inl (some (.int s0)), σ) :=
  (aUn_eq (tkd G.1 G.2) tmi (aRun (tkd G.1 G.2) tmi tmt d) M_15 [] 1 (10, [some (.ref 106)], [.int s0], σ)).trans rfl
set_option maxRecDepth 20000 in
theorem q_15_4572 (G : Nat × (Nat → Int32)) (d : Nat)  (σ : aH) : Lq G d M_15 (0, [some (.ref 108)], [], σ) = Lq G d M_15 (6, [some (.ref 108)], [.ref 108, .int (3 : Int32)], σ) :=
  (aUn_eq (tkd G.1 G.2) tmi (aRun (tkd G.1 G.2) tmi tmt d) M_15 [] 4 (0, [some (.ref 108)], [], σ)).trans rfl
set_option maxRecDepth 20000 in
theorem q_15_4573 (G : Nat × (Nat → Int32)) (d : Nat) (s1 : Int32) (σ : aH) : Lq G d M_15 (6, [some (.ref 108)], [.ref 108, .int s1], σ) = aCI (Rn G d 16 [.ref 108] σ) fun v2 σ1 => Lq G d M_15 (9, [some (.ref 108)], [.int v2, .int s1], σ1) :=
  (aUn_eq (tkd G.1 G.2) tmi (aRun (tkd G.1 G.2) tmi tmt d) M_15 [] 1 (6, [some (.ref 108)], [.ref 108, .int s1], σ)).trans rfl
set_option maxRecDepth 20000 in
theorem q_15_4574 (G : Nat × (Nat → Int32)) (d : Nat) (s0 : Int32) (s1 : Int32) (σ : aH) : Lq G d M_15 (9, [some (.ref 108)], [.int s0, .int s1], σ) = Lq G d M_15 (10, [some (.ref 108)], [.int (s1 >>> (s0 &&& 31))], σ) :=
  (aUn_eq (tkd G.1 G.2) tmi (aRun (tkd G.1 G.2) tmi tmt d) M_15 [] 1 (9, [some (.ref 108)], [.int s0, .int s1], σ)).trans rfl
set_option maxRecDepth 20000 in
theorem q_15_4575 (G : Nat × (Nat → Int32)) (d : Nat) (s0 : Int32) (σ : aH) : Lq G d M_15 (10, [some (.ref 108)], [.int s0], σ) = some (.inl (some (.int s0)), σ) :=
  (aUn_eq (tkd G.1 G.2) tmi (aRun (tkd G.1 G.2) tmi tmt d) M_15 [] 1 (10, [some (.ref 108)], [.int s0], σ)).trans rfl
set_option maxRecDepth 20000 in
theorem q_15_4576 (G : Nat × (Nat → Int32)) (d : Nat)  (σ : aH) : Lq G d M_15 (0, [some (.ref 110)], [], σ) = Lq G d M_15 (6, [some (.ref 110)], [.ref 110, .int (62 : Int32)], σ) :=
  (aUn_eq (tkd G.1 G.2) tmi (aRun (tkd G.1 G.2) tmi tmt d) M_15 [] 4 (0, [some (.ref 110)], [], σ)).trans rfl
set_option maxRecDepth 20000 in
theorem q_15_4577 (G : Nat × (Nat → Int32)) (d : Nat) (s1 : Int32) (σ : aH) : Lq G d M_15 (6, [some (.ref 110)], [.ref 110, .int s1], σ) = aCI (Rn G d 16 [.ref 110] σ) fun v2 σ1 => Lq G d M_15 (9, [some (.ref 110)], [.int v2, .int s1], σ1) :=
  (aUn_eq (tkd G.1 G.2) tmi (aRun (tkd G.1 G.2) tmi tmt d) M_15 [] 1 (6, [some (.ref 110)], [.ref 110, .int s1], σ)).trans rfl
set_option maxRecDepth 20000 in
theorem q_15_4578 (G : Nat × (Nat → Int32)) (d : Nat) (s0 : Int32) (s1 : Int32) (σ : aH) : Lq G d M_15 (9, [some (.ref 110)], [.int s0, .int s1], σ) = Lq G d M_15 (10, [some (.ref 110)], [.int (s1 >>> (s0 &&& 31))], σ) :=
  (aUn_eq (tkd G.1 G.2) tmi (aRun (tkd G.1 G.2) tmi tmt d) M_15 [] 1 (9, [some (.ref 110)], [.int s0, .int s1], σ)).trans rfl
set_option maxRecDepth 20000 in
theorem q_15_4579 (G : Nat × (Nat → Int32)) (d : Nat) (s0 : Int32) (σ : aH) : Lq G d M_15 (10, [some (.ref 110)], [.int s0], σ) = some (.inl (some (.int s0)), σ) :=
  (aUn_eq (tkd G.1 G.2) tmi (aRun (tkd G.1 G.2) tmi tmt d) M_15 [] 1 (10, [some (.ref 110)], [.int s0], σ)).trans rfl
set_option maxRecDepth 20000 in
theorem q_15_4580 (G : Nat × (Nat → Int32)) (d : Nat)  (σ : aH) : Lq G d M_15 (0, [some (.ref 112)], [], σ) = Lq G d M_15 (6, [some (.ref 112)], [.ref 112, .int (6 : Int32)], σ) :=
  (aUn_eq (tkd G.1 G.2) tmi (aRun (tkd G.1 G.2) tmi tmt d) M_15 [] 4 (0, [some (.ref 112)], [], σ)).trans rfl
set_option maxRecDepth 20000 in
theorem q_15_4581 (G : Nat × (Nat → Int32)) (d : Nat) (s1 : Int32) (σ : aH) : Lq G d M_15 (6, [some (.ref 112)], [.ref 112, .int s1], σ) = aCI (Rn G d 16 [.ref 112] σ) fun v2 σ1 => Lq G d M_15 (9, [some (.ref 112)], [.int v2, .int s1], σ1) :=
  (aUn_eq (tkd G.1 G.2) tmi (aRun (tkd G.1 G.2) tmi tmt d) M_15 [] 1 (6, [some (.ref 112)], [.ref 112, .int s1], σ)).trans rfl
set_option maxRecDepth 20000 in
theorem q_15_4582 (G : Nat × (Nat → Int32)) (d : Nat) (s0 : Int32) (s1 : Int32) (σ : aH) : Lq G d M_15 (9, [some (.ref 112)], [.int s0, .int s1], σ) = Lq G d M_15 (10, [some (.ref 112)], [.int (s1 >>> (s0 &&& 31))], σ) :=
  (aUn_eq (tkd G.1 G.2) tmi (aRun (tkd G.1 G.2) tmi tmt d) M_15 [] 1 (9, [some (.ref 112)], [.int s0, .int s1], σ)).trans rfl
set_option maxRecDepth 20000 in
theorem q_15_4583 (G : Nat × (Nat → Int32)) (d : Nat) (s0 : Int32) (σ : aH) : Lq G d M_15 (10, [some (.ref 112)], [.int s0], σ) = some (.inl (some (.int s0)), σ) :=
  (aUn_eq (tkd G.1 G.2) tmi (aRun (tkd G.1 G.2) tmi tmt d) M_15 [] 1 (10, [some (.ref 112)], [.int s0], σ)).trans rfl
set_option maxRecDepth 20000 in
theorem q_15_4584 (G : Nat × (Nat → Int32)) (d : Nat)  (σ : aH) : Lq G d M_15 (0, [some (.ref 114)], [], σ) = Lq G d M_15 (6, [some (.ref 114)], [.ref 114, .int (6 : Int32)], σ) :=
  (aUn_eq (tkd G.1 G.2) tmi (aRun (tkd G.1 G.2) tmi tmt d) M_15 [] 4 (0, [some (.ref 114)], [], σ)).trans rfl
set_option maxRecDepth 20000 in
theorem q_15_4585 (G : Nat × (Nat → Int32)) (d : Nat) (s1 : Int32) (σ : aH) : Lq G d M_15 (6, [some (.ref 114)], [.ref 114, .int s1], σ) = aCI (Rn G d 16 [.ref 114] σ) fun v2 σ1 => Lq G d M_15 (9, [some (.ref 114)], [.int v2, .int s1], σ1) :=
  (aUn_eq (tkd G.1 G.2) tmi (aRun (tkd G.1 G.2) tmi tmt d) M_15 [] 1 (6, [some (.ref 114)], [.ref 114, .int s1], σ)).trans rfl
set_option maxRecDepth 20000 in
theorem q_15_4586 (G : Nat × (Nat → Int32)) (d : Nat) (s0 : Int32) (s1 : Int32) (σ : aH) : Lq G d M_15 (9, [some (.ref 114)], [.int s0, .int s1], σ) = Lq G d M_15 (10, [some (.ref 114)], [.int (s1 >>> (s0 &&& 31))], σ) :=
  (aUn_eq (tkd G.1 G.2) tmi (aRun (tkd G.1 G.2) tmi tmt d) M_15 [] 1 (9, [some (.ref 114)], [.int s0, .int s1], σ)).trans rfl
set_option maxRecDepth 20000 in
theorem q_15_4587 (G : Nat × (Nat → Int32)) (d : Nat) (s0 : Int32) (σ : aH) : Lq G d M_15 (10, [some (.ref 114)], [.int s0], σ) = some (.inl (some (.int s0)), σ) :=
  (aUn_eq (tkd G.1 G.2) tmi (aRun (tkd G.1 G.2) tmi tmt d) M_15 [] 1 (10, [some (.ref 114)], [.int s0], σ)).trans rfl
set_option maxRecDepth 20000 in
theorem q_15_4588 (G : Nat × (Nat → Int32)) (d : Nat)  (σ : aH) : Lq G d M_15 (0, [some (.ref 116)], [], σ) = Lq G d M_15 (6, [some (.ref 116)], [.ref 116, .int (5 : Int32)], σ) :=
  (aUn_eq (tkd G.1 G.2) tmi (aRun (tkd G.1 G.2) tmi tmt d) M_15 [] 4 (0, [some (.ref 116)], [], σ)).trans rfl
set_option maxRecDepth 20000 in
theorem q_15_4589 (G : Nat × (Nat → Int32)) (d : Nat) (s1 : Int32) (σ : aH) : Lq G d M_15 (6, [some (.ref 116)], [.ref 116, .int s1], σ) = aCI (Rn G d 16 [.ref 116] σ) fun v2 σ1 => Lq G d M_15 (9, [some (.ref 116)], [.int v2, .int s1], σ1) :=
  (aUn_eq (tkd G.1 G.2) tmi (aRun (tkd G.1 G.2) tmi tmt d) M_15 [] 1 (6, [some (.ref 116)], [.ref 116, .int s1], σ)).trans rfl
set_option maxRecDepth 20000 in
theorem q_15_4590 (G : Nat × (Nat → Int32)) (d : Nat) (s0 : Int32) (s1 : Int32) (σ : aH) : Lq G d M_15 (9, [some (.ref 116)], [.int s0, .int s1], σ) = Lq G d M_15 (10, [some (.ref 116)], [.int (s1 >>> (s0 &&& 31))], σ) :=
  (aUn_eq (tkd G.1 G.2) tmi (aRun (tkd G.1 G.2) tmi tmt d) M_15 [] 1 (9, [some (.ref 116)], [.int s0, .int s1], σ)).trans rfl
set_option maxRecDepth 20000 in
theorem q_15_4591 (G : Nat × (Nat → Int32)) (d : Nat) (s0 : Int32) (σ : aH) : Lq G d M_15 (10, [some (.ref 116)], [.int s0], σ) = some (.inl (some (.int s0)), σ) :=
  (aUn_eq (tkd G.1 G.2) tmi (aRun (tkd G.1 G.2) tmi tmt d) M_15 [] 1 (10, [some (.ref 116)], [.int s0], σ)).trans rfl
set_option maxRecDepth 20000 in
theorem q_15_4592 (G : Nat × (Nat → Int32)) (d : Nat)  (σ : aH) : Lq G d M_15 (0, [some (.ref 118)], [], σ) = Lq G d M_15 (6, [some (.ref 118)], [.ref 118, .int (5 : Int32)], σ) :=
  (aUn_eq (tkd G.1 G.2) tmi (aRun (tkd G.1 G.2) tmi tmt d) M_15 [] 4 (0, [some (.ref 118)], [], σ)).trans rfl
set_option maxRecDepth 20000 in
theorem q_15_4593 (G : Nat × (Nat → Int32)) (d : Nat) (s1 : Int32) (σ : aH) : Lq G d M_15 (6, [some (.ref 118)], [.ref 118, .int s1], σ) = aCI (Rn G d 16 [.ref 118] σ) fun v2 σ1 => Lq G d M_15 (9, [some (.ref 118)], [.int v2, .int s1], σ1) :=
  (aUn_eq (tkd G.1 G.2) tmi (aRun (tkd G.1 G.2) tmi tmt d) M_15 [] 1 (6, [some (.ref 118)], [.ref 118, .int s1], σ)).trans rfl
set_option maxRecDepth 20000 in
theorem q_15_4594 (G : Nat × (Nat → Int32)) (d : Nat) (s0 : Int32) (s1 : Int32) (σ : aH) : Lq G d M_15 (9, [some (.ref 118)], [.int s0, .int s1], σ) = Lq G d M_15 (10, [some (.ref 118)], [.int (s1 >>> (s0 &&& 31))], σ) :=
  (aUn_eq (tkd G.1 G.2) tmi (aRun (tkd G.1 G.2) tmi tmt d) M_15 [] 1 (9, [some (.ref 118)], [.int s0, .int s1], σ)).trans rfl
set_option maxRecDepth 20000 in
theorem q_15_4595 (G : Nat × (Nat → Int32)) (d : Nat) (s0 : Int32) (σ : aH) : Lq G d M_15 (10, [some (.ref 118)], [.int s0], σ) = some (.inl (some (.int s0)), σ) :=
  (aUn_eq (tkd G.1 G.2) tmi (aRun (tkd G.1 G.2) tmi tmt d) M_15 [] 1 (10, [some (.ref 118)], [.int s0], σ)).trans rfl
set_option maxRecDepth 20000 in
theorem q_15_4596 (G : Nat × (Nat → Int32)) (d : Nat)  (σ : aH) : Lq G d M_15 (0, [some (.ref 120)], [], σ) = Lq G d M_15 (6, [some (.ref 120)], [.ref 120, .int (5 : Int32)], σ) :=
  (aUn_eq (tkd G.1 G.2) tmi (aRun (tkd G.1 G.2) tmi tmt d) M_15 [] 4 (0, [some (.ref 120)], [], σ)).trans rfl
set_option maxRecDepth 20000 in
theorem q_15_4597 (G : Nat × (Nat → Int32)) (d : Nat) (s1 : Int32) (σ : aH) : Lq G d M_15 (6, [some (.ref 120)], [.ref 120, .int s1], σ) = aCI (Rn G d 16 [.ref 120] σ) fun v2 σ1 => Lq G d M_15 (9, [some (.ref 120)], [.int v2, .int s1], σ1) :=
  (aUn_eq (tkd G.1 G.2) tmi (aRun (tkd G.1 G.2) tmi tmt d) M_15 [] 1 (6, [some (.ref 120)], [.ref 120, .int s1], σ)).trans rfl
set_option maxRecDepth 20000 in
theorem q_15_4598 (G : Nat × (Nat → Int32)) (d : Nat) (s0 : Int32) (s1 : Int32) (σ : aH) : Lq G d M_15 (9, [some (.ref 120)], [.int s0, .int s1], σ) = Lq G d M_15 (10, [some (.ref 120)], [.int (s1 >>> (s0 &&& 31))], σ) :=
  (aUn_eq (tkd G.1 G.2) tmi (aRun (tkd G.1 G.2) tmi tmt d) M_15 [] 1 (9, [some (.ref 120)], [.int s0, .int s1], σ)).trans rfl
set_option maxRecDepth 20000 in
theorem q_15_4599 (G : Nat × (Nat → Int32)) (d : Nat) (s0 : Int32) (σ : aH) : Lq G d M_15 (10, [some (.ref 120)], [.int s0], σ) = some (.inl (some (.int s0)), σ) :=
  (aUn_eq (tkd G.1 G.2) tmi (aRun (tkd G.1 G.2) tmi tmt d) M_15 [] 1 (10, [some (.ref 120)], [.int s0], σ)).trans rfl
set_option maxRecDepth 20000 in
theorem q_15_4600 (G : Nat × (Nat → Int32)) (d : Nat)  (σ : aH) : Lq G d M_15 (0, [some (.ref 122)], [], σ) = Lq G d M_15 (6, [some (.ref 122)], [.ref 122, .int (4 : Int32)], σ) :=
  (aUn_eq (tkd G.1 G.2) tmi (aRun (tkd G.1 G.2) tmi tmt d) M_15 [] 4 (0, [some (.ref 122)], [], σ)).trans rfl
set_option maxRecDepth 20000 in
theorem q_15_4601 (G : Nat × (Nat → Int32)) (d : Nat) (s1 : Int32) (σ : aH) : Lq G d M_15 (6, [some (.ref 122)], [.ref 122, .int s1], σ) = aCI (Rn G d 16 [.ref 122] σ) fun v2 σ1 => Lq G d M_15 (9, [some (.ref 122)], [.int v2, .int s1], σ1) :=
  (aUn_eq (tkd G.1 G.2) tmi (aRun (tkd G.1 G.2) tmi tmt d) M_15 [] 1 (6, [some (.ref 122)], [.ref 122, .int s1], σ)).trans rfl
set_option maxRecDepth 20000 in
theorem q_15_4602 (G : Nat × (Nat → Int32)) (d : Nat) (s0 : Int32) (s1 : Int32) (σ : aH) : Lq G d M_15 (9, [some (.ref 122)], [.int s0, .int s1], σ) = Lq G d M_15 (10, [some (.ref 122)], [.int (s1 >>> (s0 &&& 31))], σ) :=
  (aUn_eq (tkd G.1 G.2) tmi (aRun (tkd G.1 G.2) tmi tmt d) M_15 [] 1 (9, [some (.ref 122)], [.int s0, .int s1], σ)).trans rfl
set_option maxRecDepth 20000 in
theorem q_15_4603 (G : Nat × (Nat → Int32)) (d : Nat) (s0 : Int32) (σ : aH) : Lq G d M_15 (10, [some (.ref 122)], [.int s0], σ) = some (.inl (some (.int s0)), σ) :=
  (aUn_eq (tkd G.1 G.2) tmi (aRun (tkd G.1 G.2) tmi tmt d) M_15 [] 1 (10, [some (.ref 122)], [.int s0], σ)).trans rfl
set_option maxRecDepth 20000 in
theorem q_15_4604 (G : Nat × (Nat → Int32)) (d : Nat)  (σ : aH) : Lq G d M_15 (0, [some (.ref 124)], [], σ) = Lq G d M_15 (6, [some (.ref 124)], [.ref 124, .int (4 : Int32)], σ) :=
  (aUn_eq (tkd G.1 G.2) tmi (aRun (tkd G.1 G.2) tmi tmt d) M_15 [] 4 (0, [some (.ref 124)], [], σ)).trans rfl
set_option maxRecDepth 20000 in
theorem q_15_4605 (G : Nat × (Nat → Int32)) (d : Nat) (s1 : Int32) (σ : aH) : Lq G d M_15 (6, [some (.ref 124)], [.ref 124, .int s1], σ) = aCI (Rn G d 16 [.ref 124] σ) fun v2 σ1 => Lq G d M_15 (9, [some (.ref 124)], [.int v2, .int s1], σ1) :=
  (aUn_eq (tkd G.1 G.2) tmi (aRun (tkd G.1 G.2) tmi tmt d) M_15 [] 1 (6, [some (.ref 124)], [.ref 124, .int s1], σ)).trans rfl
set_option maxRecDepth 20000 in
theorem q_15_4606 (G : Nat × (Nat → Int32)) (d : Nat) (s0 : Int32) (s1 : Int32) (σ : aH) : Lq G d M_15 (9, [some (.ref 124)], [.int s0, .int s1], σ) = Lq G d M_15 (10, [some (.ref 124)], [.int (s1 >>> (s0 &&& 31))], σ) :=
  (aUn_eq (tkd G.1 G.2) tmi (aRun (tkd G.1 G.2) tmi tmt d) M_15 [] 1 (9, [some (.ref 124)], [.int s0, .int s1], σ)).trans rfl
set_option maxRecDepth 20000 in
theorem q_15_4607 (G : Nat × (Nat → Int32)) (d : Nat) (s0 : Int32) (σ : aH) : Lq G d M_15 (10, [some (.ref 124)], [.int s0], σ) = some (.inl (some (.int s0)), σ) :=
  (aUn_eq (tkd G.1 G.2) tmi (aRun (tkd G.1 G.2) tmi tmt d) M_15 [] 1 (10, [some (.ref 124)], [.int s0], σ)).trans rfl
set_option maxRecDepth 20000 in
theorem q_15_4608 (G : Nat × (Nat → Int32)) (d : Nat)  (σ : aH) : Lq G d M_15 (0, [some (.ref 126)], [], σ) = Lq G d M_15 (6, [some (.ref 126)], [.ref 126, .int (9 : Int32)], σ) :=
  (aUn_eq (tkd G.1 G.2) tmi (aRun (tkd G.1 G.2) tmi tmt d) M_15 [] 4 (0, [some (.ref 126)], [], σ)).trans rfl
set_option maxRecDepth 20000 in
theorem q_15_4609 (G : Nat × (Nat → Int32)) (d : Nat) (s1 : Int32) (σ : aH) : Lq G d M_15 (6, [some (.ref 126)], [.ref 126, .int s1], σ) = aCI (Rn G d 16 [.ref 126] σ) fun v2 σ1 => Lq G d M_15 (9, [some (.ref 126)], [.int v2, .int s1], σ1) :=
  (aUn_eq (tkd G.1 G.2) tmi (aRun (tkd G.1 G.2) tmi tmt d) M_15 [] 1 (6, [some (.ref 126)], [.ref 126, .int s1], σ)).trans rfl
set_option maxRecDepth 20000 in
theorem q_15_4610 (G : Nat × (Nat → Int32)) (d : Nat) (s0 : Int32) (s1 : Int32) (σ : aH) : Lq G d M_15 (9, [some (.ref 126)], [.int s0, .int s1], σ) = Lq G d M_15 (10, [some (.ref 126)], [.int (s1 >>> (s0 &&& 31))], σ) :=
  (aUn_eq (tkd G.1 G.2) tmi (aRun (tkd G.1 G.2) tmi tmt d) M_15 [] 1 (9, [some (.ref 126)], [.int s0, .int s1], σ)).trans rfl
set_option maxRecDepth 20000 in
theorem q_15_4611 (G : Nat × (Nat → Int32)) (d : Nat) (s0 : Int32) (σ : aH) : Lq G d M_15 (10, [some (.ref 126)], [.int s0], σ) = some (.inl (some (.int s0)), σ) :=
  (aUn_eq (tkd G.1 G.2) tmi (aRun (tkd G.1 G.2) tmi tmt d) M_15 [] 1 (10, [some (.ref 126)], [.int s0], σ)).trans rfl
set_option maxRecDepth 20000 in
theorem q_15_4612 (G : Nat × (Nat → Int32)) (d : Nat)  (σ : aH) : Lq G d M_15 (0, [some (.ref 128)], [], σ) = Lq G d M_15 (6, [some (.ref 128)], [.ref 128, .int (4 : Int32)], σ) :=
  (aUn_eq (tkd G.1 G.2) tmi (aRun (tkd G.1 G.2) tmi tmt d) M_15 [] 4 (0, [some (.ref 128)], [], σ)).trans rfl
set_option maxRecDepth 20000 in
theorem q_15_4613 (G : Nat × (Nat → Int32)) (d : Nat) (s1 : Int32) (σ : aH) : Lq G d M_15 (6, [some (.ref 128)], [.ref 128, .int s1], σ) = aCI (Rn G d 16 [.ref 128] σ) fun v2 σ1 => Lq G d M_15 (9, [some (.ref 128)], [.int v2, .int s1], σ1) :=
  (aUn_eq (tkd G.1 G.2) tmi (aRun (tkd G.1 G.2) tmi tmt d) M_15 [] 1 (6, [some (.ref 128)], [.ref 128, .int s1], σ)).trans rfl
set_option maxRecDepth 20000 in
theorem q_15_4614 (G : Nat × (Nat → Int32)) (d : Nat) (s0 : Int32) (s1 : Int32) (σ : aH) : Lq G d M_15 (9, [some (.ref 128)], [.int s0, .int s1], σ) = Lq G d M_15 (10, [some (.ref 128)], [.int (s1 >>> (s0 &&& 31))], σ) :=
  (aUn_eq (tkd G.1 G.2) tmi (aRun (tkd G.1 G.2) tmi tmt d) M_15 [] 1 (9, [some (.ref 128)], [.int s0, .int s1], σ)).trans rfl
set_option maxRecDepth 20000 in
theorem q_15_4615 (G : Nat × (Nat → Int32)) (d : Nat) (s0 : Int32) (σ : aH) : Lq G d M_15 (10, [some (.ref 128)], [.int s0], σ) = some (.inl (some (.int s0)), σ) :=
  (aUn_eq (tkd G.1 G.2) tmi (aRun (tkd G.1 G.2) tmi tmt d) M_15 [] 1 (10, [some (.ref 128)], [.int s0], σ)).trans rfl
set_option maxRecDepth 20000 in
theorem q_26_4616 (G : Nat × (Nat → Int32)) (d : Nat) (x1 : Int32) (σ : aH) : Lq G d M_26 (0, [some (.ref 70), some (.int x1)], [], σ) = Lq G d M_26 (1, [some (.ref 70), some (.int x1)], [.ref 70], σ) :=
  (aUn_eq (tkd G.1 G.2) tmi (aRun (tkd G.1 G.2) tmi tmt d) M_26 [] 1 (0, [some (.ref 70), some (.int x1)], [], σ)).trans rfl
set_option maxRecDepth 20000 in
theorem q_26_4617 (G : Nat × (Nat → Int32)) (d : Nat) (x1 : Int32) (σ : aH) : Lq G d M_26 (1, [some (.ref 70), some (.int x1)], [.ref 70], σ) = aCI (Rn G d 14 [.ref 70] σ) fun v2 σ1 => Lq G d M_26 (4, [some (.ref 70), some (.int x1)], [.int v2], σ1) :=
  (aUn_eq (tkd G.1 G.2) tmi (aRun (tkd G.1 G.2) tmi tmt d) M_26 [] 1 (1, [some (.ref 70), some (.int x1)], [.ref 70], σ)).trans rfl
set_option maxRecDepth 20000 in
theorem q_26_4618 (G : Nat × (Nat → Int32)) (d : Nat) (x1 : Int32) (s0 : Int32) (σ : aH) : Lq G d M_26 (4, [some (.ref 70), some (.int x1)], [.int s0], σ) = if s0 = 0 then Lq G d M_26 (16, [some (.ref 70), some (.int x1)], [], σ) else Lq G d M_26 (7, [some (.ref 70), some (.int x1)], [], σ) :=
  (aUn_eq (tkd G.1 G.2) tmi (aRun (tkd G.1 G.2) tmi tmt d) M_26 [] 1 (4, [some (.ref 70), some (.int x1)], [.int s0], σ)).trans rfl
set_option maxRecDepth 20000 in
theorem q_26_4619 (G : Nat × (Nat → Int32)) (d : Nat) (x1 : Int32) (σ : aH) : Lq G d M_26 (16, [some (.ref 70), some (.int x1)], [], σ) = Lq G d M_26 (21, [some (.ref 70), some (.int x1)], [.int x1, .ref 71], σ) :=
  (aUn_eq (tkd G.1 G.2) tmi (aRun (tkd G.1 G.2) tmi tmt d) M_26 [] 3 (16, [some (.ref 70), some (.int x1)], [], σ)).trans rfl
set_option maxRecDepth 20000 in
theorem q_26_4620 (G : Nat × (Nat → Int32)) (d : Nat) (x1 : Int32) (s0 : Int32) (σ : aH) : Lq G d M_26 (21, [some (.ref 70), some (.int x1)], [.int s0, .ref 71], σ) = none :=
  (aUn_eq (tkd G.1 G.2) tmi (aRun (tkd G.1 G.2) tmi tmt d) M_26 [] 1 (21, [some (.ref 70), some (.int x1)], [.int s0, .ref 71], σ)).trans rfl
set_option maxRecDepth 20000 in
theorem q_26_4621 (G : Nat × (Nat → Int32)) (d : Nat) (x1 : Int32) (σ : aH) : Lq G d M_26 (7, [some (.ref 70), some (.int x1)], [], σ) = Lq G d M_26 (12, [some (.ref 70), some (.int x1)], [.int x1, .ref 71], σ) :=
  (aUn_eq (tkd G.1 G.2) tmi (aRun (tkd G.1 G.2) tmi tmt d) M_26 [] 3 (7, [some (.ref 70), some (.int x1)], [], σ)).trans rfl
set_option maxRecDepth 20000 in
theorem q_26_4622 (G : Nat × (Nat → Int32)) (d : Nat) (x1 : Int32) (s0 : Int32) (σ : aH) : Lq G d M_26 (12, [some (.ref 70), some (.int x1)], [.int s0, .ref 71], σ) = aCI (Rn G d 27 [.ref 71, .int s0] σ) fun v2 σ1 => Lq G d M_26 (15, [some (.ref 70), some (.int x1)], [.int v2], σ1) :=
  (aUn_eq (tkd G.1 G.2) tmi (aRun (tkd G.1 G.2) tmi tmt d) M_26 [] 1 (12, [some (.ref 70), some (.int x1)], [.int s0, .ref 71], σ)).trans rfl
set_option maxRecDepth 20000 in
theorem q_26_4623 (G : Nat × (Nat → Int32)) (d : Nat) (x1 : Int32) (s0 : Int32) (σ : aH) : Lq G d M_26 (15, [some (.ref 70), some (.int x1)], [.int s0], σ) = aNar .char (s0) (some (.inl (some (.int s0)), σ)) :=
  (aUn_eq (tkd G.1 G.2) tmi (aRun (tkd G.1 G.2) tmi tmt d) M_26 [] 1 (15, [some (.ref 70), some (.int x1)], [.int s0], σ)).trans rfl
set_option maxRecDepth 20000 in
theorem q_26_4624 (G : Nat × (Nat → Int32)) (d : Nat) (x1 : Int32) (σ : aH) : Lq G d M_26 (0, [some (.ref 72), some (.int x1)], [], σ) = Lq G d M_26 (1, [some (.ref 72), some (.int x1)], [.ref 72], σ) :=
  (aUn_eq (tkd G.1 G.2) tmi (aRun (tkd G.1 G.2) tmi tmt d) M_26 [] 1 (0, [some (.ref 72), some (.int x1)], [], σ)).trans rfl
set_option maxRecDepth 20000 in
theorem q_26_4625 (G : Nat × (Nat → Int32)) (d : Nat) (x1 : Int32) (σ : aH) : Lq G d M_26 (1, [some (.ref 72), some (.int x1)], [.ref 72], σ) = aCI (Rn G d 14 [.ref 72] σ) fun v2 σ1 => Lq G d M_26 (4, [some (.ref 72), some (.int x1)], [.int v2], σ1) :=
  (aUn_eq (tkd G.1 G.2) tmi (aRun (tkd G.1 G.2) tmi tmt d) M_26 [] 1 (1, [some (.ref 72), some (.int x1)], [.ref 72], σ)).trans rfl
set_option maxRecDepth 20000 in
theorem q_26_4626 (G : Nat × (Nat → Int32)) (d : Nat) (x1 : Int32) (s0 : Int32) (σ : aH) : Lq G d M_26 (4, [some (.ref 72), some (.int x1)], [.int s0], σ) = if s0 = 0 then Lq G d M_26 (16, [some (.ref 72), some (.int x1)], [], σ) else Lq G d M_26 (7, [some (.ref 72), some (.int x1)], [], σ) :=
  (aUn_eq (tkd G.1 G.2) tmi (aRun (tkd G.1 G.2) tmi tmt d) M_26 [] 1 (4, [some (.ref 72), some (.int x1)], [.int s0], σ)).trans rfl
set_option maxRecDepth 20000 in
theorem q_26_4627 (G : Nat × (Nat → Int32)) (d : Nat) (x1 : Int32) (σ : aH) : Lq G d M_26 (16, [some (.ref 72), some (.int x1)], [], σ) = Lq G d M_26 (21, [some (.ref 72), some (.int x1)], [.int x1, .ref 73], σ) :=
  (aUn_eq (tkd G.1 G.2) tmi (aRun (tkd G.1 G.2) tmi tmt d) M_26 [] 3 (16, [some (.ref 72), some (.int x1)], [], σ)).trans rfl
set_option maxRecDepth 20000 in
theorem q_26_4628 (G : Nat × (Nat → Int32)) (d : Nat) (x1 : Int32) (s0 : Int32) (σ : aH) : Lq G d M_26 (21, [some (.ref 72), some (.int x1)], [.int s0, .ref 73], σ) = none :=
  (aUn_eq (tkd G.1 G.2) tmi (aRun (tkd G.1 G.2) tmi tmt d) M_26 [] 1 (21, [some (.ref 72), some (.int x1)], [.int s0, .ref 73], σ)).trans rfl
set_option maxRecDepth 20000 in
theorem q_26_4629 (G : Nat × (Nat → Int32)) (d : Nat) (x1 : Int32) (σ : aH) : Lq G d M_26 (7, [some (.ref 72), some (.int x1)], [], σ) = Lq G d M_26 (12, [some (.ref 72), some (.int x1)], [.int x1, .ref 73], σ) :=
  (aUn_eq (tkd G.1 G.2) tmi (aRun (tkd G.1 G.2) tmi tmt d) M_26 [] 3 (7, [some (.ref 72), some (.int x1)], [], σ)).trans rfl
set_option maxRecDepth 20000 in
theorem q_26_4630 (G : Nat × (Nat → Int32)) (d : Nat) (x1 : Int32) (s0 : Int32) (σ : aH) : Lq G d M_26 (12, [some (.ref 72), some (.int x1)], [.int s0, .ref 73], σ) = aCI (Rn G d 27 [.ref 73, .int s0] σ) fun v2 σ1 => Lq G d M_26 (15, [some (.ref 72), some (.int x1)], [.int v2], σ1) :=
  (aUn_eq (tkd G.1 G.2) tmi (aRun (tkd G.1 G.2) tmi tmt d) M_26 [] 1 (12, [some (.ref 72), some (.int x1)], [.int s0, .ref 73], σ)).trans rfl
set_option maxRecDepth 20000 in
theorem q_26_4631 (G : Nat × (Nat → Int32)) (d : Nat) (x1 : Int32) (s0 : Int32) (σ : aH) : Lq G d M_26 (15, [some (.ref 72), some (.int x1)], [.int s0], σ) = aNar .char (s0) (some (.inl (some (.int s0)), σ)) :=
  (aUn_eq (tkd G.1 G.2) tmi (aRun (tkd G.1 G.2) tmi tmt d) M_26 [] 1 (15, [some (.ref 72), some (.int x1)], [.int s0], σ)).trans rfl
set_option maxRecDepth 20000 in
theorem q_26_4632 (G : Nat × (Nat → Int32)) (d : Nat) (x1 : Int32) (σ : aH) : Lq G d M_26 (0, [some (.ref 74), some (.int x1)], [], σ) = Lq G d M_26 (1, [some (.ref 74), some (.int x1)], [.ref 74], σ) :=
  (aUn_eq (tkd G.1 G.2) tmi (aRun (tkd G.1 G.2) tmi tmt d) M_26 [] 1 (0, [some (.ref 74), some (.int x1)], [], σ)).trans rfl
set_option maxRecDepth 20000 in
theorem q_26_4633 (G : Nat × (Nat → Int32)) (d : Nat) (x1 : Int32) (σ : aH) : Lq G d M_26 (1, [some (.ref 74), some (.int x1)], [.ref 74], σ) = aCI (Rn G d 14 [.ref 74] σ) fun v2 σ1 => Lq G d M_26 (4, [some (.ref 74), some (.int x1)], [.int v2], σ1) :=
  (aUn_eq (tkd G.1 G.2) tmi (aRun (tkd G.1 G.2) tmi tmt d) M_26 [] 1 (1, [some (.ref 74), some (.int x1)], [.ref 74], σ)).trans rfl
set_option maxRecDepth 20000 in
theorem q_26_4634 (G : Nat × (Nat → Int32)) (d : Nat) (x1 : Int32) (s0 : Int32) (σ : aH) : Lq G d M_26 (4, [some (.ref 74), some (.int x1)], [.int s0], σ) = if s0 = 0 then Lq G d M_26 (16, [some (.ref 74), some (.int x1)], [], σ) else Lq G d M_26 (7, [some (.ref 74), some (.int x1)], [], σ) :=
  (aUn_eq (tkd G.1 G.2) tmi (aRun (tkd G.1 G.2) tmi tmt d) M_26 [] 1 (4, [some (.ref 74), some (.int x1)], [.int s0], σ)).trans rfl
set_option maxRecDepth 20000 in
theorem q_26_4635 (G : Nat × (Nat → Int32)) (d : Nat) (x1 : Int32) (σ : aH) : Lq G d M_26 (16, [some (.ref 74), some (.int x1)], [], σ) = Lq G d M_26 (21, [some (.ref 74), some (.int x1)], [.int x1, .ref 75], σ) :=
  (aUn_eq (tkd G.1 G.2) tmi (aRun (tkd G.1 G.2) tmi tmt d) M_26 [] 3 (16, [some (.ref 74), some (.int x1)], [], σ)).trans rfl
set_option maxRecDepth 20000 in
theorem q_26_4636 (G : Nat × (Nat → Int32)) (d : Nat) (x1 : Int32) (s0 : Int32) (σ : aH) : Lq G d M_26 (21, [some (.ref 74), some (.int x1)], [.int s0, .ref 75], σ) = none :=
  (aUn_eq (tkd G.1 G.2) tmi (aRun (tkd G.1 G.2) tmi tmt d) M_26 [] 1 (21, [some (.ref 74), some (.int x1)], [.int s0, .ref 75], σ)).trans rfl
set_option maxRecDepth 20000 in
theorem q_26_4637 (G : Nat × (Nat → Int32)) (d : Nat) (x1 : Int32) (σ : aH) : Lq G d M_26 (7, [some (.ref 74), some (.int x1)], [], σ) = Lq G d M_26 (12, [some (.ref 74), some (.int x1)], [.int x1, .ref 75], σ) :=
  (aUn_eq (tkd G.1 G.2) tmi (aRun (tkd G.1 G.2) tmi tmt d) M_26 [] 3 (7, [some (.ref 74), some (.int x1)], [], σ)).trans rfl
set_option maxRecDepth 20000 in
theorem q_26_4638 (G : Nat × (Nat → Int32)) (d : Nat) (x1 : Int32) (s0 : Int32) (σ : aH) : Lq G d M_26 (12, [some (.ref 74), some (.int x1)], [.int s0, .ref 75], σ) = aCI (Rn G d 27 [.ref 75, .int s0] σ) fun v2 σ1 => Lq G d M_26 (15, [some (.ref 74), some (.int x1)], [.int v2], σ1) :=
  (aUn_eq (tkd G.1 G.2) tmi (aRun (tkd G.1 G.2) tmi tmt d) M_26 [] 1 (12, [some (.ref 74), some (.int x1)], [.int s0, .ref 75], σ)).trans rfl
set_option maxRecDepth 20000 in
theorem q_26_4639 (G : Nat × (Nat → Int32)) (d : Nat) (x1 : Int32) (s0 : Int32) (σ : aH) : Lq G d M_26 (15, [some (.ref 74), some (.int x1)], [.int s0], σ) = aNar .char (s0) (some (.inl (some (.int s0)), σ)) :=
  (aUn_eq (tkd G.1 G.2) tmi (aRun (tkd G.1 G.2) tmi tmt d) M_26 [] 1 (15, [some (.ref 74), some (.int x1)], [.int s0], σ)).trans rfl
set_option maxRecDepth 20000 in
theorem q_26_4640 (G : Nat × (Nat → Int32)) (d : Nat) (x1 : Int32) (σ : aH) : Lq G d M_26 (0, [some (.ref 76), some (.int x1)], [], σ) = Lq G d M_26 (1, [some (.ref 76), some (.int x1)], [.ref 76], σ) :=
  (aUn_eq (tkd G.1 G.2) tmi (aRun (tkd G.1 G.2) tmi tmt d) M_26 [] 1 (0, [some (.ref 76), some (.int x1)], [], σ)).trans rfl
set_option maxRecDepth 20000 in
theorem q_26_4641 (G : Nat × (Nat → Int32)) (d : Nat) (x1 : Int32) (σ : aH) : Lq G d M_26 (1, [some (.ref 76), some (.int x1)], [.ref 76], σ) = aCI (Rn G d 14 [.ref 76] σ) fun v2 σ1 => Lq G d M_26 (4, [some (.ref 76), some (.int x1)], [.int v2], σ1) :=
  (aUn_eq (tkd G.1 G.2) tmi (aRun (tkd G.1 G.2) tmi tmt d) M_26 [] 1 (1, [some (.ref 76), some (.int x1)], [.ref 76], σ)).trans rfl
set_option maxRecDepth 20000 in
theorem q_26_4642 (G : Nat × (Nat → Int32)) (d : Nat) (x1 : Int32) (s0 : Int32) (σ : aH) : Lq G d M_26 (4, [some (.ref 76), some (.int x1)], [.int s0], σ) = if s0 = 0 then Lq G d M_26 (16, [some (.ref 76), some (.int x1)], [], σ) else Lq G d M_26 (7, [some (.ref 76), some (.int x1)], [], σ) :=
  (aUn_eq (tkd G.1 G.2) tmi (aRun (tkd G.1 G.2) tmi tmt d) M_26 [] 1 (4, [some (.ref 76), some (.int x1)], [.int s0], σ)).trans rfl
set_option maxRecDepth 20000 in
theorem q_26_4643 (G : Nat × (Nat → Int32)) (d : Nat) (x1 : Int32) (σ : aH) : Lq G d M_26 (16, [some (.ref 76), some (.int x1)], [], σ) = Lq G d M_26 (21, [some (.ref 76), some (.int x1)], [.int x1, .ref 77], σ) :=
  (aUn_eq (tkd G.1 G.2) tmi (aRun (tkd G.1 G.2) tmi tmt d) M_26 [] 3 (16, [some (.ref 76), some (.int x1)], [], σ)).trans rfl
set_option maxRecDepth 20000 in
theorem q_26_4644 (G : Nat × (Nat → Int32)) (d : Nat) (x1 : Int32) (s0 : Int32) (σ : aH) : Lq G d M_26 (21, [some (.ref 76), some (.int x1)], [.int s0, .ref 77], σ) = none :=
  (aUn_eq (tkd G.1 G.2) tmi (aRun (tkd G.1 G.2) tmi tmt d) M_26 [] 1 (21, [some (.ref 76), some (.int x1)], [.int s0, .ref 77], σ)).trans rfl
set_option maxRecDepth 20000 in
theorem q_26_4645 (G : Nat × (Nat → Int32)) (d : Nat) (x1 : Int32) (σ : aH) : Lq G d M_26 (7, [some (.ref 76), some (.int x1)], [], σ) = Lq G d M_26 (12, [some (.ref 76), some (.int x1)], [.int x1, .ref 77], σ) :=
  (aUn_eq (tkd G.1 G.2) tmi (aRun (tkd G.1 G.2) tmi tmt d) M_26 [] 3 (7, [some (.ref 76), some (.int x1)], [], σ)).trans rfl
set_option maxRecDepth 20000 in
theorem q_26_4646 (G : Nat × (Nat → Int32)) (d : Nat) (x1 : Int32) (s0 : Int32) (σ : aH) : Lq G d M_26 (12, [some (.ref 76), some (.int x1)], [.int s0, .ref 77], σ) = aCI (Rn G d 27 [.ref 77, .int s0] σ) fun v2 σ1 => Lq G d M_26 (15, [some (.ref 76), some (.int x1)], [.int v2], σ1) :=
  (aUn_eq (tkd G.1 G.2) tmi (aRun (tkd G.1 G.2) tmi tmt d) M_26 [] 1 (12, [some (.ref 76), some (.int x1)], [.int s0, .ref 77], σ)).trans rfl
set_option maxRecDepth 20000 in
theorem q_26_4647 (G : Nat × (Nat → Int32)) (d : Nat) (x1 : Int32) (s0 : Int32) (σ : aH) : Lq G d M_26 (15, [some (.ref 76), some (.int x1)], [.int s0], σ) = aNar .char (s0) (some (.inl (some (.int s0)), σ)) :=
  (aUn_eq (tkd G.1 G.2) tmi (aRun (tkd G.1 G.2) tmi tmt d) M_26 [] 1 (15, [some (.ref 76), some (.int x1)], [.int s0], σ)).trans rfl
set_option maxRecDepth 20000 in
theorem q_26_4648 (G : Nat × (Nat → Int32)) (d : Nat) (x1 : Int32) (σ : aH) : Lq G d M_26 (0, [some (.ref 78), some (.int x1)], [], σ) = Lq G d M_26 (1, [some (.ref 78), some (.int x1)], [.ref 78], σ) :=
  (aUn_eq (tkd G.1 G.2) tmi (aRun (tkd G.1 G.2) tmi tmt d) M_26 [] 1 (0, [some (.ref 78), some (.int x1)], [], σ)).trans rfl
set_option maxRecDepth 20000 in
theorem q_26_4649 (G : Nat × (Nat → Int32)) (d : Nat) (x1 : Int32) (σ : aH) : Lq G d M_26 (1, [some (.ref 78), some (.int x1)], [.ref 78], σ) = aCI (Rn G d 14 [.ref 78] σ) fun v2 σ1 => Lq G d M_26 (4, [some (.ref 78), some (.int x1)], [.int v2], σ1) :=
  (aUn_eq (tkd G.1 G.2) tmi (aRun (tkd G.1 G.2) tmi tmt d) M_26 [] 1 (1, [some (.ref 78), some (.int x1)], [.ref 78], σ)).trans rfl
set_option maxRecDepth 20000 in
theorem q_26_4650 (G : Nat × (Nat → Int32)) (d : Nat) (x1 : Int32) (s0 : Int32) (σ : aH) : Lq G d M_26 (4, [some (.ref 78), some (.int x1)], [.int s0], σ) = if s0 = 0 then Lq G d M_26 (16, [some (.ref 78), some (.int x1)], [], σ) else Lq G d M_26 (7, [some (.ref 78), some (.int x1)], [], σ) :=
  (aUn_eq (tkd G.1 G.2) tmi (aRun (tkd G.1 G.2) tmi tmt d) M_26 [] 1 (4, [some (.ref 78), some (.int x1)], [.int s0], σ)).trans rfl
set_option maxRecDepth 20000 in
theorem q_26_4651 (G : Nat × (Nat → Int32)) (d : Nat) (x1 : Int32) (σ : aH) : Lq G d M_26 (16, [some (.ref 78), some (.int x1)], [], σ) = Lq G d M_26 (21, [some (.ref 78), some (.int x1)], [.int x1, .ref 79], σ) :=
  (aUn_eq (tkd G.1 G.2) tmi (aRun (tkd G.1 G.2) tmi tmt d) M_26 [] 3 (16, [some (.ref 78), some (.int x1)], [], σ)).trans rfl
set_option maxRecDepth 20000 in
theorem q_26_4652 (G : Nat × (Nat → Int32)) (d : Nat) (x1 : Int32) (s0 : Int32) (σ : aH) : Lq G d M_26 (21, [some (.ref 78), some (.int x1)], [.int s0, .ref 79], σ) = none :=
  (aUn_eq (tkd G.1 G.2) tmi (aRun (tkd G.1 G.2) tmi tmt d) M_26 [] 1 (21, [some (.ref 78), some (.int x1)], [.int s0, .ref 79], σ)).trans rfl
set_option maxRecDepth 20000 in
theorem q_26_4653 (G : Nat × (Nat → Int32)) (d : Nat) (x1 : Int32) (σ : aH) : Lq G d M_26 (7, [some (.ref 78), some (.int x1)], [], σ) = Lq G d M_26 (12, [some (.ref 78), some (.int x1)], [.int x1, .ref 79], σ) :=
  (aUn_eq (tkd G.1 G.2) tmi (aRun (tkd G.1 G.2) tmi tmt d) M_26 [] 3 (7, [some (.ref 78), some (.int x1)], [], σ)).trans rfl
set_option maxRecDepth 20000 in
theorem q_26_4654 (G : Nat × (Nat → Int32)) (d : Nat) (x1 : Int32) (s0 : Int32) (σ : aH) : Lq G d M_26 (12, [some (.ref 78), some (.int x1)], [.int s0, .ref 79], σ) = aCI (Rn G d 27 [.ref 79, .int s0] σ) fun v2 σ1 => Lq G d M_26 (15, [some (.ref 78), some (.int x1)], [.int v2], σ1) :=
  (aUn_eq (tkd G.1 G.2) tmi (aRun (tkd G.1 G.2) tmi tmt d) M_26 [] 1 (12, [some (.ref 78), some (.int x1)], [.int s0, .ref 79], σ)).trans rfl
set_option maxRecDepth 20000 in
theorem q_26_4655 (G : Nat × (Nat → Int32)) (d : Nat) (x1 : Int32) (s0 : Int32) (σ : aH) : Lq G d M_26 (15, [some (.ref 78), some (.int x1)], [.int s0], σ) = aNar .char (s0) (some (.inl (some (.int s0)), σ)) :=
  (aUn_eq (tkd G.1 G.2) tmi (aRun (tkd G.1 G.2) tmi tmt d) M_26 [] 1 (15, [some (.ref 78), some (.int x1)], [.int s0], σ)).trans rfl
set_option maxRecDepth 20000 in
theorem q_26_4656 (G : Nat × (Nat → Int32)) (d : Nat) (x1 : Int32) (σ : aH) : Lq G d M_26 (0, [some (.ref 80), some (.int x1)], [], σ) = Lq G d M_26 (1, [some (.ref 80), some (.int x1)], [.ref 80], σ) :=
  (aUn_eq (tkd G.1 G.2) tmi (aRun (tkd G.1 G.2) tmi tmt d) M_26 [] 1 (0, [some (.ref 80), some (.int x1)], [], σ)).trans rfl
set_option maxRecDepth 20000 in
theorem q_26_4657 (G : Nat × (Nat → Int32)) (d : Nat) (x1 : Int32) (σ : aH) : Lq G d M_26 (1, [some (.ref 80), some (.int x1)], [.ref 80], σ) = aCI (Rn G d 14 [.ref 80] σ) fun v2 σ1 => Lq G d M_26 (4, [some (.ref 80), some (.int x1)], [.int v2], σ1) :=
  (aUn_eq (tkd G.1 G.2) tmi (aRun (tkd G.1 G.2) tmi tmt d) M_26 [] 1 (1, [some (.ref 80), some (.int x1)], [.ref 80], σ)).trans rfl
set_option maxRecDepth 20000 in
theorem q_26_4658 (G : Nat × (Nat → Int32)) (d : Nat) (x1 : Int32) (s0 : Int32) (σ : aH) : Lq G d M_26 (4, [some (.ref 80), some (.int x1)], [.int s0], σ) = if s0 = 0 then Lq G d M_26 (16, [some (.ref 80), some (.int x1)], [], σ) else Lq G d M_26 (7, [some (.ref 80), some (.int x1)], [], σ) :=
  (aUn_eq (tkd G.1 G.2) tmi (aRun (tkd G.1 G.2) tmi tmt d) M_26 [] 1 (4, [some (.ref 80), some (.int x1)], [.int s0], σ)).trans rfl
set_option maxRecDepth 20000 in
theorem q_26_4659 (G : Nat × (Nat → Int32)) (d : Nat) (x1 : Int32) (σ : aH) : Lq G d M_26 (16, [some (.ref 80), some (.int x1)], [], σ) = Lq G d M_26 (21, [some (.ref 80), some (.int x1)], [.int x1, .ref 81], σ) :=
  (aUn_eq (tkd G.1 G.2) tmi (aRun (tkd G.1 G.2) tmi tmt d) M_26 [] 3 (16, [some (.ref 80), some (.int x1)], [], σ)).trans rfl
set_option maxRecDepth 20000 in
theorem q_26_4660 (G : Nat × (Nat → Int32)) (d : Nat) (x1 : Int32) (s0 : Int32) (σ : aH) : Lq G d M_26 (21, [some (.ref 80), some (.int x1)], [.int s0, .ref 81], σ) = none :=
  (aUn_eq (tkd G.1 G.2) tmi (aRun (tkd G.1 G.2) tmi tmt d) M_26 [] 1 (21, [some (.ref 80), some (.int x1)], [.int s0, .ref 81], σ)).trans rfl
set_option maxRecDepth 20000 in
theorem q_26_4661 (G : Nat × (Nat → Int32)) (d : Nat) (x1 : Int32) (σ : aH) : Lq G d M_26 (7, [some (.ref 80), some (.int x1)], [], σ) = Lq G d M_26 (12, [some (.ref 80), some (.int x1)], [.int x1, .ref 81], σ) :=
  (aUn_eq (tkd G.1 G.2) tmi (aRun (tkd G.1 G.2) tmi tmt d) M_26 [] 3 (7, [some (.ref 80), some (.int x1)], [], σ)).trans rfl
set_option maxRecDepth 20000 in
theorem q_26_4662 (G : Nat × (Nat → Int32)) (d : Nat) (x1 : Int32) (s0 : Int32) (σ : aH) : Lq G d M_26 (12, [some (.ref 80), some (.int x1)], [.int s0, .ref 81], σ) = aCI (Rn G d 27 [.ref 81, .int s0] σ) fun v2 σ1 => Lq G d M_26 (15, [some (.ref 80), some (.int x1)], [.int v2], σ1) :=
  (aUn_eq (tkd G.1 G.2) tmi (aRun (tkd G.1 G.2) tmi tmt d) M_26 [] 1 (12, [some (.ref 80), some (.int x1)], [.int s0, .ref 81], σ)).trans rfl
set_option maxRecDepth 20000 in
theorem q_26_4663 (G : Nat × (Nat → Int32)) (d : Nat) (x1 : Int32) (s0 : Int32) (σ : aH) : Lq G d M_26 (15, [some (.ref 80), some (.int x1)], [.int s0], σ) = aNar .char (s0) (some (.inl (some (.int s0)), σ)) :=
  (aUn_eq (tkd G.1 G.2) tmi (aRun (tkd G.1 G.2) tmi tmt d) M_26 [] 1 (15, [some (.ref 80), some (.int x1)], [.int s0], σ)).trans rfl
set_option maxRecDepth 20000 in
theorem q_26_4664 (G : Nat × (Nat → Int32)) (d : Nat) (x1 : Int32) (σ : aH) : Lq G d M_26 (0, [some (.ref 82), some (.int x1)], [], σ) = Lq G d M_26 (1, [some (.ref 82), some (.int x1)], [.ref 82], σ) :=
  (aUn_eq (tkd G.1 G.2) tmi (aRun (tkd G.1 G.2) tmi tmt d) M_26 [] 1 (0, [some (.ref 82), some (.int x1)], [], σ)).trans rfl
set_option maxRecDepth 20000 in
theorem q_26_4665 (G : Nat × (Nat → Int32)) (d : Nat) (x1 : Int32) (σ : aH) : Lq G d M_26 (1, [some (.ref 82), some (.int x1)], [.ref 82], σ) = aCI (Rn G d 14 [.ref 82] σ) fun v2 σ1 => Lq G d M_26 (4, [some (.ref 82), some (.int x1)], [.int v2], σ1) :=
  (aUn_eq (tkd G.1 G.2) tmi (aRun (tkd G.1 G.2) tmi tmt d) M_26 [] 1 (1, [some (.ref 82), some (.int x1)], [.ref 82], σ)).trans rfl
set_option maxRecDepth 20000 in
theorem q_26_4666 (G : Nat × (Nat → Int32)) (d : Nat) (x1 : Int32) (s0 : Int32) (σ : aH) : Lq G d M_26 (4, [some (.ref 82), some (.int x1)], [.int s0], σ) = if s0 = 0 then Lq G d M_26 (16, [some (.ref 82), some (.int x1)], [], σ) else Lq G d M_26 (7, [some (.ref 82), some (.int x1)], [], σ) :=
  (aUn_eq (tkd G.1 G.2) tmi (aRun (tkd G.1 G.2) tmi tmt d) M_26 [] 1 (4, [some (.ref 82), some (.int x1)], [.int s0], σ)).trans rfl
set_option maxRecDepth 20000 in
theorem q_26_4667 (G : Nat × (Nat → Int32)) (d : Nat) (x1 : Int32) (σ : aH) : Lq G d M_26 (16, [some (.ref 82), some (.int x1)], [], σ) = Lq G d M_26 (21, [some (.ref 82), some (.int x1)], [.int x1, .ref 83], σ) :=
  (aUn_eq (tkd G.1 G.2) tmi (aRun (tkd G.1 G.2) tmi tmt d) M_26 [] 3 (16, [some (.ref 82), some (.int x1)], [], σ)).trans rfl
set_option maxRecDepth 20000 in
theorem q_26_4668 (G : Nat × (Nat → Int32)) (d : Nat) (x1 : Int32) (s0 : Int32) (σ : aH) : Lq G d M_26 (21, [some (.ref 82), some (.int x1)], [.int s0, .ref 83], σ) = none :=
  (aUn_eq (tkd G.1 G.2) tmi (aRun (tkd G.1 G.2) tmi tmt d) M_26 [] 1 (21, [some (.ref 82), some (.int x1)], [.int s0, .ref 83], σ)).trans rfl
set_option maxRecDepth 20000 in
theorem q_26_4669 (G : Nat × (Nat → Int32)) (d : Nat) (x1 : Int32) (σ : aH) : Lq G d M_26 (7, [some (.ref 82), some (.int x1)], [], σ) = Lq G d M_26 (12, [some (.ref 82), some (.int x1)], [.int x1, .ref 83], σ) :=
  (aUn_eq (tkd G.1 G.2) tmi (aRun (tkd G.1 G.2) tmi tmt d) M_26 [] 3 (7, [some (.ref 82), some (.int x1)], [], σ)).trans rfl
set_option maxRecDepth 20000 in
theorem q_26_4670 (G : Nat × (Nat → Int32)) (d : Nat) (x1 : Int32) (s0 : Int32) (σ : aH) : Lq G d M_26 (12, [some (.ref 82), some (.int x1)], [.int s0, .ref 83], σ) = aCI (Rn G d 27 [.ref 83, .int s0] σ) fun v2 σ1 => Lq G d M_26 (15, [some (.ref 82), some (.int x1)], [.int v2], σ1) :=
  (aUn_eq (tkd G.1 G.2) tmi (aRun (tkd G.1 G.2) tmi tmt d) M_26 [] 1 (12, [some (.ref 82), some (.int x1)], [.int s0, .ref 83], σ)).trans rfl
set_option maxRecDepth 20000 in
theorem q_26_4671 (G : Nat × (Nat → Int32)) (d : Nat) (x1 : Int32) (s0 : Int32) (σ : aH) : Lq G d M_26 (15, [some (.ref 82), some (.int x1)], [.int s0], σ) = aNar .char (s0) (some (.inl (some (.int s0)), σ)) :=
  (aUn_eq (tkd G.1 G.2) tmi (aRun (tkd G.1 G.2) tmi tmt d) M_26 [] 1 (15, [some (.ref 82), some (.int x1)], [.int s0], σ)).trans rfl
set_option maxRecDepth 20000 in
theorem q_26_4672 (G : Nat × (Nat → Int32)) (d : Nat) (x1 : Int32) (σ : aH) : Lq G d M_26 (0, [some (.ref 84), some (.int x1)], [], σ) = Lq G d M_26 (1, [some (.ref 84), some (.int x1)], [.ref 84], σ) :=
  (aUn_eq (tkd G.1 G.2) tmi (aRun (tkd G.1 G.2) tmi tmt d) M_26 [] 1 (0, [some (.ref 84), some (.int x1)], [], σ)).trans rfl
set_option maxRecDepth 20000 in
theorem q_26_4673 (G : Nat × (Nat → Int32)) (d : Nat) (x1 : Int32) (σ : aH) : Lq G d M_26 (1, [some (.ref 84), some (.int x1)], [.ref 84], σ) = aCI (Rn G d 14 [.ref 84] σ) fun v2 σ1 => Lq G d M_26 (4, [some (.ref 84), some (.int x1)], [.int v2], σ1) :=
  (aUn_eq (tkd G.1 G.2) tmi (aRun (tkd G.1 G.2) tmi tmt d) M_26 [] 1 (1, [some (.ref 84), some (.int x1)], [.ref 84], σ)).trans rfl
set_option maxRecDepth 20000 in
theorem q_26_4674 (G : Nat × (Nat → Int32)) (d : Nat) (x1 : Int32) (s0 : Int32) (σ : aH) : Lq G d M_26 (4, [some (.ref 84), some (.int x1)], [.int s0], σ) = if s0 = 0 then Lq G d M_26 (16, [some (.ref 84), some (.int x1)], [], σ) else Lq G d M_26 (7, [some (.ref 84), some (.int x1)], [], σ) :=
  (aUn_eq (tkd G.1 G.2) tmi (aRun (tkd G.1 G.2) tmi tmt d) M_26 [] 1 (4, [some (.ref 84), some (.int x1)], [.int s0], σ)).trans rfl
set_option maxRecDepth 20000 in
theorem q_26_4675 (G : Nat × (Nat → Int32)) (d : Nat) (x1 : Int32) (σ : aH) : Lq G d M_26 (16, [some (.ref 84), some (.int x1)], [], σ) = Lq G d M_26 (21, [some (.ref 84), some (.int x1)], [.int x1, .ref 85], σ) :=
  (aUn_eq (tkd G.1 G.2) tmi (aRun (tkd G.1 G.2) tmi tmt d) M_26 [] 3 (16, [some (.ref 84), some (.int x1)], [], σ)).trans rfl
set_option maxRecDepth 20000 in
theorem q_26_4676 (G : Nat × (Nat → Int32)) (d : Nat) (x1 : Int32) (s0 : Int32) (σ : aH) : Lq G d M_26 (21, [some (.ref 84), some (.int x1)], [.int s0, .ref 85], σ) = none :=
  (aUn_eq (tkd G.1 G.2) tmi (aRun (tkd G.1 G.2) tmi tmt d) M_26 [] 1 (21, [some (.ref 84), some (.int x1)], [.int s0, .ref 85], σ)).trans rfl
set_option maxRecDepth 20000 in
theorem q_26_4677 (G : Nat × (Nat → Int32)) (d : Nat) (x1 : Int32) (σ : aH) : Lq G d M_26 (7, [some (.ref 84), some (.int x1)], [], σ) = Lq G d M_26 (12, [some (.ref 84), some (.int x1)], [.int x1, .ref 85], σ) :=
  (aUn_eq (tkd G.1 G.2) tmi (aRun (tkd G.1 G.2) tmi tmt d) M_26 [] 3 (7, [some (.ref 84), some (.int x1)], [], σ)).trans rfl
set_option maxRecDepth 20000 in
theorem q_26_4678 (G : Nat × (Nat → Int32)) (d : Nat) (x1 : Int32) (s0 : Int32) (σ : aH) : Lq G d M_26 (12, [some (.ref 84), some (.int x1)], [.int s0, .ref 85], σ) = aCI (Rn G d 27 [.ref 85, .int s0] σ) fun v2 σ1 => Lq G d M_26 (15, [some (.ref 84), some (.int x1)], [.int v2], σ1) :=
  (aUn_eq (tkd G.1 G.2) tmi (aRun (tkd G.1 G.2) tmi tmt d) M_26 [] 1 (12, [some (.ref 84), some (.int x1)], [.int s0, .ref 85], σ)).trans rfl
set_option maxRecDepth 20000 in
theorem q_26_4679 (G : Nat × (Nat → Int32)) (d : Nat) (x1 : Int32) (s0 : Int32) (σ : aH) : Lq G d M_26 (15, [some (.ref 84), some (.int x1)], [.int s0], σ) = aNar .char (s0) (some (.inl (some (.int s0)), σ)) :=
  (aUn_eq (tkd G.1 G.2) tmi (aRun (tkd G.1 G.2) tmi tmt d) M_26 [] 1 (15, [some (.ref 84), some (.int x1)], [.int s0], σ)).trans rfl
set_option maxRecDepth 20000 in
theorem q_26_4680 (G : Nat × (Nat → Int32)) (d : Nat) (x1 : Int32) (σ : aH) : Lq G d M_26 (0, [some (.ref 86), some (.int x1)], [], σ) = Lq G d M_26 (1, [some (.ref 86), some (.int x1)], [.ref 86], σ) :=
  (aUn_eq (tkd G.1 G.2) tmi (aRun (tkd G.1 G.2) tmi tmt d) M_26 [] 1 (0, [some (.ref 86), some (.int x1)], [], σ)).trans rfl
set_option maxRecDepth 20000 in
theorem q_26_4681 (G : Nat × (Nat → Int32)) (d : Nat) (x1 : Int32) (σ : aH) : Lq G d M_26 (1, [some (.ref 86), some (.int x1)], [.ref 86], σ) = aCI (Rn G d 14 [.ref 86] σ) fun v2 σ1 => Lq G d M_26 (4, [some (.ref 86), some (.int x1)], [.int v2], σ1) :=
  (aUn_eq (tkd G.1 G.2) tmi (aRun (tkd G.1 G.2) tmi tmt d) M_26 [] 1 (1, [some (.ref 86), some (.int x1)], [.ref 86], σ)).trans rfl
set_option maxRecDepth 20000 in
theorem q_26_4682 (G : Nat × (Nat → Int32)) (d : Nat) (x1 : Int32) (s0 : Int32) (σ : aH) : Lq G d M_26 (4, [some (.ref 86), some (.int x1)], [.int s0], σ) = if s0 = 0 then Lq G d M_26 (16, [some (.ref 86), some (.int x1)], [], σ) else Lq G d M_26 (7, [some (.ref 86), some (.int x1)], [], σ) :=
  (aUn_eq (tkd G.1 G.2) tmi (aRun (tkd G.1 G.2) tmi tmt d) M_26 [] 1 (4, [some (.ref 86), some (.int x1)], [.int s0], σ)).trans rfl
set_option maxRecDepth 20000 in
theorem q_26_4683 (G : Nat × (Nat → Int32)) (d : Nat) (x1 : Int32) (σ : aH) : Lq G d M_26 (16, [some (.ref 86), some (.int x1)], [], σ) = Lq G d M_26 (21, [some (.ref 86), some (.int x1)], [.int x1, .ref 87], σ) :=
  (aUn_eq (tkd G.1 G.2) tmi (aRun (tkd G.1 G.2) tmi tmt d) M_26 [] 3 (16, [some (.ref 86), some (.int x1)], [], σ)).trans rfl
set_option maxRecDepth 20000 in
theorem q_26_4684 (G : Nat × (Nat → Int32)) (d : Nat) (x1 : Int32) (s0 : Int32) (σ : aH) : Lq G d M_26 (21, [some (.ref 86), some (.int x1)], [.int s0, .ref 87], σ) = none :=
  (aUn_eq (tkd G.1 G.2) tmi (aRun (tkd G.1 G.2) tmi tmt d) M_26 [] 1 (21, [some (.ref 86), some (.int x1)], [.int s0, .ref 87], σ)).trans rfl
set_option maxRecDepth 20000 in
theorem q_26_4685 (G : Nat × (Nat → Int32)) (d : Nat) (x1 : Int32) (σ : aH) : Lq G d M_26 (7, [some (.ref 86), some (.int x1)], [], σ) = Lq G d M_26 (12, [some (.ref 86), some (.int x1)], [.int x1, .ref 87], σ) :=
  (aUn_eq (tkd G.1 G.2) tmi (aRun (tkd G.1 G.2) tmi tmt d) M_26 [] 3 (7, [some (.ref 86), some (.int x1)], [], σ)).trans rfl
set_option maxRecDepth 20000 in
theorem q_26_4686 (G : Nat × (Nat → Int32)) (d : Nat) (x1 : Int32) (s0 : Int32) (σ : aH) : Lq G d M_26 (12, [some (.ref 86), some (.int x1)], [.int s0, .ref 87], σ) = aCI (Rn G d 27 [.ref 87, .int s0] σ) fun v2 σ1 => Lq G d M_26 (15, [some (.ref 86), some (.int x1)], [.int v2], σ1) :=
  (aUn_eq (tkd G.1 G.2) tmi (aRun (tkd G.1 G.2) tmi tmt d) M_26 [] 1 (12, [some (.ref 86), some (.int x1)], [.int s0, .ref 87], σ)).trans rfl
set_option maxRecDepth 20000 in
theorem q_26_4687 (G : Nat × (Nat → Int32)) (d : Nat) (x1 : Int32) (s0 : Int32) (σ : aH) : Lq G d M_26 (15, [some (.ref 86), some (.int x1)], [.int s0], σ) = aNar .char (s0) (some (.inl (some (.int s0)), σ)) :=
  (aUn_eq (tkd G.1 G.2) tmi (aRun (tkd G.1 G.2) tmi tmt d) M_26 [] 1 (15, [some (.ref 86), some (.int x1)], [.int s0], σ)).trans rfl
set_option maxRecDepth 20000 in
theorem q_26_4688 (G : Nat × (Nat → Int32)) (d : Nat) (x1 : Int32) (σ : aH) : Lq G d M_26 (0, [some (.ref 88), some (.int x1)], [], σ) = Lq G d M_26 (1, [some (.ref 88), some (.int x1)], [.ref 88], σ) :=
  (aUn_eq (tkd G.1 G.2) tmi (aRun (tkd G.1 G.2) tmi tmt d) M_26 [] 1 (0, [some (.ref 88), some (.int x1)], [], σ)).trans rfl
set_option maxRecDepth 20000 in
theorem q_26_4689 (G : Nat × (Nat → Int32)) (d : Nat) (x1 : Int32) (σ : aH) : Lq G d M_26 (1, [some (.ref 88), some (.int x1)], [.ref 88], σ) = aCI (Rn G d 14 [.ref 88] σ) fun v2 σ1 => Lq G d M_26 (4, [some (.ref 88), some (.int x1)], [.int v2], σ1) :=
  (aUn_eq (tkd G.1 G.2) tmi (aRun (tkd G.1 G.2) tmi tmt d) M_26 [] 1 (1, [some (.ref 88), some (.int x1)], [.ref 88], σ)).trans rfl
set_option maxRecDepth 20000 in
theorem q_26_4690 (G : Nat × (Nat → Int32)) (d : Nat) (x1 : Int32) (s0 : Int32) (σ : aH) : Lq G d M_26 (4, [some (.ref 88), some (.int x1)], [.int s0], σ) = if s0 = 0 then Lq G d M_26 (16, [some (.ref 88), some (.int x1)], [], σ) else Lq G d M_26 (7, [some (.ref 88), some (.int x1)], [], σ) :=
  (aUn_eq (tkd G.1 G.2) tmi (aRun (tkd G.1 G.2) tmi tmt d) M_26 [] 1 (4, [some (.ref 88), some (.int x1)], [.int s0], σ)).trans rfl
set_option maxRecDepth 20000 in
theorem q_26_4691 (G : Nat × (Nat → Int32)) (d : Nat) (x1 : Int32) (σ : aH) : Lq G d M_26 (16, [some (.ref 88), some (.int x1)], [], σ) = Lq G d M_26 (21, [some (.ref 88), some (.int x1)], [.int x1, .ref 89], σ) :=
  (aUn_eq (tkd G.1 G.2) tmi (aRun (tkd G.1 G.2) tmi tmt d) M_26 [] 3 (16, [some (.ref 88), some (.int x1)], [], σ)).trans rfl
set_option maxRecDepth 20000 in
theorem q_26_4692 (G : Nat × (Nat → Int32)) (d : Nat) (x1 : Int32) (s0 : Int32) (σ : aH) : Lq G d M_26 (21, [some (.ref 88), some (.int x1)], [.int s0, .ref 89], σ) = none :=
  (aUn_eq (tkd G.1 G.2) tmi (aRun (tkd G.1 G.2) tmi tmt d) M_26 [] 1 (21, [some (.ref 88), some (.int x1)], [.int s0, .ref 89], σ)).trans rfl
set_option maxRecDepth 20000 in
theorem q_26_4693 (G : Nat × (Nat → Int32)) (d : Nat) (x1 : Int32) (σ : aH) : Lq G d M_26 (7, [some (.ref 88), some (.int x1)], [], σ) = Lq G d M_26 (12, [some (.ref 88), some (.int x1)], [.int x1, .ref 89], σ) :=
  (aUn_eq (tkd G.1 G.2) tmi (aRun (tkd G.1 G.2) tmi tmt d) M_26 [] 3 (7, [some (.ref 88), some (.int x1)], [], σ)).trans rfl
set_option maxRecDepth 20000 in
theorem q_26_4694 (G : Nat × (Nat → Int32)) (d : Nat) (x1 : Int32) (s0 : Int32) (σ : aH) : Lq G d M_26 (12, [some (.ref 88), some (.int x1)], [.int s0, .ref 89], σ) = aCI (Rn G d 27 [.ref 89, .int s0] σ) fun v2 σ1 => Lq G d M_26 (15, [some (.ref 88), some (.int x1)], [.int v2], σ1) :=
  (aUn_eq (tkd G.1 G.2) tmi (aRun (tkd G.1 G.2) tmi tmt d) M_26 [] 1 (12, [some (.ref 88), some (.int x1)], [.int s0, .ref 89], σ)).trans rfl
set_option maxRecDepth 20000 in
theorem q_26_4695 (G : Nat × (Nat → Int32)) (d : Nat) (x1 : Int32) (s0 : Int32) (σ : aH) : Lq G d M_26 (15, [some (.ref 88), some (.int x1)], [.int s0], σ) = aNar .char (s0) (some (.inl (some (.int s0)), σ)) :=
  (aUn_eq (tkd G.1 G.2) tmi (aRun (tkd G.1 G.2) tmi tmt d) M_26 [] 1 (15, [some (.ref 88), some (.int x1)], [.int s0], σ)).trans rfl
set_option maxRecDepth 20000 in
theorem q_26_4696 (G : Nat × (Nat → Int32)) (d : Nat) (x1 : Int32) (σ : aH) : Lq G d M_26 (0, [some (.ref 90), some (.int x1)], [], σ) = Lq G d M_26 (1, [some (.ref 90), some (.int x1)], [.ref 90], σ) :=
  (aUn_eq (tkd G.1 G.2) tmi (aRun (tkd G.1 G.2) tmi tmt d) M_26 [] 1 (0, [some (.ref 90), some (.int x1)], [], σ)).trans rfl
set_option maxRecDepth 20000 in
theorem q_26_4697 (G : Nat × (Nat → Int32)) (d : Nat) (x1 : Int32) (σ : aH) : Lq G d M_26 (1, [some (.ref 90), some (.int x1)], [.ref 90], σ) = aCI (Rn G d 14 [.ref 90] σ) fun v2 σ1 => Lq G d M_26 (4, [some (.ref 90), some (.int x1)], [.int v2], σ1) :=
  (aUn_eq (tkd G.1 G.2) tmi (aRun (tkd G.1 G.2) tmi tmt d) M_26 [] 1 (1, [some (.ref 90), some (.int x1)], [.ref 90], σ)).trans rfl
set_option maxRecDepth 20000 in
theorem q_26_4698 (G : Nat × (Nat → Int32)) (d : Nat) (x1 : Int32) (s0 : Int32) (σ : aH) : Lq G d M_26 (4, [some (.ref 90), some (.int x1)], [.int s0], σ) = if s0 = 0 then Lq G d M_26 (16, [some (.ref 90), some (.int x1)], [], σ) else Lq G d M_26 (7, [some (.ref 90), some (.int x1)], [], σ) :=
  (aUn_eq (tkd G.1 G.2) tmi (aRun (tkd G.1 G.2) tmi tmt d) M_26 [] 1 (4, [some (.ref 90), some (.int x1)], [.int s0], σ)).trans rfl
set_option maxRecDepth 20000 in
theorem q_26_4699 (G : Nat × (Nat → Int32)) (d : Nat) (x1 : Int32) (σ : aH) : Lq G d M_26 (16, [some (.ref 90), some (.int x1)], [], σ) = Lq G d M_26 (21, [some (.ref 90), some (.int x1)], [.int x1, .ref 91], σ) :=
  (aUn_eq (tkd G.1 G.2) tmi (aRun (tkd G.1 G.2) tmi tmt d) M_26 [] 3 (16, [some (.ref 90), some (.int x1)], [], σ)).trans rfl
set_option maxRecDepth 20000 in
theorem q_26_4700 (G : Nat × (Nat → Int32)) (d : Nat) (x1 : Int32) (s0 : Int32) (σ : aH) : Lq G d M_26 (21, [some (.ref 90), some (.int x1)], [.int s0, .ref 91], σ) = none :=
  (aUn_eq (tkd G.1 G.2) tmi (aRun (tkd G.1 G.2) tmi tmt d) M_26 [] 1 (21, [some (.ref 90), some (.int x1)], [.int s0, .ref 91], σ)).trans rfl
set_option maxRecDepth 20000 in
theorem q_26_4701 (G : Nat × (Nat → Int32)) (d : Nat) (x1 : Int32) (σ : aH) : Lq G d M_26 (7, [some (.ref 90), some (.int x1)], [], σ) = Lq G d M_26 (12, [some (.ref 90), some (.int x1)], [.int x1, .ref 91], σ) :=
  (aUn_eq (tkd G.1 G.2) tmi (aRun (tkd G.1 G.2) tmi tmt d) M_26 [] 3 (7, [some (.ref 90), some (.int x1)], [], σ)).trans rfl
set_option maxRecDepth 20000 in
theorem q_26_4702 (G : Nat × (Nat → Int32)) (d : Nat) (x1 : Int32) (s0 : Int32) (σ : aH) : Lq G d M_26 (12, [some (.ref 90), some (.int x1)], [.int s0, .ref 91], σ) = aCI (Rn G d 27 [.ref 91, .int s0] σ) fun v2 σ1 => Lq G d M_26 (15, [some (.ref 90), some (.int x1)], [.int v2], σ1) :=
  (aUn_eq (tkd G.1 G.2) tmi (aRun (tkd G.1 G.2) tmi tmt d) M_26 [] 1 (12, [some (.ref 90), some (.int x1)], [.int s0, .ref 91], σ)).trans rfl
set_option maxRecDepth 20000 in
theorem q_26_4703 (G : Nat × (Nat → Int32)) (d : Nat) (x1 : Int32) (s0 : Int32) (σ : aH) : Lq G d M_26 (15, [some (.ref 90), some (.int x1)], [.int s0], σ) = aNar .char (s0) (some (.inl (some (.int s0)), σ)) :=
  (aUn_eq (tkd G.1 G.2) tmi (aRun (tkd G.1 G.2) tmi tmt d) M_26 [] 1 (15, [some (.ref 90), some (.int x1)], [.int s0], σ)).trans rfl
set_option maxRecDepth 20000 in
theorem q_26_4704 (G : Nat × (Nat → Int32)) (d : Nat) (x1 : Int32) (σ : aH) : Lq G d M_26 (0, [some (.ref 92), some (.int x1)], [], σ) = Lq G d M_26 (1, [some (.ref 92), some (.int x1)], [.ref 92], σ) :=
  (aUn_eq (tkd G.1 G.2) tmi (aRun (tkd G.1 G.2) tmi tmt d) M_26 [] 1 (0, [some (.ref 92), some (.int x1)], [], σ)).trans rfl
set_option maxRecDepth 20000 in
theorem q_26_4705 (G : Nat × (Nat → Int32)) (d : Nat) (x1 : Int32) (σ : aH) : Lq G d M_26 (1, [some (.ref 92), some (.int x1)], [.ref 92], σ) = aCI (Rn G d 14 [.ref 92] σ) fun v2 σ1 => Lq G d M_26 (4, [some (.ref 92), some (.int x1)], [.int v2], σ1) :=
  (aUn_eq (tkd G.1 G.2) tmi (aRun (tkd G.1 G.2) tmi tmt d) M_26 [] 1 (1, [some (.ref 92), some (.int x1)], [.ref 92], σ)).trans rfl
set_option maxRecDepth 20000 in
theorem q_26_4706 (G : Nat × (Nat → Int32)) (d : Nat) (x1 : Int32) (s0 : Int32) (σ : aH) : Lq G d M_26 (4, [some (.ref 92), some (.int x1)], [.int s0], σ) = if s0 = 0 then Lq G d M_26 (16, [some (.ref 92), some (.int x1)], [], σ) else Lq G d M_26 (7, [some (.ref 92), some (.int x1)], [], σ) :=
  (aUn_eq (tkd G.1 G.2) tmi (aRun (tkd G.1 G.2) tmi tmt d) M_26 [] 1 (4, [some (.ref 92), some (.int x1)], [.int s0], σ)).trans rfl
set_option maxRecDepth 20000 in
theorem q_26_4707 (G : Nat × (Nat → Int32)) (d : Nat) (x1 : Int32) (σ : aH) : Lq G d M_26 (16, [some (.ref 92), some (.int x1)], [], σ) = Lq G d M_26 (21, [some (.ref 92), some (.int x1)], [.int x1, .ref 93], σ) :=
  (aUn_eq (tkd G.1 G.2) tmi (aRun (tkd G.1 G.2) tmi tmt d) M_26 [] 3 (16, [some (.ref 92), some (.int x1)], [], σ)).trans rfl
set_option maxRecDepth 20000 in
theorem q_26_4708 (G : Nat × (Nat → Int32)) (d : Nat) (x1 : Int32) (s0 : Int32) (σ : aH) : Lq G d M_26 (21, [some (.ref 92), some (.int x1)], [.int s0, .ref 93], σ) = none :=
  (aUn_eq (tkd G.1 G.2) tmi (aRun (tkd G.1 G.2) tmi tmt d) M_26 [] 1 (21, [some (.ref 92), some (.int x1)], [.int s0, .ref 93], σ)).trans rfl
set_option maxRecDepth 20000 in
theorem q_26_4709 (G : Nat × (Nat → Int32)) (d : Nat) (x1 : Int32) (σ : aH) : Lq G d M_26 (7, [some (.ref 92), some (.int x1)], [], σ) = Lq G d M_26 (12, [some (.ref 92), some (.int x1)], [.int x1, .ref 93], σ) :=
  (aUn_eq (tkd G.1 G.2) tmi (aRun (tkd G.1 G.2) tmi tmt d) M_26 [] 3 (7, [some (.ref 92), some (.int x1)], [], σ)).trans rfl
set_option maxRecDepth 20000 in
theorem q_26_4710 (G : Nat × (Nat → Int32)) (d : Nat) (x1 : Int32) (s0 : Int32) (σ : aH) : Lq G d M_26 (12, [some (.ref 92), some (.int x1)], [.int s0, .ref 93], σ) = aCI (Rn G d 27 [.ref 93, .int s0] σ) fun v2 σ1 => Lq G d M_26 (15, [some (.ref 92), some (.int x1)], [.int v2], σ1) :=
  (aUn_eq (tkd G.1 G.2) tmi (aRun (tkd G.1 G.2) tmi tmt d) M_26 [] 1 (12, [some (.ref 92), some (.int x1)], [.int s0, .ref 93], σ)).trans rfl
set_option maxRecDepth 20000 in
theorem q_26_4711 (G : Nat × (Nat → Int32)) (d : Nat) (x1 : Int32) (s0 : Int32) (σ : aH) : Lq G d M_26 (15, [some (.ref 92), some (.int x1)], [.int s0], σ) = aNar .char (s0) (some (.inl (some (.int s0)), σ)) :=
  (aUn_eq (tkd G.1 G.2) tmi (aRun (tkd G.1 G.2) tmi tmt d) M_26 [] 1 (15, [some (.ref 92), some (.int x1)], [.int s0], σ)).trans rfl
set_option maxRecDepth 20000 in
theorem q_26_4712 (G : Nat × (Nat → Int32)) (d : Nat) (x1 : Int32) (σ : aH) : Lq G d M_26 (0, [some (.ref 94), some (.int x1)], [], σ) = Lq G d M_26 (1, [some (.ref 94), some (.int x1)], [.ref 94], σ) :=
  (aUn_eq (tkd G.1 G.2) tmi (aRun (tkd G.1 G.2) tmi tmt d) M_26 [] 1 (0, [some (.ref 94), some (.int x1)], [], σ)).trans rfl
set_option maxRecDepth 20000 in
theorem q_26_4713 (G : Nat × (Nat → Int32)) (d : Nat) (x1 : Int32) (σ : aH) : Lq G d M_26 (1, [some (.ref 94), some (.int x1)], [.ref 94], σ) = aCI (Rn G d 14 [.ref 94] σ) fun v2 σ1 => Lq G d M_26 (4, [some (.ref 94), some (.int x1)], [.int v2], σ1) :=
  (aUn_eq (tkd G.1 G.2) tmi (aRun (tkd G.1 G.2) tmi tmt d) M_26 [] 1 (1, [some (.ref 94), some (.int x1)], [.ref 94], σ)).trans rfl
set_option maxRecDepth 20000 in
theorem q_26_4714 (G : Nat × (Nat → Int32)) (d : Nat) (x1 : Int32) (s0 : Int32) (σ : aH) : Lq G d M_26 (4, [some (.ref 94), some (.int x1)], [.int s0], σ) = if s0 = 0 then Lq G d M_26 (16, [some (.ref 94), some (.int x1)], [], σ) else Lq G d M_26 (7, [some (.ref 94), some (.int x1)], [], σ) :=
  (aUn_eq (tkd G.1 G.2) tmi (aRun (tkd G.1 G.2) tmi tmt d) M_26 [] 1 (4, [some (.ref 94), some (.int x1)], [.int s0], σ)).trans rfl
set_option maxRecDepth 20000 in
theorem q_26_4715 (G : Nat × (Nat → Int32)) (d : Nat) (x1 : Int32) (σ : aH) : Lq G d M_26 (16, [some (.ref 94), some (.int x1)], [], σ) = Lq G d M_26 (21, [some (.ref 94), some (.int x1)], [.int x1, .ref 95], σ) :=
  (aUn_eq (tkd G.1 G.2) tmi (aRun (tkd G.1 G.2) tmi tmt d) M_26 [] 3 (16, [some (.ref 94), some (.int x1)], [], σ)).trans rfl
set_option maxRecDepth 20000 in
theorem q_26_4716 (G : Nat × (Nat → Int32)) (d : Nat) (x1 : Int32) (s0 : Int32) (σ : aH) : Lq G d M_26 (21, [some (.ref 94), some (.int x1)], [.int s0, .ref 95], σ) = none :=
  (aUn_eq (tkd G.1 G.2) tmi (aRun (tkd G.1 G.2) tmi tmt d) M_26 [] 1 (21, [some (.ref 94), some (.int x1)], [.int s0, .ref 95], σ)).trans rfl
set_option maxRecDepth 20000 in
theorem q_26_4717 (G : Nat × (Nat → Int32)) (d : Nat) (x1 : Int32) (σ : aH) : Lq G d M_26 (7, [some (.ref 94), some (.int x1)], [], σ) = Lq G d M_26 (12, [some (.ref 94), some (.int x1)], [.int x1, .ref 95], σ) :=
  (aUn_eq (tkd G.1 G.2) tmi (aRun (tkd G.1 G.2) tmi tmt d) M_26 [] 3 (7, [some (.ref 94), some (.int x1)], [], σ)).trans rfl
set_option maxRecDepth 20000 in
theorem q_26_4718 (G : Nat × (Nat → Int32)) (d : Nat) (x1 : Int32) (s0 : Int32) (σ : aH) : Lq G d M_26 (12, [some (.ref 94), some (.int x1)], [.int s0, .ref 95], σ) = aCI (Rn G d 27 [.ref 95, .int s0] σ) fun v2 σ1 => Lq G d M_26 (15, [some (.ref 94), some (.int x1)], [.int v2], σ1) :=
  (aUn_eq (tkd G.1 G.2) tmi (aRun (tkd G.1 G.2) tmi tmt d) M_26 [] 1 (12, [some (.ref 94), some (.int x1)], [.int s0, .ref 95], σ)).trans rfl
set_option maxRecDepth 20000 in
theorem q_26_4719 (G : Nat × (Nat → Int32)) (d : Nat) (x1 : Int32) (s0 : Int32) (σ : aH) : Lq G d M_26 (15, [some (.ref 94), some (.int x1)], [.int s0], σ) = aNar .char (s0) (some (.inl (some (.int s0)), σ)) :=
  (aUn_eq (tkd G.1 G.2) tmi (aRun (tkd G.1 G.2) tmi tmt d) M_26 [] 1 (15, [some (.ref 94), some (.int x1)], [.int s0], σ)).trans rfl
set_option maxRecDepth 20000 in
theorem q_26_4720 (G : Nat × (Nat → Int32)) (d : Nat) (x1 : Int32) (σ : aH) : Lq G d M_26 (0, [some (.ref 96), some (.int x1)], [], σ) = Lq G d M_26 (1, [some (.ref 96), some (.int x1)], [.ref 96], σ) :=
  (aUn_eq (tkd G.1 G.2) tmi (aRun (tkd G.1 G.2) tmi tmt d) M_26 [] 1 (0, [some (.ref 96), some (.int x1)], [], σ)).trans rfl
set_option maxRecDepth 20000 in
theorem q_26_4721 (G : Nat × (Nat → Int32)) (d : Nat) (x1 : Int32) (σ : aH) : Lq G d M_26 (1, [some (.ref 96), some (.int x1)], [.ref 96], σ) = aCI (Rn G d 14 [.ref 96] σ) fun v2 σ1 => Lq G d M_26 (4, [some (.ref 96), some (.int x1)], [.int v2], σ1) :=
  (aUn_eq (tkd G.1 G.2) tmi (aRun (tkd G.1 G.2) tmi tmt d) M_26 [] 1 (1, [some (.ref 96), some (.int x1)], [.ref 96], σ)).trans rfl
set_option maxRecDepth 20000 in
theorem q_26_4722 (G : Nat × (Nat → Int32)) (d : Nat) (x1 : Int32) (s0 : Int32) (σ : aH) : Lq G d M_26 (4, [some (.ref 96), some (.int x1)], [.int s0], σ) = if s0 = 0 then Lq G d M_26 (16, [some (.ref 96), some (.int x1)], [], σ) else Lq G d M_26 (7, [some (.ref 96), some (.int x1)], [], σ) :=
  (aUn_eq (tkd G.1 G.2) tmi (aRun (tkd G.1 G.2) tmi tmt d) M_26 [] 1 (4, [some (.ref 96), some (.int x1)], [.int s0], σ)).trans rfl
set_option maxRecDepth 20000 in
theorem q_26_4723 (G : Nat × (Nat → Int32)) (d : Nat) (x1 : Int32) (σ : aH) : Lq G d M_26 (16, [some (.ref 96), some (.int x1)], [], σ) = Lq G d M_26 (21, [some (.ref 96), some (.int x1)], [.int x1, .ref 97], σ) :=
  (aUn_eq (tkd G.1 G.2) tmi (aRun (tkd G.1 G.2) tmi tmt d) M_26 [] 3 (16, [some (.ref 96), some (.int x1)], [], σ)).trans rfl
set_option maxRecDepth 20000 in
theorem q_26_4724 (G : Nat × (Nat → Int32)) (d : Nat) (x1 : Int32) (s0 : Int32) (σ : aH) : Lq G d M_26 (21, [some (.ref 96), some (.int x1)], [.int s0, .ref 97], σ) = none :=
  (aUn_eq (tkd G.1 G.2) tmi (aRun (tkd G.1 G.2) tmi tmt d) M_26 [] 1 (21, [some (.ref 96), some (.int x1)], [.int s0, .ref 97], σ)).trans rfl
set_option maxRecDepth 20000 in
theorem q_26_4725 (G : Nat × (Nat → Int32)) (d : Nat) (x1 : Int32) (σ : aH) : Lq G d M_26 (7, [some (.ref 96), some (.int x1)], [], σ) = Lq G d M_26 (12, [some (.ref 96), some (.int x1)], [.int x1, .ref 97], σ) :=
  (aUn_eq (tkd G.1 G.2) tmi (aRun (tkd G.1 G.2) tmi tmt d) M_26 [] 3 (7, [some (.ref 96), some (.int x1)], [], σ)).trans rfl
set_option maxRecDepth 20000 in
theorem q_26_4726 (G : Nat × (Nat → Int32)) (d : Nat) (x1 : Int32) (s0 : Int32) (σ : aH) : Lq G d M_26 (12, [some (.ref 96), some (.int x1)], [.int s0, .ref 97], σ) = aCI (Rn G d 27 [.ref 97, .int s0] σ) fun v2 σ1 => Lq G d M_26 (15, [some (.ref 96), some (.int x1)], [.int v2], σ1) :=
  (aUn_eq (tkd G.1 G.2) tmi (aRun (tkd G.1 G.2) tmi tmt d) M_26 [] 1 (12, [some (.ref 96), some (.int x1)], [.int s0, .ref 97], σ)).trans rfl
set_option maxRecDepth 20000 in
theorem q_26_4727 (G : Nat × (Nat → Int32)) (d : Nat) (x1 : Int32) (s0 : Int32) (σ : aH) : Lq G d M_26 (15, [some (.ref 96), some (.int x1)], [.int s0], σ) = aNar .char (s0) (some (.inl (some (.int s0)), σ)) :=
  (aUn_eq (tkd G.1 G.2) tmi (aRun (tkd G.1 G.2) tmi tmt d) M_26 [] 1 (15, [some (.ref 96), some (.int x1)], [.int s0], σ)).trans rfl
set_option maxRecDepth 20000 in
theorem q_26_4728 (G : Nat × (Nat → Int32)) (d : Nat) (x1 : Int32) (σ : aH) : Lq G d M_26 (0, [some (.ref 98), some (.int x1)], [], σ) = Lq G d M_26 (1, [some (.ref 98), some (.int x1)], [.ref 98], σ) :=
  (aUn_eq (tkd G.1 G.2) tmi (aRun (tkd G.1 G.2) tmi tmt d) M_26 [] 1 (0, [some (.ref 98), some (.int x1)], [], σ)).trans rfl
set_option maxRecDepth 20000 in
theorem q_26_4729 (G : Nat × (Nat → Int32)) (d : Nat) (x1 : Int32) (σ : aH) : Lq G d M_26 (1, [some (.ref 98), some (.int x1)], [.ref 98], σ) = aCI (Rn G d 14 [.ref 98] σ) fun v2 σ1 => Lq G d M_26 (4, [some (.ref 98), some (.int x1)], [.int v2], σ1) :=
  (aUn_eq (tkd G.1 G.2) tmi (aRun (tkd G.1 G.2) tmi tmt d) M_26 [] 1 (1, [some (.ref 98), some (.int x1)], [.ref 98], σ)).trans rfl
set_option maxRecDepth 20000 in
theorem q_26_4730 (G : Nat × (Nat → Int32)) (d : Nat) (x1 : Int32) (s0 : Int32) (σ : aH) : Lq G d M_26 (4, [some (.ref 98), some (.int x1)], [.int s0], σ) = if s0 = 0 then Lq G d M_26 (16, [some (.ref 98), some (.int x1)], [], σ) else Lq G d M_26 (7, [some (.ref 98), some (.int x1)], [], σ) :=
  (aUn_eq (tkd G.1 G.2) tmi (aRun (tkd G.1 G.2) tmi tmt d) M_26 [] 1 (4, [some (.ref 98), some (.int x1)], [.int s0], σ)).trans rfl
set_option maxRecDepth 20000 in
theorem q_26_4731 (G : Nat × (Nat → Int32)) (d : Nat) (x1 : Int32) (σ : aH) : Lq G d M_26 (16, [some (.ref 98), some (.int x1)], [], σ) = Lq G d M_26 (21, [some (.ref 98), some (.int x1)], [.int x1, .ref 99], σ) :=
  (aUn_eq (tkd G.1 G.2) tmi (aRun (tkd G.1 G.2) tmi tmt d) M_26 [] 3 (16, [some (.ref 98), some (.int x1)], [], σ)).trans rfl
set_option maxRecDepth 20000 in
theorem q_26_4732 (G : Nat × (Nat → Int32)) (d : Nat) (x1 : Int32) (s0 : Int32) (σ : aH) : Lq G d M_26 (21, [some (.ref 98), some (.int x1)], [.int s0, .ref 99], σ) = none :=
  (aUn_eq (tkd G.1 G.2) tmi (aRun (tkd G.1 G.2) tmi tmt d) M_26 [] 1 (21, [some (.ref 98), some (.int x1)], [.int s0, .ref 99], σ)).trans rfl
set_option maxRecDepth 20000 in
theorem q_26_4733 (G : Nat × (Nat → Int32)) (d : Nat) (x1 : Int32) (σ : aH) : Lq G d M_26 (7, [some (.ref 98), some (.int x1)], [], σ) = Lq G d M_26 (12, [some (.ref 98), some (.int x1)], [.int x1, .ref 99], σ) :=
  (aUn_eq (tkd G.1 G.2) tmi (aRun (tkd G.1 G.2) tmi tmt d) M_26 [] 3 (7, [some (.ref 98), some (.int x1)], [], σ)).trans rfl
set_option maxRecDepth 20000 in
theorem q_26_4734 (G : Nat × (Nat → Int32)) (d : Nat) (x1 : Int32) (s0 : Int32) (σ : aH) : Lq G d M_26 (12, [some (.ref 98), some (.int x1)], [.int s0, .ref 99], σ) = aCI (Rn G d 27 [.ref 99, .int s0] σ) fun v2 σ1 => Lq G d M_26 (15, [some (.ref 98), some (.int x1)], [.int v2], σ1) :=
  (aUn_eq (tkd G.1 G.2) tmi (aRun (tkd G.1 G.2) tmi tmt d) M_26 [] 1 (12, [some (.ref 98), some (.int x1)], [.int s0, .ref 99], σ)).trans rfl
set_option maxRecDepth 20000 in
theorem q_26_4735 (G : Nat × (Nat → Int32)) (d : Nat) (x1 : Int32) (s0 : Int32) (σ : aH) : Lq G d M_26 (15, [some (.ref 98), some (.int x1)], [.int s0], σ) = aNar .char (s0) (some (.inl (some (.int s0)), σ)) :=
  (aUn_eq (tkd G.1 G.2) tmi (aRun (tkd G.1 G.2) tmi tmt d) M_26 [] 1 (15, [some (.ref 98), some (.int x1)], [.int s0], σ)).trans rfl
set_option maxRecDepth 20000 in
theorem q_26_4736 (G : Nat × (Nat → Int32)) (d : Nat) (x1 : Int32) (σ : aH) : Lq G d M_26 (0, [some (.ref 100), some (.int x1)], [], σ) = Lq G d M_26 (1, [some (.ref 100), some (.int x1)], [.ref 100], σ) :=
  (aUn_eq (tkd G.1 G.2) tmi (aRun (tkd G.1 G.2) tmi tmt d) M_26 [] 1 (0, [some (.ref 100), some (.int x1)], [], σ)).trans rfl
set_option maxRecDepth 20000 in
theorem q_26_4737 (G : Nat × (Nat → Int32)) (d : Nat) (x1 : Int32) (σ : aH) : Lq G d M_26 (1, [some (.ref 100), some (.int x1)], [.ref 100], σ) = aCI (Rn G d 14 [.ref 100] σ) fun v2 σ1 => Lq G d M_26 (4, [some (.ref 100), some (.int x1)], [.int v2], σ1) :=
  (aUn_eq (tkd G.1 G.2) tmi (aRun (tkd G.1 G.2) tmi tmt d) M_26 [] 1 (1, [some (.ref 100), some (.int x1)], [.ref 100], σ)).trans rfl
set_option maxRecDepth 20000 in
theorem q_26_4738 (G : Nat × (Nat → Int32)) (d : Nat) (x1 : Int32) (s0 : Int32) (σ : aH) : Lq G d M_26 (4, [some (.ref 100), some (.int x1)], [.int s0], σ) = if s0 = 0 then Lq G d M_26 (16, [some (.ref 100), some (.int x1)], [], σ) else Lq G d M_26 (7, [some (.ref 100), some (.int x1)], [], σ) :=
  (aUn_eq (tkd G.1 G.2) tmi (aRun (tkd G.1 G.2) tmi tmt d) M_26 [] 1 (4, [some (.ref 100), some (.int x1)], [.int s0], σ)).trans rfl
set_option maxRecDepth 20000 in
theorem q_26_4739 (G : Nat × (Nat → Int32)) (d : Nat) (x1 : Int32) (σ : aH) : Lq G d M_26 (16, [some (.ref 100), some (.int x1)], [], σ) = Lq G d M_26 (21, [some (.ref 100), some (.int x1)], [.int x1, .ref 101], σ) :=
  (aUn_eq (tkd G.1 G.2) tmi (aRun (tkd G.1 G.2) tmi tmt d) M_26 [] 3 (16, [some (.ref 100), some (.int x1)], [], σ)).trans rfl
set_option maxRecDepth 20000 in
theorem q_26_4740 (G : Nat × (Nat → Int32)) (d : Nat) (x1 : Int32) (s0 : Int32) (σ : aH) : Lq G d M_26 (21, [some (.ref 100), some (.int x1)], [.int s0, .ref 101], σ) = none :=
  (aUn_eq (tkd G.1 G.2) tmi (aRun (tkd G.1 G.2) tmi tmt d) M_26 [] 1 (21, [some (.ref 100), some (.int x1)], [.int s0, .ref 101], σ)).trans rfl
set_option maxRecDepth 20000 in
theorem q_26_4741 (G : Nat × (Nat → Int32)) (d : Nat) (x1 : Int32) (σ : aH) : Lq G d M_26 (7, [some (.ref 100), some (.int x1)], [], σ) = Lq G d M_26 (12, [some (.ref 100), some (.int x1)], [.int x1, .ref 101], σ) :=
  (aUn_eq (tkd G.1 G.2) tmi (aRun (tkd G.1 G.2) tmi tmt d) M_26 [] 3 (7, [some (.ref 100), some (.int x1)], [], σ)).trans rfl
set_option maxRecDepth 20000 in
theorem q_26_4742 (G : Nat × (Nat → Int32)) (d : Nat) (x1 : Int32) (s0 : Int32) (σ : aH) : Lq G d M_26 (12, [some (.ref 100), some (.int x1)], [.int s0, .ref 101], σ) = aCI (Rn G d 27 [.ref 101, .int s0] σ) fun v2 σ1 => Lq G d M_26 (15, [some (.ref 100), some (.int x1)], [.int v2], σ1) :=
  (aUn_eq (tkd G.1 G.2) tmi (aRun (tkd G.1 G.2) tmi tmt d) M_26 [] 1 (12, [some (.ref 100), some (.int x1)], [.int s0, .ref 101], σ)).trans rfl
set_option maxRecDepth 20000 in
theorem q_26_4743 (G : Nat × (Nat → Int32)) (d : Nat) (x1 : Int32) (s0 : Int32) (σ : aH) : Lq G d M_26 (15, [some (.ref 100), some (.int x1)], [.int s0], σ) = aNar .char (s0) (some (.inl (some (.int s0)), σ)) :=
  (aUn_eq (tkd G.1 G.2) tmi (aRun (tkd G.1 G.2) tmi tmt d) M_26 [] 1 (15, [some (.ref 100), some (.int x1)], [.int s0], σ)).trans rfl
set_option maxRecDepth 20000 in
theorem q_26_4744 (G : Nat × (Nat → Int32)) (d : Nat) (x1 : Int32) (σ : aH) : Lq G d M_26 (0, [some (.ref 102), some (.int x1)], [], σ) = Lq G d M_26 (1, [some (.ref 102), some (.int x1)], [.ref 102], σ) :=
  (aUn_eq (tkd G.1 G.2) tmi (aRun (tkd G.1 G.2) tmi tmt d) M_26 [] 1 (0, [some (.ref 102), some (.int x1)], [], σ)).trans rfl
set_option maxRecDepth 20000 in
theorem q_26_4745 (G : Nat × (Nat → Int32)) (d : Nat) (x1 : Int32) (σ : aH) : Lq G d M_26 (1, [some (.ref 102), some (.int x1)], [.ref 102], σ) = aCI (Rn G d 14 [.ref 102] σ) fun v2 σ1 => Lq G d M_26 (4, [some (.ref 102), some (.int x1)], [.int v2], σ1) :=
  (aUn_eq (tkd G.1 G.2) tmi (aRun (tkd G.1 G.2) tmi tmt d) M_26 [] 1 (1, [some (.ref 102), some (.int x1)], [.ref 102], σ)).trans rfl
set_option maxRecDepth 20000 in
theorem q_26_4746 (G : Nat × (Nat → Int32)) (d : Nat) (x1 : Int32) (s0 : Int32) (σ : aH) : Lq G d M_26 (4, [some (.ref 102), some (.int x1)], [.int s0], σ) = if s0 = 0 then Lq G d M_26 (16, [some (.ref 102), some (.int x1)], [], σ) else Lq G d M_26 (7, [some (.ref 102), some (.int x1)], [], σ) :=
  (aUn_eq (tkd G.1 G.2) tmi (aRun (tkd G.1 G.2) tmi tmt d) M_26 [] 1 (4, [some (.ref 102), some (.int x1)], [.int s0], σ)).trans rfl
set_option maxRecDepth 20000 in
theorem q_26_4747 (G : Nat × (Nat → Int32)) (d : Nat) (x1 : Int32) (σ : aH) : Lq G d M_26 (16, [some (.ref 102), some (.int x1)], [], σ) = Lq G d M_26 (21, [some (.ref 102), some (.int x1)], [.int x1, .ref 103], σ) :=
  (aUn_eq (tkd G.1 G.2) tmi (aRun (tkd G.1 G.2) tmi tmt d) M_26 [] 3 (16, [some (.ref 102), some (.int x1)], [], σ)).trans rfl
set_option maxRecDepth 20000 in
theorem q_26_4748 (G : Nat × (Nat → Int32)) (d : Nat) (x1 : Int32) (s0 : Int32) (σ : aH) : Lq G d M_26 (21, [some (.ref 102), some (.int x1)], [.int s0, .ref 103], σ) = none :=
  (aUn_eq (tkd G.1 G.2) tmi (aRun (tkd G.1 G.2) tmi tmt d) M_26 [] 1 (21, [some (.ref 102), some (.int x1)], [.int s0, .ref 103], σ)).trans rfl
set_option maxRecDepth 20000 in
theorem q_26_4749 (G : Nat × (Nat → Int32)) (d : Nat) (x1 : Int32) (σ : aH) : Lq G d M_26 (7, [some (.ref 102), some (.int x1)], [], σ) = Lq G d M_26 (12, [some (.ref 102), some (.int x1)], [.int x1, .ref 103], σ) :=
  (aUn_eq (tkd G.1 G.2) tmi (aRun (tkd G.1 G.2) tmi tmt d) M_26 [] 3 (7, [some (.ref 102), some (.int x1)], [], σ)).trans rfl
set_option maxRecDepth 20000 in
theorem q_26_4750 (G : Nat × (Nat → Int32)) (d : Nat) (x1 : Int32) (s0 : Int32) (σ : aH) : Lq G d M_26 (12, [some (.ref 102), some (.int x1)], [.int s0, .ref 103], σ) = aCI (Rn G d 27 [.ref 103, .int s0] σ) fun v2 σ1 => Lq G d M_26 (15, [some (.ref 102), some (.int x1)], [.int v2], σ1) :=
  (aUn_eq (tkd G.1 G.2) tmi (aRun (tkd G.1 G.2) tmi tmt d) M_26 [] 1 (12, [some (.ref 102), some (.int x1)], [.int s0, .ref 103], σ)).trans rfl
set_option maxRecDepth 20000 in
theorem q_26_4751 (G : Nat × (Nat → Int32)) (d : Nat) (x1 : Int32) (s0 : Int32) (σ : aH) : Lq G d M_26 (15, [some (.ref 102), some (.int x1)], [.int s0], σ) = aNar .char (s0) (some (.inl (some (.int s0)), σ)) :=
  (aUn_eq (tkd G.1 G.2) tmi (aRun (tkd G.1 G.2) tmi tmt d) M_26 [] 1 (15, [some (.ref 102), some (.int x1)], [.int s0], σ)).trans rfl
set_option maxRecDepth 20000 in
theorem q_26_4752 (G : Nat × (Nat → Int32)) (d : Nat) (x1 : Int32) (σ : aH) : Lq G d M_26 (0, [some (.ref 104), some (.int x1)], [], σ) = Lq G d M_26 (1, [some (.ref 104), some (.int x1)], [.ref 104], σ) :=
  (aUn_eq (tkd G.1 G.2) tmi (aRun (tkd G.1 G.2) tmi tmt d) M_26 [] 1 (0, [some (.ref 104), some (.int x1)], [], σ)).trans rfl
set_option maxRecDepth 20000 in
theorem q_26_4753 (G : Nat × (Nat → Int32)) (d : Nat) (x1 : Int32) (σ : aH) : Lq G d M_26 (1, [some (.ref 104), some (.int x1)], [.ref 104], σ) = aCI (Rn G d 14 [.ref 104] σ) fun v2 σ1 => Lq G d M_26 (4, [some (.ref 104), some (.int x1)], [.int v2], σ1) :=
  (aUn_eq (tkd G.1 G.2) tmi (aRun (tkd G.1 G.2) tmi tmt d) M_26 [] 1 (1, [some (.ref 104), some (.int x1)], [.ref 104], σ)).trans rfl
set_option maxRecDepth 20000 in
theorem q_26_4754 (G : Nat × (Nat → Int32)) (d : Nat) (x1 : Int32) (s0 : Int32) (σ : aH) : Lq G d M_26 (4, [some (.ref 104), some (.int x1)], [.int s0], σ) = if s0 = 0 then Lq G d M_26 (16, [some (.ref 104), some (.int x1)], [], σ) else Lq G d M_26 (7, [some (.ref 104), some (.int x1)], [], σ) :=
  (aUn_eq (tkd G.1 G.2) tmi (aRun (tkd G.1 G.2) tmi tmt d) M_26 [] 1 (4, [some (.ref 104), some (.int x1)], [.int s0], σ)).trans rfl
set_option maxRecDepth 20000 in
theorem q_26_4755 (G : Nat × (Nat → Int32)) (d : Nat) (x1 : Int32) (σ : aH) : Lq G d M_26 (16, [some (.ref 104), some (.int x1)], [], σ) = Lq G d M_26 (21, [some (.ref 104), some (.int x1)], [.int x1, .ref 105], σ) :=
  (aUn_eq (tkd G.1 G.2) tmi (aRun (tkd G.1 G.2) tmi tmt d) M_26 [] 3 (16, [some (.ref 104), some (.int x1)], [], σ)).trans rfl
set_option maxRecDepth 20000 in
theorem q_26_4756 (G : Nat × (Nat → Int32)) (d : Nat) (x1 : Int32) (s0 : Int32) (σ : aH) : Lq G d M_26 (21, [some (.ref 104), some (.int x1)], [.int s0, .ref 105], σ) = none :=
  (aUn_eq (tkd G.1 G.2) tmi (aRun (tkd G.1 G.2) tmi tmt d) M_26 [] 1 (21, [some (.ref 104), some (.int x1)], [.int s0, .ref 105], σ)).trans rfl
set_option maxRecDepth 20000 in
theorem q_26_4757 (G : Nat × (Nat → Int32)) (d : Nat) (x1 : Int32) (σ : aH) : Lq G d M_26 (7, [some (.ref 104), some (.int x1)], [], σ) = Lq G d M_26 (12, [some (.ref 104), some (.int x1)], [.int x1, .ref 105], σ) :=
  (aUn_eq (tkd G.1 G.2) tmi (aRun (tkd G.1 G.2) tmi tmt d) M_26 [] 3 (7, [some (.ref 104), some (.int x1)], [], σ)).trans rfl
