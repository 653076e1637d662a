/-! ===== the methods in pieces, as equations (by wip/gen/emit_eqs2.py) ===== -/
set_option maxRecDepth 20000
theorem q_12_4451 (G : Nat × (Nat → Int32)) (d : Nat) (x1 : Int32) (s0 : Int32) (s1 : Int32) (σ : aH) : Lq G d M_12 (3, [some (.ref 116), some (.int x1)], [.int s0, .int s1, .ref 116], σ) = aCI (Rn G d 13 [.ref 116, .int s1, .int s0] σ) fun v2 σ1 => Lq G d M_12 (6, [some (.ref 116), some (.int x1)], [.int v2], σ1) :=
  (aUn_eq (tkd G.1 G.2) tmi (aRun (tkd G.1 G.2) tmi tmt d) M_12 [] 1 (3, [some (.ref 116), some (.int x1)], [.int s0, .int s1, .ref 116], σ)).trans rfl
theorem q_12_4452 (G : Nat × (Nat → Int32)) (d : Nat) (x1 : Int32) (s0 : Int32) (σ : aH) : Lq G d M_12 (6, [some (.ref 116), some (.int x1)], [.int s0], σ) = some (.inl (some (.int s0)), σ) :=
  (aUn_eq (tkd G.1 G.2) tmi (aRun (tkd G.1 G.2) tmi tmt d) M_12 [] 1 (6, [some (.ref 116), some (.int x1)], [.int s0], σ)).trans rfl
theorem q_12_4453 (G : Nat × (Nat → Int32)) (d : Nat) (x1 : Int32) (σ : aH) : Lq G d M_12 (0, [some (.ref 118), some (.int x1)], [], σ) = Lq G d M_12 (3, [some (.ref 118), some (.int x1)], [.int (0 : Int32), .int x1, .ref 118], σ) :=
  (aUn_eq (tkd G.1 G.2) tmi (aRun (tkd G.1 G.2) tmi tmt d) M_12 [] 3 (0, [some (.ref 118), some (.int x1)], [], σ)).trans rfl
theorem q_12_4454 (G : Nat × (Nat → Int32)) (d : Nat) (x1 : Int32) (s0 : Int32) (s1 : Int32) (σ : aH) : Lq G d M_12 (3, [some (.ref 118), some (.int x1)], [.int s0, .int s1, .ref 118], σ) = aCI (Rn G d 13 [.ref 118, .int s1, .int s0] σ) fun v2 σ1 => Lq G d M_12 (6, [some (.ref 118), some (.int x1)], [.int v2], σ1) :=
  (aUn_eq (tkd G.1 G.2) tmi (aRun (tkd G.1 G.2) tmi tmt d) M_12 [] 1 (3, [some (.ref 118), some (.int x1)], [.int s0, .int s1, .ref 118], σ)).trans rfl
theorem q_12_4455 (G : Nat × (Nat → Int32)) (d : Nat) (x1 : Int32) (s0 : Int32) (σ : aH) : Lq G d M_12 (6, [some (.ref 118), some (.int x1)], [.int s0], σ) = some (.inl (some (.int s0)), σ) :=
  (aUn_eq (tkd G.1 G.2) tmi (aRun (tkd G.1 G.2) tmi tmt d) M_12 [] 1 (6, [some (.ref 118), some (.int x1)], [.int s0], σ)).trans rfl
theorem q_12_4456 (G : Nat × (Nat → Int32)) (d : Nat) (x1 : Int32) (σ : aH) : Lq G d M_12 (0, [some (.ref 120), some (.int x1)], [], σ) = Lq G d M_12 (3, [some (.ref 120), some (.int x1)], [.int (0 : Int32), .int x1, .ref 120], σ) :=
  (aUn_eq (tkd G.1 G.2) tmi (aRun (tkd G.1 G.2) tmi tmt d) M_12 [] 3 (0, [some (.ref 120), some (.int x1)], [], σ)).trans rfl
theorem q_12_4457 (G : Nat × (Nat → Int32)) (d : Nat) (x1 : Int32) (s0 : Int32) (s1 : Int32) (σ : aH) : Lq G d M_12 (3, [some (.ref 120), some (.int x1)], [.int s0, .int s1, .ref 120], σ) = aCI (Rn G d 13 [.ref 120, .int s1, .int s0] σ) fun v2 σ1 => Lq G d M_12 (6, [some (.ref 120), some (.int x1)], [.int v2], σ1) :=
  (aUn_eq (tkd G.1 G.2) tmi (aRun (tkd G.1 G.2) tmi tmt d) M_12 [] 1 (3, [some (.ref 120), some (.int x1)], [.int s0, .int s1, .ref 120], σ)).trans rfl
theorem q_12_4458 (G : Nat × (Nat → Int32)) (d : Nat) (x1 : Int32) (s0 : Int32) (σ : aH) : Lq G d M_12 (6, [some (.ref 120), some (.int x1)], [.int s0], σ) = some (.inl (some (.int s0)), σ) :=
  (aUn_eq (tkd G.1 G.2) tmi (aRun (tkd G.1 G.2) tmi tmt d) M_12 [] 1 (6, [some (.ref 120), some (.int x1)], [.int s0], σ)).trans rfl
theorem q_12_4459 (G : Nat × (Nat → Int32)) (d : Nat) (x1 : Int32) (σ : aH) : Lq G d M_12 (0, [some (.ref 122), some (.int x1)], [], σ) = Lq G d M_12 (3, [some (.ref 122), some (.int x1)], [.int (0 : Int32), .int x1, .ref 122], σ) :=
  (aUn_eq (tkd G.1 G.2) tmi (aRun (tkd G.1 G.2) tmi tmt d) M_12 [] 3 (0, [some (.ref 122), some (.int x1)], [], σ)).trans rfl
theorem q_12_4460 (G : Nat × (Nat → Int32)) (d : Nat) (x1 : Int32) (s0 : Int32) (s1 : Int32) (σ : aH) : Lq G d M_12 (3, [some (.ref 122), some (.int x1)], [.int s0, .int s1, .ref 122], σ) = aCI (Rn G d 13 [.ref 122, .int s1, .int s0] σ) fun v2 σ1 => Lq G d M_12 (6, [some (.ref 122), some (.int x1)], [.int v2], σ1) :=
  (aUn_eq (tkd G.1 G.2) tmi (aRun (tkd G.1 G.2) tmi tmt d) M_12 [] 1 (3, [some (.ref 122), some (.int x1)], [.int s0, .int s1, .ref 122], σ)).trans rfl
theorem q_12_4461 (G : Nat × (Nat → Int32)) (d : Nat) (x1 : Int32) (s0 : Int32) (σ : aH) : Lq G d M_12 (6, [some (.ref 122), some (.int x1)], [.int s0], σ) = some (.inl (some (.int s0)), σ) :=
  (aUn_eq (tkd G.1 G.2) tmi (aRun (tkd G.1 G.2) tmi tmt d) M_12 [] 1 (6, [some (.ref 122), some (.int x1)], [.int s0], σ)).trans rfl
theorem q_12_4462 (G : Nat × (Nat → Int32)) (d : Nat) (x1 : Int32) (σ : aH) : Lq G d M_12 (0, [some (.ref 124), some (.int x1)], [], σ) = Lq G d M_12 (3, [some (.ref 124), some (.int x1)], [.int (0 : Int32), .int x1, .ref 124], σ) :=
  (aUn_eq (tkd G.1 G.2) tmi (aRun (tkd G.1 G.2) tmi tmt d) M_12 [] 3 (0, [some (.ref 124), some (.int x1)], [], σ)).trans rfl
theorem q_12_4463 (G : Nat × (Nat → Int32)) (d : Nat) (x1 : Int32) (s0 : Int32) (s1 : Int32) (σ : aH) : Lq G d M_12 (3, [some (.ref 124), some (.int x1)], [.int s0, .int s1, .ref 124], σ) = aCI (Rn G d 13 [.ref 124, .int s1, .int s0] σ) fun v2 σ1 => Lq G d M_12 (6, [some (.ref 124), some (.int x1)], [.int v2], σ1) :=
  (aUn_eq (tkd G.1 G.2) tmi (aRun (tkd G.1 G.2) tmi tmt d) M_12 [] 1 (3, [some (.ref 124), some (.int x1)], [.int s0, .int s1, .ref 124], σ)).trans rfl
theorem q_12_4464 (G : Nat × (Nat → Int32)) (d : Nat) (x1 : Int32) (s0 : Int32) (σ : aH) : Lq G d M_12 (6, [some (.ref 124), some (.int x1)], [.int s0], σ) = some (.inl (some (.int s0)), σ) :=
  (aUn_eq (tkd G.1 G.2) tmi (aRun (tkd G.1 G.2) tmi tmt d) M_12 [] 1 (6, [some (.ref 124), some (.int x1)], [.int s0], σ)).trans rfl
theorem q_12_4465 (G : Nat × (Nat → Int32)) (d : Nat) (x1 : Int32) (σ : aH) : Lq G d M_12 (0, [some (.ref 126), some (.int x1)], [], σ) = Lq G d M_12 (3, [some (.ref 126), some (.int x1)], [.int (0 : Int32), .int x1, .ref 126], σ) :=
  (aUn_eq (tkd G.1 G.2) tmi (aRun (tkd G.1 G.2) tmi tmt d) M_12 [] 3 (0, [some (.ref 126), some (.int x1)], [], σ)).trans rfl
theorem q_12_4466 (G : Nat × (Nat → Int32)) (d : Nat) (x1 : Int32) (s0 : Int32) (s1 : Int32) (σ : aH) : Lq G d M_12 (3, [some (.ref 126), some (.int x1)], [.int s0, .int s1, .ref 126], σ) = aCI (Rn G d 13 [.ref 126, .int s1, .int s0] σ) fun v2 σ1 => Lq G d M_12 (6, [some (.ref 126), some (.int x1)], [.int v2], σ1) :=
  (aUn_eq (tkd G.1 G.2) tmi (aRun (tkd G.1 G.2) tmi tmt d) M_12 [] 1 (3, [some (.ref 126), some (.int x1)], [.int s0, .int s1, .ref 126], σ)).trans rfl
theorem q_12_4467 (G : Nat × (Nat → Int32)) (d : Nat) (x1 : Int32) (s0 : Int32) (σ : aH) : Lq G d M_12 (6, [some (.ref 126), some (.int x1)], [.int s0], σ) = some (.inl (some (.int s0)), σ) :=
  (aUn_eq (tkd G.1 G.2) tmi (aRun (tkd G.1 G.2) tmi tmt d) M_12 [] 1 (6, [some (.ref 126), some (.int x1)], [.int s0], σ)).trans rfl
theorem q_12_4468 (G : Nat × (Nat → Int32)) (d : Nat) (x1 : Int32) (σ : aH) : Lq G d M_12 (0, [some (.ref 128), some (.int x1)], [], σ) = Lq G d M_12 (3, [some (.ref 128), some (.int x1)], [.int (0 : Int32), .int x1, .ref 128], σ) :=
  (aUn_eq (tkd G.1 G.2) tmi (aRun (tkd G.1 G.2) tmi tmt d) M_12 [] 3 (0, [some (.ref 128), some (.int x1)], [], σ)).trans rfl
theorem q_12_4469 (G : Nat × (Nat → Int32)) (d : Nat) (x1 : Int32) (s0 : Int32) (s1 : Int32) (σ : aH) : Lq G d M_12 (3, [some (.ref 128), some (.int x1)], [.int s0, .int s1, .ref 128], σ) = aCI (Rn G d 13 [.ref 128, .int s1, .int s0] σ) fun v2 σ1 => Lq G d M_12 (6, [some (.ref 128), some (.int x1)], [.int v2], σ1) :=
  (aUn_eq (tkd G.1 G.2) tmi (aRun (tkd G.1 G.2) tmi tmt d) M_12 [] 1 (3, [some (.ref 128), some (.int x1)], [.int s0, .int s1, .ref 128], σ)).trans rfl
theorem q_12_4470 (G : Nat × (Nat → Int32)) (d : Nat) (x1 : Int32) (s0 : Int32) (σ : aH) : Lq G d M_12 (6, [some (.ref 128), some (.int x1)], [.int s0], σ) = some (.inl (some (.int s0)), σ) :=
  (aUn_eq (tkd G.1 G.2) tmi (aRun (tkd G.1 G.2) tmi tmt d) M_12 [] 1 (6, [some (.ref 128), some (.int x1)], [.int s0], σ)).trans rfl
theorem q_10_4471 (G : Nat × (Nat → Int32)) (d : Nat) (x1 : Int32) (x2 : Int32) (σ : aH) : Lq G d M_10 (0, [some (.ref 1), some (.int x1), some (.int x2), none], [], σ) = Lq G d M_10 (5, [some (.ref 1), some (.int x1), some (.int x2), some (.int (σ.1 1 3))], [], σ) :=
  (aUn_eq (tkd G.1 G.2) tmi (aRun (tkd G.1 G.2) tmi tmt d) M_10 [] 3 (0, [some (.ref 1), some (.int x1), some (.int x2), none], [], σ)).trans rfl
theorem q_10_4472 (G : Nat × (Nat → Int32)) (d : Nat) (x1 : Int32) (x2 : Int32) (x3 : Int32) (σ : aH) : Lq G d M_10 (5, [some (.ref 1), some (.int x1), some (.int x2), some (.int x3)], [], σ) = Lq G d M_10 (10, [some (.ref 1), some (.int x1), some (.int x2), some (.int x3)], [.int (σ.1 1 6), .int x3], σ) :=
  (aUn_eq (tkd G.1 G.2) tmi (aRun (tkd G.1 G.2) tmi tmt d) M_10 [] 3 (5, [some (.ref 1), some (.int x1), some (.int x2), some (.int x3)], [], σ)).trans rfl
theorem q_10_4473 (G : Nat × (Nat → Int32)) (d : Nat) (x1 : Int32) (x2 : Int32) (x3 : Int32) (s0 : Int32) (s1 : Int32) (σ : aH) : Lq G d M_10 (10, [some (.ref 1), some (.int x1), some (.int x2), some (.int x3)], [.int s0, .int s1], σ) = if s0 ≤ s1 then Lq G d M_10 (44, [some (.ref 1), some (.int x1), some (.int x2), some (.int x3)], [], σ) else Lq G d M_10 (13, [some (.ref 1), some (.int x1), some (.int x2), some (.int x3)], [], σ) :=
  (aUn_eq (tkd G.1 G.2) tmi (aRun (tkd G.1 G.2) tmi tmt d) M_10 [] 1 (10, [some (.ref 1), some (.int x1), some (.int x2), some (.int x3)], [.int s0, .int s1], σ)).trans rfl
theorem q_10_4474 (G : Nat × (Nat → Int32)) (d : Nat) (x1 : Int32) (x2 : Int32) (x3 : Int32) (σ : aH) : Lq G d M_10 (44, [some (.ref 1), some (.int x1), some (.int x2), some (.int x3)], [], σ) = some (.inl none, σ) :=
  (aUn_eq (tkd G.1 G.2) tmi (aRun (tkd G.1 G.2) tmi tmt d) M_10 [] 1 (44, [some (.ref 1), some (.int x1), some (.int x2), some (.int x3)], [], σ)).trans rfl
theorem q_10_4475 (G : Nat × (Nat → Int32)) (d : Nat) (x1 : Int32) (x2 : Int32) (x3 : Int32) (σ : aH) : Lq G d M_10 (13, [some (.ref 1), some (.int x1), some (.int x2), some (.int x3)], [], σ) = Lq G d M_10 (15, [some (.ref 1), some (.int x1), some (.int x2), some (.int x3)], [.int x3, .ref 1], σ) :=
  (aUn_eq (tkd G.1 G.2) tmi (aRun (tkd G.1 G.2) tmi tmt d) M_10 [] 2 (13, [some (.ref 1), some (.int x1), some (.int x2), some (.int x3)], [], σ)).trans rfl
theorem q_10_4476 (G : Nat × (Nat → Int32)) (d : Nat) (x1 : Int32) (x2 : Int32) (x3 : Int32) (s0 : Int32) (σ : aH) : Lq G d M_10 (15, [some (.ref 1), some (.int x1), some (.int x2), some (.int x3)], [.int s0, .ref 1], σ) = aCI (Rn G d 9 [.ref 1, .int s0] σ) fun v2 σ1 => Lq G d M_10 (18, [some (.ref 1), some (.int x1), some (.int x2), some (.int x3)], [.int v2], σ1) :=
  (aUn_eq (tkd G.1 G.2) tmi (aRun (tkd G.1 G.2) tmi tmt d) M_10 [] 1 (15, [some (.ref 1), some (.int x1), some (.int x2), some (.int x3)], [.int s0, .ref 1], σ)).trans rfl
theorem q_10_4477 (G : Nat × (Nat → Int32)) (d : Nat) (x1 : Int32) (x2 : Int32) (x3 : Int32) (s0 : Int32) (σ : aH) : Lq G d M_10 (18, [some (.ref 1), some (.int x1), some (.int x2), some (.int x3)], [.int s0], σ) = Lq G d M_10 (19, [some (.ref 1), some (.int x1), some (.int x2), some (.int x3)], [.int x1, .int s0], σ) :=
  (aUn_eq (tkd G.1 G.2) tmi (aRun (tkd G.1 G.2) tmi tmt d) M_10 [] 1 (18, [some (.ref 1), some (.int x1), some (.int x2), some (.int x3)], [.int s0], σ)).trans rfl
theorem q_10_4478 (G : Nat × (Nat → Int32)) (d : Nat) (x1 : Int32) (x2 : Int32) (x3 : Int32) (s0 : Int32) (s1 : Int32) (σ : aH) : Lq G d M_10 (19, [some (.ref 1), some (.int x1), some (.int x2), some (.int x3)], [.int s0, .int s1], σ) = if s1 < s0 then Lq G d M_10 (44, [some (.ref 1), some (.int x1), some (.int x2), some (.int x3)], [], σ) else Lq G d M_10 (22, [some (.ref 1), some (.int x1), some (.int x2), some (.int x3)], [], σ) :=
  (aUn_eq (tkd G.1 G.2) tmi (aRun (tkd G.1 G.2) tmi tmt d) M_10 [] 1 (19, [some (.ref 1), some (.int x1), some (.int x2), some (.int x3)], [.int s0, .int s1], σ)).trans rfl
theorem q_10_4479 (G : Nat × (Nat → Int32)) (d : Nat) (x1 : Int32) (x2 : Int32) (x3 : Int32) (σ : aH) : Lq G d M_10 (22, [some (.ref 1), some (.int x1), some (.int x2), some (.int x3)], [], σ) = Lq G d M_10 (24, [some (.ref 1), some (.int x1), some (.int x2), some (.int x3)], [.int x3, .ref 1], σ) :=
  (aUn_eq (tkd G.1 G.2) tmi (aRun (tkd G.1 G.2) tmi tmt d) M_10 [] 2 (22, [some (.ref 1), some (.int x1), some (.int x2), some (.int x3)], [], σ)).trans rfl
theorem q_10_4480 (G : Nat × (Nat → Int32)) (d : Nat) (x1 : Int32) (x2 : Int32) (x3 : Int32) (s0 : Int32) (σ : aH) : Lq G d M_10 (24, [some (.ref 1), some (.int x1), some (.int x2), some (.int x3)], [.int s0, .ref 1], σ) = aCI (Rn G d 9 [.ref 1, .int s0] σ) fun v2 σ1 => Lq G d M_10 (27, [some (.ref 1), some (.int x1), some (.int x2), some (.int x3)], [.int v2], σ1) :=
  (aUn_eq (tkd G.1 G.2) tmi (aRun (tkd G.1 G.2) tmi tmt d) M_10 [] 1 (24, [some (.ref 1), some (.int x1), some (.int x2), some (.int x3)], [.int s0, .ref 1], σ)).trans rfl
theorem q_10_4481 (G : Nat × (Nat → Int32)) (d : Nat) (x1 : Int32) (x2 : Int32) (x3 : Int32) (s0 : Int32) (σ : aH) : Lq G d M_10 (27, [some (.ref 1), some (.int x1), some (.int x2), some (.int x3)], [.int s0], σ) = Lq G d M_10 (28, [some (.ref 1), some (.int x1), some (.int x2), some (.int x3)], [.int x2, .int s0], σ) :=
  (aUn_eq (tkd G.1 G.2) tmi (aRun (tkd G.1 G.2) tmi tmt d) M_10 [] 1 (27, [some (.ref 1), some (.int x1), some (.int x2), some (.int x3)], [.int s0], σ)).trans rfl
theorem q_10_4482 (G : Nat × (Nat → Int32)) (d : Nat) (x1 : Int32) (x2 : Int32) (x3 : Int32) (s0 : Int32) (s1 : Int32) (σ : aH) : Lq G d M_10 (28, [some (.ref 1), some (.int x1), some (.int x2), some (.int x3)], [.int s0, .int s1], σ) = if s0 < s1 then Lq G d M_10 (44, [some (.ref 1), some (.int x1), some (.int x2), some (.int x3)], [], σ) else Lq G d M_10 (31, [some (.ref 1), some (.int x1), some (.int x2), some (.int x3)], [], σ) :=
  (aUn_eq (tkd G.1 G.2) tmi (aRun (tkd G.1 G.2) tmi tmt d) M_10 [] 1 (28, [some (.ref 1), some (.int x1), some (.int x2), some (.int x3)], [.int s0, .int s1], σ)).trans rfl
theorem q_10_4483 (G : Nat × (Nat → Int32)) (d : Nat) (x1 : Int32) (x2 : Int32) (x3 : Int32) (σ : aH) : Lq G d M_10 (31, [some (.ref 1), some (.int x1), some (.int x2), some (.int x3)], [], σ) = Lq G d M_10 (5, [some (.ref 1), some (.int x1), some (.int x2), some (.int (x3 + (1 : Int32)))], [], (aSI σ 1 7 (x3 + (1 : Int32)))) :=
  (aUn_eq (tkd G.1 G.2) tmi (aRun (tkd G.1 G.2) tmi tmt d) M_10 [] 7 (31, [some (.ref 1), some (.int x1), some (.int x2), some (.int x3)], [], σ)).trans rfl
theorem q_11_4484 (G : Nat × (Nat → Int32)) (d : Nat)  (σ : aH) : Lq G d M_11 (0, [some (.ref 1), none], [], σ) = Lq G d M_11 (10, [some (.ref 1), some (.int (σ.1 1 3))], [], (aSI σ 1 5 (0 : Int32))) :=
  (aUn_eq (tkd G.1 G.2) tmi (aRun (tkd G.1 G.2) tmi tmt d) M_11 [] 6 (0, [some (.ref 1), none], [], σ)).trans rfl
theorem q_11_4485 (G : Nat × (Nat → Int32)) (d : Nat) (x1 : Int32) (σ : aH) : Lq G d M_11 (10, [some (.ref 1), some (.int x1)], [], σ) = Lq G d M_11 (15, [some (.ref 1), some (.int x1)], [.int (σ.1 1 7), .int x1], σ) :=
  (aUn_eq (tkd G.1 G.2) tmi (aRun (tkd G.1 G.2) tmi tmt d) M_11 [] 3 (10, [some (.ref 1), some (.int x1)], [], σ)).trans rfl
theorem q_11_4486 (G : Nat × (Nat → Int32)) (d : Nat) (x1 : Int32) (s0 : Int32) (s1 : Int32) (σ : aH) : Lq G d M_11 (15, [some (.ref 1), some (.int x1)], [.int s0, .int s1], σ) = if s0 ≤ s1 then Lq G d M_11 (54, [some (.ref 1), some (.int x1)], [], σ) else Lq G d M_11 (18, [some (.ref 1), some (.int x1)], [], σ) :=
  (aUn_eq (tkd G.1 G.2) tmi (aRun (tkd G.1 G.2) tmi tmt d) M_11 [] 1 (15, [some (.ref 1), some (.int x1)], [.int s0, .int s1], σ)).trans rfl
theorem q_11_4487 (G : Nat × (Nat → Int32)) (d : Nat) (x1 : Int32) (σ : aH) : Lq G d M_11 (54, [some (.ref 1), some (.int x1)], [], σ) = Lq G d M_11 (64, [some (.ref 1), some (.int x1)], [.int (4 : Int32), .int ((σ.1 1 7) - (σ.1 1 3))], σ) :=
  (aUn_eq (tkd G.1 G.2) tmi (aRun (tkd G.1 G.2) tmi tmt d) M_11 [] 6 (54, [some (.ref 1), some (.int x1)], [], σ)).trans rfl
theorem q_11_4488 (G : Nat × (Nat → Int32)) (d : Nat) (x1 : Int32) (s0 : Int32) (s1 : Int32) (σ : aH) : Lq G d M_11 (64, [some (.ref 1), some (.int x1)], [.int s0, .int s1], σ) = if s1 ≤ s0 then Lq G d M_11 (74, [some (.ref 1), some (.int x1)], [], σ) else Lq G d M_11 (67, [some (.ref 1), some (.int x1)], [], σ) :=
  (aUn_eq (tkd G.1 G.2) tmi (aRun (tkd G.1 G.2) tmi tmt d) M_11 [] 1 (64, [some (.ref 1), some (.int x1)], [.int s0, .int s1], σ)).trans rfl
theorem q_11_4489 (G : Nat × (Nat → Int32)) (d : Nat) (x1 : Int32) (σ : aH) : Lq G d M_11 (74, [some (.ref 1), some (.int x1)], [], σ) = some (.inl none, σ) :=
  (aUn_eq (tkd G.1 G.2) tmi (aRun (tkd G.1 G.2) tmi tmt d) M_11 [] 1 (74, [some (.ref 1), some (.int x1)], [], σ)).trans rfl
theorem q_11_4490 (G : Nat × (Nat → Int32)) (d : Nat) (x1 : Int32) (σ : aH) : Lq G d M_11 (67, [some (.ref 1), some (.int x1)], [], σ) = Lq G d M_11 (74, [some (.ref 1), some (.int x1)], [], (aSI σ 1 5 (10000 : Int32))) :=
  (aUn_eq (tkd G.1 G.2) tmi (aRun (tkd G.1 G.2) tmi tmt d) M_11 [] 3 (67, [some (.ref 1), some (.int x1)], [], σ)).trans rfl
theorem q_11_4491 (G : Nat × (Nat → Int32)) (d : Nat) (x1 : Int32) (σ : aH) : Lq G d M_11 (18, [some (.ref 1), some (.int x1)], [], σ) = Lq G d M_11 (25, [some (.ref 1), some (.int x1)], [.int ((σ.1 1 3) + (4 : Int32)), .int x1], σ) :=
  (aUn_eq (tkd G.1 G.2) tmi (aRun (tkd G.1 G.2) tmi tmt d) M_11 [] 5 (18, [some (.ref 1), some (.int x1)], [], σ)).trans rfl
theorem q_11_4492 (G : Nat × (Nat → Int32)) (d : Nat) (x1 : Int32) (s0 : Int32) (s1 : Int32) (σ : aH) : Lq G d M_11 (25, [some (.ref 1), some (.int x1)], [.int s0, .int s1], σ) = if s0 ≤ s1 then Lq G d M_11 (54, [some (.ref 1), some (.int x1)], [], σ) else Lq G d M_11 (28, [some (.ref 1), some (.int x1)], [], σ) :=
  (aUn_eq (tkd G.1 G.2) tmi (aRun (tkd G.1 G.2) tmi tmt d) M_11 [] 1 (25, [some (.ref 1), some (.int x1)], [.int s0, .int s1], σ)).trans rfl
theorem q_11_4493 (G : Nat × (Nat → Int32)) (d : Nat) (x1 : Int32) (σ : aH) : Lq G d M_11 (28, [some (.ref 1), some (.int x1)], [], σ) = Lq G d M_11 (38, [some (.ref 1), some (.int x1)], [.int x1, .ref 1, .int ((σ.1 1 5) * (10 : Int32)), .ref 1], σ) :=
  (aUn_eq (tkd G.1 G.2) tmi (aRun (tkd G.1 G.2) tmi tmt d) M_11 [] 7 (28, [some (.ref 1), some (.int x1)], [], σ)).trans rfl
theorem q_11_4494 (G : Nat × (Nat → Int32)) (d : Nat) (x1 : Int32) (s0 : Int32) (s2 : Int32) (σ : aH) : Lq G d M_11 (38, [some (.ref 1), some (.int x1)], [.int s0, .ref 1, .int s2, .ref 1], σ) = aCI (Rn G d 9 [.ref 1, .int s0] σ) fun v2 σ1 => Lq G d M_11 (41, [some (.ref 1), some (.int x1)], [.int v2, .int s2, .ref 1], σ1) :=
  (aUn_eq (tkd G.1 G.2) tmi (aRun (tkd G.1 G.2) tmi tmt d) M_11 [] 1 (38, [some (.ref 1), some (.int x1)], [.int s0, .ref 1, .int s2, .ref 1], σ)).trans rfl
theorem q_11_4495 (G : Nat × (Nat → Int32)) (d : Nat) (x1 : Int32) (s0 : Int32) (s1 : Int32) (σ : aH) : Lq G d M_11 (41, [some (.ref 1), some (.int x1)], [.int s0, .int s1, .ref 1], σ) = Lq G d M_11 (10, [some (.ref 1), some (.int (x1 + (1 : Int32)))], [], (aSI σ 1 5 ((s1 + s0) - (48 : Int32)))) :=
  (aUn_eq (tkd G.1 G.2) tmi (aRun (tkd G.1 G.2) tmi tmt d) M_11 [] 6 (41, [some (.ref 1), some (.int x1)], [.int s0, .int s1, .ref 1], σ)).trans rfl
theorem q_15_4496 (G : Nat × (Nat → Int32)) (d : Nat)  (σ : aH) : Lq G d M_15 (0, [some (.ref 70)], [], σ) = Lq G d M_15 (6, [some (.ref 70)], [.ref 70, .int (27 : Int32)], σ) :=
  (aUn_eq (tkd G.1 G.2) tmi (aRun (tkd G.1 G.2) tmi tmt d) M_15 [] 4 (0, [some (.ref 70)], [], σ)).trans rfl
theorem q_15_4497 (G : Nat × (Nat → Int32)) (d : Nat) (s1 : Int32) (σ : aH) : Lq G d M_15 (6, [some (.ref 70)], [.ref 70, .int s1], σ) = aCI (Rn G d 16 [.ref 70] σ) fun v2 σ1 => Lq G d M_15 (9, [some (.ref 70)], [.int v2, .int s1], σ1) :=
  (aUn_eq (tkd G.1 G.2) tmi (aRun (tkd G.1 G.2) tmi tmt d) M_15 [] 1 (6, [some (.ref 70)], [.ref 70, .int s1], σ)).trans rfl
theorem q_15_4498 (G : Nat × (Nat → Int32)) (d : Nat) (s0 : Int32) (s1 : Int32) (σ : aH) : Lq G d M_15 (9, [some (.ref 70)], [.int s0, .int s1], σ) = Lq G d M_15 (10, [some (.ref 70)], [.int (s1 >>> (s0 &&& 31))], σ) :=
  (aUn_eq (tkd G.1 G.2) tmi (aRun (tkd G.1 G.2) tmi tmt d) M_15 [] 1 (9, [some (.ref 70)], [.int s0, .int s1], σ)).trans rfl
theorem q_15_4499 (G : Nat × (Nat → Int32)) (d : Nat) (s0 : Int32) (σ : aH) : Lq G d M_15 (10, [some (.ref 70)], [.int s0], σ) = some (.inl (some (.int s0)), σ) :=
  (aUn_eq (tkd G.1 G.2) tmi (aRun (tkd G.1 G.2) tmi tmt d) M_15 [] 1 (10, [some (.ref 70)], [.int s0], σ)).trans rfl
theorem q_15_4500 (G : Nat × (Nat → Int32)) (d : Nat)  (σ : aH) : Lq G d M_15 (0, [some (.ref 72)], [], σ) = Lq G d M_15 (6, [some (.ref 72)], [.ref 72, .int (9 : Int32)], σ) :=
  (aUn_eq (tkd G.1 G.2) tmi (aRun (tkd G.1 G.2) tmi tmt d) M_15 [] 4 (0, [some (.ref 72)], [], σ)).trans rfl
theorem q_15_4501 (G : Nat × (Nat → Int32)) (d : Nat) (s1 : Int32) (σ : aH) : Lq G d M_15 (6, [some (.ref 72)], [.ref 72, .int s1], σ) = aCI (Rn G d 16 [.ref 72] σ) fun v2 σ1 => Lq G d M_15 (9, [some (.ref 72)], [.int v2, .int s1], σ1) :=
  (aUn_eq (tkd G.1 G.2) tmi (aRun (tkd G.1 G.2) tmi tmt d) M_15 [] 1 (6, [some (.ref 72)], [.ref 72, .int s1], σ)).trans rfl
theorem q_15_4502 (G : Nat × (Nat → Int32)) (d : Nat) (s0 : Int32) (s1 : Int32) (σ : aH) : Lq G d M_15 (9, [some (.ref 72)], [.int s0, .int s1], σ) = Lq G d M_15 (10, [some (.ref 72)], [.int (s1 >>> (s0 &&& 31))], σ) :=
  (aUn_eq (tkd G.1 G.2) tmi (aRun (tkd G.1 G.2) tmi tmt d) M_15 [] 1 (9, [some (.ref 72)], [.int s0, .int s1], σ)).trans rfl
theorem q_15_4503 (G : Nat × (Nat → Int32)) (d : Nat) (s0 : Int32) (σ : aH) : Lq G d M_15 (10, [some (.ref 72)], [.int s0], σ) = some (.inl (some (.int s0)), σ) :=
  (aUn_eq (tkd G.1 G.2) tmi (aRun (tkd G.1 G.2) tmi tmt d) M_15 [] 1 (10, [some (.ref 72)], [.int s0], σ)).trans rfl
theorem q_15_4504 (G : Nat × (Nat → Int32)) (d : Nat)  (σ : aH) : Lq G d M_15 (0, [some (.ref 74)], [], σ) = Lq G d M_15 (6, [some (.ref 74)], [.ref 74, .int (5 : Int32)], σ) :=
  (aUn_eq (tkd G.1 G.2) tmi (aRun (tkd G.1 G.2) tmi tmt d) M_15 [] 4 (0, [some (.ref 74)], [], σ)).trans rfl
theorem q_15_4505 (G : Nat × (Nat → Int32)) (d : Nat) (s1 : Int32) (σ : aH) : Lq G d M_15 (6, [some (.ref 74)], [.ref 74, .int s1], σ) = aCI (Rn G d 16 [.ref 74] σ) fun v2 σ1 => Lq G d M_15 (9, [some (.ref 74)], [.int v2, .int s1], σ1) :=
  (aUn_eq (tkd G.1 G.2) tmi (aRun (tkd G.1 G.2) tmi tmt d) M_15 [] 1 (6, [some (.ref 74)], [.ref 74, .int s1], σ)).trans rfl
theorem q_15_4506 (G : Nat × (Nat → Int32)) (d : Nat) (s0 : Int32) (s1 : Int32) (σ : aH) : Lq G d M_15 (9, [some (.ref 74)], [.int s0, .int s1], σ) = Lq G d M_15 (10, [some (.ref 74)], [.int (s1 >>> (s0 &&& 31))], σ) :=
  (aUn_eq (tkd G.1 G.2) tmi (aRun (tkd G.1 G.2) tmi tmt d) M_15 [] 1 (9, [some (.ref 74)], [.int s0, .int s1], σ)).trans rfl
theorem q_15_4507 (G : Nat × (Nat → Int32)) (d : Nat) (s0 : Int32) (σ : aH) : Lq G d M_15 (10, [some (.ref 74)], [.int s0], σ) = some (.inl (some (.int s0)), σ) :=
  (aUn_eq (tkd G.1 G.2) tmi (aRun (tkd G.1 G.2) tmi tmt d) M_15 [] 1 (10, [some (.ref 74)], [.int s0], σ)).trans rfl
theorem q_15_4508 (G : Nat × (Nat → Int32)) (d : Nat)  (σ : aH) : Lq G d M_15 (0, [some (.ref 76)], [], σ) = Lq G d M_15 (6, [some (.ref 76)], [.ref 76, .int (5 : Int32)], σ) :=
  (aUn_eq (tkd G.1 G.2) tmi (aRun (tkd G.1 G.2) tmi tmt d) M_15 [] 4 (0, [some (.ref 76)], [], σ)).trans rfl
theorem q_15_4509 (G : Nat × (Nat → Int32)) (d : Nat) (s1 : Int32) (σ : aH) : Lq G d M_15 (6, [some (.ref 76)], [.ref 76, .int s1], σ) = aCI (Rn G d 16 [.ref 76] σ) fun v2 σ1 => Lq G d M_15 (9, [some (.ref 76)], [.int v2, .int s1], σ1) :=
  (aUn_eq (tkd G.1 G.2) tmi (aRun (tkd G.1 G.2) tmi tmt d) M_15 [] 1 (6, [some (.ref 76)], [.ref 76, .int s1], σ)).trans rfl
theorem q_15_4510 (G : Nat × (Nat → Int32)) (d : Nat) (s0 : Int32) (s1 : Int32) (σ : aH) : Lq G d M_15 (9, [some (.ref 76)], [.int s0, .int s1], σ) = Lq G d M_15 (10, [some (.ref 76)], [.int (s1 >>> (s0 &&& 31))], σ) :=
  (aUn_eq (tkd G.1 G.2) tmi (aRun (tkd G.1 G.2) tmi tmt d) M_15 [] 1 (9, [some (.ref 76)], [.int s0, .int s1], σ)).trans rfl
theorem q_15_4511 (G : Nat × (Nat → Int32)) (d : Nat) (s0 : Int32) (σ : aH) : Lq G d M_15 (10, [some (.ref 76)], [.int s0], σ) = some (.inl (some (.int s0)), σ) :=
  (aUn_eq (tkd G.1 G.2) tmi (aRun (tkd G.1 G.2) tmi tmt d) M_15 [] 1 (10, [some (.ref 76)], [.int s0], σ)).trans rfl
theorem q_15_4512 (G : Nat × (Nat → Int32)) (d : Nat)  (σ : aH) : Lq G d M_15 (0, [some (.ref 78)], [], σ) = Lq G d M_15 (6, [some (.ref 78)], [.ref 78, .int (5 : Int32)], σ) :=
  (aUn_eq (tkd G.1 G.2) tmi (aRun (tkd G.1 G.2) tmi tmt d) M_15 [] 4 (0, [some (.ref 78)], [], σ)).trans rfl
theorem q_15_4513 (G : Nat × (Nat → Int32)) (d : Nat) (s1 : Int32) (σ : aH) : Lq G d M_15 (6, [some (.ref 78)], [.ref 78, .int s1], σ) = aCI (Rn G d 16 [.ref 78] σ) fun v2 σ1 => Lq G d M_15 (9, [some (.ref 78)], [.int v2, .int s1], σ1) :=
  (aUn_eq (tkd G.1 G.2) tmi (aRun (tkd G.1 G.2) tmi tmt d) M_15 [] 1 (6, [some (.ref 78)], [.ref 78, .int s1], σ)).trans rfl
theorem q_15_4514 (G : Nat × (Nat → Int32)) (d : Nat) (s0 : Int32) (s1 : Int32) (σ : aH) : Lq G d M_15 (9, [some (.ref 78)], [.int s0, .int s1], σ) = Lq G d M_15 (10, [some (.ref 78)], [.int (s1 >>> (s0 &&& 31))], σ) :=
  (aUn_eq (tkd G.1 G.2) tmi (aRun (tkd G.1 G.2) tmi tmt d) M_15 [] 1 (9, [some (.ref 78)], [.int s0, .int s1], σ)).trans rfl
theorem q_15_4515 (G : Nat × (Nat → Int32)) (d : Nat) (s0 : Int32) (σ : aH) : Lq G d M_15 (10, [some (.ref 78)], [.int s0], σ) = some (.inl (some (.int s0)), σ) :=
  (aUn_eq (tkd G.1 G.2) tmi (aRun (tkd G.1 G.2) tmi tmt d) M_15 [] 1 (10, [some (.ref 78)], [.int s0], σ)).trans rfl
theorem q_15_4516 (G : Nat × (Nat → Int32)) (d : Nat)  (σ : aH) : Lq G d M_15 (0, [some (.ref 80)], [], σ) = Lq G d M_15 (6, [some (.ref 80)], [.ref 80, .int (5 : Int32)], σ) :=
  (aUn_eq (tkd G.1 G.2) tmi (aRun (tkd G.1 G.2) tmi tmt d) M_15 [] 4 (0, [some (.ref 80)], [], σ)).trans rfl
theorem q_15_4517 (G : Nat × (Nat → Int32)) (d : Nat) (s1 : Int32) (σ : aH) : Lq G d M_15 (6, [some (.ref 80)], [.ref 80, .int s1], σ) = aCI (Rn G d 16 [.ref 80] σ) fun v2 σ1 => Lq G d M_15 (9, [some (.ref 80)], [.int v2, .int s1], σ1) :=
  (aUn_eq (tkd G.1 G.2) tmi (aRun (tkd G.1 G.2) tmi tmt d) M_15 [] 1 (6, [some (.ref 80)], [.ref 80, .int s1], σ)).trans rfl
theorem q_15_4518 (G : Nat × (Nat → Int32)) (d : Nat) (s0 : Int32) (s1 : Int32) (σ : aH) : Lq G d M_15 (9, [some (.ref 80)], [.int s0, .int s1], σ) = Lq G d M_15 (10, [some (.ref 80)], [.int (s1 >>> (s0 &&& 31))], σ) :=
  (aUn_eq (tkd G.1 G.2) tmi (aRun (tkd G.1 G.2) tmi tmt d) M_15 [] 1 (9, [some (.ref 80)], [.int s0, .int s1], σ)).trans rfl
theorem q_15_4519 (G : Nat × (Nat → Int32)) (d : Nat) (s0 : Int32) (σ : aH) : Lq G d M_15 (10, [some (.ref 80)], [.int s0], σ) = some (.inl (some (.int s0)), σ) :=
  (aUn_eq (tkd G.1 G.2) tmi (aRun (tkd G.1 G.2) tmi tmt d) M_15 [] 1 (10, [some (.ref 80)], [.int s0], σ)).trans rfl
theorem q_15_4520 (G : Nat × (Nat → Int32)) (d : Nat)  (σ : aH) : Lq G d M_15 (0, [some (.ref 82)], [], σ) = Lq G d M_15 (6, [some (.ref 82)], [.ref 82, .int (3 : Int32)], σ) :=
  (aUn_eq (tkd G.1 G.2) tmi (aRun (tkd G.1 G.2) tmi tmt d) M_15 [] 4 (0, [some (.ref 82)], [], σ)).trans rfl
theorem q_15_4521 (G : Nat × (Nat → Int32)) (d : Nat) (s1 : Int32) (σ : aH) : Lq G d M_15 (6, [some (.ref 82)], [.ref 82, .int s1], σ) = aCI (Rn G d 16 [.ref 82] σ) fun v2 σ1 => Lq G d M_15 (9, [some (.ref 82)], [.int v2, .int s1], σ1) :=
  (aUn_eq (tkd G.1 G.2) tmi (aRun (tkd G.1 G.2) tmi tmt d) M_15 [] 1 (6, [some (.ref 82)], [.ref 82, .int s1], σ)).trans rfl
theorem q_15_4522 (G : Nat × (Nat → Int32)) (d : Nat) (s0 : Int32) (s1 : Int32) (σ : aH) : Lq G d M_15 (9, [some (.ref 82)], [.int s0, .int s1], σ) = Lq G d M_15 (10, [some (.ref 82)], [.int (s1 >>> (s0 &&& 31))], σ) :=
  (aUn_eq (tkd G.1 G.2) tmi (aRun (tkd G.1 G.2) tmi tmt d) M_15 [] 1 (9, [some (.ref 82)], [.int s0, .int s1], σ)).trans rfl
theorem q_15_4523 (G : Nat × (Nat → Int32)) (d : Nat) (s0 : Int32) (σ : aH) : Lq G d M_15 (10, [some (.ref 82)], [.int s0], σ) = some (.inl (some (.int s0)), σ) :=
  (aUn_eq (tkd G.1 G.2) tmi (aRun (tkd G.1 G.2) tmi tmt d) M_15 [] 1 (10, [some (.ref 82)], [.int s0], σ)).trans rfl
theorem q_15_4524 (G : Nat × (Nat → Int32)) (d : Nat)  (σ : aH) : Lq G d M_15 (0, [some (.ref 84)], [], σ) = Lq G d M_15 (6, [some (.ref 84)], [.ref 84, .int (4 : Int32)], σ) :=
  (aUn_eq (tkd G.1 G.2) tmi (aRun (tkd G.1 G.2) tmi tmt d) M_15 [] 4 (0, [some (.ref 84)], [], σ)).trans rfl
theorem q_15_4525 (G : Nat × (Nat → Int32)) (d : Nat) (s1 : Int32) (σ : aH) : Lq G d M_15 (6, [some (.ref 84)], [.ref 84, .int s1], σ) = aCI (Rn G d 16 [.ref 84] σ) fun v2 σ1 => Lq G d M_15 (9, [some (.ref 84)], [.int v2, .int s1], σ1) :=
  (aUn_eq (tkd G.1 G.2) tmi (aRun (tkd G.1 G.2) tmi tmt d) M_15 [] 1 (6, [some (.ref 84)], [.ref 84, .int s1], σ)).trans rfl
theorem q_15_4526 (G : Nat × (Nat → Int32)) (d : Nat) (s0 : Int32) (s1 : Int32) (σ : aH) : Lq G d M_15 (9, [some (.ref 84)], [.int s0, .int s1], σ) = Lq G d M_15 (10, [some (.ref 84)], [.int (s1 >>> (s0 &&& 31))], σ) :=
  (aUn_eq (tkd G.1 G.2) tmi (aRun (tkd G.1 G.2) tmi tmt d) M_15 [] 1 (9, [some (.ref 84)], [.int s0, .int s1], σ)).trans rfl
theorem q_15_4527 (G : Nat × (Nat → Int32)) (d : Nat) (s0 : Int32) (σ : aH) : Lq G d M_15 (10, [some (.ref 84)], [.int s0], σ) = some (.inl (some (.int s0)), σ) :=
  (aUn_eq (tkd G.1 G.2) tmi (aRun (tkd G.1 G.2) tmi tmt d) M_15 [] 1 (10, [some (.ref 84)], [.int s0], σ)).trans rfl
theorem q_15_4528 (G : Nat × (Nat → Int32)) (d : Nat)  (σ : aH) : Lq G d M_15 (0, [some (.ref 86)], [], σ) = Lq G d M_15 (6, [some (.ref 86)], [.ref 86, .int (3 : Int32)], σ) :=
  (aUn_eq (tkd G.1 G.2) tmi (aRun (tkd G.1 G.2) tmi tmt d) M_15 [] 4 (0, [some (.ref 86)], [], σ)).trans rfl
theorem q_15_4529 (G : Nat × (Nat → Int32)) (d : Nat) (s1 : Int32) (σ : aH) : Lq G d M_15 (6, [some (.ref 86)], [.ref 86, .int s1], σ) = aCI (Rn G d 16 [.ref 86] σ) fun v2 σ1 => Lq G d M_15 (9, [some (.ref 86)], [.int v2, .int s1], σ1) :=
  (aUn_eq (tkd G.1 G.2) tmi (aRun (tkd G.1 G.2) tmi tmt d) M_15 [] 1 (6, [some (.ref 86)], [.ref 86, .int s1], σ)).trans rfl
theorem q_15_4530 (G : Nat × (Nat → Int32)) (d : Nat) (s0 : Int32) (s1 : Int32) (σ : aH) : Lq G d M_15 (9, [some (.ref 86)], [.int s0, .int s1], σ) = Lq G d M_15 (10, [some (.ref 86)], [.int (s1 >>> (s0 &&& 31))], σ) :=
  (aUn_eq (tkd G.1 G.2) tmi (aRun (tkd G.1 G.2) tmi tmt d) M_15 [] 1 (9, [some (.ref 86)], [.int s0, .int s1], σ)).trans rfl
theorem q_15_4531 (G : Nat × (Nat → Int32)) (d : Nat) (s0 : Int32) (σ : aH) : Lq G d M_15 (10, [some (.ref 86)], [.int s0], σ) = some (.inl (some (.int s0)), σ) :=
  (aUn_eq (tkd G.1 G.2) tmi (aRun (tkd G.1 G.2) tmi tmt d) M_15 [] 1 (10, [some (.ref 86)], [.int s0], σ)).trans rfl
theorem q_15_4532 (G : Nat × (Nat → Int32)) (d : Nat)  (σ : aH) : Lq G d M_15 (0, [some (.ref 88)], [], σ) = Lq G d M_15 (6, [some (.ref 88)], [.ref 88, .int (4 : Int32)], σ) :=
  (aUn_eq (tkd G.1 G.2) tmi (aRun (tkd G.1 G.2) tmi tmt d) M_15 [] 4 (0, [some (.ref 88)], [], σ)).trans rfl
theorem q_15_4533 (G : Nat × (Nat → Int32)) (d : Nat) (s1 : Int32) (σ : aH) : Lq G d M_15 (6, [some (.ref 88)], [.ref 88, .int s1], σ) = aCI (Rn G d 16 [.ref 88] σ) fun v2 σ1 => Lq G d M_15 (9, [some (.ref 88)], [.int v2, .int s1], σ1) :=
  (aUn_eq (tkd G.1 G.2) tmi (aRun (tkd G.1 G.2) tmi tmt d) M_15 [] 1 (6, [some (.ref 88)], [.ref 88, .int s1], σ)).trans rfl
theorem q_15_4534 (G : Nat × (Nat → Int32)) (d : Nat) (s0 : Int32) (s1 : Int32) (σ : aH) : Lq G d M_15 (9, [some (.ref 88)], [.int s0, .int s1], σ) = Lq G d M_15 (10, [some (.ref 88)], [.int (s1 >>> (s0 &&& 31))], σ) :=
  (aUn_eq (tkd G.1 G.2) tmi (aRun (tkd G.1 G.2) tmi tmt d) M_15 [] 1 (9, [some (.ref 88)], [.int s0, .int s1], σ)).trans rfl
theorem q_15_4535 (G : Nat × (Nat → Int32)) (d : Nat) (s0 : Int32) (σ : aH) : Lq G d M_15 (10, [some (.ref 88)], [.int s0], σ) = some (.inl (some (.int s0)), σ) :=
  (aUn_eq (tkd G.1 G.2) tmi (aRun (tkd G.1 G.2) tmi tmt d) M_15 [] 1 (10, [some (.ref 88)], [.int s0], σ)).trans rfl
theorem q_15_4536 (G : Nat × (Nat → Int32)) (d : Nat)  (σ : aH) : Lq G d M_15 (0, [some (.ref 90)], [], σ) = Lq G d M_15 (6, [some (.ref 90)], [.ref 90, .int (12 : Int32)], σ) :=
  (aUn_eq (tkd G.1 G.2) tmi (aRun (tkd G.1 G.2) tmi tmt d) M_15 [] 4 (0, [some (.ref 90)], [], σ)).trans rfl
theorem q_15_4537 (G : Nat × (Nat → Int32)) (d : Nat) (s1 : Int32) (σ : aH) : Lq G d M_15 (6, [some (.ref 90)], [.ref 90, .int s1], σ) = aCI (Rn G d 16 [.ref 90] σ) fun v2 σ1 => Lq G d M_15 (9, [some (.ref 90)], [.int v2, .int s1], σ1) :=
  (aUn_eq (tkd G.1 G.2) tmi (aRun (tkd G.1 G.2) tmi tmt d) M_15 [] 1 (6, [some (.ref 90)], [.ref 90, .int s1], σ)).trans rfl
theorem q_15_4538 (G : Nat × (Nat → Int32)) (d : Nat) (s0 : Int32) (s1 : Int32) (σ : aH) : Lq G d M_15 (9, [some (.ref 90)], [.int s0, .int s1], σ) = Lq G d M_15 (10, [some (.ref 90)], [.int (s1 >>> (s0 &&& 31))], σ) :=
  (aUn_eq (tkd G.1 G.2) tmi (aRun (tkd G.1 G.2) tmi tmt d) M_15 [] 1 (9, [some (.ref 90)], [.int s0, .int s1], σ)).trans rfl
theorem q_15_4539 (G : Nat × (Nat → Int32)) (d : Nat) (s0 : Int32) (σ : aH) : Lq G d M_15 (10, [some (.ref 90)], [.int s0], σ) = some (.inl (some (.int s0)), σ) :=
  (aUn_eq (tkd G.1 G.2) tmi (aRun (tkd G.1 G.2) tmi tmt d) M_15 [] 1 (10, [some (.ref 90)], [.int s0], σ)).trans rfl
theorem q_15_4540 (G : Nat × (Nat → Int32)) (d : Nat)  (σ : aH) : Lq G d M_15 (0, [some (.ref 92)], [], σ) = Lq G d M_15 (6, [some (.ref 92)], [.ref 92, .int (9 : Int32)], σ) :=
  (aUn_eq (tkd G.1 G.2) tmi (aRun (tkd G.1 G.2) tmi tmt d) M_15 [] 4 (0, [some (.ref 92)], [], σ)).trans rfl
theorem q_15_4541 (G : Nat × (Nat → Int32)) (d : Nat) (s1 : Int32) (σ : aH) : Lq G d M_15 (6, [some (.ref 92)], [.ref 92, .int s1], σ) = aCI (Rn G d 16 [.ref 92] σ) fun v2 σ1 => Lq G d M_15 (9, [some (.ref 92)], [.int v2, .int s1], σ1) :=
  (aUn_eq (tkd G.1 G.2) tmi (aRun (tkd G.1 G.2) tmi tmt d) M_15 [] 1 (6, [some (.ref 92)], [.ref 92, .int s1], σ)).trans rfl
theorem q_15_4542 (G : Nat × (Nat → Int32)) (d : Nat) (s0 : Int32) (s1 : Int32) (σ : aH) : Lq G d M_15 (9, [some (.ref 92)], [.int s0, .int s1], σ) = Lq G d M_15 (10, [some (.ref 92)], [.int (s1 >>> (s0 &&& 31))], σ) :=
  (aUn_eq (tkd G.1 G.2) tmi (aRun (tkd G.1 G.2) tmi tmt d) M_15 [] 1 (9, [some (.ref 92)], [.int s0, .int s1], σ)).trans rfl
theorem q_15_4543 (G : Nat × (Nat → Int32)) (d : Nat) (s0 : Int32) (σ : aH) : Lq G d M_15 (10, [some (.ref 92)], [.int s0], σ) = some (.inl (some (.int s0)), σ) :=
  (aUn_eq (tkd G.1 G.2) tmi (aRun (tkd G.1 G.2) tmi tmt d) M_15 [] 1 (10, [some (.ref 92)], [.int s0], σ)).trans rfl
theorem q_15_4544 (G : Nat × (Nat → Int32)) (d : Nat)  (σ : aH) : Lq G d M_15 (0, [some (.ref 94)], [], σ) = Lq G d M_15 (6, [some (.ref 94)], [.ref 94, .int (4 : Int32)], σ) :=
  (aUn_eq (tkd G.1 G.2) tmi (aRun (tkd G.1 G.2) tmi tmt d) M_15 [] 4 (0, [some (.ref 94)], [], σ)).trans rfl
theorem q_15_4545 (G : Nat × (Nat → Int32)) (d : Nat) (s1 : Int32) (σ : aH) : Lq G d M_15 (6, [some (.ref 94)], [.ref 94, .int s1], σ) = aCI (Rn G d 16 [.ref 94] σ) fun v2 σ1 => Lq G d M_15 (9, [some (.ref 94)], [.int v2, .int s1], σ1) :=
  (aUn_eq (tkd G.1 G.2) tmi (aRun (tkd G.1 G.2) tmi tmt d) M_15 [] 1 (6, [some (.ref 94)], [.ref 94, .int s1], σ)).trans rfl
theorem q_15_4546 (G : Nat × (Nat → Int32)) (d : Nat) (s0 : Int32) (s1 : Int32) (σ : aH) : Lq G d M_15 (9, [some (.ref 94)], [.int s0, .int s1], σ) = Lq G d M_15 (10, [some (.ref 94)], [.int (s1 >>> (s0 &&& 31))], σ) :=
  (aUn_eq (tkd G.1 G.2) tmi (aRun (tkd G.1 G.2) tmi tmt d) M_15 [] 1 (9, [some (.ref 94)], [.int s0, .int s1], σ)).trans rfl
theorem q_15_4547 (G : Nat × (Nat → Int32)) (d : Nat) (s0 : Int32) (σ : aH) : Lq G d M_15 (10, [some (.ref 94)], [.int s0], σ) = some (.inl (some (.int s0)), σ) :=
  (aUn_eq (tkd G.1 G.2) tmi (aRun (tkd G.1 G.2) tmi tmt d) M_15 [] 1 (10, [some (.ref 94)], [.int s0], σ)).trans rfl
theorem q_15_4548 (G : Nat × (Nat → Int32)) (d : Nat)  (σ : aH) : Lq G d M_15 (0, [some (.ref 96)], [], σ) = Lq G d M_15 (6, [some (.ref 96)], [.ref 96, .int (7 : Int32)], σ) :=
  (aUn_eq (tkd G.1 G.2) tmi (aRun (tkd G.1 G.2) tmi tmt d) M_15 [] 4 (0, [some (.ref 96)], [], σ)).trans rfl
theorem q_15_4549 (G : Nat × (Nat → Int32)) (d : Nat) (s1 : Int32) (σ : aH) : Lq G d M_15 (6, [some (.ref 96)], [.ref 96, .int s1], σ) = aCI (Rn G d 16 [.ref 96] σ) fun v2 σ1 => Lq G d M_15 (9, [some (.ref 96)], [.int v2, .int s1], σ1) :=
  (aUn_eq (tkd G.1 G.2) tmi (aRun (tkd G.1 G.2) tmi tmt d) M_15 [] 1 (6, [some (.ref 96)], [.ref 96, .int s1], σ)).trans rfl
theorem q_15_4550 (G : Nat × (Nat → Int32)) (d : Nat) (s0 : Int32) (s1 : Int32) (σ : aH) : Lq G d M_15 (9, [some (.ref 96)], [.int s0, .int s1], σ) = Lq G d M_15 (10, [some (.ref 96)], [.int (s1 >>> (s0 &&& 31))], σ) :=
  (aUn_eq (tkd G.1 G.2) tmi (aRun (tkd G.1 G.2) tmi tmt d) M_15 [] 1 (9, [some (.ref 96)], [.int s0, .int s1], σ)).trans rfl
theorem q_15_4551 (G : Nat × (Nat → Int32)) (d : Nat) (s0 : Int32) (σ : aH) : Lq G d M_15 (10, [some (.ref 96)], [.int s0], σ) = some (.inl (some (.int s0)), σ) :=
  (aUn_eq (tkd G.1 G.2) tmi (aRun (tkd G.1 G.2) tmi tmt d) M_15 [] 1 (10, [some (.ref 96)], [.int s0], σ)).trans rfl
theorem q_15_4552 (G : Nat × (Nat → Int32)) (d : Nat)  (σ : aH) : Lq G d M_15 (0, [some (.ref 98)], [], σ) = Lq G d M_15 (6, [some (.ref 98)], [.ref 98, .int (15 : Int32)], σ) :=
  (aUn_eq (tkd G.1 G.2) tmi (aRun (tkd G.1 G.2) tmi tmt d) M_15 [] 4 (0, [some (.ref 98)], [], σ)).trans rfl
theorem q_15_4553 (G : Nat × (Nat → Int32)) (d : Nat) (s1 : Int32) (σ : aH) : Lq G d M_15 (6, [some (.ref 98)], [.ref 98, .int s1], σ) = aCI (Rn G d 16 [.ref 98] σ) fun v2 σ1 => Lq G d M_15 (9, [some (.ref 98)], [.int v2, .int s1], σ1) :=
  (aUn_eq (tkd G.1 G.2) tmi (aRun (tkd G.1 G.2) tmi tmt d) M_15 [] 1 (6, [some (.ref 98)], [.ref 98, .int s1], σ)).trans rfl
theorem q_15_4554 (G : Nat × (Nat → Int32)) (d : Nat) (s0 : Int32) (s1 : Int32) (σ : aH) : Lq G d M_15 (9, [some (.ref 98)], [.int s0, .int s1], σ) = Lq G d M_15 (10, [some (.ref 98)], [.int (s1 >>> (s0 &&& 31))], σ) :=
  (aUn_eq (tkd G.1 G.2) tmi (aRun (tkd G.1 G.2) tmi tmt d) M_15 [] 1 (9, [some (.ref 98)], [.int s0, .int s1], σ)).trans rfl
theorem q_15_4555 (G : Nat × (Nat → Int32)) (d : Nat) (s0 : Int32) (σ : aH) : Lq G d M_15 (10, [some (.ref 98)], [.int s0], σ) = some (.inl (some (.int s0)), σ) :=
  (aUn_eq (tkd G.1 G.2) tmi (aRun (tkd G.1 G.2) tmi tmt d) M_15 [] 1 (10, [some (.ref 98)], [.int s0], σ)).trans rfl
theorem q_15_4556 (G : Nat × (Nat → Int32)) (d : Nat)  (σ : aH) : Lq G d M_15 (0, [some (.ref 100)], [], σ) = Lq G d M_15 (6, [some (.ref 100)], [.ref 100, .int (3 : Int32)], σ) :=
  (aUn_eq (tkd G.1 G.2) tmi (aRun (tkd G.1 G.2) tmi tmt d) M_15 [] 4 (0, [some (.ref 100)], [], σ)).trans rfl
theorem q_15_4557 (G : Nat × (Nat → Int32)) (d : Nat) (s1 : Int32) (σ : aH) : Lq G d M_15 (6, [some (.ref 100)], [.ref 100, .int s1], σ) = aCI (Rn G d 16 [.ref 100] σ) fun v2 σ1 => Lq G d M_15 (9, [some (.ref 100)], [.int v2, .int s1], σ1) :=
  (aUn_eq (tkd G.1 G.2) tmi (aRun (tkd G.1 G.2) tmi tmt d) M_15 [] 1 (6, [some (.ref 100)], [.ref 100, .int s1], σ)).trans rfl
theorem q_15_4558 (G : Nat × (Nat → Int32)) (d : Nat) (s0 : Int32) (s1 : Int32) (σ : aH) : Lq G d M_15 (9, [some (.ref 100)], [.int s0, .int s1], σ) = Lq G d M_15 (10, [some (.ref 100)], [.int (s1 >>> (s0 &&& 31))], σ) :=
  (aUn_eq (tkd G.1 G.2) tmi (aRun (tkd G.1 G.2) tmi tmt d) M_15 [] 1 (9, [some (.ref 100)], [.int s0, .int s1], σ)).trans rfl
theorem q_15_4559 (G : Nat × (Nat → Int32)) (d : Nat) (s0 : Int32) (σ : aH) : Lq G d M_15 (10, [some (.ref 100)], [.int s0], σ) = some (.inl (some (.int s0)), σ) :=
  (aUn_eq (tkd G.1 G.2) tmi (aRun (tkd G.1 G.2) tmi tmt d) M_15 [] 1 (10, [some (.ref 100)], [.int s0], σ)).trans rfl
theorem q_15_4560 (G : Nat × (Nat → Int32)) (d : Nat)  (σ : aH) : Lq G d M_15 (0, [some (.ref 102)], [], σ) = Lq G d M_15 (6, [some (.ref 102)], [.ref 102, .int (6 : Int32)], σ) :=
  (aUn_eq (tkd G.1 G.2) tmi (aRun (tkd G.1 G.2) tmi tmt d) M_15 [] 4 (0, [some (.ref 102)], [], σ)).trans rfl
theorem q_15_4561 (G : Nat × (Nat → Int32)) (d : Nat) (s1 : Int32) (σ : aH) : Lq G d M_15 (6, [some (.ref 102)], [.ref 102, .int s1], σ) = aCI (Rn G d 16 [.ref 102] σ) fun v2 σ1 => Lq G d M_15 (9, [some (.ref 102)], [.int v2, .int s1], σ1) :=
  (aUn_eq (tkd G.1 G.2) tmi (aRun (tkd G.1 G.2) tmi tmt d) M_15 [] 1 (6, [some (.ref 102)], [.ref 102, .int s1], σ)).trans rfl
theorem q_15_4562 (G : Nat × (Nat → Int32)) (d : Nat) (s0 : Int32) (s1 : Int32) (σ : aH) : Lq G d M_15 (9, [some (.ref 102)], [.int s0, .int s1], σ) = Lq G d M_15 (10, [some (.ref 102)], [.int (s1 >>> (s0 &&& 31))], σ) :=
  (aUn_eq (tkd G.1 G.2) tmi (aRun (tkd G.1 G.2) tmi tmt d) M_15 [] 1 (9, [some (.ref 102)], [.int s0, .int s1], σ)).trans rfl
theorem q_15_4563 (G : Nat × (Nat → Int32)) (d : Nat) (s0 : Int32) (σ : aH) : Lq G d M_15 (10, [some (.ref 102)], [.int s0], σ) = some (.inl (some (.int s0)), σ) :=
  (aUn_eq (tkd G.1 G.2) tmi (aRun (tkd G.1 G.2) tmi tmt d) M_15 [] 1 (10, [some (.ref 102)], [.int s0], σ)).trans rfl
theorem q_15_4564 (G : Nat × (Nat → Int32)) (d : Nat)  (σ : aH) : Lq G d M_15 (0, [some (.ref 104)], [], σ) = Lq G d M_15 (6, [some (.ref 104)], [.ref 104, .int (4 : Int32)], σ) :=
  (aUn_eq (tkd G.1 G.2) tmi (aRun (tkd G.1 G.2) tmi tmt d) M_15 [] 4 (0, [some (.ref 104)], [], σ)).trans rfl
theorem q_15_4565 (G : Nat × (Nat → Int32)) (d : Nat) (s1 : Int32) (σ : aH) : Lq G d M_15 (6, [some (.ref 104)], [.ref 104, .int s1], σ) = aCI (Rn G d 16 [.ref 104] σ) fun v2 σ1 => Lq G d M_15 (9, [some (.ref 104)], [.int v2, .int s1], σ1) :=
  (aUn_eq (tkd G.1 G.2) tmi (aRun (tkd G.1 G.2) tmi tmt d) M_15 [] 1 (6, [some (.ref 104)], [.ref 104, .int s1], σ)).trans rfl
theorem q_15_4566 (G : Nat × (Nat → Int32)) (d : Nat) (s0 : Int32) (s1 : Int32) (σ : aH) : Lq G d M_15 (9, [some (.ref 104)], [.int s0, .int s1], σ) = Lq G d M_15 (10, [some (.ref 104)], [.int (s1 >>> (s0 &&& 31))], σ) :=
  (aUn_eq (tkd G.1 G.2) tmi (aRun (tkd G.1 G.2) tmi tmt d) M_15 [] 1 (9, [some (.ref 104)], [.int s0, .int s1], σ)).trans rfl
theorem q_15_4567 (G : Nat × (Nat → Int32)) (d : Nat) (s0 : Int32) (σ : aH) : Lq G d M_15 (10, [some (.ref 104)], [.int s0], σ) = some (.inl (some (.int s0)), σ) :=
  (aUn_eq (tkd G.1 G.2) tmi (aRun (tkd G.1 G.2) tmi tmt d) M_15 [] 1 (10, [some (.ref 104)], [.int s0], σ)).trans rfl
theorem q_15_4568 (G : Nat × (Nat → Int32)) (d : Nat)  (σ : aH) : Lq G d M_15 (0, [some (.ref 106)], [], σ) = Lq G d M_15 (6, [some (.ref 106)], [.ref 106, .int (5 : Int32)], σ) :=
  (aUn_eq (tkd G.1 G.2) tmi (aRun (tkd G.1 G.2) tmi tmt d) M_15 [] 4 (0, [some (.ref 106)], [], σ)).trans rfl
theorem q_15_4569 (G : Nat × (Nat → Int32)) (d : Nat) (s1 : Int32) (σ : aH) : Lq G d M_15 (6, [some (.ref 106)], [.ref 106, .int s1], σ) = aCI (Rn G d 16 [.ref 106] σ) fun v2 σ1 => Lq G d M_15 (9, [some (.ref 106)], [.int v2, .int s1], σ1) :=
  (aUn_eq (tkd G.1 G.2) tmi (aRun (tkd G.1 G.2) tmi tmt d) M_15 [] 1 (6, [some (.ref 106)], [.ref 106, .int s1], σ)).trans rfl
theorem q_15_4570 (G : Nat × (Nat → Int32)) (d : Nat) (s0 : Int32) (s1 : Int32) (σ : aH) : Lq G d M_15 (9, [some (.ref 106)], [.int s0, .int s1], σ) = Lq G d M_15 (10, [some (.ref 106)], [.int (s1 >>> (s0 &&& 31))], σ) :=
  (aUn_eq (tkd G.1 G.2) tmi (aRun (tkd G.1 G.2) tmi tmt d) M_15 [] 1 (9, [some (.ref 106)], [.int s0, .int s1], σ)).trans rfl
theorem q_15_4571 (G : Nat × (Nat → Int32)) (d : Nat) (s0 : Int32) (σ : aH) : Lq G d M_15 (10, [some (.ref 106)], [.int s0], σ) = some (.inl (some (.int s0)), σ) :=
  (aUn_eq (tkd G.1 G.2) tmi (aRun (tkd G.1 G.2) tmi tmt d) M_15 [] 1 (10, [some (.ref 106)], [.int s0], σ)).trans rfl
theorem q_15_4572 (G : Nat × (Nat → Int32)) (d : Nat)  (σ : aH) : Lq G d M_15 (0, [some (.ref 108)], [], σ) = Lq G d M_15 (6, [some (.ref 108)], [.ref 108, .int (3 : Int32)], σ) :=
  (aUn_eq (tkd G.1 G.2) tmi (aRun (tkd G.1 G.2) tmi tmt d) M_15 [] 4 (0, [some (.ref 108)], [], σ)).trans rfl
theorem q_15_4573 (G : Nat × (Nat → Int32)) (d : Nat) (s1 : Int32) (σ : aH) : Lq G d M_15 (6, [some (.ref 108)], [.ref 108, .int s1], σ) = aCI (Rn G d 16 [.ref 108] σ) fun v2 σ1 => Lq G d M_15 (9, [some (.ref 108)], [.int v2, .int s1], σ1) :=
  (aUn_eq (tkd G.1 G.2) tmi (aRun (tkd G.1 G.2) tmi tmt d) M_15 [] 1 (6, [some (.ref 108)], [.ref 108, .int s1], σ)).trans rfl
theorem q_15_4574 (G : Nat × (Nat → Int32)) (d : Nat) (s0 : Int32) (s1 : Int32) (σ : aH) : Lq G d M_15 (9, [some (.ref 108)], [.int s0, .int s1], σ) = Lq G d M_15 (10, [some (.ref 108)], [.int (s1 >>> (s0 &&& 31))], σ) :=
  (aUn_eq (tkd G.1 G.2) tmi (aRun (tkd G.1 G.2) tmi tmt d) M_15 [] 1 (9, [some (.ref 108)], [.int s0, .int s1], σ)).trans rfl
theorem q_15_4575 (G : Nat × (Nat → Int32)) (d : Nat) (s0 : Int32) (σ : aH) : Lq G d M_15 (10, [some (.ref 108)], [.int s0], σ) = some (.inl (some (.int s0)), σ) :=
  (aUn_eq (tkd G.1 G.2) tmi (aRun (tkd G.1 G.2) tmi tmt d) M_15 [] 1 (10, [some (.ref 108)], [.int s0], σ)).trans rfl
theorem q_15_4576 (G : Nat × (Nat → Int32)) (d : Nat)  (σ : aH) : Lq G d M_15 (0, [some (.ref 110)], [], σ) = Lq G d M_15 (6, [some (.ref 110)], [.ref 110, .int (62 : Int32)], σ) :=
  (aUn_eq (tkd G.1 G.2) tmi (aRun (tkd G.1 G.2) tmi tmt d) M_15 [] 4 (0, [some (.ref 110)], [], σ)).trans rfl
theorem q_15_4577 (G : Nat × (Nat → Int32)) (d : Nat) (s1 : Int32) (σ : aH) : Lq G d M_15 (6, [some (.ref 110)], [.ref 110, .int s1], σ) = aCI (Rn G d 16 [.ref 110] σ) fun v2 σ1 => Lq G d M_15 (9, [some (.ref 110)], [.int v2, .int s1], σ1) :=
  (aUn_eq (tkd G.1 G.2) tmi (aRun (tkd G.1 G.2) tmi tmt d) M_15 [] 1 (6, [some (.ref 110)], [.ref 110, .int s1], σ)).trans rfl
theorem q_15_4578 (G : Nat × (Nat → Int32)) (d : Nat) (s0 : Int32) (s1 : Int32) (σ : aH) : Lq G d M_15 (9, [some (.ref 110)], [.int s0, .int s1], σ) = Lq G d M_15 (10, [some (.ref 110)], [.int (s1 >>> (s0 &&& 31))], σ) :=
  (aUn_eq (tkd G.1 G.2) tmi (aRun (tkd G.1 G.2) tmi tmt d) M_15 [] 1 (9, [some (.ref 110)], [.int s0, .int s1], σ)).trans rfl
theorem q_15_4579 (G : Nat × (Nat → Int32)) (d : Nat) (s0 : Int32) (σ : aH) : Lq G d M_15 (10, [some (.ref 110)], [.int s0], σ) = some (.inl (some (.int s0)), σ) :=
  (aUn_eq (tkd G.1 G.2) tmi (aRun (tkd G.1 G.2) tmi tmt d) M_15 [] 1 (10, [some (.ref 110)], [.int s0], σ)).trans rfl
theorem q_15_4580 (G : Nat × (Nat → Int32)) (d : Nat)  (σ : aH) : Lq G d M_15 (0, [some (.ref 112)], [], σ) = Lq G d M_15 (6, [some (.ref 112)], [.ref 112, .int (6 : Int32)], σ) :=
  (aUn_eq (tkd G.1 G.2) tmi (aRun (tkd G.1 G.2) tmi tmt d) M_15 [] 4 (0, [some (.ref 112)], [], σ)).trans rfl
theorem q_15_4581 (G : Nat × (Nat → Int32)) (d : Nat) (s1 : Int32) (σ : aH) : Lq G d M_15 (6, [some (.ref 112)], [.ref 112, .int s1], σ) = aCI (Rn G d 16 [.ref 112] σ) fun v2 σ1 => Lq G d M_15 (9, [some (.ref 112)], [.int v2, .int s1], σ1) :=
  (aUn_eq (tkd G.1 G.2) tmi (aRun (tkd G.1 G.2) tmi tmt d) M_15 [] 1 (6, [some (.ref 112)], [.ref 112, .int s1], σ)).trans rfl
theorem q_15_4582 (G : Nat × (Nat → Int32)) (d : Nat) (s0 : Int32) (s1 : Int32) (σ : aH) : Lq G d M_15 (9, [some (.ref 112)], [.int s0, .int s1], σ) = Lq G d M_15 (10, [some (.ref 112)], [.int (s1 >>> (s0 &&& 31))], σ) :=
  (aUn_eq (tkd G.1 G.2) tmi (aRun (tkd G.1 G.2) tmi tmt d) M_15 [] 1 (9, [some (.ref 112)], [.int s0, .int s1], σ)).trans rfl
theorem q_15_4583 (G : Nat × (Nat → Int32)) (d : Nat) (s0 : Int32) (σ : aH) : Lq G d M_15 (10, [some (.ref 112)], [.int s0], σ) = some (.inl (some (.int s0)), σ) :=
  (aUn_eq (tkd G.1 G.2) tmi (aRun (tkd G.1 G.2) tmi tmt d) M_15 [] 1 (10, [some (.ref 112)], [.int s0], σ)).trans rfl
theorem q_15_4584 (G : Nat × (Nat → Int32)) (d : Nat)  (σ : aH) : Lq G d M_15 (0, [some (.ref 114)], [], σ) = Lq G d M_15 (6, [some (.ref 114)], [.ref 114, .int (6 : Int32)], σ) :=
  (aUn_eq (tkd G.1 G.2) tmi (aRun (tkd G.1 G.2) tmi tmt d) M_15 [] 4 (0, [some (.ref 114)], [], σ)).trans rfl
theorem q_15_4585 (G : Nat × (Nat → Int32)) (d : Nat) (s1 : Int32) (σ : aH) : Lq G d M_15 (6, [some (.ref 114)], [.ref 114, .int s1], σ) = aCI (Rn G d 16 [.ref 114] σ) fun v2 σ1 => Lq G d M_15 (9, [some (.ref 114)], [.int v2, .int s1], σ1) :=
  (aUn_eq (tkd G.1 G.2) tmi (aRun (tkd G.1 G.2) tmi tmt d) M_15 [] 1 (6, [some (.ref 114)], [.ref 114, .int s1], σ)).trans rfl
theorem q_15_4586 (G : Nat × (Nat → Int32)) (d : Nat) (s0 : Int32) (s1 : Int32) (σ : aH) : Lq G d M_15 (9, [some (.ref 114)], [.int s0, .int s1], σ) = Lq G d M_15 (10, [some (.ref 114)], [.int (s1 >>> (s0 &&& 31))], σ) :=
  (aUn_eq (tkd G.1 G.2) tmi (aRun (tkd G.1 G.2) tmi tmt d) M_15 [] 1 (9, [some (.ref 114)], [.int s0, .int s1], σ)).trans rfl
theorem q_15_4587 (G : Nat × (Nat → Int32)) (d : Nat) (s0 : Int32) (σ : aH) : Lq G d M_15 (10, [some (.ref 114)], [.int s0], σ) = some (.inl (some (.int s0)), σ) :=
  (aUn_eq (tkd G.1 G.2) tmi (aRun (tkd G.1 G.2) tmi tmt d) M_15 [] 1 (10, [some (.ref 114)], [.int s0], σ)).trans rfl
theorem q_15_4588 (G : Nat × (Nat → Int32)) (d : Nat)  (σ : aH) : Lq G d M_15 (0, [some (.ref 116)], [], σ) = Lq G d M_15 (6, [some (.ref 116)], [.ref 116, .int (5 : Int32)], σ) :=
  (aUn_eq (tkd G.1 G.2) tmi (aRun (tkd G.1 G.2) tmi tmt d) M_15 [] 4 (0, [some (.ref 116)], [], σ)).trans rfl
theorem q_15_4589 (G : Nat × (Nat → Int32)) (d : Nat) (s1 : Int32) (σ : aH) : Lq G d M_15 (6, [some (.ref 116)], [.ref 116, .int s1], σ) = aCI (Rn G d 16 [.ref 116] σ) fun v2 σ1 => Lq G d M_15 (9, [some (.ref 116)], [.int v2, .int s1], σ1) :=
  (aUn_eq (tkd G.1 G.2) tmi (aRun (tkd G.1 G.2) tmi tmt d) M_15 [] 1 (6, [some (.ref 116)], [.ref 116, .int s1], σ)).trans rfl
theorem q_15_4590 (G : Nat × (Nat → Int32)) (d : Nat) (s0 : Int32) (s1 : Int32) (σ : aH) : Lq G d M_15 (9, [some (.ref 116)], [.int s0, .int s1], σ) = Lq G d M_15 (10, [some (.ref 116)], [.int (s1 >>> (s0 &&& 31))], σ) :=
  (aUn_eq (tkd G.1 G.2) tmi (aRun (tkd G.1 G.2) tmi tmt d) M_15 [] 1 (9, [some (.ref 116)], [.int s0, .int s1], σ)).trans rfl
theorem q_15_4591 (G : Nat × (Nat → Int32)) (d : Nat) (s0 : Int32) (σ : aH) : Lq G d M_15 (10, [some (.ref 116)], [.int s0], σ) = some (.inl (some (.int s0)), σ) :=
  (aUn_eq (tkd G.1 G.2) tmi (aRun (tkd G.1 G.2) tmi tmt d) M_15 [] 1 (10, [some (.ref 116)], [.int s0], σ)).trans rfl
theorem q_15_4592 (G : Nat × (Nat → Int32)) (d : Nat)  (σ : aH) : Lq G d M_15 (0, [some (.ref 118)], [], σ) = Lq G d M_15 (6, [some (.ref 118)], [.ref 118, .int (5 : Int32)], σ) :=
  (aUn_eq (tkd G.1 G.2) tmi (aRun (tkd G.1 G.2) tmi tmt d) M_15 [] 4 (0, [some (.ref 118)], [], σ)).trans rfl
theorem q_15_4593 (G : Nat × (Nat → Int32)) (d : Nat) (s1 : Int32) (σ : aH) : Lq G d M_15 (6, [some (.ref 118)], [.ref 118, .int s1], σ) = aCI (Rn G d 16 [.ref 118] σ) fun v2 σ1 => Lq G d M_15 (9, [some (.ref 118)], [.int v2, .int s1], σ1) :=
  (aUn_eq (tkd G.1 G.2) tmi (aRun (tkd G.1 G.2) tmi tmt d) M_15 [] 1 (6, [some (.ref 118)], [.ref 118, .int s1], σ)).trans rfl
theorem q_15_4594 (G : Nat × (Nat → Int32)) (d : Nat) (s0 : Int32) (s1 : Int32) (σ : aH) : Lq G d M_15 (9, [some (.ref 118)], [.int s0, .int s1], σ) = Lq G d M_15 (10, [some (.ref 118)], [.int (s1 >>> (s0 &&& 31))], σ) :=
  (aUn_eq (tkd G.1 G.2) tmi (aRun (tkd G.1 G.2) tmi tmt d) M_15 [] 1 (9, [some (.ref 118)], [.int s0, .int s1], σ)).trans rfl
theorem q_15_4595 (G : Nat × (Nat → Int32)) (d : Nat) (s0 : Int32) (σ : aH) : Lq G d M_15 (10, [some (.ref 118)], [.int s0], σ) = some (.inl (some (.int s0)), σ) :=
  (aUn_eq (tkd G.1 G.2) tmi (aRun (tkd G.1 G.2) tmi tmt d) M_15 [] 1 (10, [some (.ref 118)], [.int s0], σ)).trans rfl
theorem q_15_4596 (G : Nat × (Nat → Int32)) (d : Nat)  (σ : aH) : Lq G d M_15 (0, [some (.ref 120)], [], σ) = Lq G d M_15 (6, [some (.ref 120)], [.ref 120, .int (5 : Int32)], σ) :=
  (aUn_eq (tkd G.1 G.2) tmi (aRun (tkd G.1 G.2) tmi tmt d) M_15 [] 4 (0, [some (.ref 120)], [], σ)).trans rfl
theorem q_15_4597 (G : Nat × (Nat → Int32)) (d : Nat) (s1 : Int32) (σ : aH) : Lq G d M_15 (6, [some (.ref 120)], [.ref 120, .int s1], σ) = aCI (Rn G d 16 [.ref 120] σ) fun v2 σ1 => Lq G d M_15 (9, [some (.ref 120)], [.int v2, .int s1], σ1) :=
  (aUn_eq (tkd G.1 G.2) tmi (aRun (tkd G.1 G.2) tmi tmt d) M_15 [] 1 (6, [some (.ref 120)], [.ref 120, .int s1], σ)).trans rfl
theorem q_15_4598 (G : Nat × (Nat → Int32)) (d : Nat) (s0 : Int32) (s1 : Int32) (σ : aH) : Lq G d M_15 (9, [some (.ref 120)], [.int s0, .int s1], σ) = Lq G d M_15 (10, [some (.ref 120)], [.int (s1 >>> (s0 &&& 31))], σ) :=
  (aUn_eq (tkd G.1 G.2) tmi (aRun (tkd G.1 G.2) tmi tmt d) M_15 [] 1 (9, [some (.ref 120)], [.int s0, .int s1], σ)).trans rfl
theorem q_15_4599 (G : Nat × (Nat → Int32)) (d : Nat) (s0 : Int32) (σ : aH) : Lq G d M_15 (10, [some (.ref 120)], [.int s0], σ) = some (.inl (some (.int s0)), σ) :=
  (aUn_eq (tkd G.1 G.2) tmi (aRun (tkd G.1 G.2) tmi tmt d) M_15 [] 1 (10, [some (.ref 120)], [.int s0], σ)).trans rfl
theorem q_15_4600 (G : Nat × (Nat → Int32)) (d : Nat)  (σ : aH) : Lq G d M_15 (0, [some (.ref 122)], [], σ) = Lq G d M_15 (6, [some (.ref 122)], [.ref 122, .int (4 : Int32)], σ) :=
  (aUn_eq (tkd G.1 G.2) tmi (aRun (tkd G.1 G.2) tmi tmt d) M_15 [] 4 (0, [some (.ref 122)], [], σ)).trans rfl
theorem q_15_4601 (G : Nat × (Nat → Int32)) (d : Nat) (s1 : Int32) (σ : aH) : Lq G d M_15 (6, [some (.ref 122)], [.ref 122, .int s1], σ) = aCI (Rn G d 16 [.ref 122] σ) fun v2 σ1 => Lq G d M_15 (9, [some (.ref 122)], [.int v2, .int s1], σ1) :=
  (aUn_eq (tkd G.1 G.2) tmi (aRun (tkd G.1 G.2) tmi tmt d) M_15 [] 1 (6, [some (.ref 122)], [.ref 122, .int s1], σ)).trans rfl
theorem q_15_4602 (G : Nat × (Nat → Int32)) (d : Nat) (s0 : Int32) (s1 : Int32) (σ : aH) : Lq G d M_15 (9, [some (.ref 122)], [.int s0, .int s1], σ) = Lq G d M_15 (10, [some (.ref 122)], [.int (s1 >>> (s0 &&& 31))], σ) :=
  (aUn_eq (tkd G.1 G.2) tmi (aRun (tkd G.1 G.2) tmi tmt d) M_15 [] 1 (9, [some (.ref 122)], [.int s0, .int s1], σ)).trans rfl
theorem q_15_4603 (G : Nat × (Nat → Int32)) (d : Nat) (s0 : Int32) (σ : aH) : Lq G d M_15 (10, [some (.ref 122)], [.int s0], σ) = some (.inl (some (.int s0)), σ) :=
  (aUn_eq (tkd G.1 G.2) tmi (aRun (tkd G.1 G.2) tmi tmt d) M_15 [] 1 (10, [some (.ref 122)], [.int s0], σ)).trans rfl
theorem q_15_4604 (G : Nat × (Nat → Int32)) (d : Nat)  (σ : aH) : Lq G d M_15 (0, [some (.ref 124)], [], σ) = Lq G d M_15 (6, [some (.ref 124)], [.ref 124, .int (4 : Int32)], σ) :=
  (aUn_eq (tkd G.1 G.2) tmi (aRun (tkd G.1 G.2) tmi tmt d) M_15 [] 4 (0, [some (.ref 124)], [], σ)).trans rfl
theorem q_15_4605 (G : Nat × (Nat → Int32)) (d : Nat) (s1 : Int32) (σ : aH) : Lq G d M_15 (6, [some (.ref 124)], [.ref 124, .int s1], σ) = aCI (Rn G d 16 [.ref 124] σ) fun v2 σ1 => Lq G d M_15 (9, [some (.ref 124)], [.int v2, .int s1], σ1) :=
  (aUn_eq (tkd G.1 G.2) tmi (aRun (tkd G.1 G.2) tmi tmt d) M_15 [] 1 (6, [some (.ref 124)], [.ref 124, .int s1], σ)).trans rfl
theorem q_15_4606 (G : Nat × (Nat → Int32)) (d : Nat) (s0 : Int32) (s1 : Int32) (σ : aH) : Lq G d M_15 (9, [some (.ref 124)], [.int s0, .int s1], σ) = Lq G d M_15 (10, [some (.ref 124)], [.int (s1 >>> (s0 &&& 31))], σ) :=
  (aUn_eq (tkd G.1 G.2) tmi (aRun (tkd G.1 G.2) tmi tmt d) M_15 [] 1 (9, [some (.ref 124)], [.int s0, .int s1], σ)).trans rfl
theorem q_15_4607 (G : Nat × (Nat → Int32)) (d : Nat) (s0 : Int32) (σ : aH) : Lq G d M_15 (10, [some (.ref 124)], [.int s0], σ) = some (.inl (some (.int s0)), σ) :=
  (aUn_eq (tkd G.1 G.2) tmi (aRun (tkd G.1 G.2) tmi tmt d) M_15 [] 1 (10, [some (.ref 124)], [.int s0], σ)).trans rfl
theorem q_15_4608 (G : Nat × (Nat → Int32)) (d : Nat)  (σ : aH) : Lq G d M_15 (0, [some (.ref 126)], [], σ) = Lq G d M_15 (6, [some (.ref 126)], [.ref 126, .int (9 : Int32)], σ) :=
  (aUn_eq (tkd G.1 G.2) tmi (aRun (tkd G.1 G.2) tmi tmt d) M_15 [] 4 (0, [some (.ref 126)], [], σ)).trans rfl
theorem q_15_4609 (G : Nat × (Nat → Int32)) (d : Nat) (s1 : Int32) (σ : aH) : Lq G d M_15 (6, [some (.ref 126)], [.ref 126, .int s1], σ) = aCI (Rn G d 16 [.ref 126] σ) fun v2 σ1 => Lq G d M_15 (9, [some (.ref 126)], [.int v2, .int s1], σ1) :=
  (aUn_eq (tkd G.1 G.2) tmi (aRun (tkd G.1 G.2) tmi tmt d) M_15 [] 1 (6, [some (.ref 126)], [.ref 126, .int s1], σ)).trans rfl
theorem q_15_4610 (G : Nat × (Nat → Int32)) (d : Nat) (s0 : Int32) (s1 : Int32) (σ : aH) : Lq G d M_15 (9, [some (.ref 126)], [.int s0, .int s1], σ) = Lq G d M_15 (10, [some (.ref 126)], [.int (s1 >>> (s0 &&& 31))], σ) :=
  (aUn_eq (tkd G.1 G.2) tmi (aRun (tkd G.1 G.2) tmi tmt d) M_15 [] 1 (9, [some (.ref 126)], [.int s0, .int s1], σ)).trans rfl
theorem q_15_4611 (G : Nat × (Nat → Int32)) (d : Nat) (s0 : Int32) (σ : aH) : Lq G d M_15 (10, [some (.ref 126)], [.int s0], σ) = some (.inl (some (.int s0)), σ) :=
  (aUn_eq (tkd G.1 G.2) tmi (aRun (tkd G.1 G.2) tmi tmt d) M_15 [] 1 (10, [some (.ref 126)], [.int s0], σ)).trans rfl
theorem q_15_4612 (G : Nat × (Nat → Int32)) (d : Nat)  (σ : aH) : Lq G d M_15 (0, [some (.ref 128)], [], σ) = Lq G d M_15 (6, [some (.ref 128)], [.ref 128, .int (4 : Int32)], σ) :=
  (aUn_eq (tkd G.1 G.2) tmi (aRun (tkd G.1 G.2) tmi tmt d) M_15 [] 4 (0, [some (.ref 128)], [], σ)).trans rfl
theorem q_15_4613 (G : Nat × (Nat → Int32)) (d : Nat) (s1 : Int32) (σ : aH) : Lq G d M_15 (6, [some (.ref 128)], [.ref 128, .int s1], σ) = aCI (Rn G d 16 [.ref 128] σ) fun v2 σ1 => Lq G d M_15 (9, [some (.ref 128)], [.int v2, .int s1], σ1) :=
  (aUn_eq (tkd G.1 G.2) tmi (aRun (tkd G.1 G.2) tmi tmt d) M_15 [] 1 (6, [some (.ref 128)], [.ref 128, .int s1], σ)).trans rfl
theorem q_15_4614 (G : Nat × (Nat → Int32)) (d : Nat) (s0 : Int32) (s1 : Int32) (σ : aH) : Lq G d M_15 (9, [some (.ref 128)], [.int s0, .int s1], σ) = Lq G d M_15 (10, [some (.ref 128)], [.int (s1 >>> (s0 &&& 31))], σ) :=
  (aUn_eq (tkd G.1 G.2) tmi (aRun (tkd G.1 G.2) tmi tmt d) M_15 [] 1 (9, [some (.ref 128)], [.int s0, .int s1], σ)).trans rfl
theorem q_15_4615 (G : Nat × (Nat → Int32)) (d : Nat) (s0 : Int32) (σ : aH) : Lq G d M_15 (10, [some (.ref 128)], [.int s0], σ) = some (.inl (some (.int s0)), σ) :=
  (aUn_eq (tkd G.1 G.2) tmi (aRun (tkd G.1 G.2) tmi tmt d) M_15 [] 1 (10, [some (.ref 128)], [.int s0], σ)).trans rfl
theorem q_26_4616 (G : Nat × (Nat → Int32)) (d : Nat) (x1 : Int32) (σ : aH) : Lq G d M_26 (0, [some (.ref 70), some (.int x1)], [], σ) = Lq G d M_26 (1, [some (.ref 70), some (.int x1)], [.ref 70], σ) :=
  (aUn_eq (tkd G.1 G.2) tmi (aRun (tkd G.1 G.2) tmi tmt d) M_26 [] 1 (0, [some (.ref 70), some (.int x1)], [], σ)).trans rfl
theorem q_26_4617 (G : Nat × (Nat → Int32)) (d : Nat) (x1 : Int32) (σ : aH) : Lq G d M_26 (1, [some (.ref 70), some (.int x1)], [.ref 70], σ) = aCI (Rn G d 14 [.ref 70] σ) fun v2 σ1 => Lq G d M_26 (4, [some (.ref 70), some (.int x1)], [.int v2], σ1) :=
  (aUn_eq (tkd G.1 G.2) tmi (aRun (tkd G.1 G.2) tmi tmt d) M_26 [] 1 (1, [some (.ref 70), some (.int x1)], [.ref 70], σ)).trans rfl
theorem q_26_4618 (G : Nat × (Nat → Int32)) (d : Nat) (x1 : Int32) (s0 : Int32) (σ : aH) : Lq G d M_26 (4, [some (.ref 70), some (.int x1)], [.int s0], σ) = if s0 = 0 then Lq G d M_26 (16, [some (.ref 70), some (.int x1)], [], σ) else Lq G d M_26 (7, [some (.ref 70), some (.int x1)], [], σ) :=
  (aUn_eq (tkd G.1 G.2) tmi (aRun (tkd G.1 G.2) tmi tmt d) M_26 [] 1 (4, [some (.ref 70), some (.int x1)], [.int s0], σ)).trans rfl
theorem q_26_4619 (G : Nat × (Nat → Int32)) (d : Nat) (x1 : Int32) (σ : aH) : Lq G d M_26 (16, [some (.ref 70), some (.int x1)], [], σ) = Lq G d M_26 (21, [some (.ref 70), some (.int x1)], [.int x1, .ref 71], σ) :=
  (aUn_eq (tkd G.1 G.2) tmi (aRun (tkd G.1 G.2) tmi tmt d) M_26 [] 3 (16, [some (.ref 70), some (.int x1)], [], σ)).trans rfl
theorem q_26_4620 (G : Nat × (Nat → Int32)) (d : Nat) (x1 : Int32) (s0 : Int32) (σ : aH) : Lq G d M_26 (21, [some (.ref 70), some (.int x1)], [.int s0, .ref 71], σ) = none :=
  (aUn_eq (tkd G.1 G.2) tmi (aRun (tkd G.1 G.2) tmi tmt d) M_26 [] 1 (21, [some (.ref 70), some (.int x1)], [.int s0, .ref 71], σ)).trans rfl
theorem q_26_4621 (G : Nat × (Nat → Int32)) (d : Nat) (x1 : Int32) (σ : aH) : Lq G d M_26 (7, [some (.ref 70), some (.int x1)], [], σ) = Lq G d M_26 (12, [some (.ref 70), some (.int x1)], [.int x1, .ref 71], σ) :=
  (aUn_eq (tkd G.1 G.2) tmi (aRun (tkd G.1 G.2) tmi tmt d) M_26 [] 3 (7, [some (.ref 70), some (.int x1)], [], σ)).trans rfl
theorem q_26_4622 (G : Nat × (Nat → Int32)) (d : Nat) (x1 : Int32) (s0 : Int32) (σ : aH) : Lq G d M_26 (12, [some (.ref 70), some (.int x1)], [.int s0, .ref 71], σ) = aCI (Rn G d 27 [.ref 71, .int s0] σ) fun v2 σ1 => Lq G d M_26 (15, [some (.ref 70), some (.int x1)], [.int v2], σ1) :=
  (aUn_eq (tkd G.1 G.2) tmi (aRun (tkd G.1 G.2) tmi tmt d) M_26 [] 1 (12, [some (.ref 70), some (.int x1)], [.int s0, .ref 71], σ)).trans rfl
theorem q_26_4623 (G : Nat × (Nat → Int32)) (d : Nat) (x1 : Int32) (s0 : Int32) (σ : aH) : Lq G d M_26 (15, [some (.ref 70), some (.int x1)], [.int s0], σ) = aNar .char (s0) (some (.inl (some (.int s0)), σ)) :=
  (aUn_eq (tkd G.1 G.2) tmi (aRun (tkd G.1 G.2) tmi tmt d) M_26 [] 1 (15, [some (.ref 70), some (.int x1)], [.int s0], σ)).trans rfl
theorem q_26_4624 (G : Nat × (Nat → Int32)) (d : Nat) (x1 : Int32) (σ : aH) : Lq G d M_26 (0, [some (.ref 72), some (.int x1)], [], σ) = Lq G d M_26 (1, [some (.ref 72), some (.int x1)], [.ref 72], σ) :=
  (aUn_eq (tkd G.1 G.2) tmi (aRun (tkd G.1 G.2) tmi tmt d) M_26 [] 1 (0, [some (.ref 72), some (.int x1)], [], σ)).trans rfl
theorem q_26_4625 (G : Nat × (Nat → Int32)) (d : Nat) (x1 : Int32) (σ : aH) : Lq G d M_26 (1, [some (.ref 72), some (.int x1)], [.ref 72], σ) = aCI (Rn G d 14 [.ref 72] σ) fun v2 σ1 => Lq G d M_26 (4, [some (.ref 72), some (.int x1)], [.int v2], σ1) :=
  (aUn_eq (tkd G.1 G.2) tmi (aRun (tkd G.1 G.2) tmi tmt d) M_26 [] 1 (1, [some (.ref 72), some (.int x1)], [.ref 72], σ)).trans rfl
theorem q_26_4626 (G : Nat × (Nat → Int32)) (d : Nat) (x1 : Int32) (s0 : Int32) (σ : aH) : Lq G d M_26 (4, [some (.ref 72), some (.int x1)], [.int s0], σ) = if s0 = 0 then Lq G d M_26 (16, [some (.ref 72), some (.int x1)], [], σ) else Lq G d M_26 (7, [some (.ref 72), some (.int x1)], [], σ) :=
  (aUn_eq (tkd G.1 G.2) tmi (aRun (tkd G.1 G.2) tmi tmt d) M_26 [] 1 (4, [some (.ref 72), some (.int x1)], [.int s0], σ)).trans rfl
theorem q_26_4627 (G : Nat × (Nat → Int32)) (d : Nat) (x1 : Int32) (σ : aH) : Lq G d M_26 (16, [some (.ref 72), some (.int x1)], [], σ) = Lq G d M_26 (21, [some (.ref 72), some (.int x1)], [.int x1, .ref 73], σ) :=
  (aUn_eq (tkd G.1 G.2) tmi (aRun (tkd G.1 G.2) tmi tmt d) M_26 [] 3 (16, [some (.ref 72), some (.int x1)], [], σ)).trans rfl
theorem q_26_4628 (G : Nat × (Nat → Int32)) (d : Nat) (x1 : Int32) (s0 : Int32) (σ : aH) : Lq G d M_26 (21, [some (.ref 72), some (.int x1)], [.int s0, .ref 73], σ) = none :=
  (aUn_eq (tkd G.1 G.2) tmi (aRun (tkd G.1 G.2) tmi tmt d) M_26 [] 1 (21, [some (.ref 72), some (.int x1)], [.int s0, .ref 73], σ)).trans rfl
theorem q_26_4629 (G : Nat × (Nat → Int32)) (d : Nat) (x1 : Int32) (σ : aH) : Lq G d M_26 (7, [some (.ref 72), some (.int x1)], [], σ) = Lq G d M_26 (12, [some (.ref 72), some (.int x1)], [.int x1, .ref 73], σ) :=
  (aUn_eq (tkd G.1 G.2) tmi (aRun (tkd G.1 G.2) tmi tmt d) M_26 [] 3 (7, [some (.ref 72), some (.int x1)], [], σ)).trans rfl
theorem q_26_4630 (G : Nat × (Nat → Int32)) (d : Nat) (x1 : Int32) (s0 : Int32) (σ : aH) : Lq G d M_26 (12, [some (.ref 72), some (.int x1)], [.int s0, .ref 73], σ) = aCI (Rn G d 27 [.ref 73, .int s0] σ) fun v2 σ1 => Lq G d M_26 (15, [some (.ref 72), some (.int x1)], [.int v2], σ1) :=
  (aUn_eq (tkd G.1 G.2) tmi (aRun (tkd G.1 G.2) tmi tmt d) M_26 [] 1 (12, [some (.ref 72), some (.int x1)], [.int s0, .ref 73], σ)).trans rfl
theorem q_26_4631 (G : Nat × (Nat → Int32)) (d : Nat) (x1 : Int32) (s0 : Int32) (σ : aH) : Lq G d M_26 (15, [some (.ref 72), some (.int x1)], [.int s0], σ) = aNar .char (s0) (some (.inl (some (.int s0)), σ)) :=
  (aUn_eq (tkd G.1 G.2) tmi (aRun (tkd G.1 G.2) tmi tmt d) M_26 [] 1 (15, [some (.ref 72), some (.int x1)], [.int s0], σ)).trans rfl
theorem q_26_4632 (G : Nat × (Nat → Int32)) (d : Nat) (x1 : Int32) (σ : aH) : Lq G d M_26 (0, [some (.ref 74), some (.int x1)], [], σ) = Lq G d M_26 (1, [some (.ref 74), some (.int x1)], [.ref 74], σ) :=
  (aUn_eq (tkd G.1 G.2) tmi (aRun (tkd G.1 G.2) tmi tmt d) M_26 [] 1 (0, [some (.ref 74), some (.int x1)], [], σ)).trans rfl
theorem q_26_4633 (G : Nat × (Nat → Int32)) (d : Nat) (x1 : Int32) (σ : aH) : Lq G d M_26 (1, [some (.ref 74), some (.int x1)], [.ref 74], σ) = aCI (Rn G d 14 [.ref 74] σ) fun v2 σ1 => Lq G d M_26 (4, [some (.ref 74), some (.int x1)], [.int v2], σ1) :=
  (aUn_eq (tkd G.1 G.2) tmi (aRun (tkd G.1 G.2) tmi tmt d) M_26 [] 1 (1, [some (.ref 74), some (.int x1)], [.ref 74], σ)).trans rfl
theorem q_26_4634 (G : Nat × (Nat → Int32)) (d : Nat) (x1 : Int32) (s0 : Int32) (σ : aH) : Lq G d M_26 (4, [some (.ref 74), some (.int x1)], [.int s0], σ) = if s0 = 0 then Lq G d M_26 (16, [some (.ref 74), some (.int x1)], [], σ) else Lq G d M_26 (7, [some (.ref 74), some (.int x1)], [], σ) :=
  (aUn_eq (tkd G.1 G.2) tmi (aRun (tkd G.1 G.2) tmi tmt d) M_26 [] 1 (4, [some (.ref 74), some (.int x1)], [.int s0], σ)).trans rfl
theorem q_26_4635 (G : Nat × (Nat → Int32)) (d : Nat) (x1 : Int32) (σ : aH) : Lq G d M_26 (16, [some (.ref 74), some (.int x1)], [], σ) = Lq G d M_26 (21, [some (.ref 74), some (.int x1)], [.int x1, .ref 75], σ) :=
  (aUn_eq (tkd G.1 G.2) tmi (aRun (tkd G.1 G.2) tmi tmt d) M_26 [] 3 (16, [some (.ref 74), some (.int x1)], [], σ)).trans rfl
