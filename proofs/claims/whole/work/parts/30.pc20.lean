/-! ===== the methods in pieces, as equations (by wip/gen/emit_eqs2.py) ===== -/
set_option maxRecDepth 20000 in
theorem q_13_5647 (G : Nat × (Nat → Int32)) (d : Nat) (x1 : Int32) (x2 : Int32) (s0 : Int32) (s1 : Int32) (s2 : Int32) (σ : aH) : Lq G d M_13 (33, [some (.ref 110), some (.int x1), some (.int x2)], [.int s0, .int s1, .int s2, .ref 111], σ) = none :=
  (aUn_eq (tkd G.1 G.2) tmi (aRun (tkd G.1 G.2) tmi tmt d) M_13 [] 1 (33, [some (.ref 110), some (.int x1), some (.int x2)], [.int s0, .int s1, .int s2, .ref 111], σ)).trans rfl
set_option maxRecDepth 20000 in
theorem q_13_5648 (G : Nat × (Nat → Int32)) (d : Nat) (x1 : Int32) (x2 : Int32) (σ : aH) : Lq G d M_13 (7, [some (.ref 110), some (.int x1), some (.int x2)], [], σ) = Lq G d M_13 (14, [some (.ref 110), some (.int x1), some (.int x2)], [.ref 110, .int x2, .int x1, .ref 111], σ) :=
  (aUn_eq (tkd G.1 G.2) tmi (aRun (tkd G.1 G.2) tmi tmt d) M_13 [] 5 (7, [some (.ref 110), some (.int x1), some (.int x2)], [], σ)).trans rfl
set_option maxRecDepth 20000 in
theorem q_13_5649 (G : Nat × (Nat → Int32)) (d : Nat) (x1 : Int32) (x2 : Int32) (s1 : Int32) (s2 : Int32) (σ : aH) : Lq G d M_13 (14, [some (.ref 110), some (.int x1), some (.int x2)], [.ref 110, .int s1, .int s2, .ref 111], σ) = aCI (Rn G d 15 [.ref 110] σ) fun v2 σ1 => Lq G d M_13 (17, [some (.ref 110), some (.int x1), some (.int x2)], [.int v2, .int s1, .int s2, .ref 111], σ1) :=
  (aUn_eq (tkd G.1 G.2) tmi (aRun (tkd G.1 G.2) tmi tmt d) M_13 [] 1 (14, [some (.ref 110), some (.int x1), some (.int x2)], [.ref 110, .int s1, .int s2, .ref 111], σ)).trans rfl
set_option maxRecDepth 20000 in
theorem q_13_5650 (G : Nat × (Nat → Int32)) (d : Nat) (x1 : Int32) (x2 : Int32) (s0 : Int32) (s1 : Int32) (s2 : Int32) (σ : aH) : Lq G d M_13 (17, [some (.ref 110), some (.int x1), some (.int x2)], [.int s0, .int s1, .int s2, .ref 111], σ) = aCI (Rn G d 17 [.ref 111, .int s2, .int s1, .int s0] σ) fun v2 σ1 => Lq G d M_13 (20, [some (.ref 110), some (.int x1), some (.int x2)], [.int v2], σ1) :=
  (aUn_eq (tkd G.1 G.2) tmi (aRun (tkd G.1 G.2) tmi tmt d) M_13 [] 1 (17, [some (.ref 110), some (.int x1), some (.int x2)], [.int s0, .int s1, .int s2, .ref 111], σ)).trans rfl
set_option maxRecDepth 20000 in
theorem q_13_5651 (G : Nat × (Nat → Int32)) (d : Nat) (x1 : Int32) (x2 : Int32) (s0 : Int32) (σ : aH) : Lq G d M_13 (20, [some (.ref 110), some (.int x1), some (.int x2)], [.int s0], σ) = Lq G d M_13 (36, [some (.ref 110), some (.int x1), some (.int x2)], [.int s0], σ) :=
  (aUn_eq (tkd G.1 G.2) tmi (aRun (tkd G.1 G.2) tmi tmt d) M_13 [] 1 (20, [some (.ref 110), some (.int x1), some (.int x2)], [.int s0], σ)).trans rfl
set_option maxRecDepth 20000 in
theorem q_13_5652 (G : Nat × (Nat → Int32)) (d : Nat) (x1 : Int32) (x2 : Int32) (s0 : Int32) (σ : aH) : Lq G d M_13 (36, [some (.ref 110), some (.int x1), some (.int x2)], [.int s0], σ) = some (.inl (some (.int s0)), σ) :=
  (aUn_eq (tkd G.1 G.2) tmi (aRun (tkd G.1 G.2) tmi tmt d) M_13 [] 1 (36, [some (.ref 110), some (.int x1), some (.int x2)], [.int s0], σ)).trans rfl
set_option maxRecDepth 20000 in
theorem q_13_5653 (G : Nat × (Nat → Int32)) (d : Nat) (x1 : Int32) (x2 : Int32) (σ : aH) : Lq G d M_13 (0, [some (.ref 112), some (.int x1), some (.int x2)], [], σ) = Lq G d M_13 (1, [some (.ref 112), some (.int x1), some (.int x2)], [.ref 112], σ) :=
  (aUn_eq (tkd G.1 G.2) tmi (aRun (tkd G.1 G.2) tmi tmt d) M_13 [] 1 (0, [some (.ref 112), some (.int x1), some (.int x2)], [], σ)).trans rfl
set_option maxRecDepth 20000 in
theorem q_13_5654 (G : Nat × (Nat → Int32)) (d : Nat) (x1 : Int32) (x2 : Int32) (σ : aH) : Lq G d M_13 (1, [some (.ref 112), some (.int x1), some (.int x2)], [.ref 112], σ) = aCI (Rn G d 14 [.ref 112] σ) fun v2 σ1 => Lq G d M_13 (4, [some (.ref 112), some (.int x1), some (.int x2)], [.int v2], σ1) :=
  (aUn_eq (tkd G.1 G.2) tmi (aRun (tkd G.1 G.2) tmi tmt d) M_13 [] 1 (1, [some (.ref 112), some (.int x1), some (.int x2)], [.ref 112], σ)).trans rfl
set_option maxRecDepth 20000 in
theorem q_13_5655 (G : Nat × (Nat → Int32)) (d : Nat) (x1 : Int32) (x2 : Int32) (s0 : Int32) (σ : aH) : Lq G d M_13 (4, [some (.ref 112), some (.int x1), some (.int x2)], [.int s0], σ) = if s0 = 0 then Lq G d M_13 (23, [some (.ref 112), some (.int x1), some (.int x2)], [], σ) else Lq G d M_13 (7, [some (.ref 112), some (.int x1), some (.int x2)], [], σ) :=
  (aUn_eq (tkd G.1 G.2) tmi (aRun (tkd G.1 G.2) tmi tmt d) M_13 [] 1 (4, [some (.ref 112), some (.int x1), some (.int x2)], [.int s0], σ)).trans rfl
set_option maxRecDepth 20000 in
theorem q_13_5656 (G : Nat × (Nat → Int32)) (d : Nat) (x1 : Int32) (x2 : Int32) (σ : aH) : Lq G d M_13 (23, [some (.ref 112), some (.int x1), some (.int x2)], [], σ) = Lq G d M_13 (30, [some (.ref 112), some (.int x1), some (.int x2)], [.ref 112, .int x2, .int x1, .ref 113], σ) :=
  (aUn_eq (tkd G.1 G.2) tmi (aRun (tkd G.1 G.2) tmi tmt d) M_13 [] 5 (23, [some (.ref 112), some (.int x1), some (.int x2)], [], σ)).trans rfl
set_option maxRecDepth 20000 in
theorem q_13_5657 (G : Nat × (Nat → Int32)) (d : Nat) (x1 : Int32) (x2 : Int32) (s1 : Int32) (s2 : Int32) (σ : aH) : Lq G d M_13 (30, [some (.ref 112), some (.int x1), some (.int x2)], [.ref 112, .int s1, .int s2, .ref 113], σ) = aCI (Rn G d 15 [.ref 112] σ) fun v2 σ1 => Lq G d M_13 (33, [some (.ref 112), some (.int x1), some (.int x2)], [.int v2, .int s1, .int s2, .ref 113], σ1) :=
  (aUn_eq (tkd G.1 G.2) tmi (aRun (tkd G.1 G.2) tmi tmt d) M_13 [] 1 (30, [some (.ref 112), some (.int x1), some (.int x2)], [.ref 112, .int s1, .int s2, .ref 113], σ)).trans rfl
set_option maxRecDepth 20000 in
theorem q_13_5658 (G : Nat × (Nat → Int32)) (d : Nat) (x1 : Int32) (x2 : Int32) (s0 : Int32) (s1 : Int32) (s2 : Int32) (σ : aH) : Lq G d M_13 (33, [some (.ref 112), some (.int x1), some (.int x2)], [.int s0, .int s1, .int s2, .ref 113], σ) = none :=
  (aUn_eq (tkd G.1 G.2) tmi (aRun (tkd G.1 G.2) tmi tmt d) M_13 [] 1 (33, [some (.ref 112), some (.int x1), some (.int x2)], [.int s0, .int s1, .int s2, .ref 113], σ)).trans rfl
set_option maxRecDepth 20000 in
theorem q_13_5659 (G : Nat × (Nat → Int32)) (d : Nat) (x1 : Int32) (x2 : Int32) (σ : aH) : Lq G d M_13 (7, [some (.ref 112), some (.int x1), some (.int x2)], [], σ) = Lq G d M_13 (14, [some (.ref 112), some (.int x1), some (.int x2)], [.ref 112, .int x2, .int x1, .ref 113], σ) :=
  (aUn_eq (tkd G.1 G.2) tmi (aRun (tkd G.1 G.2) tmi tmt d) M_13 [] 5 (7, [some (.ref 112), some (.int x1), some (.int x2)], [], σ)).trans rfl
set_option maxRecDepth 20000 in
theorem q_13_5660 (G : Nat × (Nat → Int32)) (d : Nat) (x1 : Int32) (x2 : Int32) (s1 : Int32) (s2 : Int32) (σ : aH) : Lq G d M_13 (14, [some (.ref 112), some (.int x1), some (.int x2)], [.ref 112, .int s1, .int s2, .ref 113], σ) = aCI (Rn G d 15 [.ref 112] σ) fun v2 σ1 => Lq G d M_13 (17, [some (.ref 112), some (.int x1), some (.int x2)], [.int v2, .int s1, .int s2, .ref 113], σ1) :=
  (aUn_eq (tkd G.1 G.2) tmi (aRun (tkd G.1 G.2) tmi tmt d) M_13 [] 1 (14, [some (.ref 112), some (.int x1), some (.int x2)], [.ref 112, .int s1, .int s2, .ref 113], σ)).trans rfl
set_option maxRecDepth 20000 in
theorem q_13_5661 (G : Nat × (Nat → Int32)) (d : Nat) (x1 : Int32) (x2 : Int32) (s0 : Int32) (s1 : Int32) (s2 : Int32) (σ : aH) : Lq G d M_13 (17, [some (.ref 112), some (.int x1), some (.int x2)], [.int s0, .int s1, .int s2, .ref 113], σ) = aCI (Rn G d 17 [.ref 113, .int s2, .int s1, .int s0] σ) fun v2 σ1 => Lq G d M_13 (20, [some (.ref 112), some (.int x1), some (.int x2)], [.int v2], σ1) :=
  (aUn_eq (tkd G.1 G.2) tmi (aRun (tkd G.1 G.2) tmi tmt d) M_13 [] 1 (17, [some (.ref 112), some (.int x1), some (.int x2)], [.int s0, .int s1, .int s2, .ref 113], σ)).trans rfl
set_option maxRecDepth 20000 in
theorem q_13_5662 (G : Nat × (Nat → Int32)) (d : Nat) (x1 : Int32) (x2 : Int32) (s0 : Int32) (σ : aH) : Lq G d M_13 (20, [some (.ref 112), some (.int x1), some (.int x2)], [.int s0], σ) = Lq G d M_13 (36, [some (.ref 112), some (.int x1), some (.int x2)], [.int s0], σ) :=
  (aUn_eq (tkd G.1 G.2) tmi (aRun (tkd G.1 G.2) tmi tmt d) M_13 [] 1 (20, [some (.ref 112), some (.int x1), some (.int x2)], [.int s0], σ)).trans rfl
set_option maxRecDepth 20000 in
theorem q_13_5663 (G : Nat × (Nat → Int32)) (d : Nat) (x1 : Int32) (x2 : Int32) (s0 : Int32) (σ : aH) : Lq G d M_13 (36, [some (.ref 112), some (.int x1), some (.int x2)], [.int s0], σ) = some (.inl (some (.int s0)), σ) :=
  (aUn_eq (tkd G.1 G.2) tmi (aRun (tkd G.1 G.2) tmi tmt d) M_13 [] 1 (36, [some (.ref 112), some (.int x1), some (.int x2)], [.int s0], σ)).trans rfl
set_option maxRecDepth 20000 in
theorem q_13_5664 (G : Nat × (Nat → Int32)) (d : Nat) (x1 : Int32) (x2 : Int32) (σ : aH) : Lq G d M_13 (0, [some (.ref 114), some (.int x1), some (.int x2)], [], σ) = Lq G d M_13 (1, [some (.ref 114), some (.int x1), some (.int x2)], [.ref 114], σ) :=
  (aUn_eq (tkd G.1 G.2) tmi (aRun (tkd G.1 G.2) tmi tmt d) M_13 [] 1 (0, [some (.ref 114), some (.int x1), some (.int x2)], [], σ)).trans rfl
set_option maxRecDepth 20000 in
theorem q_13_5665 (G : Nat × (Nat → Int32)) (d : Nat) (x1 : Int32) (x2 : Int32) (σ : aH) : Lq G d M_13 (1, [some (.ref 114), some (.int x1), some (.int x2)], [.ref 114], σ) = aCI (Rn G d 14 [.ref 114] σ) fun v2 σ1 => Lq G d M_13 (4, [some (.ref 114), some (.int x1), some (.int x2)], [.int v2], σ1) :=
  (aUn_eq (tkd G.1 G.2) tmi (aRun (tkd G.1 G.2) tmi tmt d) M_13 [] 1 (1, [some (.ref 114), some (.int x1), some (.int x2)], [.ref 114], σ)).trans rfl
set_option maxRecDepth 20000 in
theorem q_13_5666 (G : Nat × (Nat → Int32)) (d : Nat) (x1 : Int32) (x2 : Int32) (s0 : Int32) (σ : aH) : Lq G d M_13 (4, [some (.ref 114), some (.int x1), some (.int x2)], [.int s0], σ) = if s0 = 0 then Lq G d M_13 (23, [some (.ref 114), some (.int x1), some (.int x2)], [], σ) else Lq G d M_13 (7, [some (.ref 114), some (.int x1), some (.int x2)], [], σ) :=
  (aUn_eq (tkd G.1 G.2) tmi (aRun (tkd G.1 G.2) tmi tmt d) M_13 [] 1 (4, [some (.ref 114), some (.int x1), some (.int x2)], [.int s0], σ)).trans rfl
set_option maxRecDepth 20000 in
theorem q_13_5667 (G : Nat × (Nat → Int32)) (d : Nat) (x1 : Int32) (x2 : Int32) (σ : aH) : Lq G d M_13 (23, [some (.ref 114), some (.int x1), some (.int x2)], [], σ) = Lq G d M_13 (30, [some (.ref 114), some (.int x1), some (.int x2)], [.ref 114, .int x2, .int x1, .ref 115], σ) :=
  (aUn_eq (tkd G.1 G.2) tmi (aRun (tkd G.1 G.2) tmi tmt d) M_13 [] 5 (23, [some (.ref 114), some (.int x1), some (.int x2)], [], σ)).trans rfl
set_option maxRecDepth 20000 in
theorem q_13_5668 (G : Nat × (Nat → Int32)) (d : Nat) (x1 : Int32) (x2 : Int32) (s1 : Int32) (s2 : Int32) (σ : aH) : Lq G d M_13 (30, [some (.ref 114), some (.int x1), some (.int x2)], [.ref 114, .int s1, .int s2, .ref 115], σ) = aCI (Rn G d 15 [.ref 114] σ) fun v2 σ1 => Lq G d M_13 (33, [some (.ref 114), some (.int x1), some (.int x2)], [.int v2, .int s1, .int s2, .ref 115], σ1) :=
  (aUn_eq (tkd G.1 G.2) tmi (aRun (tkd G.1 G.2) tmi tmt d) M_13 [] 1 (30, [some (.ref 114), some (.int x1), some (.int x2)], [.ref 114, .int s1, .int s2, .ref 115], σ)).trans rfl
set_option maxRecDepth 20000 in
theorem q_13_5669 (G : Nat × (Nat → Int32)) (d : Nat) (x1 : Int32) (x2 : Int32) (s0 : Int32) (s1 : Int32) (s2 : Int32) (σ : aH) : Lq G d M_13 (33, [some (.ref 114), some (.int x1), some (.int x2)], [.int s0, .int s1, .int s2, .ref 115], σ) = none :=
  (aUn_eq (tkd G.1 G.2) tmi (aRun (tkd G.1 G.2) tmi tmt d) M_13 [] 1 (33, [some (.ref 114), some (.int x1), some (.int x2)], [.int s0, .int s1, .int s2, .ref 115], σ)).trans rfl
set_option maxRecDepth 20000 in
theorem q_13_5670 (G : Nat × (Nat → Int32)) (d : Nat) (x1 : Int32) (x2 : Int32) (σ : aH) : Lq G d M_13 (7, [some (.ref 114), some (.int x1), some (.int x2)], [], σ) = Lq G d M_13 (14, [some (.ref 114), some (.int x1), some (.int x2)], [.ref 114, .int x2, .int x1, .ref 115], σ) :=
  (aUn_eq (tkd G.1 G.2) tmi (aRun (tkd G.1 G.2) tmi tmt d) M_13 [] 5 (7, [some (.ref 114), some (.int x1), some (.int x2)], [], σ)).trans rfl
set_option maxRecDepth 20000 in
theorem q_13_5671 (G : Nat × (Nat → Int32)) (d : Nat) (x1 : Int32) (x2 : Int32) (s1 : Int32) (s2 : Int32) (σ : aH) : Lq G d M_13 (14, [some (.ref 114), some (.int x1), some (.int x2)], [.ref 114, .int s1, .int s2, .ref 115], σ) = aCI (Rn G d 15 [.ref 114] σ) fun v2 σ1 => Lq G d M_13 (17, [some (.ref 114), some (.int x1), some (.int x2)], [.int v2, .int s1, .int s2, .ref 115], σ1) :=
  (aUn_eq (tkd G.1 G.2) tmi (aRun (tkd G.1 G.2) tmi tmt d) M_13 [] 1 (14, [some (.ref 114), some (.int x1), some (.int x2)], [.ref 114, .int s1, .int s2, .ref 115], σ)).trans rfl
set_option maxRecDepth 20000 in
theorem q_13_5672 (G : Nat × (Nat → Int32)) (d : Nat) (x1 : Int32) (x2 : Int32) (s0 : Int32) (s1 : Int32) (s2 : Int32) (σ : aH) : Lq G d M_13 (17, [some (.ref 114), some (.int x1), some (.int x2)], [.int s0, .int s1, .int s2, .ref 115], σ) = aCI (Rn G d 17 [.ref 115, .int s2, .int s1, .int s0] σ) fun v2 σ1 => Lq G d M_13 (20, [some (.ref 114), some (.int x1), some (.int x2)], [.int v2], σ1) :=
  (aUn_eq (tkd G.1 G.2) tmi (aRun (tkd G.1 G.2) tmi tmt d) M_13 [] 1 (17, [some (.ref 114), some (.int x1), some (.int x2)], [.int s0, .int s1, .int s2, .ref 115], σ)).trans rfl
set_option maxRecDepth 20000 in
theorem q_13_5673 (G : Nat × (Nat → Int32)) (d : Nat) (x1 : Int32) (x2 : Int32) (s0 : Int32) (σ : aH) : Lq G d M_13 (20, [some (.ref 114), some (.int x1), some (.int x2)], [.int s0], σ) = Lq G d M_13 (36, [some (.ref 114), some (.int x1), some (.int x2)], [.int s0], σ) :=
  (aUn_eq (tkd G.1 G.2) tmi (aRun (tkd G.1 G.2) tmi tmt d) M_13 [] 1 (20, [some (.ref 114), some (.int x1), some (.int x2)], [.int s0], σ)).trans rfl
set_option maxRecDepth 20000 in
theorem q_13_5674 (G : Nat × (Nat → Int32)) (d : Nat) (x1 : Int32) (x2 : Int32) (s0 : Int32) (σ : aH) : Lq G d M_13 (36, [some (.ref 114), some (.int x1), some (.int x2)], [.int s0], σ) = some (.inl (some (.int s0)), σ) :=
  (aUn_eq (tkd G.1 G.2) tmi (aRun (tkd G.1 G.2) tmi tmt d) M_13 [] 1 (36, [some (.ref 114), some (.int x1), some (.int x2)], [.int s0], σ)).trans rfl
set_option maxRecDepth 20000 in
theorem q_13_5675 (G : Nat × (Nat → Int32)) (d : Nat) (x1 : Int32) (x2 : Int32) (σ : aH) : Lq G d M_13 (0, [some (.ref 116), some (.int x1), some (.int x2)], [], σ) = Lq G d M_13 (1, [some (.ref 116), some (.int x1), some (.int x2)], [.ref 116], σ) :=
  (aUn_eq (tkd G.1 G.2) tmi (aRun (tkd G.1 G.2) tmi tmt d) M_13 [] 1 (0, [some (.ref 116), some (.int x1), some (.int x2)], [], σ)).trans rfl
set_option maxRecDepth 20000 in
theorem q_13_5676 (G : Nat × (Nat → Int32)) (d : Nat) (x1 : Int32) (x2 : Int32) (σ : aH) : Lq G d M_13 (1, [some (.ref 116), some (.int x1), some (.int x2)], [.ref 116], σ) = aCI (Rn G d 14 [.ref 116] σ) fun v2 σ1 => Lq G d M_13 (4, [some (.ref 116), some (.int x1), some (.int x2)], [.int v2], σ1) :=
  (aUn_eq (tkd G.1 G.2) tmi (aRun (tkd G.1 G.2) tmi tmt d) M_13 [] 1 (1, [some (.ref 116), some (.int x1), some (.int x2)], [.ref 116], σ)).trans rfl
set_option maxRecDepth 20000 in
theorem q_13_5677 (G : Nat × (Nat → Int32)) (d : Nat) (x1 : Int32) (x2 : Int32) (s0 : Int32) (σ : aH) : Lq G d M_13 (4, [some (.ref 116), some (.int x1), some (.int x2)], [.int s0], σ) = if s0 = 0 then Lq G d M_13 (23, [some (.ref 116), some (.int x1), some (.int x2)], [], σ) else Lq G d M_13 (7, [some (.ref 116), some (.int x1), some (.int x2)], [], σ) :=
  (aUn_eq (tkd G.1 G.2) tmi (aRun (tkd G.1 G.2) tmi tmt d) M_13 [] 1 (4, [some (.ref 116), some (.int x1), some (.int x2)], [.int s0], σ)).trans rfl
set_option maxRecDepth 20000 in
theorem q_13_5678 (G : Nat × (Nat → Int32)) (d : Nat) (x1 : Int32) (x2 : Int32) (σ : aH) : Lq G d M_13 (23, [some (.ref 116), some (.int x1), some (.int x2)], [], σ) = Lq G d M_13 (30, [some (.ref 116), some (.int x1), some (.int x2)], [.ref 116, .int x2, .int x1, .ref 117], σ) :=
  (aUn_eq (tkd G.1 G.2) tmi (aRun (tkd G.1 G.2) tmi tmt d) M_13 [] 5 (23, [some (.ref 116), some (.int x1), some (.int x2)], [], σ)).trans rfl
set_option maxRecDepth 20000 in
theorem q_13_5679 (G : Nat × (Nat → Int32)) (d : Nat) (x1 : Int32) (x2 : Int32) (s1 : Int32) (s2 : Int32) (σ : aH) : Lq G d M_13 (30, [some (.ref 116), some (.int x1), some (.int x2)], [.ref 116, .int s1, .int s2, .ref 117], σ) = aCI (Rn G d 15 [.ref 116] σ) fun v2 σ1 => Lq G d M_13 (33, [some (.ref 116), some (.int x1), some (.int x2)], [.int v2, .int s1, .int s2, .ref 117], σ1) :=
  (aUn_eq (tkd G.1 G.2) tmi (aRun (tkd G.1 G.2) tmi tmt d) M_13 [] 1 (30, [some (.ref 116), some (.int x1), some (.int x2)], [.ref 116, .int s1, .int s2, .ref 117], σ)).trans rfl
set_option maxRecDepth 20000 in
theorem q_13_5680 (G : Nat × (Nat → Int32)) (d : Nat) (x1 : Int32) (x2 : Int32) (s0 : Int32) (s1 : Int32) (s2 : Int32) (σ : aH) : Lq G d M_13 (33, [some (.ref 116), some (.int x1), some (.int x2)], [.int s0, .int s1, .int s2, .ref 117], σ) = none :=
  (aUn_eq (tkd G.1 G.2) tmi (aRun (tkd G.1 G.2) tmi tmt d) M_13 [] 1 (33, [some (.ref 116), some (.int x1), some (.int x2)], [.int s0, .int s1, .int s2, .ref 117], σ)).trans rfl
set_option maxRecDepth 20000 in
theorem q_13_5681 (G : Nat × (Nat → Int32)) (d : Nat) (x1 : Int32) (x2 : Int32) (σ : aH) : Lq G d M_13 (7, [some (.ref 116), some (.int x1), some (.int x2)], [], σ) = Lq G d M_13 (14, [some (.ref 116), some (.int x1), some (.int x2)], [.ref 116, .int x2, .int x1, .ref 117], σ) :=
  (aUn_eq (tkd G.1 G.2) tmi (aRun (tkd G.1 G.2) tmi tmt d) M_13 [] 5 (7, [some (.ref 116), some (.int x1), some (.int x2)], [], σ)).trans rfl
set_option maxRecDepth 20000 in
theorem q_13_5682 (G : Nat × (Nat → Int32)) (d : Nat) (x1 : Int32) (x2 : Int32) (s1 : Int32) (s2 : Int32) (σ : aH) : Lq G d M_13 (14, [some (.ref 116), some (.int x1), some (.int x2)], [.ref 116, .int s1, .int s2, .ref 117], σ) = aCI (Rn G d 15 [.ref 116] σ) fun v2 σ1 => Lq G d M_13 (17, [some (.ref 116), some (.int x1), some (.int x2)], [.int v2, .int s1, .int s2, .ref 117], σ1) :=
  (aUn_eq (tkd G.1 G.2) tmi (aRun (tkd G.1 G.2) tmi tmt d) M_13 [] 1 (14, [some (.ref 116), some (.int x1), some (.int x2)], [.ref 116, .int s1, .int s2, .ref 117], σ)).trans rfl
set_option maxRecDepth 20000 in
theorem q_13_5683 (G : Nat × (Nat → Int32)) (d : Nat) (x1 : Int32) (x2 : Int32) (s0 : Int32) (s1 : Int32) (s2 : Int32) (σ : aH) : Lq G d M_13 (17, [some (.ref 116), some (.int x1), some (.int x2)], [.int s0, .int s1, .int s2, .ref 117], σ) = aCI (Rn G d 17 [.ref 117, .int s2, .int s1, .int s0] σ) fun v2 σ1 => Lq G d M_13 (20, [some (.ref 116), some (.int x1), some (.int x2)], [.int v2], σ1) :=
  (aUn_eq (tkd G.1 G.2) tmi (aRun (tkd G.1 G.2) tmi tmt d) M_13 [] 1 (17, [some (.ref 116), some (.int x1), some (.int x2)], [.int s0, .int s1, .int s2, .ref 117], σ)).trans rfl
set_option maxRecDepth 20000 in
theorem q_13_5684 (G : Nat × (Nat → Int32)) (d : Nat) (x1 : Int32) (x2 : Int32) (s0 : Int32) (σ : aH) : Lq G d M_13 (20, [some (.ref 116), some (.int x1), some (.int x2)], [.int s0], σ) = Lq G d M_13 (36, [some (.ref 116), some (.int x1), some (.int x2)], [.int s0], σ) :=
  (aUn_eq (tkd G.1 G.2) tmi (aRun (tkd G.1 G.2) tmi tmt d) M_13 [] 1 (20, [some (.ref 116), some (.int x1), some (.int x2)], [.int s0], σ)).trans rfl
set_option maxRecDepth 20000 in
theorem q_13_5685 (G : Nat × (Nat → Int32)) (d : Nat) (x1 : Int32) (x2 : Int32) (s0 : Int32) (σ : aH) : Lq G d M_13 (36, [some (.ref 116), some (.int x1), some (.int x2)], [.int s0], σ) = some (.inl (some (.int s0)), σ) :=
  (aUn_eq (tkd G.1 G.2) tmi (aRun (tkd G.1 G.2) tmi tmt d) M_13 [] 1 (36, [some (.ref 116), some (.int x1), some (.int x2)], [.int s0], σ)).trans rfl
set_option maxRecDepth 20000 in
theorem q_13_5686 (G : Nat × (Nat → Int32)) (d : Nat) (x1 : Int32) (x2 : Int32) (σ : aH) : Lq G d M_13 (0, [some (.ref 118), some (.int x1), some (.int x2)], [], σ) = Lq G d M_13 (1, [some (.ref 118), some (.int x1), some (.int x2)], [.ref 118], σ) :=
  (aUn_eq (tkd G.1 G.2) tmi (aRun (tkd G.1 G.2) tmi tmt d) M_13 [] 1 (0, [some (.ref 118), some (.int x1), some (.int x2)], [], σ)).trans rfl
set_option maxRecDepth 20000 in
theorem q_13_5687 (G : Nat × (Nat → Int32)) (d : Nat) (x1 : Int32) (x2 : Int32) (σ : aH) : Lq G d M_13 (1, [some (.ref 118), some (.int x1), some (.int x2)], [.ref 118], σ) = aCI (Rn G d 14 [.ref 118] σ) fun v2 σ1 => Lq G d M_13 (4, [some (.ref 118), some (.int x1), some (.int x2)], [.int v2], σ1) :=
  (aUn_eq (tkd G.1 G.2) tmi (aRun (tkd G.1 G.2) tmi tmt d) M_13 [] 1 (1, [some (.ref 118), some (.int x1), some (.int x2)], [.ref 118], σ)).trans rfl
set_option maxRecDepth 20000 in
theorem q_13_5688 (G : Nat × (Nat → Int32)) (d : Nat) (x1 : Int32) (x2 : Int32) (s0 : Int32) (σ : aH) : Lq G d M_13 (4, [some (.ref 118), some (.int x1), some (.int x2)], [.int s0], σ) = if s0 = 0 then Lq G d M_13 (23, [some (.ref 118), some (.int x1), some (.int x2)], [], σ) else Lq G d M_13 (7, [some (.ref 118), some (.int x1), some (.int x2)], [], σ) :=
  (aUn_eq (tkd G.1 G.2) tmi (aRun (tkd G.1 G.2) tmi tmt d) M_13 [] 1 (4, [some (.ref 118), some (.int x1), some (.int x2)], [.int s0], σ)).trans rfl
set_option maxRecDepth 20000 in
theorem q_13_5689 (G : Nat × (Nat → Int32)) (d : Nat) (x1 : Int32) (x2 : Int32) (σ : aH) : Lq G d M_13 (23, [some (.ref 118), some (.int x1), some (.int x2)], [], σ) = Lq G d M_13 (30, [some (.ref 118), some (.int x1), some (.int x2)], [.ref 118, .int x2, .int x1, .ref 119], σ) :=
  (aUn_eq (tkd G.1 G.2) tmi (aRun (tkd G.1 G.2) tmi tmt d) M_13 [] 5 (23, [some (.ref 118), some (.int x1), some (.int x2)], [], σ)).trans rfl
set_option maxRecDepth 20000 in
theorem q_13_5690 (G : Nat × (Nat → Int32)) (d : Nat) (x1 : Int32) (x2 : Int32) (s1 : Int32) (s2 : Int32) (σ : aH) : Lq G d M_13 (30, [some (.ref 118), some (.int x1), some (.int x2)], [.ref 118, .int s1, .int s2, .ref 119], σ) = aCI (Rn G d 15 [.ref 118] σ) fun v2 σ1 => Lq G d M_13 (33, [some (.ref 118), some (.int x1), some (.int x2)], [.int v2, .int s1, .int s2, .ref 119], σ1) :=
  (aUn_eq (tkd G.1 G.2) tmi (aRun (tkd G.1 G.2) tmi tmt d) M_13 [] 1 (30, [some (.ref 118), some (.int x1), some (.int x2)], [.ref 118, .int s1, .int s2, .ref 119], σ)).trans rfl
set_option maxRecDepth 20000 in
theorem q_13_5691 (G : Nat × (Nat → Int32)) (d : Nat) (x1 : Int32) (x2 : Int32) (s0 : Int32) (s1 : Int32) (s2 : Int32) (σ : aH) : Lq G d M_13 (33, [some (.ref 118), some (.int x1), some (.int x2)], [.int s0, .int s1, .int s2, .ref 119], σ) = none :=
  (aUn_eq (tkd G.1 G.2) tmi (aRun (tkd G.1 G.2) tmi tmt d) M_13 [] 1 (33, [some (.ref 118), some (.int x1), some (.int x2)], [.int s0, .int s1, .int s2, .ref 119], σ)).trans rfl
set_option maxRecDepth 20000 in
theorem q_13_5692 (G : Nat × (Nat → Int32)) (d : Nat) (x1 : Int32) (x2 : Int32) (σ : aH) : Lq G d M_13 (7, [some (.ref 118), some (.int x1), some (.int x2)], [], σ) = Lq G d M_13 (14, [some (.ref 118), some (.int x1), some (.int x2)], [.ref 118, .int x2, .int x1, .ref 119], σ) :=
  (aUn_eq (tkd G.1 G.2) tmi (aRun (tkd G.1 G.2) tmi tmt d) M_13 [] 5 (7, [some (.ref 118), some (.int x1), some (.int x2)], [], σ)).trans rfl
set_option maxRecDepth 20000 in
theorem q_13_5693 (G : Nat × (Nat → Int32)) (d : Nat) (x1 : Int32) (x2 : Int32) (s1 : Int32) (s2 : Int32) (σ : aH) : Lq G d M_13 (14, [some (.ref 118), some (.int x1), some (.int x2)], [.ref 118, .int s1, .int s2, .ref 119], σ) = aCI (Rn G d 15 [.ref 118] σ) fun v2 σ1 => Lq G d M_13 (17, [some (.ref 118), some (.int x1), some (.int x2)], [.int v2, .int s1, .int s2, .ref 119], σ1) :=
  (aUn_eq (tkd G.1 G.2) tmi (aRun (tkd G.1 G.2) tmi tmt d) M_13 [] 1 (14, [some (.ref 118), some (.int x1), some (.int x2)], [.ref 118, .int s1, .int s2, .ref 119], σ)).trans rfl
set_option maxRecDepth 20000 in
theorem q_13_5694 (G : Nat × (Nat → Int32)) (d : Nat) (x1 : Int32) (x2 : Int32) (s0 : Int32) (s1 : Int32) (s2 : Int32) (σ : aH) : Lq G d M_13 (17, [some (.ref 118), some (.int x1), some (.int x2)], [.int s0, .int s1, .int s2, .ref 119], σ) = aCI (Rn G d 17 [.ref 119, .int s2, .int s1, .int s0] σ) fun v2 σ1 => Lq G d M_13 (20, [some (.ref 118), some (.int x1), some (.int x2)], [.int v2], σ1) :=
  (aUn_eq (tkd G.1 G.2) tmi (aRun (tkd G.1 G.2) tmi tmt d) M_13 [] 1 (17, [some (.ref 118), some (.int x1), some (.int x2)], [.int s0, .int s1, .int s2, .ref 119], σ)).trans rfl
set_option maxRecDepth 20000 in
theorem q_13_5695 (G : Nat × (Nat → Int32)) (d : Nat) (x1 : Int32) (x2 : Int32) (s0 : Int32) (σ : aH) : Lq G d M_13 (20, [some (.ref 118), some (.int x1), some (.int x2)], [.int s0], σ) = Lq G d M_13 (36, [some (.ref 118), some (.int x1), some (.int x2)], [.int s0], σ) :=
  (aUn_eq (tkd G.1 G.2) tmi (aRun (tkd G.1 G.2) tmi tmt d) M_13 [] 1 (20, [some (.ref 118), some (.int x1), some (.int x2)], [.int s0], σ)).trans rfl
set_option maxRecDepth 20000 in
theorem q_13_5696 (G : Nat × (Nat → Int32)) (d : Nat) (x1 : Int32) (x2 : Int32) (s0 : Int32) (σ : aH) : Lq G d M_13 (36, [some (.ref 118), some (.int x1), some (.int x2)], [.int s0], σ) = some (.inl (some (.int s0)), σ) :=
  (aUn_eq (tkd G.1 G.2) tmi (aRun (tkd G.1 G.2) tmi tmt d) M_13 [] 1 (36, [some (.ref 118), some (.int x1), some (.int x2)], [.int s0], σ)).trans rfl
set_option maxRecDepth 20000 in
theorem q_13_5697 (G : Nat × (Nat → Int32)) (d : Nat) (x1 : Int32) (x2 : Int32) (σ : aH) : Lq G d M_13 (0, [some (.ref 120), some (.int x1), some (.int x2)], [], σ) = Lq G d M_13 (1, [some (.ref 120), some (.int x1), some (.int x2)], [.ref 120], σ) :=
  (aUn_eq (tkd G.1 G.2) tmi (aRun (tkd G.1 G.2) tmi tmt d) M_13 [] 1 (0, [some (.ref 120), some (.int x1), some (.int x2)], [], σ)).trans rfl
set_option maxRecDepth 20000 in
theorem q_13_5698 (G : Nat × (Nat → Int32)) (d : Nat) (x1 : Int32) (x2 : Int32) (σ : aH) : Lq G d M_13 (1, [some (.ref 120), some (.int x1), some (.int x2)], [.ref 120], σ) = aCI (Rn G d 14 [.ref 120] σ) fun v2 σ1 => Lq G d M_13 (4, [some (.ref 120), some (.int x1), some (.int x2)], [.int v2], σ1) :=
  (aUn_eq (tkd G.1 G.2) tmi (aRun (tkd G.1 G.2) tmi tmt d) M_13 [] 1 (1, [some (.ref 120), some (.int x1), some (.int x2)], [.ref 120], σ)).trans rfl
set_option maxRecDepth 20000 in
theorem q_13_5699 (G : Nat × (Nat → Int32)) (d : Nat) (x1 : Int32) (x2 : Int32) (s0 : Int32) (σ : aH) : Lq G d M_13 (4, [some (.ref 120), some (.int x1), some (.int x2)], [.int s0], σ) = if s0 = 0 then Lq G d M_13 (23, [some (.ref 120), some (.int x1), some (.int x2)], [], σ) else Lq G d M_13 (7, [some (.ref 120), some (.int x1), some (.int x2)], [], σ) :=
  (aUn_eq (tkd G.1 G.2) tmi (aRun (tkd G.1 G.2) tmi tmt d) M_13 [] 1 (4, [some (.ref 120), some (.int x1), some (.int x2)], [.int s0], σ)).trans rfl
set_option maxRecDepth 20000 in
theorem q_13_5700 (G : Nat × (Nat → Int32)) (d : Nat) (x1 : Int32) (x2 : Int32) (σ : aH) : Lq G d M_13 (23, [some (.ref 120), some (.int x1), some (.int x2)], [], σ) = Lq G d M_13 (30, [some (.ref 120), some (.int x1), some (.int x2)], [.ref 120, .int x2, .int x1, .ref 121], σ) :=
  (aUn_eq (tkd G.1 G.2) tmi (aRun (tkd G.1 G.2) tmi tmt d) M_13 [] 5 (23, [some (.ref 120), some (.int x1), some (.int x2)], [], σ)).trans rfl
set_option maxRecDepth 20000 in
theorem q_13_5701 (G : Nat × (Nat → Int32)) (d : Nat) (x1 : Int32) (x2 : Int32) (s1 : Int32) (s2 : Int32) (σ : aH) : Lq G d M_13 (30, [some (.ref 120), some (.int x1), some (.int x2)], [.ref 120, .int s1, .int s2, .ref 121], σ) = aCI (Rn G d 15 [.ref 120] σ) fun v2 σ1 => Lq G d M_13 (33, [some (.ref 120), some (.int x1), some (.int x2)], [.int v2, .int s1, .int s2, .ref 121], σ1) :=
  (aUn_eq (tkd G.1 G.2) tmi (aRun (tkd G.1 G.2) tmi tmt d) M_13 [] 1 (30, [some (.ref 120), some (.int x1), some (.int x2)], [.ref 120, .int s1, .int s2, .ref 121], σ)).trans rfl
set_option maxRecDepth 20000 in
theorem q_13_5702 (G : Nat × (Nat → Int32)) (d : Nat) (x1 : Int32) (x2 : Int32) (s0 : Int32) (s1 : Int32) (s2 : Int32) (σ : aH) : Lq G d M_13 (33, [some (.ref 120), some (.int x1), some (.int x2)], [.int s0, .int s1, .int s2, .ref 121], σ) = none :=
  (aUn_eq (tkd G.1 G.2) tmi (aRun (tkd G.1 G.2) tmi tmt d) M_13 [] 1 (33, [some (.ref 120), some (.int x1), some (.int x2)], [.int s0, .int s1, .int s2, .ref 121], σ)).trans rfl
set_option maxRecDepth 20000 in
theorem q_13_5703 (G : Nat × (Nat → Int32)) (d : Nat) (x1 : Int32) (x2 : Int32) (σ : aH) : Lq G d M_13 (7, [some (.ref 120), some (.int x1), some (.int x2)], [], σ) = Lq G d M_13 (14, [some (.ref 120), some (.int x1), some (.int x2)], [.ref 120, .int x2, .int x1, .ref 121], σ) :=
  (aUn_eq (tkd G.1 G.2) tmi (aRun (tkd G.1 G.2) tmi tmt d) M_13 [] 5 (7, [some (.ref 120), some (.int x1), some (.int x2)], [], σ)).trans rfl
set_option maxRecDepth 20000 in
theorem q_13_5704 (G : Nat × (Nat → Int32)) (d : Nat) (x1 : Int32) (x2 : Int32) (s1 : Int32) (s2 : Int32) (σ : aH) : Lq G d M_13 (14, [some (.ref 120), some (.int x1), some (.int x2)], [.ref 120, .int s1, .int s2, .ref 121], σ) = aCI (Rn G d 15 [.ref 120] σ) fun v2 σ1 => Lq G d M_13 (17, [some (.ref 120), some (.int x1), some (.int x2)], [.int v2, .int s1, .int s2, .ref 121], σ1) :=
  (aUn_eq (tkd G.1 G.2) tmi (aRun (tkd G.1 G.2) tmi tmt d) M_13 [] 1 (14, [some (.ref 120), some (.int x1), some (.int x2)], [.ref 120, .int s1, .int s2, .ref 121], σ)).trans rfl
set_option maxRecDepth 20000 in
theorem q_13_5705 (G : Nat × (Nat → Int32)) (d : Nat) (x1 : Int32) (x2 : Int32) (s0 : Int32) (s1 : Int32) (s2 : Int32) (σ : aH) : Lq G d M_13 (17, [some (.ref 120), some (.int x1), some (.int x2)], [.int s0, .int s1, .int s2, .ref 121], σ) = aCI (Rn G d 17 [.ref 121, .int s2, .int s1, .int s0] σ) fun v2 σ1 => Lq G d M_13 (20, [some (.ref 120), some (.int x1), some (.int x2)], [.int v2], σ1) :=
  (aUn_eq (tkd G.1 G.2) tmi (aRun (tkd G.1 G.2) tmi tmt d) M_13 [] 1 (17, [some (.ref 120), some (.int x1), some (.int x2)], [.int s0, .int s1, .int s2, .ref 121], σ)).trans rfl
set_option maxRecDepth 20000 in
theorem q_13_5706 (G : Nat × (Nat → Int32)) (d : Nat) (x1 : Int32) (x2 : Int32) (s0 : Int32) (σ : aH) : Lq G d M_13 (20, [some (.ref 120), some (.int x1), some (.int x2)], [.int s0], σ) = Lq G d M_13 (36, [some (.ref 120), some (.int x1), some (.int x2)], [.int s0], σ) :=
  (aUn_eq (tkd G.1 G.2) tmi (aRun (tkd G.1 G.2) tmi tmt d) M_13 [] 1 (20, [some (.ref 120), some (.int x1), some (.int x2)], [.int s0], σ)).trans rfl
set_option maxRecDepth 20000 in
theorem q_13_5707 (G : Nat × (Nat → Int32)) (d : Nat) (x1 : Int32) (x2 : Int32) (s0 : Int32) (σ : aH) : Lq G d M_13 (36, [some (.ref 120), some (.int x1), some (.int x2)], [.int s0], σ) = some (.inl (some (.int s0)), σ) :=
  (aUn_eq (tkd G.1 G.2) tmi (aRun (tkd G.1 G.2) tmi tmt d) M_13 [] 1 (36, [some (.ref 120), some (.int x1), some (.int x2)], [.int s0], σ)).trans rfl
set_option maxRecDepth 20000 in
theorem q_13_5708 (G : Nat × (Nat → Int32)) (d : Nat) (x1 : Int32) (x2 : Int32) (σ : aH) : Lq G d M_13 (0, [some (.ref 122), some (.int x1), some (.int x2)], [], σ) = Lq G d M_13 (1, [some (.ref 122), some (.int x1), some (.int x2)], [.ref 122], σ) :=
  (aUn_eq (tkd G.1 G.2) tmi (aRun (tkd G.1 G.2) tmi tmt d) M_13 [] 1 (0, [some (.ref 122), some (.int x1), some (.int x2)], [], σ)).trans rfl
set_option maxRecDepth 20000 in
theorem q_13_5709 (G : Nat × (Nat → Int32)) (d : Nat) (x1 : Int32) (x2 : Int32) (σ : aH) : Lq G d M_13 (1, [some (.ref 122), some (.int x1), some (.int x2)], [.ref 122], σ) = aCI (Rn G d 14 [.ref 122] σ) fun v2 σ1 => Lq G d M_13 (4, [some (.ref 122), some (.int x1), some (.int x2)], [.int v2], σ1) :=
  (aUn_eq (tkd G.1 G.2) tmi (aRun (tkd G.1 G.2) tmi tmt d) M_13 [] 1 (1, [some (.ref 122), some (.int x1), some (.int x2)], [.ref 122], σ)).trans rfl
set_option maxRecDepth 20000 in
theorem q_13_5710 (G : Nat × (Nat → Int32)) (d : Nat) (x1 : Int32) (x2 : Int32) (s0 : Int32) (σ : aH) : Lq G d M_13 (4, [some (.ref 122), some (.int x1), some (.int x2)], [.int s0], σ) = if s0 = 0 then Lq G d M_13 (23, [some (.ref 122), some (.int x1), some (.int x2)], [], σ) else Lq G d M_13 (7, [some (.ref 122), some (.int x1), some (.int x2)], [], σ) :=
  (aUn_eq (tkd G.1 G.2) tmi (aRun (tkd G.1 G.2) tmi tmt d) M_13 [] 1 (4, [some (.ref 122), some (.int x1), some (.int x2)], [.int s0], σ)).trans rfl
set_option maxRecDepth 20000 in
theorem q_13_5711 (G : Nat × (Nat → Int32)) (d : Nat) (x1 : Int32) (x2 : Int32) (σ : aH) : Lq G d M_13 (23, [some (.ref 122), some (.int x1), some (.int x2)], [], σ) = Lq G d M_13 (30, [some (.ref 122), some (.int x1), some (.int x2)], [.ref 122, .int x2, .int x1, .ref 123], σ) :=
  (aUn_eq (tkd G.1 G.2) tmi (aRun (tkd G.1 G.2) tmi tmt d) M_13 [] 5 (23, [some (.ref 122), some (.int x1), some (.int x2)], [], σ)).trans rfl
set_option maxRecDepth 20000 in
theorem q_13_5712 (G : Nat × (Nat → Int32)) (d : Nat) (x1 : Int32) (x2 : Int32) (s1 : Int32) (s2 : Int32) (σ : aH) : Lq G d M_13 (30, [some (.ref 122), some (.int x1), some (.int x2)], [.ref 122, .int s1, .int s2, .ref 123], σ) = aCI (Rn G d 15 [.ref 122] σ) fun v2 σ1 => Lq G d M_13 (33, [some (.ref 122), some (.int x1), some (.int x2)], [.int v2, .int s1, .int s2, .ref 123], σ1) :=
  (aUn_eq (tkd G.1 G.2) tmi (aRun (tkd G.1 G.2) tmi tmt d) M_13 [] 1 (30, [some (.ref 122), some (.int x1), some (.int x2)], [.ref 122, .int s1, .int s2, .ref 123], σ)).trans rfl
set_option maxRecDepth 20000 in
theorem q_13_5713 (G : Nat × (Nat → Int32)) (d : Nat) (x1 : Int32) (x2 : Int32) (s0 : Int32) (s1 : Int32) (s2 : Int32) (σ : aH) : Lq G d M_13 (33, [some (.ref 122), some (.int x1), some (.int x2)], [.int s0, .int s1, .int s2, .ref 123], σ) = none :=
  (aUn_eq (tkd G.1 G.2) tmi (aRun (tkd G.1 G.2) tmi tmt d) M_13 [] 1 (33, [some (.ref 122), some (.int x1), some (.int x2)], [.int s0, .int s1, .int s2, .ref 123], σ)).trans rfl
set_option maxRecDepth 20000 in
theorem q_13_5714 (G : Nat × (Nat → Int32)) (d : Nat) (x1 : Int32) (x2 : Int32) (σ : aH) : Lq G d M_13 (7, [some (.ref 122), some (.int x1), some (.int x2)], [], σ) = Lq G d M_13 (14, [some (.ref 122), some (.int x1), some (.int x2)], [.ref 122, .int x2, .int x1, .ref 123], σ) :=
  (aUn_eq (tkd G.1 G.2) tmi (aRun (tkd G.1 G.2) tmi tmt d) M_13 [] 5 (7, [some (.ref 122), some (.int x1), some (.int x2)], [], σ)).trans rfl
set_option maxRecDepth 20000 in
theorem q_13_5715 (G : Nat × (Nat → Int32)) (d : Nat) (x1 : Int32) (x2 : Int32) (s1 : Int32) (s2 : Int32) (σ : aH) : Lq G d M_13 (14, [some (.ref 122), some (.int x1), some (.int x2)], [.ref 122, .int s1, .int s2, .ref 123], σ) = aCI (Rn G d 15 [.ref 122] σ) fun v2 σ1 => Lq G d M_13 (17, [some (.ref 122), some (.int x1), some (.int x2)], [.int v2, .int s1, .int s2, .ref 123], σ1) :=
  (aUn_eq (tkd G.1 G.2) tmi (aRun (tkd G.1 G.2) tmi tmt d) M_13 [] 1 (14, [some (.ref 122), some (.int x1), some (.int x2)], [.ref 122, .int s1, .int s2, .ref 123], σ)).trans rfl
set_option maxRecDepth 20000 in
theorem q_13_5716 (G : Nat × (Nat → Int32)) (d : Nat) (x1 : Int32) (x2 : Int32) (s0 : Int32) (s1 : Int32) (s2 : Int32) (σ : aH) : Lq G d M_13 (17, [some (.ref 122), some (.int x1), some (.int x2)], [.int s0, .int s1, .int s2, .ref 123], σ) = aCI (Rn G d 17 [.ref 123, .int s2, .int s1, .int s0] σ) fun v2 σ1 => Lq G d M_13 (20, [some (.ref 122), some (.int x1), some (.int x2)], [.int v2], σ1) :=
  (aUn_eq (tkd G.1 G.2) tmi (aRun (tkd G.1 G.2) tmi tmt d) M_13 [] 1 (17, [some (.ref 122), some (.int x1), some (.int x2)], [.int s0, .int s1, .int s2, .ref 123], σ)).trans rfl
set_option maxRecDepth 20000 in
theorem q_13_5717 (G : Nat × (Nat → Int32)) (d : Nat) (x1 : Int32) (x2 : Int32) (s0 : Int32) (σ : aH) : Lq G d M_13 (20, [some (.ref 122), some (.int x1), some (.int x2)], [.int s0], σ) = Lq G d M_13 (36, [some (.ref 122), some (.int x1), some (.int x2)], [.int s0], σ) :=
  (aUn_eq (tkd G.1 G.2) tmi (aRun (tkd G.1 G.2) tmi tmt d) M_13 [] 1 (20, [some (.ref 122), some (.int x1), some (.int x2)], [.int s0], σ)).trans rfl
set_option maxRecDepth 20000 in
theorem q_13_5718 (G : Nat × (Nat → Int32)) (d : Nat) (x1 : Int32) (x2 : Int32) (s0 : Int32) (σ : aH) : Lq G d M_13 (36, [some (.ref 122), some (.int x1), some (.int x2)], [.int s0], σ) = some (.inl (some (.int s0)), σ) :=
  (aUn_eq (tkd G.1 G.2) tmi (aRun (tkd G.1 G.2) tmi tmt d) M_13 [] 1 (36, [some (.ref 122), some (.int x1), some (.int x2)], [.int s0], σ)).trans rfl
set_option maxRecDepth 20000 in
theorem q_13_5719 (G : Nat × (Nat → Int32)) (d : Nat) (x1 : Int32) (x2 : Int32) (σ : aH) : Lq G d M_13 (0, [some (.ref 124), some (.int x1), some (.int x2)], [], σ) = Lq G d M_13 (1, [some (.ref 124), some (.int x1), some (.int x2)], [.ref 124], σ) :=
  (aUn_eq (tkd G.1 G.2) tmi (aRun (tkd G.1 G.2) tmi tmt d) M_13 [] 1 (0, [some (.ref 124), some (.int x1), some (.int x2)], [], σ)).trans rfl
set_option maxRecDepth 20000 in
theorem q_13_5720 (G : Nat × (Nat → Int32)) (d : Nat) (x1 : Int32) (x2 : Int32) (σ : aH) : Lq G d M_13 (1, [some (.ref 124), some (.int x1), some (.int x2)], [.ref 124], σ) = aCI (Rn G d 14 [.ref 124] σ) fun v2 σ1 => Lq G d M_13 (4, [some (.ref 124), some (.int x1), some (.int x2)], [.int v2], σ1) :=
  (aUn_eq (tkd G.1 G.2) tmi (aRun (tkd G.1 G.2) tmi tmt d) M_13 [] 1 (1, [some (.ref 124), some (.int x1), some (.int x2)], [.ref 124], σ)).trans rfl
set_option maxRecDepth 20000 in
theorem q_13_5721 (G : Nat × (Nat → Int32)) (d : Nat) (x1 : Int32) (x2 : Int32) (s0 : Int32) (σ : aH) : Lq G d M_13 (4, [some (.ref 124), some (.int x1), some (.int x2)], [.int s0], σ) = if s0 = 0 then Lq G d M_13 (23, [some (.ref 124), some (.int x1), some (.int x2)], [], σ) else Lq G d M_13 (7, [some (.ref 124), some (.int x1), some (.int x2)], [], σ) :=
  (aUn_eq (tkd G.1 G.2) tmi (aRun (tkd G.1 G.2) tmi tmt d) M_13 [] 1 (4, [some (.ref 124), some (.int x1), some (.int x2)], [.int s0], σ)).trans rfl
set_option maxRecDepth 20000 in
theorem q_13_5722 (G : Nat × (Nat → Int32)) (d : Nat) (x1 : Int32) (x2 : Int32) (σ : aH) : Lq G d M_13 (23, [some (.ref 124), some (.int x1), some (.int x2)], [], σ) = Lq G d M_13 (30, [some (.ref 124), some (.int x1), some (.int x2)], [.ref 124, .int x2, .int x1, .ref 125], σ) :=
  (aUn_eq (tkd G.1 G.2) tmi (aRun (tkd G.1 G.2) tmi tmt d) M_13 [] 5 (23, [some (.ref 124), some (.int x1), some (.int x2)], [], σ)).trans rfl
set_option maxRecDepth 20000 in
theorem q_13_5723 (G : Nat × (Nat → Int32)) (d : Nat) (x1 : Int32) (x2 : Int32) (s1 : Int32) (s2 : Int32) (σ : aH) : Lq G d M_13 (30, [some (.ref 124), some (.int x1), some (.int x2)], [.ref 124, .int s1, .int s2, .ref 125], σ) = aCI (Rn G d 15 [.ref 124] σ) fun v2 σ1 => Lq G d M_13 (33, [some (.ref 124), some (.int x1), some (.int x2)], [.int v2, .int s1, .int s2, .ref 125], σ1) :=
  (aUn_eq (tkd G.1 G.2) tmi (aRun (tkd G.1 G.2) tmi tmt d) M_13 [] 1 (30, [some (.ref 124), some (.int x1), some (.int x2)], [.ref 124, .int s1, .int s2, .ref 125], σ)).trans rfl
set_option maxRecDepth 20000 in
theorem q_13_5724 (G : Nat × (Nat → Int32)) (d : Nat) (x1 : Int32) (x2 : Int32) (s0 : Int32) (s1 : Int32) (s2 : Int32) (σ : aH) : Lq G d M_13 (33, [some (.ref 124), some (.int x1), some (.int x2)], [.int s0, .int s1, .int s2, .ref 125], σ) = none :=
  (aUn_eq (tkd G.1 G.2) tmi (aRun (tkd G.1 G.2) tmi tmt d) M_13 [] 1 (33, [some (.ref 124), some (.int x1), some (.int x2)], [.int s0, .int s1, .int s2, .ref 125], σ)).trans rfl
set_option maxRecDepth 20000 in
theorem q_13_5725 (G : Nat × (Nat → Int32)) (d : Nat) (x1 : Int32) (x2 : Int32) (σ : aH) : Lq G d M_13 (7, [some (.ref 124), some (.int x1), some (.int x2)], [], σ) = Lq G d M_13 (14, [some (.ref 124), some (.int x1), some (.int x2)], [.ref 124, .int x2, .int x1, .ref 125], σ) :=
  (aUn_eq (tkd G.1 G.2) tmi (aRun (tkd G.1 G.2) tmi tmt d) M_13 [] 5 (7, [some (.ref 124), some (.int x1), some (.int x2)], [], σ)).trans rfl
set_option maxRecDepth 20000 in
theorem q_13_5726 (G : Nat × (Nat → Int32)) (d : Nat) (x1 : Int32) (x2 : Int32) (s1 : Int32) (s2 : Int32) (σ : aH) : Lq G d M_13 (14, [some (.ref 124), some (.int x1), some (.int x2)], [.ref 124, .int s1, .int s2, .ref 125], σ) = aCI (Rn G d 15 [.ref 124] σ) fun v2 σ1 => Lq G d M_13 (17, [some (.ref 124), some (.int x1), some (.int x2)], [.int v2, .int s1, .int s2, .ref 125], σ1) :=
  (aUn_eq (tkd G.1 G.2) tmi (aRun (tkd G.1 G.2) tmi tmt d) M_13 [] 1 (14, [some (.ref 124), some (.int x1), some (.int x2)], [.ref 124, .int s1, .int s2, .ref 125], σ)).trans rfl
set_option maxRecDepth 20000 in
theorem q_13_5727 (G : Nat × (Nat → Int32)) (d : Nat) (x1 : Int32) (x2 : Int32) (s0 : Int32) (s1 : Int32) (s2 : Int32) (σ : aH) : Lq G d M_13 (17, [some (.ref 124), some (.int x1), some (.int x2)], [.int s0, .int s1, .int s2, .ref 125], σ) = aCI (Rn G d 17 [.ref 125, .int s2, .int s1, .int s0] σ) fun v2 σ1 => Lq G d M_13 (20, [some (.ref 124), some (.int x1), some (.int x2)], [.int v2], σ1) :=
  (aUn_eq (tkd G.1 G.2) tmi (aRun (tkd G.1 G.2) tmi tmt d) M_13 [] 1 (17, [some (.ref 124), some (.int x1), some (.int x2)], [.int s0, .int s1, .int s2, .ref 125], σ)).trans rfl
set_option maxRecDepth 20000 in
theorem q_13_5728 (G : Nat × (Nat → Int32)) (d : Nat) (x1 : Int32) (x2 : Int32) (s0 : Int32) (σ : aH) : Lq G d M_13 (20, [some (.ref 124), some (.int x1), some (.int x2)], [.int s0], σ) = Lq G d M_13 (36, [some (.ref 124), some (.int x1), some (.int x2)], [.int s0], σ) :=
  (aUn_eq (tkd G.1 G.2) tmi (aRun (tkd G.1 G.2) tmi tmt d) M_13 [] 1 (20, [some (.ref 124), some (.int x1), some (.int x2)], [.int s0], σ)).trans rfl
set_option maxRecDepth 20000 in
theorem q_13_5729 (G : Nat × (Nat → Int32)) (d : Nat) (x1 : Int32) (x2 : Int32) (s0 : Int32) (σ : aH) : Lq G d M_13 (36, [some (.ref 124), some (.int x1), some (.int x2)], [.int s0], σ) = some (.inl (some (.int s0)), σ) :=
  (aUn_eq (tkd G.1 G.2) tmi (aRun (tkd G.1 G.2) tmi tmt d) M_13 [] 1 (36, [some (.ref 124), some (.int x1), some (.int x2)], [.int s0], σ)).trans rfl
set_option maxRecDepth 20000 in
theorem q_13_5730 (G : Nat × (Nat → Int32)) (d : Nat) (x1 : Int32) (x2 : Int32) (σ : aH) : Lq G d M_13 (0, [some (.ref 126), some (.int x1), some (.int x2)], [], σ) = Lq G d M_13 (1, [some (.ref 126), some (.int x1), some (.int x2)], [.ref 126], σ) :=
  (aUn_eq (tkd G.1 G.2) tmi (aRun (tkd G.1 G.2) tmi tmt d) M_13 [] 1 (0, [some (.ref 126), some (.int x1), some (.int x2)], [], σ)).trans rfl
set_option maxRecDepth 20000 in
theorem q_13_5731 (G : Nat × (Nat → Int32)) (d : Nat) (x1 : Int32) (x2 : Int32) (σ : aH) : Lq G d M_13 (1, [some (.ref 126), some (.int x1), some (.int x2)], [.ref 126], σ) = aCI (Rn G d 14 [.ref 126] σ) fun v2 σ1 => Lq G d M_13 (4, [some (.ref 126), some (.int x1), some (.int x2)], [.int v2], σ1) :=
  (aUn_eq (tkd G.1 G.2) tmi (aRun (tkd G.1 G.2) tmi tmt d) M_13 [] 1 (1, [some (.ref 126), some (.int x1), some (.int x2)], [.ref 126], σ)).trans rfl
set_option maxRecDepth 20000 in
theorem q_13_5732 (G : Nat × (Nat → Int32)) (d : Nat) (x1 : Int32) (x2 : Int32) (s0 : Int32) (σ : aH) : Lq G d M_13 (4, [some (.ref 126), some (.int x1), some (.int x2)], [.int s0], σ) = if s0 = 0 then Lq G d M_13 (23, [some (.ref 126), some (.int x1), some (.int x2)], [], σ) else Lq G d M_13 (7, [some (.ref 126), some (.int x1), some (.int x2)], [], σ) :=
  (aUn_eq (tkd G.1 G.2) tmi (aRun (tkd G.1 G.2) tmi tmt d) M_13 [] 1 (4, [some (.ref 126), some (.int x1), some (.int x2)], [.int s0], σ)).trans rfl
set_option maxRecDepth 20000 in
theorem q_13_5733 (G : Nat × (Nat → Int32)) (d : Nat) (x1 : Int32) (x2 : Int32) (σ : aH) : Lq G d M_13 (23, [some (.ref 126), some (.int x1), some (.int x2)], [], σ) = Lq G d M_13 (30, [some (.ref 126), some (.int x1), some (.int x2)], [.ref 126, .int x2, .int x1, .ref 127], σ) :=
  (aUn_eq (tkd G.1 G.2) tmi (aRun (tkd G.1 G.2) tmi tmt d) M_13 [] 5 (23, [some (.ref 126), some (.int x1), some (.int x2)], [], σ)).trans rfl
set_option maxRecDepth 20000 in
theorem q_13_5734 (G : Nat × (Nat → Int32)) (d : Nat) (x1 : Int32) (x2 : Int32) (s1 : Int32) (s2 : Int32) (σ : aH) : Lq G d M_13 (30, [some (.ref 126), some (.int x1), some (.int x2)], [.ref 126, .int s1, .int s2, .ref 127], σ) = aCI (Rn G d 15 [.ref 126] σ) fun v2 σ1 => Lq G d M_13 (33, [some (.ref 126), some (.int x1), some (.int x2)], [.int v2, .int s1, .int s2, .ref 127], σ1) :=
  (aUn_eq (tkd G.1 G.2) tmi (aRun (tkd G.1 G.2) tmi tmt d) M_13 [] 1 (30, [some (.ref 126), some (.int x1), some (.int x2)], [.ref 126, .int s1, .int s2, .ref 127], σ)).trans rfl
set_option maxRecDepth 20000 in
theorem q_13_5735 (G : Nat × (Nat → Int32)) (d : Nat) (x1 : Int32) (x2 : Int32) (s0 : Int32) (s1 : Int32) (s2 : Int32) (σ : aH) : Lq G d M_13 (33, [some (.ref 126), some (.int x1), some (.int x2)], [.int s0, .int s1, .int s2, .ref 127], σ) = none :=
  (aUn_eq (tkd G.1 G.2) tmi (aRun (tkd G.1 G.2) tmi tmt d) M_13 [] 1 (33, [some (.ref 126), some (.int x1), some (.int x2)], [.int s0, .int s1, .int s2, .ref 127], σ)).trans rfl
set_option maxRecDepth 20000 in
theorem q_13_5736 (G : Nat × (Nat → Int32)) (d : Nat) (x1 : Int32) (x2 : Int32) (σ : aH) : Lq G d M_13 (7, [some (.ref 126), some (.int x1), some (.int x2)], [], σ) = Lq G d M_13 (14, [some (.ref 126), some (.int x1), some (.int x2)], [.ref 126, .int x2, .int x1, .ref 127], σ) :=
  (aUn_eq (tkd G.1 G.2) tmi (aRun (tkd G.1 G.2) tmi tmt d) M_13 [] 5 (7, [some (.ref 126), some (.int x1), some (.int x2)], [], σ)).trans rfl
set_option maxRecDepth 20000 in
theorem q_13_5737 (G : Nat × (Nat → Int32)) (d : Nat) (x1 : Int32) (x2 : Int32) (s1 : Int32) (s2 : Int32) (σ : aH) : Lq G d M_13 (14, [some (.ref 126), some (.int x1), some (.int x2)], [.ref 126, .int s1, .int s2, .ref 127], σ) = aCI (Rn G d 15 [.ref 126] σ) fun v2 σ1 => Lq G d M_13 (17, [some (.ref 126), some (.int x1), some (.int x2)], [.int v2, .int s1, .int s2, .ref 127], σ1) :=
  (aUn_eq (tkd G.1 G.2) tmi (aRun (tkd G.1 G.2) tmi tmt d) M_13 [] 1 (14, [some (.ref 126), some (.int x1), some (.int x2)], [.ref 126, .int s1, .int s2, .ref 127], σ)).trans rfl
set_option maxRecDepth 20000 in
theorem q_13_5738 (G : Nat × (Nat → Int32)) (d : Nat) (x1 : Int32) (x2 : Int32) (s0 : Int32) (s1 : Int32) (s2 : Int32) (σ : aH) : Lq G d M_13 (17, [some (.ref 126), some (.int x1), some (.int x2)], [.int s0, .int s1, .int s2, .ref 127], σ) = aCI (Rn G d 17 [.ref 127, .int s2, .int s1, .int s0] σ) fun v2 σ1 => Lq G d M_13 (20, [some (.ref 126), some (.int x1), some (.int x2)], [.int v2], σ1) :=
  (aUn_eq (tkd G.1 G.2) tmi (aRun (tkd G.1 G.2) tmi tmt d) M_13 [] 1 (17, [some (.ref 126), some (.int x1), some (.int x2)], [.int s0, .int s1, .int s2, .ref 127], σ)).trans rfl
set_option maxRecDepth 20000 in
theorem q_13_5739 (G : Nat × (Nat → Int32)) (d : Nat) (x1 : Int32) (x2 : Int32) (s0 : Int32) (σ : aH) : Lq G d M_13 (20, [some (.ref 126), some (.int x1), some (.int x2)], [.int s0], σ) = Lq G d M_13 (36, [some (.ref 126), some (.int x1), some (.int x2)], [.int s0], σ) :=
  (aUn_eq (tkd G.1 G.2) tmi (aRun (tkd G.1 G.2) tmi tmt d) M_13 [] 1 (20, [some (.ref 126), some (.int x1), some (.int x2)], [.int s0], σ)).trans rfl
set_option maxRecDepth 20000 in
theorem q_13_5740 (G : Nat × (Nat → Int32)) (d : Nat) (x1 : Int32) (x2 : Int32) (s0 : Int32) (σ : aH) : Lq G d M_13 (36, [some (.ref 126), some (.int x1), some (.int x2)], [.int s0], σ) = some (.inl (some (.int s0)), σ) :=
  (aUn_eq (tkd G.1 G.2) tmi (aRun (tkd G.1 G.2) tmi tmt d) M_13 [] 1 (36, [some (.ref 126), some (.int x1), some (.int x2)], [.int s0], σ)).trans rfl
set_option maxRecDepth 20000 in
theorem q_13_5741 (G : Nat × (Nat → Int32)) (d : Nat) (x1 : Int32) (x2 : Int32) (σ : aH) : Lq G d M_13 (0, [some (.ref 128), some (.int x1), some (.int x2)], [], σ) = Lq G d M_13 (1, [some (.ref 128), some (.int x1), some (.int x2)], [.ref 128], σ) :=
  (aUn_eq (tkd G.1 G.2) tmi (aRun (tkd G.1 G.2) tmi tmt d) M_13 [] 1 (0, [some (.ref 128), some (.int x1), some (.int x2)], [], σ)).trans rfl
set_option maxRecDepth 20000 in
theorem q_13_5742 (G : Nat × (Nat → Int32)) (d : Nat) (x1 : Int32) (x2 : Int32) (σ : aH) : Lq G d M_13 (1, [some (.ref 128), some (.int x1), some (.int x2)], [.ref 128], σ) = aCI (Rn G d 14 [.ref 128] σ) fun v2 σ1 => Lq G d M_13 (4, [some (.ref 128), some (.int x1), some (.int x2)], [.int v2], σ1) :=
  (aUn_eq (tkd G.1 G.2) tmi (aRun (tkd G.1 G.2) tmi tmt d) M_13 [] 1 (1, [some (.ref 128), some (.int x1), some (.int x2)], [.ref 128], σ)).trans rfl
set_option maxRecDepth 20000 in
theorem q_13_5743 (G : Nat × (Nat → Int32)) (d : Nat) (x1 : Int32) (x2 : Int32) (s0 : Int32) (σ : aH) : Lq G d M_13 (4, [some (.ref 128), some (.int x1), some (.int x2)], [.int s0], σ) = if s0 = 0 then Lq G d M_13 (23, [some (.ref 128), some (.int x1), some (.int x2)], [], σ) else Lq G d M_13 (7, [some (.ref 128), some (.int x1), some (.int x2)], [], σ) :=
  (aUn_eq (tkd G.1 G.2) tmi (aRun (tkd G.1 G.2) tmi tmt d) M_13 [] 1 (4, [some (.ref 128), some (.int x1), some (.int x2)], [.int s0], σ)).trans rfl
set_option maxRecDepth 20000 in
theorem q_13_5744 (G : Nat × (Nat → Int32)) (d : Nat) (x1 : Int32) (x2 : Int32) (σ : aH) : Lq G d M_13 (23, [some (.ref 128), some (.int x1), some (.int x2)], [], σ) = Lq G d M_13 (30, [some (.ref 128), some (.int x1), some (.int x2)], [.ref 128, .int x2, .int x1, .ref 129], σ) :=
  (aUn_eq (tkd G.1 G.2) tmi (aRun (tkd G.1 G.2) tmi tmt d) M_13 [] 5 (23, [some (.ref 128), some (.int x1), some (.int x2)], [], σ)).trans rfl
set_option maxRecDepth 20000 in
theorem q_13_5745 (G : Nat × (Nat → Int32)) (d : Nat) (x1 : Int32) (x2 : Int32) (s1 : Int32) (s2 : Int32) (σ : aH) : Lq G d M_13 (30, [some (.ref 128), some (.int x1), some (.int x2)], [.ref 128, .int s1, .int s2, .ref 129], σ) = aCI (Rn G d 15 [.ref 128] σ) fun v2 σ1 => Lq G d M_13 (33, [some (.ref 128), some (.int x1), some (.int x2)], [.int v2, .int s1, .int s2, .ref 129], σ1) :=
  (aUn_eq (tkd G.1 G.2) tmi (aRun (tkd G.1 G.2) tmi tmt d) M_13 [] 1 (30, [some (.ref 128), some (.int x1), some (.int x2)], [.ref 128, .int s1, .int s2, .ref 129], σ)).trans rfl
set_option maxRecDepth 20000 in
theorem q_13_5746 (G : Nat × (Nat → Int32)) (d : Nat) (x1 : Int32) (x2 : Int32) (s0 : Int32) (s1 : Int32) (s2 : Int32) (σ : aH) : Lq G d M_13 (33, [some (.ref 128), some (.int x1), some (.int x2)], [.int s0, .int s1, .int s2, .ref 129], σ) = none :=
  (aUn_eq (tkd G.1 G.2) tmi (aRun (tkd G.1 G.2) tmi tmt d) M_13 [] 1 (33, [some (.ref 128), some (.int x1), some (.int x2)], [.int s0, .int s1, .int s2, .ref 129], σ)).trans rfl
set_option maxRecDepth 20000 in
theorem q_13_5747 (G : Nat × (Nat → Int32)) (d : Nat) (x1 : Int32) (x2 : Int32) (σ : aH) : Lq G d M_13 (7, [some (.ref 128), some (.int x1), some (.int x2)], [], σ) = Lq G d M_13 (14, [some (.ref 128), some (.int x1), some (.int x2)], [.ref 128, .int x2, .int x1, .ref 129], σ) :=
  (aUn_eq (tkd G.1 G.2) tmi (aRun (tkd G.1 G.2) tmi tmt d) M_13 [] 5 (7, [some (.ref 128), some (.int x1), some (.int x2)], [], σ)).trans rfl
set_option maxRecDepth 20000 in
theorem q_13_5748 (G : Nat × (Nat → Int32)) (d : Nat) (x1 : Int32) (x2 : Int32) (s1 : Int32) (s2 : Int32) (σ : aH) : Lq G d M_13 (14, [some (.ref 128), some (.int x1), some (.int x2)], [.ref 128, .int s1, .int s2, .ref 129], σ) = aCI (Rn G d 15 [.ref 128] σ) fun v2 σ1 => Lq G d M_13 (17, [some (.ref 128), some (.int x1), some (.int x2)], [.int v2, .int s1, .int s2, .ref 129], σ1) :=
  (aUn_eq (tkd G.1 G.2) tmi (aRun (tkd G.1 G.2) tmi tmt d) M_13 [] 1 (14, [some (.ref 128), some (.int x1), some (.int x2)], [.ref 128, .int s1, .int s2, .ref 129], σ)).trans rfl
set_option maxRecDepth 20000 in
theorem q_13_5749 (G : Nat × (Nat → Int32)) (d : Nat) (x1 : Int32) (x2 : Int32) (s0 : Int32) (s1 : Int32) (s2 : Int32) (σ : aH) : Lq G d M_13 (17, [some (.ref 128), some (.int x1), some (.int x2)], [.int s0, .int s1, .int s2, .ref 129], σ) = aCI (Rn G d 17 [.ref 129, .int s2, .int s1, .int s0] σ) fun v2 σ1 => Lq G d M_13 (20, [some (.ref 128), some (.int x1), some (.int x2)], [.int v2], σ1) :=
  (aUn_eq (tkd G.1 G.2) tmi (aRun (tkd G.1 G.2) tmi tmt d) M_13 [] 1 (17, [some (.ref 128), some (.int x1), some (.int x2)], [.int s0, .int s1, .int s2, .ref 129], σ)).trans rfl
set_option maxRecDepth 20000 in
theorem q_13_5750 (G : Nat × (Nat → Int32)) (d : Nat) (x1 : Int32) (x2 : Int32) (s0 : Int32) (σ : aH) : Lq G d M_13 (20, [some (.ref 128), some (.int x1), some (.int x2)], [.int s0], σ) = Lq G d M_13 (36, [some (.ref 128), some (.int x1), some (.int x2)], [.int s0], σ) :=
  (aUn_eq (tkd G.1 G.2) tmi (aRun (tkd G.1 G.2) tmi tmt d) M_13 [] 1 (20, [some (.ref 128), some (.int x1), some (.int x2)], [.int s0], σ)).trans rfl
set_option maxRecDepth 20000 in
theorem q_13_5751 (G : Nat × (Nat → Int32)) (d : Nat) (x1 : Int32) (x2 : Int32) (s0 : Int32) (σ : aH) : Lq G d M_13 (36, [some (.ref 128), some (.int x1), some (.int x2)], [.int s0], σ) = some (.inl (some (.int s0)), σ) :=
  (aUn_eq (tkd G.1 G.2) tmi (aRun (tkd G.1 G.2) tmi tmt d) M_13 [] 1 (36, [some (.ref 128), some (.int x1), some (.int x2)], [.int s0], σ)).trans rfl
set_option maxRecDepth 20000 in
theorem q_16_5752 (G : Nat × (Nat → Int32)) (d : Nat)  (σ : aH) : Lq G d M_16 (0, [some (.ref 70)], [], σ) = Lq G d M_16 (3, [some (.ref 70)], [.int (1 : Int32)], σ) :=
  (aUn_eq (tkd G.1 G.2) tmi (aRun (tkd G.1 G.2) tmi tmt d) M_16 [] 1 (0, [some (.ref 70)], [], σ)).trans rfl
set_option maxRecDepth 20000 in
theorem q_16_5753 (G : Nat × (Nat → Int32)) (d : Nat) (s0 : Int32) (σ : aH) : Lq G d M_16 (3, [some (.ref 70)], [.int s0], σ) = if s0 = 0 then Lq G d M_16 (13, [some (.ref 70)], [], σ) else Lq G d M_16 (6, [some (.ref 70)], [], σ) :=
  (aUn_eq (tkd G.1 G.2) tmi (aRun (tkd G.1 G.2) tmi tmt d) M_16 [] 1 (3, [some (.ref 70)], [.int s0], σ)).trans rfl
set_option maxRecDepth 20000 in
theorem q_16_5754 (G : Nat × (Nat → Int32)) (d : Nat)  (σ : aH) : Lq G d M_16 (13, [some (.ref 70)], [], σ) = Lq G d M_16 (14, [some (.ref 70)], [.int (1 : Int32)], σ) :=
  (aUn_eq (tkd G.1 G.2) tmi (aRun (tkd G.1 G.2) tmi tmt d) M_16 [] 1 (13, [some (.ref 70)], [], σ)).trans rfl
set_option maxRecDepth 20000 in
theorem q_16_5755 (G : Nat × (Nat → Int32)) (d : Nat) (s0 : Int32) (σ : aH) : Lq G d M_16 (14, [some (.ref 70)], [.int s0], σ) = aNar .byte (s0) (some (.inl (some (.int s0)), σ)) :=
  (aUn_eq (tkd G.1 G.2) tmi (aRun (tkd G.1 G.2) tmi tmt d) M_16 [] 1 (14, [some (.ref 70)], [.int s0], σ)).trans rfl
set_option maxRecDepth 20000 in
theorem q_16_5756 (G : Nat × (Nat → Int32)) (d : Nat)  (σ : aH) : Lq G d M_16 (6, [some (.ref 70)], [], σ) = Lq G d M_16 (14, [some (.ref 70)], [.int (0 : Int32)], σ) :=
  (aUn_eq (tkd G.1 G.2) tmi (aRun (tkd G.1 G.2) tmi tmt d) M_16 [] 3 (6, [some (.ref 70)], [], σ)).trans rfl
set_option maxRecDepth 20000 in
theorem q_16_5757 (G : Nat × (Nat → Int32)) (d : Nat)  (σ : aH) : Lq G d M_16 (0, [some (.ref 72)], [], σ) = Lq G d M_16 (3, [some (.ref 72)], [.int (1 : Int32)], σ) :=
  (aUn_eq (tkd G.1 G.2) tmi (aRun (tkd G.1 G.2) tmi tmt d) M_16 [] 1 (0, [some (.ref 72)], [], σ)).trans rfl
set_option maxRecDepth 20000 in
theorem q_16_5758 (G : Nat × (Nat → Int32)) (d : Nat) (s0 : Int32) (σ : aH) : Lq G d M_16 (3, [some (.ref 72)], [.int s0], σ) = if s0 = 0 then Lq G d M_16 (13, [some (.ref 72)], [], σ) else Lq G d M_16 (6, [some (.ref 72)], [], σ) :=
  (aUn_eq (tkd G.1 G.2) tmi (aRun (tkd G.1 G.2) tmi tmt d) M_16 [] 1 (3, [some (.ref 72)], [.int s0], σ)).trans rfl
set_option maxRecDepth 20000 in
theorem q_16_5759 (G : Nat × (Nat → Int32)) (d : Nat)  (σ : aH) : Lq G d M_16 (13, [some (.ref 72)], [], σ) = Lq G d M_16 (14, [some (.ref 72)], [.int (1 : Int32)], σ) :=
  (aUn_eq (tkd G.1 G.2) tmi (aRun (tkd G.1 G.2) tmi tmt d) M_16 [] 1 (13, [some (.ref 72)], [], σ)).trans rfl
set_option maxRecDepth 20000 in
theorem q_16_5760 (G : Nat × (Nat → Int32)) (d : Nat) (s0 : Int32) (σ : aH) : Lq G d M_16 (14, [some (.ref 72)], [.int s0], σ) = aNar .byte (s0) (some (.inl (some (.int s0)), σ)) :=
  (aUn_eq (tkd G.1 G.2) tmi (aRun (tkd G.1 G.2) tmi tmt d) M_16 [] 1 (14, [some (.ref 72)], [.int s0], σ)).trans rfl
set_option maxRecDepth 20000 in
theorem q_16_5761 (G : Nat × (Nat → Int32)) (d : Nat)  (σ : aH) : Lq G d M_16 (6, [some (.ref 72)], [], σ) = Lq G d M_16 (14, [some (.ref 72)], [.int (0 : Int32)], σ) :=
  (aUn_eq (tkd G.1 G.2) tmi (aRun (tkd G.1 G.2) tmi tmt d) M_16 [] 3 (6, [some (.ref 72)], [], σ)).trans rfl
set_option maxRecDepth 20000 in
theorem q_16_5762 (G : Nat × (Nat → Int32)) (d : Nat)  (σ : aH) : Lq G d M_16 (0, [some (.ref 74)], [], σ) = Lq G d M_16 (3, [some (.ref 74)], [.int (1 : Int32)], σ) :=
  (aUn_eq (tkd G.1 G.2) tmi (aRun (tkd G.1 G.2) tmi tmt d) M_16 [] 1 (0, [some (.ref 74)], [], σ)).trans rfl
set_option maxRecDepth 20000 in
theorem q_16_5763 (G : Nat × (Nat → Int32)) (d : Nat) (s0 : Int32) (σ : aH) : Lq G d M_16 (3, [some (.ref 74)], [.int s0], σ) = if s0 = 0 then Lq G d M_16 (13, [some (.ref 74)], [], σ) else Lq G d M_16 (6, [some (.ref 74)], [], σ) :=
  (aUn_eq (tkd G.1 G.2) tmi (aRun (tkd G.1 G.2) tmi tmt d) M_16 [] 1 (3, [some (.ref 74)], [.int s0], σ)).trans rfl
set_option maxRecDepth 20000 in
theorem q_16_5764 (G : Nat × (Nat → Int32)) (d : Nat)  (σ : aH) : Lq G d M_16 (13, [some (.ref 74)], [], σ) = Lq G d M_16 (14, [some (.ref 74)], [.int (1 : Int32)], σ) :=
  (aUn_eq (tkd G.1 G.2) tmi (aRun (tkd G.1 G.2) tmi tmt d) M_16 [] 1 (13, [some (.ref 74)], [], σ)).trans rfl
set_option maxRecDepth 20000 in
theorem q_16_5765 (G : Nat × (Nat → Int32)) (d : Nat) (s0 : Int32) (σ : aH) : Lq G d M_16 (14, [some (.ref 74)], [.int s0], σ) = aNar .byte (s0) (some (.inl (some (.int s0)), σ)) :=
  (aUn_eq (tkd G.1 G.2) tmi (aRun (tkd G.1 G.2) tmi tmt d) M_16 [] 1 (14, [some (.ref 74)], [.int s0], σ)).trans rfl
set_option maxRecDepth 20000 in
theorem q_16_5766 (G : Nat × (Nat → Int32)) (d : Nat)  (σ : aH) : Lq G d M_16 (6, [some (.ref 74)], [], σ) = Lq G d M_16 (14, [some (.ref 74)], [.int (0 : Int32)], σ) :=
  (aUn_eq (tkd G.1 G.2) tmi (aRun (tkd G.1 G.2) tmi tmt d) M_16 [] 3 (6, [some (.ref 74)], [], σ)).trans rfl
set_option maxRecDepth 20000 in
theorem q_16_5767 (G : Nat × (Nat → Int32)) (d : Nat)  (σ : aH) : Lq G d M_16 (0, [some (.ref 76)], [], σ) = Lq G d M_16 (3, [some (.ref 76)], [.int (1 : Int32)], σ) :=
  (aUn_eq (tkd G.1 G.2) tmi (aRun (tkd G.1 G.2) tmi tmt d) M_16 [] 1 (0, [some (.ref 76)], [], σ)).trans rfl
set_option maxRecDepth 20000 in
theorem q_16_5768 (G : Nat × (Nat → Int32)) (d : Nat) (s0 : Int32) (σ : aH) : Lq G d M_16 (3, [some (.ref 76)], [.int s0], σ) = if s0 = 0 then Lq G d M_16 (13, [some (.ref 76)], [], σ) else Lq G d M_16 (6, [some (.ref 76)], [], σ) :=
  (aUn_eq (tkd G.1 G.2) tmi (aRun (tkd G.1 G.2) tmi tmt d) M_16 [] 1 (3, [some (.ref 76)], [.int s0], σ)).trans rfl
set_option maxRecDepth 20000 in
theorem q_16_5769 (G : Nat × (Nat → Int32)) (d : Nat)  (σ : aH) : Lq G d M_16 (13, [some (.ref 76)], [], σ) = Lq G d M_16 (14, [some (.ref 76)], [.int (1 : Int32)], σ) :=
  (aUn_eq (tkd G.1 G.2) tmi (aRun (tkd G.1 G.2) tmi tmt d) M_16 [] 1 (13, [some (.ref 76)], [], σ)).trans rfl
set_option maxRecDepth 20000 in
theorem q_16_5770 (G : Nat × (Nat → Int32)) (d : Nat) (s0 : Int32) (σ : aH) : Lq G d M_16 (14, [some (.ref 76)], [.int s0], σ) = aNar .byte (s0) (some (.inl (some (.int s0)), σ)) :=
  (aUn_eq (tkd G.1 G.2) tmi (aRun (tkd G.1 G.2) tmi tmt d) M_16 [] 1 (14, [some (.ref 76)], [.int s0], σ)).trans rfl
set_option maxRecDepth 20000 in
theorem q_16_5771 (G : Nat × (Nat → Int32)) (d : Nat)  (σ : aH) : Lq G d M_16 (6, [some (.ref 76)], [], σ) = Lq G d M_16 (14, [some (.ref 76)], [.int (0 : Int32)], σ) :=
  (aUn_eq (tkd G.1 G.2) tmi (aRun (tkd G.1 G.2) tmi tmt d) M_16 [] 3 (6, [some (.ref 76)], [], σ)).trans rfl
set_option maxRecDepth 20000 in
theorem q_16_5772 (G : Nat × (Nat → Int32)) (d : Nat)  (σ : aH) : Lq G d M_16 (0, [some (.ref 78)], [], σ) = Lq G d M_16 (3, [some (.ref 78)], [.int (1 : Int32)], σ) :=
  (aUn_eq (tkd G.1 G.2) tmi (aRun (tkd G.1 G.2) tmi tmt d) M_16 [] 1 (0, [some (.ref 78)], [], σ)).trans rfl
set_option maxRecDepth 20000 in
theorem q_16_5773 (G : Nat × (Nat → Int32)) (d : Nat) (s0 : Int32) (σ : aH) : Lq G d M_16 (3, [some (.ref 78)], [.int s0], σ) = if s0 = 0 then Lq G d M_16 (13, [some (.ref 78)], [], σ) else Lq G d M_16 (6, [some (.ref 78)], [], σ) :=
  (aUn_eq (tkd G.1 G.2) tmi (aRun (tkd G.1 G.2) tmi tmt d) M_16 [] 1 (3, [some (.ref 78)], [.int s0], σ)).trans rfl
set_option maxRecDepth 20000 in
theorem q_16_5774 (G : Nat × (Nat → Int32)) (d : Nat)  (σ : aH) : Lq G d M_16 (13, [some (.ref 78)], [], σ) = Lq G d M_16 (14, [some (.ref 78)], [.int (1 : Int32)], σ) :=
  (aUn_eq (tkd G.1 G.2) tmi (aRun (tkd G.1 G.2) tmi tmt d) M_16 [] 1 (13, [some (.ref 78)], [], σ)).trans rfl
set_option maxRecDepth 20000 in
theorem q_16_5775 (G : Nat × (Nat → Int32)) (d : Nat) (s0 : Int32) (σ : aH) : Lq G d M_16 (14, [some (.ref 78)], [.int s0], σ) = aNar .byte (s0) (some (.inl (some (.int s0)), σ)) :=
  (aUn_eq (tkd G.1 G.2) tmi (aRun (tkd G.1 G.2) tmi tmt d) M_16 [] 1 (14, [some (.ref 78)], [.int s0], σ)).trans rfl
set_option maxRecDepth 20000 in
theorem q_16_5776 (G : Nat × (Nat → Int32)) (d : Nat)  (σ : aH) : Lq G d M_16 (6, [some (.ref 78)], [], σ) = Lq G d M_16 (14, [some (.ref 78)], [.int (0 : Int32)], σ) :=
  (aUn_eq (tkd G.1 G.2) tmi (aRun (tkd G.1 G.2) tmi tmt d) M_16 [] 3 (6, [some (.ref 78)], [], σ)).trans rfl
set_option maxRecDepth 20000 in
theorem q_16_5777 (G : Nat × (Nat → Int32)) (d : Nat)  (σ : aH) : Lq G d M_16 (0, [some (.ref 80)], [], σ) = Lq G d M_16 (3, [some (.ref 80)], [.int (1 : Int32)], σ) :=
  (aUn_eq (tkd G.1 G.2) tmi (aRun (tkd G.1 G.2) tmi tmt d) M_16 [] 1 (0, [some (.ref 80)], [], σ)).trans rfl
set_option maxRecDepth 20000 in
theorem q_16_5778 (G : Nat × (Nat → Int32)) (d : Nat) (s0 : Int32) (σ : aH) : Lq G d M_16 (3, [some (.ref 80)], [.int s0], σ) = if s0 = 0 then Lq G d M_16 (13, [some (.ref 80)], [], σ) else Lq G d M_16 (6, [some (.ref 80)], [], σ) :=
  (aUn_eq (tkd G.1 G.2) tmi (aRun (tkd G.1 G.2) tmi tmt d) M_16 [] 1 (3, [some (.ref 80)], [.int s0], σ)).trans rfl
set_option maxRecDepth 20000 in
theorem q_16_5779 (G : Nat × (Nat → Int32)) (d : Nat)  (σ : aH) : Lq G d M_16 (13, [some (.ref 80)], [], σ) = Lq G d M_16 (14, [some (.ref 80)], [.int (1 : Int32)], σ) :=
  (aUn_eq (tkd G.1 G.2) tmi (aRun (tkd G.1 G.2) tmi tmt d) M_16 [] 1 (13, [some (.ref 80)], [], σ)).trans rfl
set_option maxRecDepth 20000 in
theorem q_16_5780 (G : Nat × (Nat → Int32)) (d : Nat) (s0 : Int32) (σ : aH) : Lq G d M_16 (14, [some (.ref 80)], [.int s0], σ) = aNar .byte (s0) (some (.inl (some (.int s0)), σ)) :=
  (aUn_eq (tkd G.1 G.2) tmi (aRun (tkd G.1 G.2) tmi tmt d) M_16 [] 1 (14, [some (.ref 80)], [.int s0], σ)).trans rfl
set_option maxRecDepth 20000 in
theorem q_16_5781 (G : Nat × (Nat → Int32)) (d : Nat)  (σ : aH) : Lq G d M_16 (6, [some (.ref 80)], [], σ) = Lq G d M_16 (14, [some (.ref 80)], [.int (0 : Int32)], σ) :=
  (aUn_eq (tkd G.1 G.2) tmi (aRun (tkd G.1 G.2) tmi tmt d) M_16 [] 3 (6, [some (.ref 80)], [], σ)).trans rfl
set_option maxRecDepth 20000 in
theorem q_16_5782 (G : Nat × (Nat → Int32)) (d : Nat)  (σ : aH) : Lq G d M_16 (0, [some (.ref 82)], [], σ) = Lq G d M_16 (3, [some (.ref 82)], [.int (1 : Int32)], σ) :=
  (aUn_eq (tkd G.1 G.2) tmi (aRun (tkd G.1 G.2) tmi tmt d) M_16 [] 1 (0, [some (.ref 82)], [], σ)).trans rfl
set_option maxRecDepth 20000 in
theorem q_16_5783 (G : Nat × (Nat → Int32)) (d : Nat) (s0 : Int32) (σ : aH) : Lq G d M_16 (3, [some (.ref 82)], [.int s0], σ) = if s0 = 0 then Lq G d M_16 (13, [some (.ref 82)], [], σ) else Lq G d M_16 (6, [some (.ref 82)], [], σ) :=
  (aUn_eq (tkd G.1 G.2) tmi (aRun (tkd G.1 G.2) tmi tmt d) M_16 [] 1 (3, [some (.ref 82)], [.int s0], σ)).trans rfl
set_option maxRecDepth 20000 in
theorem q_16_5784 (G : Nat × (Nat → Int32)) (d : Nat)  (σ : aH) : Lq G d M_16 (13, [some (.ref 82)], [], σ) = Lq G d M_16 (14, [some (.ref 82)], [.int (1 : Int32)], σ) :=
  (aUn_eq (tkd G.1 G.2) tmi (aRun (tkd G.1 G.2) tmi tmt d) M_16 [] 1 (13, [some (.ref 82)], [], σ)).trans rfl
set_option maxRecDepth 20000 in
theorem q_16_5785 (G : Nat × (Nat → Int32)) (d : Nat) (s0 : Int32) (σ : aH) : Lq G d M_16 (14, [some (.ref 82)], [.int s0], σ) = aNar .byte (s0) (some (.inl (some (.int s0)), σ)) :=
  (aUn_eq (tkd G.1 G.2) tmi (aRun (tkd G.1 G.2) tmi tmt d) M_16 [] 1 (14, [some (.ref 82)], [.int s0], σ)).trans rfl
set_option maxRecDepth 20000 in
theorem q_16_5786 (G : Nat × (Nat → Int32)) (d : Nat)  (σ : aH) : Lq G d M_16 (6, [some (.ref 82)], [], σ) = Lq G d M_16 (14, [some (.ref 82)], [.int (0 : Int32)], σ) :=
  (aUn_eq (tkd G.1 G.2) tmi (aRun (tkd G.1 G.2) tmi tmt d) M_16 [] 3 (6, [some (.ref 82)], [], σ)).trans rfl
set_option maxRecDepth 20000 in
theorem q_16_5787 (G : Nat × (Nat → Int32)) (d : Nat)  (σ : aH) : Lq G d M_16 (0, [some (.ref 84)], [], σ) = Lq G d M_16 (3, [some (.ref 84)], [.int (1 : Int32)], σ) :=
  (aUn_eq (tkd G.1 G.2) tmi (aRun (tkd G.1 G.2) tmi tmt d) M_16 [] 1 (0, [some (.ref 84)], [], σ)).trans rfl
set_option maxRecDepth 20000 in
theorem q_16_5788 (G : Nat × (Nat → Int32)) (d : Nat) (s0 : Int32) (σ : aH) : Lq G d M_16 (3, [some (.ref 84)], [.int s0], σ) = if s0 = 0 then Lq G d M_16 (13, [some (.ref 84)], [], σ) else Lq G d M_16 (6, [some (.ref 84)], [], σ) :=
  (aUn_eq (tkd G.1 G.2) tmi (aRun (tkd G.1 G.2) tmi tmt d) M_16 [] 1 (3, [some (.ref 84)], [.int s0], σ)).trans rfl
set_option maxRecDepth 20000 in
theorem q_16_5789 (G : Nat × (Nat → Int32)) (d : Nat)  (σ : aH) : Lq G d M_16 (13, [some (.ref 84)], [], σ) = Lq G d M_16 (14, [some (.ref 84)], [.int (1 : Int32)], σ) :=
  (aUn_eq (tkd G.1 G.2) tmi (aRun (tkd G.1 G.2) tmi tmt d) M_16 [] 1 (13, [some (.ref 84)], [], σ)).trans rfl
set_option maxRecDepth 20000 in
theorem q_16_5790 (G : Nat × (Nat → Int32)) (d : Nat) (s0 : Int32) (σ : aH) : Lq G d M_16 (14, [some (.ref 84)], [.int s0], σ) = aNar .byte (s0) (some (.inl (some (.int s0)), σ)) :=
  (aUn_eq (tkd G.1 G.2) tmi (aRun (tkd G.1 G.2) tmi tmt d) M_16 [] 1 (14, [some (.ref 84)], [.int s0], σ)).trans rfl
set_option maxRecDepth 20000 in
theorem q_16_5791 (G : Nat × (Nat → Int32)) (d : Nat)  (σ : aH) : Lq G d M_16 (6, [some (.ref 84)], [], σ) = Lq G d M_16 (14, [some (.ref 84)], [.int (0 : Int32)], σ) :=
  (aUn_eq (tkd G.1 G.2) tmi (aRun (tkd G.1 G.2) tmi tmt d) M_16 [] 3 (6, [some (.ref 84)], [], σ)).trans rfl
set_option maxRecDepth 20000 in
theorem q_16_5792 (G : Nat × (Nat → Int32)) (d : Nat)  (σ : aH) : Lq G d M_16 (0, [some (.ref 86)], [], σ) = Lq G d M_16 (3, [some (.ref 86)], [.int (1 : Int32)], σ) :=
  (aUn_eq (tkd G.1 G.2) tmi (aRun (tkd G.1 G.2) tmi tmt d) M_16 [] 1 (0, [some (.ref 86)], [], σ)).trans rfl
set_option maxRecDepth 20000 in
theorem q_16_5793 (G : Nat × (Nat → Int32)) (d : Nat) (s0 : Int32) (σ : aH) : Lq G d M_16 (3, [some (.ref 86)], [.int s0], σ) = if s0 = 0 then Lq G d M_16 (13, [some (.ref 86)], [], σ) else Lq G d M_16 (6, [some (.ref 86)], [], σ) :=
  (aUn_eq (tkd G.1 G.2) tmi (aRun (tkd G.1 G.2) tmi tmt d) M_16 [] 1 (3, [some (.ref 86)], [.int s0], σ)).trans rfl
set_option maxRecDepth 20000 in
theorem q_16_5794 (G : Nat × (Nat → Int32)) (d : Nat)  (σ : aH) : Lq G d M_16 (13, [some (.ref 86)], [], σ) = Lq G d M_16 (14, [some (.ref 86)], [.int (1 : Int32)], σ) :=
  (aUn_eq (tkd G.1 G.2) tmi (aRun (tkd G.1 G.2) tmi tmt d) M_16 [] 1 (13, [some (.ref 86)], [], σ)).trans rfl
set_option maxRecDepth 20000 in
theorem q_16_5795 (G : Nat × (Nat → Int32)) (d : Nat) (s0 : Int32) (σ : aH) : Lq G d M_16 (14, [some (.ref 86)], [.int s0], σ) = aNar .byte (s0) (some (.inl (some (.int s0)), σ)) :=
  (aUn_eq (tkd G.1 G.2) tmi (aRun (tkd G.1 G.2) tmi tmt d) M_16 [] 1 (14, [some (.ref 86)], [.int s0], σ)).trans rfl
set_option maxRecDepth 20000 in
theorem q_16_5796 (G : Nat × (Nat → Int32)) (d : Nat)  (σ : aH) : Lq G d M_16 (6, [some (.ref 86)], [], σ) = Lq G d M_16 (14, [some (.ref 86)], [.int (0 : Int32)], σ) :=
  (aUn_eq (tkd G.1 G.2) tmi (aRun (tkd G.1 G.2) tmi tmt d) M_16 [] 3 (6, [some (.ref 86)], [], σ)).trans rfl
set_option maxRecDepth 20000 in
theorem q_16_5797 (G : Nat × (Nat → Int32)) (d : Nat)  (σ : aH) : Lq G d M_16 (0, [some (.ref 88)], [], σ) = Lq G d M_16 (3, [some (.ref 88)], [.int (1 : Int32)], σ) :=
  (aUn_eq (tkd G.1 G.2) tmi (aRun (tkd G.1 G.2) tmi tmt d) M_16 [] 1 (0, [some (.ref 88)], [], σ)).trans rfl
set_option maxRecDepth 20000 in
theorem q_16_5798 (G : Nat × (Nat → Int32)) (d : Nat) (s0 : Int32) (σ : aH) : Lq G d M_16 (3, [some (.ref 88)], [.int s0], σ) = if s0 = 0 then Lq G d M_16 (13, [some (.ref 88)], [], σ) else Lq G d M_16 (6, [some (.ref 88)], [], σ) :=
  (aUn_eq (tkd G.1 G.2) tmi (aRun (tkd G.1 G.2) tmi tmt d) M_16 [] 1 (3, [some (.ref 88)], [.int s0], σ)).trans rfl
set_option maxRecDepth 20000 in
theorem q_16_5799 (G : Nat × (Nat → Int32)) (d : Nat)  (σ : aH) : Lq G d M_16 (13, [some (.ref 88)], [], σ) = Lq G d M_16 (14, [some (.ref 88)], [.int (1 : Int32)], σ) :=
  (aUn_eq (tkd G.1 G.2) tmi (aRun (tkd G.1 G.2) tmi tmt d) M_16 [] 1 (13, [some (.ref 88)], [], σ)).trans rfl
set_option maxRecDepth 20000 in
theorem q_16_5800 (G : Nat × (Nat → Int32)) (d : Nat) (s0 : Int32) (σ : aH) : Lq G d M_16 (14, [some (.ref 88)], [.int s0], σ) = aNar .byte (s0) (some (.inl (some (.int s0)), σ)) :=
  (aUn_eq (tkd G.1 G.2) tmi (aRun (tkd G.1 G.2) tmi tmt d) M_16 [] 1 (14, [some (.ref 88)], [.int s0], σ)).trans rfl
set_option maxRecDepth 20000 in
theorem q_16_5801 (G : Nat × (Nat → Int32)) (d : Nat)  (σ : aH) : Lq G d M_16 (6, [some (.ref 88)], [], σ) = Lq G d M_16 (14, [some (.ref 88)], [.int (0 : Int32)], σ) :=
  (aUn_eq (tkd G.1 G.2) tmi (aRun (tkd G.1 G.2) tmi tmt d) M_16 [] 3 (6, [some (.ref 88)], [], σ)).trans rfl
set_option maxRecDepth 20000 in
theorem q_16_5802 (G : Nat × (Nat → Int32)) (d : Nat)  (σ : aH) : Lq G d M_16 (0, [some (.ref 90)], [], σ) = Lq G d M_16 (3, [some (.ref 90)], [.int (1 : Int32)], σ) :=
  (aUn_eq (tkd G.1 G.2) tmi (aRun (tkd G.1 G.2) tmi tmt d) M_16 [] 1 (0, [some (.ref 90)], [], σ)).trans rfl
set_option maxRecDepth 20000 in
theorem q_16_5803 (G : Nat × (Nat → Int32)) (d : Nat) (s0 : Int32) (σ : aH) : Lq G d M_16 (3, [some (.ref 90)], [.int s0], σ) = if s0 = 0 then Lq G d M_16 (13, [some (.ref 90)], [], σ) else Lq G d M_16 (6, [some (.ref 90)], [], σ) :=
  (aUn_eq (tkd G.1 G.2) tmi (aRun (tkd G.1 G.2) tmi tmt d) M_16 [] 1 (3, [some (.ref 90)], [.int s0], σ)).trans rfl
set_option maxRecDepth 20000 in
theorem q_16_5804 (G : Nat × (Nat → Int32)) (d : Nat)  (σ : aH) : Lq G d M_16 (13, [some (.ref 90)], [], σ) = Lq G d M_16 (14, [some (.ref 90)], [.int (1 : Int32)], σ) :=
  (aUn_eq (tkd G.1 G.2) tmi (aRun (tkd G.1 G.2) tmi tmt d) M_16 [] 1 (13, [some (.ref 90)], [], σ)).trans rfl
set_option maxRecDepth 20000 in
theorem q_16_5805 (G : Nat × (Nat → Int32)) (d : Nat) (s0 : Int32) (σ : aH) : Lq G d M_16 (14, [some (.ref 90)], [.int s0], σ) = aNar .byte (s0) (some (.inl (some (.int s0)), σ)) :=
  (aUn_eq (tkd G.1 G.2) tmi (aRun (tkd G.1 G.2) tmi tmt d) M_16 [] 1 (14, [some (.ref 90)], [.int s0], σ)).trans rfl
set_option maxRecDepth 20000 in
theorem q_16_5806 (G : Nat × (Nat → Int32)) (d : Nat)  (σ : aH) : Lq G d M_16 (6, [some (.ref 90)], [], σ) = Lq G d M_16 (14, [some (.ref 90)], [.int (0 : Int32)], σ) :=
  (aUn_eq (tkd G.1 G.2) tmi (aRun (tkd G.1 G.2) tmi tmt d) M_16 [] 3 (6, [some (.ref 90)], [], σ)).trans rfl
set_option maxRecDepth 20000 in
theorem q_16_5807 (G : Nat × (Nat → Int32)) (d : Nat)  (σ : aH) : Lq G d M_16 (0, [some (.ref 92)], [], σ) = Lq G d M_16 (3, [some (.ref 92)], [.int (1 : Int32)], σ) :=
  (aUn_eq (tkd G.1 G.2) tmi (aRun (tkd G.1 G.2) tmi tmt d) M_16 [] 1 (0, [some (.ref 92)], [], σ)).trans rfl
set_option maxRecDepth 20000 in
theorem q_16_5808 (G : Nat × (Nat → Int32)) (d : Nat) (s0 : Int32) (σ : aH) : Lq G d M_16 (3, [some (.ref 92)], [.int s0], σ) = if s0 = 0 then Lq G d M_16 (13, [some (.ref 92)], [], σ) else Lq G d M_16 (6, [some (.ref 92)], [], σ) :=
  (aUn_eq (tkd G.1 G.2) tmi (aRun (tkd G.1 G.2) tmi tmt d) M_16 [] 1 (3, [some (.ref 92)], [.int s0], σ)).trans rfl
set_option maxRecDepth 20000 in
theorem q_16_5809 (G : Nat × (Nat → Int32)) (d : Nat)  (σ : aH) : Lq G d M_16 (13, [some (.ref 92)], [], σ) = Lq G d M_16 (14, [some (.ref 92)], [.int (1 : Int32)], σ) :=
  (aUn_eq (tkd G.1 G.2) tmi (aRun (tkd G.1 G.2) tmi tmt d) M_16 [] 1 (13, [some (.ref 92)], [], σ)).trans rfl
set_option maxRecDepth 20000 in
theorem q_16_5810 (G : Nat × (Nat → Int32)) (d : Nat) (s0 : Int32) (σ : aH) : Lq G d M_16 (14, [some (.ref 92)], [.int s0], σ) = aNar .byte (s0) (some (.inl (some (.int s0)), σ)) :=
  (aUn_eq (tkd G.1 G.2) tmi (aRun (tkd G.1 G.2) tmi tmt d) M_16 [] 1 (14, [some (.ref 92)], [.int s0], σ)).trans rfl
set_option maxRecDepth 20000 in
theorem q_16_5811 (G : Nat × (Nat → Int32)) (d : Nat)  (σ : aH) : Lq G d M_16 (6, [some (.ref 92)], [], σ) = Lq G d M_16 (14, [some (.ref 92)], [.int (0 : Int32)], σ) :=
  (aUn_eq (tkd G.1 G.2) tmi (aRun (tkd G.1 G.2) tmi tmt d) M_16 [] 3 (6, [some (.ref 92)], [], σ)).trans rfl
set_option maxRecDepth 20000 in
theorem q_16_5812 (G : Nat × (Nat → Int32)) (d : Nat)  (σ : aH) : Lq G d M_16 (0, [some (.ref 94)], [], σ) = Lq G d M_16 (3, [some (.ref 94)], [.int (1 : Int32)], σ) :=
  (aUn_eq (tkd G.1 G.2) tmi (aRun (tkd G.1 G.2) tmi tmt d) M_16 [] 1 (0, [some (.ref 94)], [], σ)).trans rfl
set_option maxRecDepth 20000 in
theorem q_16_5813 (G : Nat × (Nat → Int32)) (d : Nat) (s0 : Int32) (σ : aH) : Lq G d M_16 (3, [some (.ref 94)], [.int s0], σ) = if s0 = 0 then Lq G d M_16 (13, [some (.ref 94)], [], σ) else Lq G d M_16 (6, [some (.ref 94)], [], σ) :=
  (aUn_eq (tkd G.1 G.2) tmi (aRun (tkd G.1 G.2) tmi tmt d) M_16 [] 1 (3, [some (.ref 94)], [.int s0], σ)).trans rfl
set_option maxRecDepth 20000 in
theorem q_16_5814 (G : Nat × (Nat → Int32)) (d : Nat)  (σ : aH) : Lq G d M_16 (13, [some (.ref 94)], [], σ) = Lq G d M_16 (14, [some (.ref 94)], [.int (1 : Int32)], σ) :=
  (aUn_eq (tkd G.1 G.2) tmi (aRun (tkd G.1 G.2) tmi tmt d) M_16 [] 1 (13, [some (.ref 94)], [], σ)).trans rfl
set_option maxRecDepth 20000 in
theorem q_16_5815 (G : Nat × (Nat → Int32)) (d : Nat) (s0 : Int32) (σ : aH) : Lq G d M_16 (14, [some (.ref 94)], [.int s0], σ) = aNar .byte (s0) (some (.inl (some (.int s0)), σ)) :=
  (aUn_eq (tkd G.1 G.2) tmi (aRun (tkd G.1 G.2) tmi tmt d) M_16 [] 1 (14, [some (.ref 94)], [.int s0], σ)).trans rfl
set_option maxRecDepth 20000 in
theorem q_16_5816 (G : Nat × (Nat → Int32)) (d : Nat)  (σ : aH) : Lq G d M_16 (6, [some (.ref 94)], [], σ) = Lq G d M_16 (14, [some (.ref 94)], [.int (0 : Int32)], σ) :=
  (aUn_eq (tkd G.1 G.2) tmi (aRun (tkd G.1 G.2) tmi tmt d) M_16 [] 3 (6, [some (.ref 94)], [], σ)).trans rfl
set_option maxRecDepth 20000 in
theorem q_16_5817 (G : Nat × (Nat → Int32)) (d : Nat)  (σ : aH) : Lq G d M_16 (0, [some (.ref 96)], [], σ) = Lq G d M_16 (3, [some (.ref 96)], [.int (1 : Int32)], σ) :=
  (aUn_eq (tkd G.1 G.2) tmi (aRun (tkd G.1 G.2) tmi tmt d) M_16 [] 1 (0, [some (.ref 96)], [], σ)).trans rfl
set_option maxRecDepth 20000 in
theorem q_16_5818 (G : Nat × (Nat → Int32)) (d : Nat) (s0 : Int32) (σ : aH) : Lq G d M_16 (3, [some (.ref 96)], [.int s0], σ) = if s0 = 0 then Lq G d M_16 (13, [some (.ref 96)], [], σ) else Lq G d M_16 (6, [some (.ref 96)], [], σ) :=
  (aUn_eq (tkd G.1 G.2) tmi (aRun (tkd G.1 G.2) tmi tmt d) M_16 [] 1 (3, [some (.ref 96)], [.int s0], σ)).trans rfl
set_option maxRecDepth 20000 in
theorem q_16_5819 (G : Nat × (Nat → Int32)) (d : Nat)  (σ : aH) : Lq G d M_16 (13, [some (.ref 96)], [], σ) = Lq G d M_16 (14, [some (.ref 96)], [.int (1 : Int32)], σ) :=
  (aUn_eq (tkd G.1 G.2) tmi (aRun (tkd G.1 G.2) tmi tmt d) M_16 [] 1 (13, [some (.ref 96)], [], σ)).trans rfl
set_option maxRecDepth 20000 in
theorem q_16_5820 (G : Nat × (Nat → Int32)) (d : Nat) (s0 : Int32) (σ : aH) : Lq G d M_16 (14, [some (.ref 96)], [.int s0], σ) = aNar .byte (s0) (some (.inl (some (.int s0)), σ)) :=
  (aUn_eq (tkd G.1 G.2) tmi (aRun (tkd G.1 G.2) tmi tmt d) M_16 [] 1 (14, [some (.ref 96)], [.int s0], σ)).trans rfl
set_option maxRecDepth 20000 in
theorem q_16_5821 (G : Nat × (Nat → Int32)) (d : Nat)  (σ : aH) : Lq G d M_16 (6, [some (.ref 96)], [], σ) = Lq G d M_16 (14, [some (.ref 96)], [.int (0 : Int32)], σ) :=
  (aUn_eq (tkd G.1 G.2) tmi (aRun (tkd G.1 G.2) tmi tmt d) M_16 [] 3 (6, [some (.ref 96)], [], σ)).trans rfl
set_option maxRecDepth 20000 in
theorem q_16_5822 (G : Nat × (Nat → Int32)) (d : Nat)  (σ : aH) : Lq G d M_16 (0, [some (.ref 98)], [], σ) = Lq G d M_16 (3, [some (.ref 98)], [.int (1 : Int32)], σ) :=
  (aUn_eq (tkd G.1 G.2) tmi (aRun (tkd G.1 G.2) tmi tmt d) M_16 [] 1 (0, [some (.ref 98)], [], σ)).trans rfl
set_option maxRecDepth 20000 in
theorem q_16_5823 (G : Nat × (Nat → Int32)) (d : Nat) (s0 : Int32) (σ : aH) : Lq G d M_16 (3, [some (.ref 98)], [.int s0], σ) = if s0 = 0 then Lq G d M_16 (13, [some (.ref 98)], [], σ) else Lq G d M_16 (6, [some (.ref 98)], [], σ) :=
  (aUn_eq (tkd G.1 G.2) tmi (aRun (tkd G.1 G.2) tmi tmt d) M_16 [] 1 (3, [some (.ref 98)], [.int s0], σ)).trans rfl
set_option maxRecDepth 20000 in
theorem q_16_5824 (G : Nat × (Nat → Int32)) (d : Nat)  (σ : aH) : Lq G d M_16 (13, [some (.ref 98)], [], σ) = Lq G d M_16 (14, [some (.ref 98)], [.int (1 : Int32)], σ) :=
  (aUn_eq (tkd G.1 G.2) tmi (aRun (tkd G.1 G.2) tmi tmt d) M_16 [] 1 (13, [some (.ref 98)], [], σ)).trans rfl
set_option maxRecDepth 20000 in
theorem q_16_5825 (G : Nat × (Nat → Int32)) (d : Nat) (s0 : Int32) (σ : aH) : Lq G d M_16 (14, [some (.ref 98)], [.int s0], σ) = aNar .byte (s0) (some (.inl (some (.int s0)), σ)) :=
  (aUn_eq (tkd G.1 G.2) tmi (aRun (tkd G.1 G.2) tmi tmt d) M_16 [] 1 (14, [some (.ref 98)], [.int s0], σ)).trans rfl
set_option maxRecDepth 20000 in
theorem q_16_5826 (G : Nat × (Nat → Int32)) (d : Nat)  (σ : aH) : Lq G d M_16 (6, [some (.ref 98)], [], σ) = Lq G d M_16 (14, [some (.ref 98)], [.int (0 : Int32)], σ) :=
  (aUn_eq (tkd G.1 G.2) tmi (aRun (tkd G.1 G.2) tmi tmt d) M_16 [] 3 (6, [some (.ref 98)], [], σ)).trans rfl
set_option maxRecDepth 20000 in
theorem q_16_5827 (G : Nat × (Nat → Int32)) (d : Nat)  (σ : aH) : Lq G d M_16 (0, [some (.ref 100)], [], σ) = Lq G d M_16 (3, [some (.ref 100)], [.int (1 : Int32)], σ) :=
  (aUn_eq (tkd G.1 G.2) tmi (aRun (tkd G.1 G.2) tmi tmt d) M_16 [] 1 (0, [some (.ref 100)], [], σ)).trans rfl
set_option maxRecDepth 20000 in
theorem q_16_5828 (G : Nat × (Nat → Int32)) (d : Nat) (s0 : Int32) (σ : aH) : Lq G d M_16 (3, [some (.ref 100)], [.int s0], σ) = if s0 = 0 then Lq G d M_16 (13, [some (.ref 100)], [], σ) else Lq G d M_16 (6, [some (.ref 100)], [], σ) :=
  (aUn_eq (tkd G.1 G.2) tmi (aRun (tkd G.1 G.2) tmi tmt d) M_16 [] 1 (3, [some (.ref 100)], [.int s0], σ)).trans rfl
set_option maxRecDepth 20000 in
theorem q_16_5829 (G : Nat × (Nat → Int32)) (d : Nat)  (σ : aH) : Lq G d M_16 (13, [some (.ref 100)], [], σ) = Lq G d M_16 (14, [some (.ref 100)], [.int (1 : Int32)], σ) :=
  (aUn_eq (tkd G.1 G.2) tmi (aRun (tkd G.1 G.2) tmi tmt d) M_16 [] 1 (13, [some (.ref 100)], [], σ)).trans rfl
set_option maxRecDepth 20000 in
theorem q_16_5830 (G : Nat × (Nat → Int32)) (d : Nat) (s0 : Int32) (σ : aH) : Lq G d M_16 (14, [some (.ref 100)], [.int s0], σ) = aNar .byte (s0) (some (.inl (some (.int s0)), σ)) :=
  (aUn_eq (tkd G.1 G.2) tmi (aRun (tkd G.1 G.2) tmi tmt d) M_16 [] 1 (14, [some (.ref 100)], [.int s0], σ)).trans rfl
set_option maxRecDepth 20000 in
theorem q_16_5831 (G : Nat × (Nat → Int32)) (d : Nat)  (σ : aH) : Lq G d M_16 (6, [some (.ref 100)], [], σ) = Lq G d M_16 (14, [some (.ref 100)], [.int (0 : Int32)], σ) :=
  (aUn_eq (tkd G.1 G.2) tmi (aRun (tkd G.1 G.2) tmi tmt d) M_16 [] 3 (6, [some (.ref 100)], [], σ)).trans rfl
set_option maxRecDepth 20000 in
theorem q_16_5832 (G : Nat × (Nat → Int32)) (d : Nat)  (σ : aH) : Lq G d M_16 (0, [some (.ref 102)], [], σ) = Lq G d M_16 (3, [some (.ref 102)], [.int (1 : Int32)], σ) :=
  (aUn_eq (tkd G.1 G.2) tmi (aRun (tkd G.1 G.2) tmi tmt d) M_16 [] 1 (0, [some (.ref 102)], [], σ)).trans rfl
set_option maxRecDepth 20000 in
theorem q_16_5833 (G : Nat × (Nat → Int32)) (d : Nat) (s0 : Int32) (σ : aH) : Lq G d M_16 (3, [some (.ref 102)], [.int s0], σ) = if s0 = 0 then Lq G d M_16 (13, [some (.ref 102)], [], σ) else Lq G d M_16 (6, [some (.ref 102)], [], σ) :=
  (aUn_eq (tkd G.1 G.2) tmi (aRun (tkd G.1 G.2) tmi tmt d) M_16 [] 1 (3, [some (.ref 102)], [.int s0], σ)).trans rfl
set_option maxRecDepth 20000 in
theorem q_16_5834 (G : Nat × (Nat → Int32)) (d : Nat)  (σ : aH) : Lq G d M_16 (13, [some (.ref 102)], [], σ) = Lq G d M_16 (14, [some (.ref 102)], [.int (1 : Int32)], σ) :=
  (aUn_eq (tkd G.1 G.2) tmi (aRun (tkd G.1 G.2) tmi tmt d) M_16 [] 1 (13, [some (.ref 102)], [], σ)).trans rfl
set_option maxRecDepth 20000 in
theorem q_16_5835 (G : Nat × (Nat → Int32)) (d : Nat) (s0 : Int32) (σ : aH) : Lq G d M_16 (14, [some (.ref 102)], [.int s0], σ) = aNar .byte (s0) (some (.inl (some (.int s0)), σ)) :=
  (aUn_eq (tkd G.1 G.2) tmi (aRun (tkd G.1 G.2) tmi tmt d) M_16 [] 1 (14, [some (.ref 102)], [.int s0], σ)).trans rfl
set_option maxRecDepth 20000 in
theorem q_16_5836 (G : Nat × (Nat → Int32)) (d : Nat)  (σ : aH) : Lq G d M_16 (6, [some (.ref 102)], [], σ) = Lq G d M_16 (14, [some (.ref 102)], [.int (0 : Int32)], σ) :=
  (aUn_eq (tkd G.1 G.2) tmi (aRun (tkd G.1 G.2) tmi tmt d) M_16 [] 3 (6, [some (.ref 102)], [], σ)).trans rfl
set_option maxRecDepth 20000 in
theorem q_16_5837 (G : Nat × (Nat → Int32)) (d : Nat)  (σ : aH) : Lq G d M_16 (0, [some (.ref 104)], [], σ) = Lq G d M_16 (3, [some (.ref 104)], [.int (1 : Int32)], σ) :=
  (aUn_eq (tkd G.1 G.2) tmi (aRun (tkd G.1 G.2) tmi tmt d) M_16 [] 1 (0, [some (.ref 104)], [], σ)).trans rfl
set_option maxRecDepth 20000 in
theorem q_16_5838 (G : Nat × (Nat → Int32)) (d : Nat) (s0 : Int32) (σ : aH) : Lq G d M_16 (3, [some (.ref 104)], [.int s0], σ) = if s0 = 0 then Lq G d M_16 (13, [some (.ref 104)], [], σ) else Lq G d M_16 (6, [some (.ref 104)], [], σ) :=
  (aUn_eq (tkd G.1 G.2) tmi (aRun (tkd G.1 G.2) tmi tmt d) M_16 [] 1 (3, [some (.ref 104)], [.int s0], σ)).trans rfl
set_option maxRecDepth 20000 in
theorem q_16_5839 (G : Nat × (Nat → Int32)) (d : Nat)  (σ : aH) : Lq G d M_16 (13, [some (.ref 104)], [], σ) = Lq G d M_16 (14, [some (.ref 104)], [.int (1 : Int32)], σ) :=
  (aUn_eq (tkd G.1 G.2) tmi (aRun (tkd G.1 G.2) tmi tmt d) M_16 [] 1 (13, [some (.ref 104)], [], σ)).trans rfl
set_option maxRecDepth 20000 in
theorem q_16_5840 (G : Nat × (Nat → Int32)) (d : Nat) (s0 : Int32) (σ : aH) : Lq G d M_16 (14, [some (.ref 104)], [.int s0], σ) = aNar .byte (s0) (some (.inl (some (.int s0)), σ)) :=
  (aUn_eq (tkd G.1 G.2) tmi (aRun (tkd G.1 G.2) tmi tmt d) M_16 [] 1 (14, [some (.ref 104)], [.int s0], σ)).trans rfl
set_option maxRecDepth 20000 in
theorem q_16_5841 (G : Nat × (Nat → Int32)) (d : Nat)  (σ : aH) : Lq G d M_16 (6, [some (.ref 104)], [], σ) = Lq G d M_16 (14, [some (.ref 104)], [.int (0 : Int32)], σ) :=
  (aUn_eq (tkd G.1 G.2) tmi (aRun (tkd G.1 G.2) tmi tmt d) M_16 [] 3 (6, [some (.ref 104)], [], σ)).trans rfl
set_option maxRecDepth 20000 in
theorem q_16_5842 (G : Nat × (Nat → Int32)) (d : Nat)  (σ : aH) : Lq G d M_16 (0, [some (.ref 106)], [], σ) = Lq G d M_16 (3, [some (.ref 106)], [.int (1 : Int32)], σ) :=
  (aUn_eq (tkd G.1 G.2) tmi (aRun (tkd G.1 G.2) tmi tmt d) M_16 [] 1 (0, [some (.ref 106)], [], σ)).trans rfl
set_option maxRecDepth 20000 in
theorem q_16_5843 (G : Nat × (Nat → Int32)) (d : Nat) (s0 : Int32) (σ : aH) : Lq G d M_16 (3, [some (.ref 106)], [.int s0], σ) = if s0 = 0 then Lq G d M_16 (13, [some (.ref 106)], [], σ) else Lq G d M_16 (6, [some (.ref 106)], [], σ) :=
  (aUn_eq (tkd G.1 G.2) tmi (aRun (tkd G.1 G.2) tmi tmt d) M_16 [] 1 (3, [some (.ref 106)], [.int s0], σ)).trans rfl
set_option maxRecDepth 20000 in
theorem q_16_5844 (G : Nat × (Nat → Int32)) (d : Nat)  (σ : aH) : Lq G d M_16 (13, [some (.ref 106)], [], σ) = Lq G d M_16 (14, [some (.ref 106)], [.int (1 : Int32)], σ) :=
  (aUn_eq (tkd G.1 G.2) tmi (aRun (tkd G.1 G.2) tmi tmt d) M_16 [] 1 (13, [some (.ref 106)], [], σ)).trans rfl
set_option maxRecDepth 20000 in
theorem q_16_5845 (G : Nat × (Nat → Int32)) (d : Nat) (s0 : Int32) (σ : aH) : Lq G d M_16 (14, [some (.ref 106)], [.int s0], σ) = aNar .byte (s0) (some (.inl (some (.int s0)), σ)) :=
  (aUn_eq (tkd G.1 G.2) tmi (aRun (tkd G.1 G.2) tmi tmt d) M_16 [] 1 (14, [some (.ref 106)], [.int s0], σ)).trans rfl
set_option maxRecDepth 20000 in
theorem q_16_5846 (G : Nat × (Nat → Int32)) (d : Nat)  (σ : aH) : Lq G d M_16 (6, [some (.ref 106)], [], σ) = Lq G d M_16 (14, [some (.ref 106)], [.int (0 : Int32)], σ) :=
  (aUn_eq (tkd G.1 G.2) tmi (aRun (tkd G.1 G.2) tmi tmt d) M_16 [] 3 (6, [some (.ref 106)], [], σ)).trans rfl
set_option maxRecDepth 20000 in
theorem q_16_5847 (G : Nat × (Nat → Int32)) (d : Nat)  (σ : aH) : Lq G d M_16 (0, [some (.ref 108)], [], σ) = Lq G d M_16 (3, [some (.ref 108)], [.int (1 : Int32)], σ) :=
  (aUn_eq (tkd G.1 G.2) tmi (aRun (tkd G.1 G.2) tmi tmt d) M_16 [] 1 (0, [some (.ref 108)], [], σ)).trans rfl
set_option maxRecDepth 20000 in
theorem q_16_5848 (G : Nat × (Nat → Int32)) (d : Nat) (s0 : Int32) (σ : aH) : Lq G d M_16 (3, [some (.ref 108)], [.int s0], σ) = if s0 = 0 then Lq G d M_16 (13, [some (.ref 108)], [], σ) else Lq G d M_16 (6, [some (.ref 108)], [], σ) :=
  (aUn_eq (tkd G.1 G.2) tmi (aRun (tkd G.1 G.2) tmi tmt d) M_16 [] 1 (3, [some (.ref 108)], [.int s0], σ)).trans rfl
set_option maxRecDepth 20000 in
theorem q_16_5849 (G : Nat × (Nat → Int32)) (d : Nat)  (σ : aH) : Lq G d M_16 (13, [some (.ref 108)], [], σ) = Lq G d M_16 (14, [some (.ref 108)], [.int (1 : Int32)], σ) :=
  (aUn_eq (tkd G.1 G.2) tmi (aRun (tkd G.1 G.2) tmi tmt d) M_16 [] 1 (13, [some (.ref 108)], [], σ)).trans rfl
set_option maxRecDepth 20000 in
theorem q_16_5850 (G : Nat × (Nat → Int32)) (d : Nat) (s0 : Int32) (σ : aH) : Lq G d M_16 (14, [some (.ref 108)], [.int s0], σ) = aNar .byte (s0) (some (.inl (some (.int s0)), σ)) :=
  (aUn_eq (tkd G.1 G.2) tmi (aRun (tkd G.1 G.2) tmi tmt d) M_16 [] 1 (14, [some (.ref 108)], [.int s0], σ)).trans rfl
set_option maxRecDepth 20000 in
theorem q_16_5851 (G : Nat × (Nat → Int32)) (d : Nat)  (σ : aH) : Lq G d M_16 (6, [some (.ref 108)], [], σ) = Lq G d M_16 (14, [some (.ref 108)], [.int (0 : Int32)], σ) :=
  (aUn_eq (tkd G.1 G.2) tmi (aRun (tkd G.1 G.2) tmi tmt d) M_16 [] 3 (6, [some (.ref 108)], [], σ)).trans rfl
set_option maxRecDepth 20000 in
theorem q_16_5852 (G : Nat × (Nat → Int32)) (d : Nat)  (σ : aH) : Lq G d M_16 (0, [some (.ref 110)], [], σ) = Lq G d M_16 (3, [some (.ref 110)], [.int (1 : Int32)], σ) :=
  (aUn_eq (tkd G.1 G.2) tmi (aRun (tkd G.1 G.2) tmi tmt d) M_16 [] 1 (0, [some (.ref 110)], [], σ)).trans rfl
set_option maxRecDepth 20000 in
theorem q_16_5853 (G : Nat × (Nat → Int32)) (d : Nat) (s0 : Int32) (σ : aH) : Lq G d M_16 (3, [some (.ref 110)], [.int s0], σ) = if s0 = 0 then Lq G d M_16 (13, [some (.ref 110)], [], σ) else Lq G d M_16 (6, [some (.ref 110)], [], σ) :=
  (aUn_eq (tkd G.1 G.2) tmi (aRun (tkd G.1 G.2) tmi tmt d) M_16 [] 1 (3, [some (.ref 110)], [.int s0], σ)).trans rfl
set_option maxRecDepth 20000 in
theorem q_16_5854 (G : Nat × (Nat → Int32)) (d : Nat)  (σ : aH) : Lq G d M_16 (13, [some (.ref 110)], [], σ) = Lq G d M_16 (14, [some (.ref 110)], [.int (1 : Int32)], σ) :=
  (aUn_eq (tkd G.1 G.2) tmi (aRun (tkd G.1 G.2) tmi tmt d) M_16 [] 1 (13, [some (.ref 110)], [], σ)).trans rfl
set_option maxRecDepth 20000 in
theorem q_16_5855 (G : Nat × (Nat → Int32)) (d : Nat) (s0 : Int32) (σ : aH) : Lq G d M_16 (14, [some (.ref 110)], [.int s0], σ) = aNar .byte (s0) (some (.inl (some (.int s0)), σ)) :=
  (aUn_eq (tkd G.1 G.2) tmi (aRun (tkd G.1 G.2) tmi tmt d) M_16 [] 1 (14, [some (.ref 110)], [.int s0], σ)).trans rfl
set_option maxRecDepth 20000 in
theorem q_16_5856 (G : Nat × (Nat → Int32)) (d : Nat)  (σ : aH) : Lq G d M_16 (6, [some (.ref 110)], [], σ) = Lq G d M_16 (14, [some (.ref 110)], [.int (0 : Int32)], σ) :=
  (aUn_eq (tkd G.1 G.2) tmi (aRun (tkd G.1 G.2) tmi tmt d) M_16 [] 3 (6, [some (.ref 110)], [], σ)).trans rfl
set_option maxRecDepth 20000 in
theorem q_16_5857 (G : Nat × (Nat → Int32)) (d : Nat)  (σ : aH) : Lq G d M_16 (0, [some (.ref 112)], [], σ) = Lq G d M_16 (3, [some (.ref 112)], [.int (1 : Int32)], σ) :=
  (aUn_eq (tkd G.1 G.2) tmi (aRun (tkd G.1 G.2) tmi tmt d) M_16 [] 1 (0, [some (.ref 112)], [], σ)).trans rfl
set_option maxRecDepth 20000 in
theorem q_16_5858 (G : Nat × (Nat → Int32)) (d : Nat) (s0 : Int32) (σ : aH) : Lq G d M_16 (3, [some (.ref 112)], [.int s0], σ) = if s0 = 0 then Lq G d M_16 (13, [some (.ref 112)], [], σ) else Lq G d M_16 (6, [some (.ref 112)], [], σ) :=
  (aUn_eq (tkd G.1 G.2) tmi (aRun (tkd G.1 G.2) tmi tmt d) M_16 [] 1 (3, [some (.ref 112)], [.int s0], σ)).trans rfl
set_option maxRecDepth 20000 in
theorem q_16_5859 (G : Nat × (Nat → Int32)) (d : Nat)  (σ : aH) : Lq G d M_16 (13, [some (.ref 112)], [], σ) = Lq G d M_16 (14, [some (.ref 112)], [.int (1 : Int32)], σ) :=
  (aUn_eq (tkd G.1 G.2) tmi (aRun (tkd G.1 G.2) tmi tmt d) M_16 [] 1 (13, [some (.ref 112)], [], σ)).trans rfl
set_option maxRecDepth 20000 in
theorem q_16_5860 (G : Nat × (Nat → Int32)) (d : Nat) (s0 : Int32) (σ : aH) : Lq G d M_16 (14, [some (.ref 112)], [.int s0], σ) = aNar .byte (s0) (some (.inl (some (.int s0)), σ)) :=
  (aUn_eq (tkd G.1 G.2) tmi (aRun (tkd G.1 G.2) tmi tmt d) M_16 [] 1 (14, [some (.ref 112)], [.int s0], σ)).trans rfl
set_option maxRecDepth 20000 in
theorem q_16_5861 (G : Nat × (Nat → Int32)) (d : Nat)  (σ : aH) : Lq G d M_16 (6, [some (.ref 112)], [], σ) = Lq G d M_16 (14, [some (.ref 112)], [.int (0 : Int32)], σ) :=
  (aUn_eq (tkd G.1 G.2) tmi (aRun (tkd G.1 G.2) tmi tmt d) M_16 [] 3 (6, [some (.ref 112)], [], σ)).trans rfl
set_option maxRecDepth 20000 in
theorem q_16_5862 (G : Nat × (Nat → Int32)) (d : Nat)  (σ : aH) : Lq G d M_16 (0, [some (.ref 114)], [], σ) = Lq G d M_16 (3, [some (.ref 114)], [.int (1 : Int32)], σ) :=
  (aUn_eq (tkd G.1 G.2) tmi (aRun (tkd G.1 G.2) tmi tmt d) M_16 [] 1 (0, [some (.ref 114)], [], σ)).trans rfl
set_option maxRecDepth 20000 in
theorem q_16_5863 (G : Nat × (Nat → Int32)) (d : Nat) (s0 : Int32) (σ : aH) : Lq G d M_16 (3, [some (.ref 114)], [.int s0], σ) = if s0 = 0 then Lq G d M_16 (13, [some (.ref 114)], [], σ) else Lq G d M_16 (6, [some (.ref 114)], [], σ) :=
  (aUn_eq (tkd G.1 G.2) tmi (aRun (tkd G.1 G.2) tmi tmt d) M_16 [] 1 (3, [some (.ref 114)], [.int s0], σ)).trans rfl
set_option maxRecDepth 20000 in
theorem q_16_5864 (G : Nat × (Nat → Int32)) (d : Nat)  (σ : aH) : Lq G d M_16 (13, [some (.ref 114)], [], σ) = Lq G d M_16 (14, [some (.ref 114)], [.int (1 : Int32)], σ) :=
  (aUn_eq (tkd G.1 G.2) tmi (aRun (tkd G.1 G.2) tmi tmt d) M_16 [] 1 (13, [some (.ref 114)], [], σ)).trans rfl
set_option maxRecDepth 20000 in
theorem q_16_5865 (G : Nat × (Nat → Int32)) (d : Nat) (s0 : Int32) (σ : aH) : Lq G d M_16 (14, [some (.ref 114)], [.int s0], σ) = aNar .byte (s0) (some (.inl (some (.int s0)), σ)) :=
  (aUn_eq (tkd G.1 G.2) tmi (aRun (tkd G.1 G.2) tmi tmt d) M_16 [] 1 (14, [some (.ref 114)], [.int s0], σ)).trans rfl
set_option maxRecDepth 20000 in
theorem q_16_5866 (G : Nat × (Nat → Int32)) (d : Nat)  (σ : aH) : Lq G d M_16 (6, [some (.ref 114)], [], σ) = Lq G d M_16 (14, [some (.ref 114)], [.int (0 : Int32)], σ) :=
  (aUn_eq (tkd G.1 G.2) tmi (aRun (tkd G.1 G.2) tmi tmt d) M_16 [] 3 (6, [some (.ref 114)], [], σ)).trans rfl
set_option maxRecDepth 20000 in
theorem q_16_5867 (G : Nat × (Nat → Int32)) (d : Nat)  (σ : aH) : Lq G d M_16 (0, [some (.ref 116)], [], σ) = Lq G d M_16 (3, [some (.ref 116)], [.int (1 : Int32)], σ) :=
  (aUn_eq (tkd G.1 G.2) tmi (aRun (tkd G.1 G.2) tmi tmt d) M_16 [] 1 (0, [some (.ref 116)], [], σ)).trans rfl
set_option maxRecDepth 20000 in
theorem q_16_5868 (G : Nat × (Nat → Int32)) (d : Nat) (s0 : Int32) (σ : aH) : Lq G d M_16 (3, [some (.ref 116)], [.int s0], σ) = if s0 = 0 then Lq G d M_16 (13, [some (.ref 116)], [], σ) else Lq G d M_16 (6, [some (.ref 116)], [], σ) :=
  (aUn_eq (tkd G.1 G.2) tmi (aRun (tkd G.1 G.2) tmi tmt d) M_16 [] 1 (3, [some (.ref 116)], [.int s0], σ)).trans rfl
set_option maxRecDepth 20000 in
theorem q_16_5869 (G : Nat × (Nat → Int32)) (d : Nat)  (σ : aH) : Lq G d M_16 (13, [some (.ref 116)], [], σ) = Lq G d M_16 (14, [some (.ref 116)], [.int (1 : Int32)], σ) :=
  (aUn_eq (tkd G.1 G.2) tmi (aRun (tkd G.1 G.2) tmi tmt d) M_16 [] 1 (13, [some (.ref 116)], [], σ)).trans rfl
set_option maxRecDepth 20000 in
theorem q_16_5870 (G : Nat × (Nat → Int32)) (d : Nat) (s0 : Int32) (σ : aH) : Lq G d M_16 (14, [some (.ref 116)], [.int s0], σ) = aNar .byte (s0) (some (.inl (some (.int s0)), σ)) :=
  (aUn_eq (tkd G.1 G.2) tmi (aRun (tkd G.1 G.2) tmi tmt d) M_16 [] 1 (14, [some (.ref 116)], [.int s0], σ)).trans rfl
set_option maxRecDepth 20000 in
theorem q_16_5871 (G : Nat × (Nat → Int32)) (d : Nat)  (σ : aH) : Lq G d M_16 (6, [some (.ref 116)], [], σ) = Lq G d M_16 (14, [some (.ref 116)], [.int (0 : Int32)], σ) :=
  (aUn_eq (tkd G.1 G.2) tmi (aRun (tkd G.1 G.2) tmi tmt d) M_16 [] 3 (6, [some (.ref 116)], [], σ)).trans rfl
set_option maxRecDepth 20000 in
theorem q_16_5872 (G : Nat × (Nat → Int32)) (d : Nat)  (σ : aH) : Lq G d M_16 (0, [some (.ref 118)], [], σ) = Lq G d M_16 (3, [some (.ref 118)], [.int (1 : Int32)], σ) :=
  (aUn_eq (tkd G.1 G.2) tmi (aRun (tkd G.1 G.2) tmi tmt d) M_16 [] 1 (0, [some (.ref 118)], [], σ)).trans rfl
set_option maxRecDepth 20000 in
theorem q_16_5873 (G : Nat × (Nat → Int32)) (d : Nat) (s0 : Int32) (σ : aH) : Lq G d M_16 (3, [some (.ref 118)], [.int s0], σ) = if s0 = 0 then Lq G d M_16 (13, [some (.ref 118)], [], σ) else Lq G d M_16 (6, [some (.ref 118)], [], σ) :=
  (aUn_eq (tkd G.1 G.2) tmi (aRun (tkd G.1 G.2) tmi tmt d) M_16 [] 1 (3, [some (.ref 118)], [.int s0], σ)).trans rfl
set_option maxRecDepth 20000 in
theorem q_16_5874 (G : Nat × (Nat → Int32)) (d : Nat)  (σ : aH) : Lq G d M_16 (13, [some (.ref 118)], [], σ) = Lq G d M_16 (14, [some (.ref 118)], [.int (1 : Int32)], σ) :=
  (aUn_eq (tkd G.1 G.2) tmi (aRun (tkd G.1 G.2) tmi tmt d) M_16 [] 1 (13, [some (.ref 118)], [], σ)).trans rfl
set_option maxRecDepth 20000 in
theorem q_16_5875 (G : Nat × (Nat → Int32)) (d : Nat) (s0 : Int32) (σ : aH) : Lq G d M_16 (14, [some (.ref 118)], [.int s0], σ) = aNar .byte (s0) (some (.inl (some (.int s0)), σ)) :=
  (aUn_eq (tkd G.1 G.2) tmi (aRun (tkd G.1 G.2) tmi tmt d) M_16 [] 1 (14, [some (.ref 118)], [.int s0], σ)).trans rfl
set_option maxRecDepth 20000 in
theorem q_16_5876 (G : Nat × (Nat → Int32)) (d : Nat)  (σ : aH) : Lq G d M_16 (6, [some (.ref 118)], [], σ) = Lq G d M_16 (14, [some (.ref 118)], [.int (0 : Int32)], σ) :=
  (aUn_eq (tkd G.1 G.2) tmi (aRun (tkd G.1 G.2) tmi tmt d) M_16 [] 3 (6, [some (.ref 118)], [], σ)).trans rfl
set_option maxRecDepth 20000 in
theorem q_16_5877 (G : Nat × (Nat → Int32)) (d : Nat)  (σ : aH) : Lq G d M_16 (0, [some (.ref 120)], [], σ) = Lq G d M_16 (3, [some (.ref 120)], [.int (1 : Int32)], σ) :=
  (aUn_eq (tkd G.1 G.2) tmi (aRun (tkd G.1 G.2) tmi tmt d) M_16 [] 1 (0, [some (.ref 120)], [], σ)).trans rfl
set_option maxRecDepth 20000 in
theorem q_16_5878 (G : Nat × (Nat → Int32)) (d : Nat) (s0 : Int32) (σ : aH) : Lq G d M_16 (3, [some (.ref 120)], [.int s0], σ) = if s0 = 0 then Lq G d M_16 (13, [some (.ref 120)], [], σ) else Lq G d M_16 (6, [some (.ref 120)], [], σ) :=
  (aUn_eq (tkd G.1 G.2) tmi (aRun (tkd G.1 G.2) tmi tmt d) M_16 [] 1 (3, [some (.ref 120)], [.int s0], σ)).trans rfl
set_option maxRecDepth 20000 in
theorem q_16_5879 (G : Nat × (Nat → Int32)) (d : Nat)  (σ : aH) : Lq G d M_16 (13, [some (.ref 120)], [], σ) = Lq G d M_16 (14, [some (.ref 120)], [.int (1 : Int32)], σ) :=
  (aUn_eq (tkd G.1 G.2) tmi (aRun (tkd G.1 G.2) tmi tmt d) M_16 [] 1 (13, [some (.ref 120)], [], σ)).trans rfl
set_option maxRecDepth 20000 in
theorem q_16_5880 (G : Nat × (Nat → Int32)) (d : Nat) (s0 : Int32) (σ : aH) : Lq G d M_16 (14, [some (.ref 120)], [.int s0], σ) = aNar .byte (s0) (some (.inl (some (.int s0)), σ)) :=
  (aUn_eq (tkd G.1 G.2) tmi (aRun (tkd G.1 G.2) tmi tmt d) M_16 [] 1 (14, [some (.ref 120)], [.int s0], σ)).trans rfl
set_option maxRecDepth 20000 in
theorem q_16_5881 (G : Nat × (Nat → Int32)) (d : Nat)  (σ : aH) : Lq G d M_16 (6, [some (.ref 120)], [], σ) = Lq G d M_16 (14, [some (.ref 120)], [.int (0 : Int32)], σ) :=
  (aUn_eq (tkd G.1 G.2) tmi (aRun (tkd G.1 G.2) tmi tmt d) M_16 [] 3 (6, [some (.ref 120)], [], σ)).trans rfl
set_option maxRecDepth 20000 in
theorem q_16_5882 (G : Nat × (Nat → Int32)) (d : Nat)  (σ : aH) : Lq G d M_16 (0, [some (.ref 122)], [], σ) = Lq G d M_16 (3, [some (.ref 122)], [.int (1 : Int32)], σ) :=
  (aUn_eq (tkd G.1 G.2) tmi (aRun (tkd G.1 G.2) tmi tmt d) M_16 [] 1 (0, [some (.ref 122)], [], σ)).trans rfl
set_option maxRecDepth 20000 in
theorem q_16_5883 (G : Nat × (Nat → Int32)) (d : Nat) (s0 : Int32) (σ : aH) : Lq G d M_16 (3, [some (.ref 122)], [.int s0], σ) = if s0 = 0 then Lq G d M_16 (13, [some (.ref 122)], [], σ) else Lq G d M_16 (6, [some (.ref 122)], [], σ) :=
  (aUn_eq (tkd G.1 G.2) tmi (aRun (tkd G.1 G.2) tmi tmt d) M_16 [] 1 (3, [some (.ref 122)], [.int s0], σ)).trans rfl
set_option maxRecDepth 20000 in
theorem q_16_5884 (G : Nat × (Nat → Int32)) (d : Nat)  (σ : aH) : Lq G d M_16 (13, [some (.ref 122)], [], σ) = Lq G d M_16 (14, [some (.ref 122)], [.int (1 : Int32)], σ) :=
  (aUn_eq (tkd G.1 G.2) tmi (aRun (tkd G.1 G.2) tmi tmt d) M_16 [] 1 (13, [some (.ref 122)], [], σ)).trans rfl
set_option maxRecDepth 20000 in
theorem q_16_5885 (G : Nat × (Nat → Int32)) (d : Nat) (s0 : Int32) (σ : aH) : Lq G d M_16 (14, [some (.ref 122)], [.int s0], σ) = aNar .byte (s0) (some (.inl (some (.int s0)), σ)) :=
  (aUn_eq (tkd G.1 G.2) tmi (aRun (tkd G.1 G.2) tmi tmt d) M_16 [] 1 (14, [some (.ref 122)], [.int s0], σ)).trans rfl
set_option maxRecDepth 20000 in
theorem q_16_5886 (G : Nat × (Nat → Int32)) (d : Nat)  (σ : aH) : Lq G d M_16 (6, [some (.ref 122)], [], σ) = Lq G d M_16 (14, [some (.ref 122)], [.int (0 : Int32)], σ) :=
  (aUn_eq (tkd G.1 G.2) tmi (aRun (tkd G.1 G.2) tmi tmt d) M_16 [] 3 (6, [some (.ref 122)], [], σ)).trans rfl
set_option maxRecDepth 20000 in
theorem q_16_5887 (G : Nat × (Nat → Int32)) (d : Nat)  (σ : aH) : Lq G d M_16 (0, [some (.ref 124)], [], σ) = Lq G d M_16 (3, [some (.ref 124)], [.int (1 : Int32)], σ) :=
  (aUn_eq (tkd G.1 G.2) tmi (aRun (tkd G.1 G.2) tmi tmt d) M_16 [] 1 (0, [some (.ref 124)], [], σ)).trans rfl
set_option maxRecDepth 20000 in
theorem q_16_5888 (G : Nat × (Nat → Int32)) (d : Nat) (s0 : Int32) (σ : aH) : Lq G d M_16 (3, [some (.ref 124)], [.int s0], σ) = if s0 = 0 then Lq G d M_16 (13, [some (.ref 124)], [], σ) else Lq G d M_16 (6, [some (.ref 124)], [], σ) :=
  (aUn_eq (tkd G.1 G.2) tmi (aRun (tkd G.1 G.2) tmi tmt d) M_16 [] 1 (3, [some (.ref 124)], [.int s0], σ)).trans rfl
set_option maxRecDepth 20000 in
theorem q_16_5889 (G : Nat × (Nat → Int32)) (d : Nat)  (σ : aH) : Lq G d M_16 (13, [some (.ref 124)], [], σ) = Lq G d M_16 (14, [some (.ref 124)], [.int (1 : Int32)], σ) :=
  (aUn_eq (tkd G.1 G.2) tmi (aRun (tkd G.1 G.2) tmi tmt d) M_16 [] 1 (13, [some (.ref 124)], [], σ)).trans rfl
set_option maxRecDepth 20000 in
theorem q_16_5890 (G : Nat × (Nat → Int32)) (d : Nat) (s0 : Int32) (σ : aH) : Lq G d M_16 (14, [some (.ref 124)], [.int s0], σ) = aNar .byte (s0) (some (.inl (some (.int s0)), σ)) :=
  (aUn_eq (tkd G.1 G.2) tmi (aRun (tkd G.1 G.2) tmi tmt d) M_16 [] 1 (14, [some (.ref 124)], [.int s0], σ)).trans rfl
set_option maxRecDepth 20000 in
theorem q_16_5891 (G : Nat × (Nat → Int32)) (d : Nat)  (σ : aH) : Lq G d M_16 (6, [some (.ref 124)], [], σ) = Lq G d M_16 (14, [some (.ref 124)], [.int (0 : Int32)], σ) :=
  (aUn_eq (tkd G.1 G.2) tmi (aRun (tkd G.1 G.2) tmi tmt d) M_16 [] 3 (6, [some (.ref 124)], [], σ)).trans rfl
set_option maxRecDepth 20000 in
theorem q_16_5892 (G : Nat × (Nat → Int32)) (d : Nat)  (σ : aH) : Lq G d M_16 (0, [some (.ref 126)], [], σ) = Lq G d M_16 (3, [some (.ref 126)], [.int (1 : Int32)], σ) :=
  (aUn_eq (tkd G.1 G.2) tmi (aRun (tkd G.1 G.2) tmi tmt d) M_16 [] 1 (0, [some (.ref 126)], [], σ)).trans rfl
set_option maxRecDepth 20000 in
theorem q_16_5893 (G : Nat × (Nat → Int32)) (d : Nat) (s0 : Int32) (σ : aH) : Lq G d M_16 (3, [some (.ref 126)], [.int s0], σ) = if s0 = 0 then Lq G d M_16 (13, [some (.ref 126)], [], σ) else Lq G d M_16 (6, [some (.ref 126)], [], σ) :=
  (aUn_eq (tkd G.1 G.2) tmi (aRun (tkd G.1 G.2) tmi tmt d) M_16 [] 1 (3, [some (.ref 126)], [.int s0], σ)).trans rfl
set_option maxRecDepth 20000 in
theorem q_16_5894 (G : Nat × (Nat → Int32)) (d : Nat)  (σ : aH) : Lq G d M_16 (13, [some (.ref 126)], [], σ) = Lq G d M_16 (14, [some (.ref 126)], [.int (1 : Int32)], σ) :=
  (aUn_eq (tkd G.1 G.2) tmi (aRun (tkd G.1 G.2) tmi tmt d) M_16 [] 1 (13, [some (.ref 126)], [], σ)).trans rfl
set_option maxRecDepth 20000 in
theorem q_16_5895 (G : Nat × (Nat → Int32)) (d : Nat) (s0 : Int32) (σ : aH) : Lq G d M_16 (14, [some (.ref 126)], [.int s0], σ) = aNar .byte (s0) (some (.inl (some (.int s0)), σ)) :=
  (aUn_eq (tkd G.1 G.2) tmi (aRun (tkd G.1 G.2) tmi tmt d) M_16 [] 1 (14, [some (.ref 126)], [.int s0], σ)).trans rfl
set_option maxRecDepth 20000 in
theorem q_16_5896 (G : Nat × (Nat → Int32)) (d : Nat)  (σ : aH) : Lq G d M_16 (6, [some (.ref 126)], [], σ) = Lq G d M_16 (14, [some (.ref 126)], [.int (0 : Int32)], σ) :=
  (aUn_eq (tkd G.1 G.2) tmi (aRun (tkd G.1 G.2) tmi tmt d) M_16 [] 3 (6, [some (.ref 126)], [], σ)).trans rfl
set_option maxRecDepth 20000 in
theorem q_16_5897 (G : Nat × (Nat → Int32)) (d : Nat)  (σ : aH) : Lq G d M_16 (0, [some (.ref 128)], [], σ) = Lq G d M_16 (3, [some (.ref 128)], [.int (1 : Int32)], σ) :=
  (aUn_eq (tkd G.1 G.2) tmi (aRun (tkd G.1 G.2) tmi tmt d) M_16 [] 1 (0, [some (.ref 128)], [], σ)).trans rfl
set_option maxRecDepth 20000 in
theorem q_16_5898 (G : Nat × (Nat → Int32)) (d : Nat) (s0 : Int32) (σ : aH) : Lq G d M_16 (3, [some (.ref 128)], [.int s0], σ) = if s0 = 0 then Lq G d M_16 (13, [some (.ref 128)], [], σ) else Lq G d M_16 (6, [some (.ref 128)], [], σ) :=
  (aUn_eq (tkd G.1 G.2) tmi (aRun (tkd G.1 G.2) tmi tmt d) M_16 [] 1 (3, [some (.ref 128)], [.int s0], σ)).trans rfl
set_option maxRecDepth 20000 in
theorem q_16_5899 (G : Nat × (Nat → Int32)) (d : Nat)  (σ : aH) : Lq G d M_16 (13, [some (.ref 128)], [], σ) = Lq G d M_16 (14, [some (.ref 128)], [.int (1 : Int32)], σ) :=
  (aUn_eq (tkd G.1 G.2) tmi (aRun (tkd G.1 G.2) tmi tmt d) M_16 [] 1 (13, [some (.ref 128)], [], σ)).trans rfl
set_option maxRecDepth 20000 in
theorem q_16_5900 (G : Nat × (Nat → Int32)) (d : Nat) (s0 : Int32) (σ : aH) : Lq G d M_16 (14, [some (.ref 128)], [.int s0], σ) = aNar .byte (s0) (some (.inl (some (.int s0)), σ)) :=
  (aUn_eq (tkd G.1 G.2) tmi (aRun (tkd G.1 G.2) tmi tmt d) M_16 [] 1 (14, [some (.ref 128)], [.int s0], σ)).trans rfl
set_option maxRecDepth 20000 in
theorem q_16_5901 (G : Nat × (Nat → Int32)) (d : Nat)  (σ : aH) : Lq G d M_16 (6, [some (.ref 128)], [], σ) = Lq G d M_16 (14, [some (.ref 128)], [.int (0 : Int32)], σ) :=
  (aUn_eq (tkd G.1 G.2) tmi (aRun (tkd G.1 G.2) tmi tmt d) M_16 [] 3 (6, [some (.ref 128)], [], σ)).trans rfl
set_option maxRecDepth 20000 in
theorem q_14_5902 (G : Nat × (Nat → Int32)) (d : Nat)  (σ : aH) : Lq G d M_14 (0, [some (.ref 70)], [], σ) = Lq G d M_14 (3, [some (.ref 70)], [.int (1 : Int32)], σ) :=
  (aUn_eq (tkd G.1 G.2) tmi (aRun (tkd G.1 G.2) tmi tmt d) M_14 [] 1 (0, [some (.ref 70)], [], σ)).trans rfl
set_option maxRecDepth 20000 in
theorem q_14_5903 (G : Nat × (Nat → Int32)) (d : Nat) (s0 : Int32) (σ : aH) : Lq G d M_14 (3, [some (.ref 70)], [.int s0], σ) = if s0 = 0 then Lq G d M_14 (17, [some (.ref 70)], [], σ) else Lq G d M_14 (6, [some (.ref 70)], [], σ) :=
  (aUn_eq (tkd G.1 G.2) tmi (aRun (tkd G.1 G.2) tmi tmt d) M_14 [] 1 (3, [some (.ref 70)], [.int s0], σ)).trans rfl
set_option maxRecDepth 20000 in
theorem q_14_5904 (G : Nat × (Nat → Int32)) (d : Nat)  (σ : aH) : Lq G d M_14 (17, [some (.ref 70)], [], σ) = Lq G d M_14 (18, [some (.ref 70)], [.int (0 : Int32)], σ) :=
  (aUn_eq (tkd G.1 G.2) tmi (aRun (tkd G.1 G.2) tmi tmt d) M_14 [] 1 (17, [some (.ref 70)], [], σ)).trans rfl
set_option maxRecDepth 20000 in
theorem q_14_5905 (G : Nat × (Nat → Int32)) (d : Nat) (s0 : Int32) (σ : aH) : Lq G d M_14 (18, [some (.ref 70)], [.int s0], σ) = aNar .boolean (s0) (some (.inl (some (.int s0)), σ)) :=
  (aUn_eq (tkd G.1 G.2) tmi (aRun (tkd G.1 G.2) tmi tmt d) M_14 [] 1 (18, [some (.ref 70)], [.int s0], σ)).trans rfl
set_option maxRecDepth 20000 in
theorem q_14_5906 (G : Nat × (Nat → Int32)) (d : Nat)  (σ : aH) : Lq G d M_14 (6, [some (.ref 70)], [], σ) = Lq G d M_14 (10, [some (.ref 70)], [.int (0 : Int32)], σ) :=
  (aUn_eq (tkd G.1 G.2) tmi (aRun (tkd G.1 G.2) tmi tmt d) M_14 [] 2 (6, [some (.ref 70)], [], σ)).trans rfl
set_option maxRecDepth 20000 in
theorem q_14_5907 (G : Nat × (Nat → Int32)) (d : Nat) (s0 : Int32) (σ : aH) : Lq G d M_14 (10, [some (.ref 70)], [.int s0], σ) = if s0 = 0 then Lq G d M_14 (13, [some (.ref 70)], [], σ) else Lq G d M_14 (17, [some (.ref 70)], [], σ) :=
  (aUn_eq (tkd G.1 G.2) tmi (aRun (tkd G.1 G.2) tmi tmt d) M_14 [] 1 (10, [some (.ref 70)], [.int s0], σ)).trans rfl
set_option maxRecDepth 20000 in
theorem q_14_5908 (G : Nat × (Nat → Int32)) (d : Nat)  (σ : aH) : Lq G d M_14 (13, [some (.ref 70)], [], σ) = Lq G d M_14 (18, [some (.ref 70)], [.int (1 : Int32)], σ) :=
  (aUn_eq (tkd G.1 G.2) tmi (aRun (tkd G.1 G.2) tmi tmt d) M_14 [] 2 (13, [some (.ref 70)], [], σ)).trans rfl
set_option maxRecDepth 20000 in
theorem q_14_5909 (G : Nat × (Nat → Int32)) (d : Nat)  (σ : aH) : Lq G d M_14 (0, [some (.ref 72)], [], σ) = Lq G d M_14 (3, [some (.ref 72)], [.int (1 : Int32)], σ) :=
  (aUn_eq (tkd G.1 G.2) tmi (aRun (tkd G.1 G.2) tmi tmt d) M_14 [] 1 (0, [some (.ref 72)], [], σ)).trans rfl
set_option maxRecDepth 20000 in
theorem q_14_5910 (G : Nat × (Nat → Int32)) (d : Nat) (s0 : Int32) (σ : aH) : Lq G d M_14 (3, [some (.ref 72)], [.int s0], σ) = if s0 = 0 then Lq G d M_14 (17, [some (.ref 72)], [], σ) else Lq G d M_14 (6, [some (.ref 72)], [], σ) :=
  (aUn_eq (tkd G.1 G.2) tmi (aRun (tkd G.1 G.2) tmi tmt d) M_14 [] 1 (3, [some (.ref 72)], [.int s0], σ)).trans rfl
set_option maxRecDepth 20000 in
theorem q_14_5911 (G : Nat × (Nat → Int32)) (d : Nat)  (σ : aH) : Lq G d M_14 (17, [some (.ref 72)], [], σ) = Lq G d M_14 (18, [some (.ref 72)], [.int (0 : Int32)], σ) :=
  (aUn_eq (tkd G.1 G.2) tmi (aRun (tkd G.1 G.2) tmi tmt d) M_14 [] 1 (17, [some (.ref 72)], [], σ)).trans rfl
set_option maxRecDepth 20000 in
theorem q_14_5912 (G : Nat × (Nat → Int32)) (d : Nat) (s0 : Int32) (σ : aH) : Lq G d M_14 (18, [some (.ref 72)], [.int s0], σ) = aNar .boolean (s0) (some (.inl (some (.int s0)), σ)) :=
  (aUn_eq (tkd G.1 G.2) tmi (aRun (tkd G.1 G.2) tmi tmt d) M_14 [] 1 (18, [some (.ref 72)], [.int s0], σ)).trans rfl
set_option maxRecDepth 20000 in
theorem q_14_5913 (G : Nat × (Nat → Int32)) (d : Nat)  (σ : aH) : Lq G d M_14 (6, [some (.ref 72)], [], σ) = Lq G d M_14 (10, [some (.ref 72)], [.int (0 : Int32)], σ) :=
  (aUn_eq (tkd G.1 G.2) tmi (aRun (tkd G.1 G.2) tmi tmt d) M_14 [] 2 (6, [some (.ref 72)], [], σ)).trans rfl
set_option maxRecDepth 20000 in
theorem q_14_5914 (G : Nat × (Nat → Int32)) (d : Nat) (s0 : Int32) (σ : aH) : Lq G d M_14 (10, [some (.ref 72)], [.int s0], σ) = if s0 = 0 then Lq G d M_14 (13, [some (.ref 72)], [], σ) else Lq G d M_14 (17, [some (.ref 72)], [], σ) :=
  (aUn_eq (tkd G.1 G.2) tmi (aRun (tkd G.1 G.2) tmi tmt d) M_14 [] 1 (10, [some (.ref 72)], [.int s0], σ)).trans rfl
set_option maxRecDepth 20000 in
theorem q_14_5915 (G : Nat × (Nat → Int32)) (d : Nat)  (σ : aH) : Lq G d M_14 (13, [some (.ref 72)], [], σ) = Lq G d M_14 (18, [some (.ref 72)], [.int (1 : Int32)], σ) :=
  (aUn_eq (tkd G.1 G.2) tmi (aRun (tkd G.1 G.2) tmi tmt d) M_14 [] 2 (13, [some (.ref 72)], [], σ)).trans rfl
set_option maxRecDepth 20000 in
theorem q_14_5916 (G : Nat × (Nat → Int32)) (d : Nat)  (σ : aH) : Lq G d M_14 (0, [some (.ref 74)], [], σ) = Lq G d M_14 (3, [some (.ref 74)], [.int (1 : Int32)], σ) :=
  (aUn_eq (tkd G.1 G.2) tmi (aRun (tkd G.1 G.2) tmi tmt d) M_14 [] 1 (0, [some (.ref 74)], [], σ)).trans rfl
set_option maxRecDepth 20000 in
theorem q_14_5917 (G : Nat × (Nat → Int32)) (d : Nat) (s0 : Int32) (σ : aH) : Lq G d M_14 (3, [some (.ref 74)], [.int s0], σ) = if s0 = 0 then Lq G d M_14 (17, [some (.ref 74)], [], σ) else Lq G d M_14 (6, [some (.ref 74)], [], σ) :=
  (aUn_eq (tkd G.1 G.2) tmi (aRun (tkd G.1 G.2) tmi tmt d) M_14 [] 1 (3, [some (.ref 74)], [.int s0], σ)).trans rfl
set_option maxRecDepth 20000 in
theorem q_14_5918 (G : Nat × (Nat → Int32)) (d : Nat)  (σ : aH) : Lq G d M_14 (17, [some (.ref 74)], [], σ) = Lq G d M_14 (18, [some (.ref 74)], [.int (0 : Int32)], σ) :=
  (aUn_eq (tkd G.1 G.2) tmi (aRun (tkd G.1 G.2) tmi tmt d) M_14 [] 1 (17, [some (.ref 74)], [], σ)).trans rfl
set_option maxRecDepth 20000 in
theorem q_14_5919 (G : Nat × (Nat → Int32)) (d : Nat) (s0 : Int32) (σ : aH) : Lq G d M_14 (18, [some (.ref 74)], [.int s0], σ) = aNar .boolean (s0) (some (.inl (some (.int s0)), σ)) :=
  (aUn_eq (tkd G.1 G.2) tmi (aRun (tkd G.1 G.2) tmi tmt d) M_14 [] 1 (18, [some (.ref 74)], [.int s0], σ)).trans rfl
set_option maxRecDepth 20000 in
theorem q_14_5920 (G : Nat × (Nat → Int32)) (d : Nat)  (σ : aH) : Lq G d M_14 (6, [some (.ref 74)], [], σ) = Lq G d M_14 (10, [some (.ref 74)], [.int (0 : Int32)], σ) :=
  (aUn_eq (tkd G.1 G.2) tmi (aRun (tkd G.1 G.2) tmi tmt d) M_14 [] 2 (6, [some (.ref 74)], [], σ)).trans rfl
set_option maxRecDepth 20000 in
theorem q_14_5921 (G : Nat × (Nat → Int32)) (d : Nat) (s0 : Int32) (σ : aH) : Lq G d M_14 (10, [some (.ref 74)], [.int s0], σ) = if s0 = 0 then Lq G d M_14 (13, [some (.ref 74)], [], σ) else Lq G d M_14 (17, [some (.ref 74)], [], σ) :=
  (aUn_eq (tkd G.1 G.2) tmi (aRun (tkd G.1 G.2) tmi tmt d) M_14 [] 1 (10, [some (.ref 74)], [.int s0], σ)).trans rfl
set_option maxRecDepth 20000 in
theorem q_14_5922 (G : Nat × (Nat → Int32)) (d : Nat)  (σ : aH) : Lq G d M_14 (13, [some (.ref 74)], [], σ) = Lq G d M_14 (18, [some (.ref 74)], [.int (1 : Int32)], σ) :=
  (aUn_eq (tkd G.1 G.2) tmi (aRun (tkd G.1 G.2) tmi tmt d) M_14 [] 2 (13, [some (.ref 74)], [], σ)).trans rfl
set_option maxRecDepth 20000 in
theorem q_14_5923 (G : Nat × (Nat → Int32)) (d : Nat)  (σ : aH) : Lq G d M_14 (0, [some (.ref 76)], [], σ) = Lq G d M_14 (3, [some (.ref 76)], [.int (1 : Int32)], σ) :=
  (aUn_eq (tkd G.1 G.2) tmi (aRun (tkd G.1 G.2) tmi tmt d) M_14 [] 1 (0, [some (.ref 76)], [], σ)).trans rfl
set_option maxRecDepth 20000 in
theorem q_14_5924 (G : Nat × (Nat → Int32)) (d : Nat) (s0 : Int32) (σ : aH) : Lq G d M_14 (3, [some (.ref 76)], [.int s0], σ) = if s0 = 0 then Lq G d M_14 (17, [some (.ref 76)], [], σ) else Lq G d M_14 (6, [some (.ref 76)], [], σ) :=
  (aUn_eq (tkd G.1 G.2) tmi (aRun (tkd G.1 G.2) tmi tmt d) M_14 [] 1 (3, [some (.ref 76)], [.int s0], σ)).trans rfl
set_option maxRecDepth 20000 in
theorem q_14_5925 (G : Nat × (Nat → Int32)) (d : Nat)  (σ : aH) : Lq G d M_14 (17, [some (.ref 76)], [], σ) = Lq G d M_14 (18, [some (.ref 76)], [.int (0 : Int32)], σ) :=
  (aUn_eq (tkd G.1 G.2) tmi (aRun (tkd G.1 G.2) tmi tmt d) M_14 [] 1 (17, [some (.ref 76)], [], σ)).trans rfl
set_option maxRecDepth 20000 in
theorem q_14_5926 (G : Nat × (Nat → Int32)) (d : Nat) (s0 : Int32) (σ : aH) : Lq G d M_14 (18, [some (.ref 76)], [.int s0], σ) = aNar .boolean (s0) (some (.inl (some (.int s0)), σ)) :=
  (aUn_eq (tkd G.1 G.2) tmi (aRun (tkd G.1 G.2) tmi tmt d) M_14 [] 1 (18, [some (.ref 76)], [.int s0], σ)).trans rfl
set_option maxRecDepth 20000 in
theorem q_14_5927 (G : Nat × (Nat → Int32)) (d : Nat)  (σ : aH) : Lq G d M_14 (6, [some (.ref 76)], [], σ) = Lq G d M_14 (10, [some (.ref 76)], [.int (0 : Int32)], σ) :=
  (aUn_eq (tkd G.1 G.2) tmi (aRun (tkd G.1 G.2) tmi tmt d) M_14 [] 2 (6, [some (.ref 76)], [], σ)).trans rfl
set_option maxRecDepth 20000 in
theorem q_14_5928 (G : Nat × (Nat → Int32)) (d : Nat) (s0 : Int32) (σ : aH) : Lq G d M_14 (10, [some (.ref 76)], [.int s0], σ) = if s0 = 0 then Lq G d M_14 (13, [some (.ref 76)], [], σ) else Lq G d M_14 (17, [some (.ref 76)], [], σ) :=
  (aUn_eq (tkd G.1 G.2) tmi (aRun (tkd G.1 G.2) tmi tmt d) M_14 [] 1 (10, [some (.ref 76)], [.int s0], σ)).trans rfl
set_option maxRecDepth 20000 in
theorem q_14_5929 (G : Nat × (Nat → Int32)) (d : Nat)  (σ : aH) : Lq G d M_14 (13, [some (.ref 76)], [], σ) = Lq G d M_14 (18, [some (.ref 76)], [.int (1 : Int32)], σ) :=
  (aUn_eq (tkd G.1 G.2) tmi (aRun (tkd G.1 G.2) tmi tmt d) M_14 [] 2 (13, [some (.ref 76)], [], σ)).trans rfl
set_option maxRecDepth 20000 in
theorem q_14_5930 (G : Nat × (Nat → Int32)) (d : Nat)  (σ : aH) : Lq G d M_14 (0, [some (.ref 78)], [], σ) = Lq G d M_14 (3, [some (.ref 78)], [.int (1 : Int32)], σ) :=
  (aUn_eq (tkd G.1 G.2) tmi (aRun (tkd G.1 G.2) tmi tmt d) M_14 [] 1 (0, [some (.ref 78)], [], σ)).trans rfl
set_option maxRecDepth 20000 in
theorem q_14_5931 (G : Nat × (Nat → Int32)) (d : Nat) (s0 : Int32) (σ : aH) : Lq G d M_14 (3, [some (.ref 78)], [.int s0], σ) = if s0 = 0 then Lq G d M_14 (17, [some (.ref 78)], [], σ) else Lq G d M_14 (6, [some (.ref 78)], [], σ) :=
  (aUn_eq (tkd G.1 G.2) tmi (aRun (tkd G.1 G.2) tmi tmt d) M_14 [] 1 (3, [some (.ref 78)], [.int s0], σ)).trans rfl
set_option maxRecDepth 20000 in
theorem q_14_5932 (G : Nat × (Nat → Int32)) (d : Nat)  (σ : aH) : Lq G d M_14 (17, [some (.ref 78)], [], σ) = Lq G d M_14 (18, [some (.ref 78)], [.int (0 : Int32)], σ) :=
  (aUn_eq (tkd G.1 G.2) tmi (aRun (tkd G.1 G.2) tmi tmt d) M_14 [] 1 (17, [some (.ref 78)], [], σ)).trans rfl
set_option maxRecDepth 20000 in
theorem q_14_5933 (G : Nat × (Nat → Int32)) (d : Nat) (s0 : Int32) (σ : aH) : Lq G d M_14 (18, [some (.ref 78)], [.int s0], σ) = aNar .boolean (s0) (some (.inl (some (.int s0)), σ)) :=
  (aUn_eq (tkd G.1 G.2) tmi (aRun (tkd G.1 G.2) tmi tmt d) M_14 [] 1 (18, [some (.ref 78)], [.int s0], σ)).trans rfl
set_option maxRecDepth 20000 in
theorem q_14_5934 (G : Nat × (Nat → Int32)) (d : Nat)  (σ : aH) : Lq G d M_14 (6, [some (.ref 78)], [], σ) = Lq G d M_14 (10, [some (.ref 78)], [.int (0 : Int32)], σ) :=
  (aUn_eq (tkd G.1 G.2) tmi (aRun (tkd G.1 G.2) tmi tmt d) M_14 [] 2 (6, [some (.ref 78)], [], σ)).trans rfl
set_option maxRecDepth 20000 in
theorem q_14_5935 (G : Nat × (Nat → Int32)) (d : Nat) (s0 : Int32) (σ : aH) : Lq G d M_14 (10, [some (.ref 78)], [.int s0], σ) = if s0 = 0 then Lq G d M_14 (13, [some (.ref 78)], [], σ) else Lq G d M_14 (17, [some (.ref 78)], [], σ) :=
  (aUn_eq (tkd G.1 G.2) tmi (aRun (tkd G.1 G.2) tmi tmt d) M_14 [] 1 (10, [some (.ref 78)], [.int s0], σ)).trans rfl
set_option maxRecDepth 20000 in
theorem q_14_5936 (G : Nat × (Nat → Int32)) (d : Nat)  (σ : aH) : Lq G d M_14 (13, [some (.ref 78)], [], σ) = Lq G d M_14 (18, [some (.ref 78)], [.int (1 : Int32)], σ) :=
  (aUn_eq (tkd G.1 G.2) tmi (aRun (tkd G.1 G.2) tmi tmt d) M_14 [] 2 (13, [some (.ref 78)], [], σ)).trans rfl
set_option maxRecDepth 20000 in
theorem q_14_5937 (G : Nat × (Nat → Int32)) (d : Nat)  (σ : aH) : Lq G d M_14 (0, [some (.ref 80)], [], σ) = Lq G d M_14 (3, [some (.ref 80)], [.int (1 : Int32)], σ) :=
  (aUn_eq (tkd G.1 G.2) tmi (aRun (tkd G.1 G.2) tmi tmt d) M_14 [] 1 (0, [some (.ref 80)], [], σ)).trans rfl
set_option maxRecDepth 20000 in
theorem q_14_5938 (G : Nat × (Nat → Int32)) (d : Nat) (s0 : Int32) (σ : aH) : Lq G d M_14 (3, [some (.ref 80)], [.int s0], σ) = if s0 = 0 then Lq G d M_14 (17, [some (.ref 80)], [], σ) else Lq G d M_14 (6, [some (.ref 80)], [], σ) :=
  (aUn_eq (tkd G.1 G.2) tmi (aRun (tkd G.1 G.2) tmi tmt d) M_14 [] 1 (3, [some (.ref 80)], [.int s0], σ)).trans rfl
set_option maxRecDepth 20000 in
theorem q_14_5939 (G : Nat × (Nat → Int32)) (d : Nat)  (σ : aH) : Lq G d M_14 (17, [some (.ref 80)], [], σ) = Lq G d M_14 (18, [some (.ref 80)], [.int (0 : Int32)], σ) :=
  (aUn_eq (tkd G.1 G.2) tmi (aRun (tkd G.1 G.2) tmi tmt d) M_14 [] 1 (17, [some (.ref 80)], [], σ)).trans rfl
set_option maxRecDepth 20000 in
theorem q_14_5940 (G : Nat × (Nat → Int32)) (d : Nat) (s0 : Int32) (σ : aH) : Lq G d M_14 (18, [some (.ref 80)], [.int s0], σ) = aNar .boolean (s0) (some (.inl (some (.int s0)), σ)) :=
  (aUn_eq (tkd G.1 G.2) tmi (aRun (tkd G.1 G.2) tmi tmt d) M_14 [] 1 (18, [some (.ref 80)], [.int s0], σ)).trans rfl
set_option maxRecDepth 20000 in
theorem q_14_5941 (G : Nat × (Nat → Int32)) (d : Nat)  (σ : aH) : Lq G d M_14 (6, [some (.ref 80)], [], σ) = Lq G d M_14 (10, [some (.ref 80)], [.int (0 : Int32)], σ) :=
  (aUn_eq (tkd G.1 G.2) tmi (aRun (tkd G.1 G.2) tmi tmt d) M_14 [] 2 (6, [some (.ref 80)], [], σ)).trans rfl
set_option maxRecDepth 20000 in
theorem q_14_5942 (G : Nat × (Nat → Int32)) (d : Nat) (s0 : Int32) (σ : aH) : Lq G d M_14 (10, [some (.ref 80)], [.int s0], σ) = if s0 = 0 then Lq G d M_14 (13, [some (.ref 80)], [], σ) else Lq G d M_14 (17, [some (.ref 80)], [], σ) :=
  (aUn_eq (tkd G.1 G.2) tmi (aRun (tkd G.1 G.2) tmi tmt d) M_14 [] 1 (10, [some (.ref 80)], [.int s0], σ)).trans rfl
set_option maxRecDepth 20000 in
theorem q_14_5943 (G : Nat × (Nat → Int32)) (d : Nat)  (σ : aH) : Lq G d M_14 (13, [some (.ref 80)], [], σ) = Lq G d M_14 (18, [some (.ref 80)], [.int (1 : Int32)], σ) :=
  (aUn_eq (tkd G.1 G.2) tmi (aRun (tkd G.1 G.2) tmi tmt d) M_14 [] 2 (13, [some (.ref 80)], [], σ)).trans rfl
set_option maxRecDepth 20000 in
theorem q_14_5944 (G : Nat × (Nat → Int32)) (d : Nat)  (σ : aH) : Lq G d M_14 (0, [some (.ref 82)], [], σ) = Lq G d M_14 (3, [some (.ref 82)], [.int (1 : Int32)], σ) :=
  (aUn_eq (tkd G.1 G.2) tmi (aRun (tkd G.1 G.2) tmi tmt d) M_14 [] 1 (0, [some (.ref 82)], [], σ)).trans rfl
set_option maxRecDepth 20000 in
theorem q_14_5945 (G : Nat × (Nat → Int32)) (d : Nat) (s0 : Int32) (σ : aH) : Lq G d M_14 (3, [some (.ref 82)], [.int s0], σ) = if s0 = 0 then Lq G d M_14 (17, [some (.ref 82)], [], σ) else Lq G d M_14 (6, [some (.ref 82)], [], σ) :=
  (aUn_eq (tkd G.1 G.2) tmi (aRun (tkd G.1 G.2) tmi tmt d) M_14 [] 1 (3, [some (.ref 82)], [.int s0], σ)).trans rfl
set_option maxRecDepth 20000 in
theorem q_14_5946 (G : Nat × (Nat → Int32)) (d : Nat)  (σ : aH) : Lq G d M_14 (17, [some (.ref 82)], [], σ) = Lq G d M_14 (18, [some (.ref 82)], [.int (0 : Int32)], σ) :=
  (aUn_eq (tkd G.1 G.2) tmi (aRun (tkd G.1 G.2) tmi tmt d) M_14 [] 1 (17, [some (.ref 82)], [], σ)).trans rfl
set_option maxRecDepth 20000 in
theorem q_14_5947 (G : Nat × (Nat → Int32)) (d : Nat) (s0 : Int32) (σ : aH) : Lq G d M_14 (18, [some (.ref 82)], [.int s0], σ) = aNar .boolean (s0) (some (.inl (some (.int s0)), σ)) :=
  (aUn_eq (tkd G.1 G.2) tmi (aRun (tkd G.1 G.2) tmi tmt d) M_14 [] 1 (18, [some (.ref 82)], [.int s0], σ)).trans rfl
set_option maxRecDepth 20000 in
theorem q_14_5948 (G : Nat × (Nat → Int32)) (d : Nat)  (σ : aH) : Lq G d M_14 (6, [some (.ref 82)], [], σ) = Lq G d M_14 (10, [some (.ref 82)], [.int (0 : Int32)], σ) :=
  (aUn_eq (tkd G.1 G.2) tmi (aRun (tkd G.1 G.2) tmi tmt d) M_14 [] 2 (6, [some (.ref 82)], [], σ)).trans rfl
set_option maxRecDepth 20000 in
theorem q_14_5949 (G : Nat × (Nat → Int32)) (d : Nat) (s0 : Int32) (σ : aH) : Lq G d M_14 (10, [some (.ref 82)], [.int s0], σ) = if s0 = 0 then Lq G d M_14 (13, [some (.ref 82)], [], σ) else Lq G d M_14 (17, [some (.ref 82)], [], σ) :=
  (aUn_eq (tkd G.1 G.2) tmi (aRun (tkd G.1 G.2) tmi tmt d) M_14 [] 1 (10, [some (.ref 82)], [.int s0], σ)).trans rfl
set_option maxRecDepth 20000 in
theorem q_14_5950 (G : Nat × (Nat → Int32)) (d : Nat)  (σ : aH) : Lq G d M_14 (13, [some (.ref 82)], [], σ) = Lq G d M_14 (18, [some (.ref 82)], [.int (1 : Int32)], σ) :=
  (aUn_eq (tkd G.1 G.2) tmi (aRun (tkd G.1 G.2) tmi tmt d) M_14 [] 2 (13, [some (.ref 82)], [], σ)).trans rfl
set_option maxRecDepth 20000 in
theorem q_14_5951 (G : Nat × (Nat → Int32)) (d : Nat)  (σ : aH) : Lq G d M_14 (0, [some (.ref 84)], [], σ) = Lq G d M_14 (3, [some (.ref 84)], [.int (1 : Int32)], σ) :=
  (aUn_eq (tkd G.1 G.2) tmi (aRun (tkd G.1 G.2) tmi tmt d) M_14 [] 1 (0, [some (.ref 84)], [], σ)).trans rfl
set_option maxRecDepth 20000 in
theorem q_14_5952 (G : Nat × (Nat → Int32)) (d : Nat) (s0 : Int32) (σ : aH) : Lq G d M_14 (3, [some (.ref 84)], [.int s0], σ) = if s0 = 0 then Lq G d M_14 (17, [some (.ref 84)], [], σ) else Lq G d M_14 (6, [some (.ref 84)], [], σ) :=
  (aUn_eq (tkd G.1 G.2) tmi (aRun (tkd G.1 G.2) tmi tmt d) M_14 [] 1 (3, [some (.ref 84)], [.int s0], σ)).trans rfl
set_option maxRecDepth 20000 in
theorem q_14_5953 (G : Nat × (Nat → Int32)) (d : Nat)  (σ : aH) : Lq G d M_14 (17, [some (.ref 84)], [], σ) = Lq G d M_14 (18, [some (.ref 84)], [.int (0 : Int32)], σ) :=
  (aUn_eq (tkd G.1 G.2) tmi (aRun (tkd G.1 G.2) tmi tmt d) M_14 [] 1 (17, [some (.ref 84)], [], σ)).trans rfl
set_option maxRecDepth 20000 in
theorem q_14_5954 (G : Nat × (Nat → Int32)) (d : Nat) (s0 : Int32) (σ : aH) : Lq G d M_14 (18, [some (.ref 84)], [.int s0], σ) = aNar .boolean (s0) (some (.inl (some (.int s0)), σ)) :=
  (aUn_eq (tkd G.1 G.2) tmi (aRun (tkd G.1 G.2) tmi tmt d) M_14 [] 1 (18, [some (.ref 84)], [.int s0], σ)).trans rfl
set_option maxRecDepth 20000 in
theorem q_14_5955 (G : Nat × (Nat → Int32)) (d : Nat)  (σ : aH) : Lq G d M_14 (6, [some (.ref 84)], [], σ) = Lq G d M_14 (10, [some (.ref 84)], [.int (0 : Int32)], σ) :=
  (aUn_eq (tkd G.1 G.2) tmi (aRun (tkd G.1 G.2) tmi tmt d) M_14 [] 2 (6, [some (.ref 84)], [], σ)).trans rfl
set_option maxRecDepth 20000 in
theorem q_14_5956 (G : Nat × (Nat → Int32)) (d : Nat) (s0 : Int32) (σ : aH) : Lq G d M_14 (10, [some (.ref 84)], [.int s0], σ) = if s0 = 0 then Lq G d M_14 (13, [some (.ref 84)], [], σ) else Lq G d M_14 (17, [some (.ref 84)], [], σ) :=
  (aUn_eq (tkd G.1 G.2) tmi (aRun (tkd G.1 G.2) tmi tmt d) M_14 [] 1 (10, [some (.ref 84)], [.int s0], σ)).trans rfl
set_option maxRecDepth 20000 in
theorem q_14_5957 (G : Nat × (Nat → Int32)) (d : Nat)  (σ : aH) : Lq G d M_14 (13, [some (.ref 84)], [], σ) = Lq G d M_14 (18, [some (.ref 84)], [.int (1 : Int32)], σ) :=
  (aUn_eq (tkd G.1 G.2) tmi (aRun (tkd G.1 G.2) tmi tmt d) M_14 [] 2 (13, [some (.ref 84)], [], σ)).trans rfl
set_option maxRecDepth 20000 in
theorem q_14_5958 (G : Nat × (Nat → Int32)) (d : Nat)  (σ : aH) : Lq G d M_14 (0, [some (.ref 86)], [], σ) = Lq G d M_14 (3, [some (.ref 86)], [.int (1 : Int32)], σ) :=
  (aUn_eq (tkd G.1 G.2) tmi (aRun (tkd G.1 G.2) tmi tmt d) M_14 [] 1 (0, [some (.ref 86)], [], σ)).trans rfl
set_option maxRecDepth 20000 in
theorem q_14_5959 (G : Nat × (Nat → Int32)) (d : Nat) (s0 : Int32) (σ : aH) : Lq G d M_14 (3, [some (.ref 86)], [.int s0], σ) = if s0 = 0 then Lq G d M_14 (17, [some (.ref 86)], [], σ) else Lq G d M_14 (6, [some (.ref 86)], [], σ) :=
  (aUn_eq (tkd G.1 G.2) tmi (aRun (tkd G.1 G.2) tmi tmt d) M_14 [] 1 (3, [some (.ref 86)], [.int s0], σ)).trans rfl
set_option maxRecDepth 20000 in
theorem q_14_5960 (G : Nat × (Nat → Int32)) (d : Nat)  (σ : aH) : Lq G d M_14 (17, [some (.ref 86)], [], σ) = Lq G d M_14 (18, [some (.ref 86)], [.int (0 : Int32)], σ) :=
  (aUn_eq (tkd G.1 G.2) tmi (aRun (tkd G.1 G.2) tmi tmt d) M_14 [] 1 (17, [some (.ref 86)], [], σ)).trans rfl
set_option maxRecDepth 20000 in
theorem q_14_5961 (G : Nat × (Nat → Int32)) (d : Nat) (s0 : Int32) (σ : aH) : Lq G d M_14 (18, [some (.ref 86)], [.int s0], σ) = aNar .boolean (s0) (some (.inl (some (.int s0)), σ)) :=
  (aUn_eq (tkd G.1 G.2) tmi (aRun (tkd G.1 G.2) tmi tmt d) M_14 [] 1 (18, [some (.ref 86)], [.int s0], σ)).trans rfl
set_option maxRecDepth 20000 in
theorem q_14_5962 (G : Nat × (Nat → Int32)) (d : Nat)  (σ : aH) : Lq G d M_14 (6, [some (.ref 86)], [], σ) = Lq G d M_14 (10, [some (.ref 86)], [.int (0 : Int32)], σ) :=
  (aUn_eq (tkd G.1 G.2) tmi (aRun (tkd G.1 G.2) tmi tmt d) M_14 [] 2 (6, [some (.ref 86)], [], σ)).trans rfl
set_option maxRecDepth 20000 in
theorem q_14_5963 (G : Nat × (Nat → Int32)) (d : Nat) (s0 : Int32) (σ : aH) : Lq G d M_14 (10, [some (.ref 86)], [.int s0], σ) = if s0 = 0 then Lq G d M_14 (13, [some (.ref 86)], [], σ) else Lq G d M_14 (17, [some (.ref 86)], [], σ) :=
  (aUn_eq (tkd G.1 G.2) tmi (aRun (tkd G.1 G.2) tmi tmt d) M_14 [] 1 (10, [some (.ref 86)], [.int s0], σ)).trans rfl
set_option maxRecDepth 20000 in
theorem q_14_5964 (G : Nat × (Nat → Int32)) (d : Nat)  (σ : aH) : Lq G d M_14 (13, [some (.ref 86)], [], σ) = Lq G d M_14 (18, [some (.ref 86)], [.int (1 : Int32)], σ) :=
  (aUn_eq (tkd G.1 G.2) tmi (aRun (tkd G.1 G.2) tmi tmt d) M_14 [] 2 (13, [some (.ref 86)], [], σ)).trans rfl
set_option maxRecDepth 20000 in
theorem q_14_5965 (G : Nat × (Nat → Int32)) (d : Nat)  (σ : aH) : Lq G d M_14 (0, [some (.ref 88)], [], σ) = Lq G d M_14 (3, [some (.ref 88)], [.int (1 : Int32)], σ) :=
  (aUn_eq (tkd G.1 G.2) tmi (aRun (tkd G.1 G.2) tmi tmt d) M_14 [] 1 (0, [some (.ref 88)], [], σ)).trans rfl
set_option maxRecDepth 20000 in
theorem q_14_5966 (G : Nat × (Nat → Int32)) (d : Nat) (s0 : Int32) (σ : aH) : Lq G d M_14 (3, [some (.ref 88)], [.int s0], σ) = if s0 = 0 then Lq G d M_14 (17, [some (.ref 88)], [], σ) else Lq G d M_14 (6, [some (.ref 88)], [], σ) :=
  (aUn_eq (tkd G.1 G.2) tmi (aRun (tkd G.1 G.2) tmi tmt d) M_14 [] 1 (3, [some (.ref 88)], [.int s0], σ)).trans rfl
set_option maxRecDepth 20000 in
theorem q_14_5967 (G : Nat × (Nat → Int32)) (d : Nat)  (σ : aH) : Lq G d M_14 (17, [some (.ref 88)], [], σ) = Lq G d M_14 (18, [some (.ref 88)], [.int (0 : Int32)], σ) :=
  (aUn_eq (tkd G.1 G.2) tmi (aRun (tkd G.1 G.2) tmi tmt d) M_14 [] 1 (17, [some (.ref 88)], [], σ)).trans rfl
set_option maxRecDepth 20000 in
theorem q_14_5968 (G : Nat × (Nat → Int32)) (d : Nat) (s0 : Int32) (σ : aH) : Lq G d M_14 (18, [some (.ref 88)], [.int s0], σ) = aNar .boolean (s0) (some (.inl (some (.int s0)), σ)) :=
  (aUn_eq (tkd G.1 G.2) tmi (aRun (tkd G.1 G.2) tmi tmt d) M_14 [] 1 (18, [some (.ref 88)], [.int s0], σ)).trans rfl
set_option maxRecDepth 20000 in
theorem q_14_5969 (G : Nat × (Nat → Int32)) (d : Nat)  (σ : aH) : Lq G d M_14 (6, [some (.ref 88)], [], σ) = Lq G d M_14 (10, [some (.ref 88)], [.int (0 : Int32)], σ) :=
  (aUn_eq (tkd G.1 G.2) tmi (aRun (tkd G.1 G.2) tmi tmt d) M_14 [] 2 (6, [some (.ref 88)], [], σ)).trans rfl
set_option maxRecDepth 20000 in
theorem q_14_5970 (G : Nat × (Nat → Int32)) (d : Nat) (s0 : Int32) (σ : aH) : Lq G d M_14 (10, [some (.ref 88)], [.int s0], σ) = if s0 = 0 then Lq G d M_14 (13, [some (.ref 88)], [], σ) else Lq G d M_14 (17, [some (.ref 88)], [], σ) :=
  (aUn_eq (tkd G.1 G.2) tmi (aRun (tkd G.1 G.2) tmi tmt d) M_14 [] 1 (10, [some (.ref 88)], [.int s0], σ)).trans rfl
set_option maxRecDepth 20000 in
theorem q_14_5971 (G : Nat × (Nat → Int32)) (d : Nat)  (σ : aH) : Lq G d M_14 (13, [some (.ref 88)], [], σ) = Lq G d M_14 (18, [some (.ref 88)], [.int (1 : Int32)], σ) :=
  (aUn_eq (tkd G.1 G.2) tmi (aRun (tkd G.1 G.2) tmi tmt d) M_14 [] 2 (13, [some (.ref 88)], [], σ)).trans rfl
set_option maxRecDepth 20000 in
theorem q_14_5972 (G : Nat × (Nat → Int32)) (d : Nat)  (σ : aH) : Lq G d M_14 (0, [some (.ref 90)], [], σ) = Lq G d M_14 (3, [some (.ref 90)], [.int (1 : Int32)], σ) :=
  (aUn_eq (tkd G.1 G.2) tmi (aRun (tkd G.1 G.2) tmi tmt d) M_14 [] 1 (0, [some (.ref 90)], [], σ)).trans rfl
set_option maxRecDepth 20000 in
theorem q_14_5973 (G : Nat × (Nat → Int32)) (d : Nat) (s0 : Int32) (σ : aH) : Lq G d M_14 (3, [some (.ref 90)], [.int s0], σ) = if s0 = 0 then Lq G d M_14 (17, [some (.ref 90)], [], σ) else Lq G d M_14 (6, [some (.ref 90)], [], σ) :=
  (aUn_eq (tkd G.1 G.2) tmi (aRun (tkd G.1 G.2) tmi tmt d) M_14 [] 1 (3, [some (.ref 90)], [.int s0], σ)).trans rfl
set_option maxRecDepth 20000 in
theorem q_14_5974 (G : Nat × (Nat → Int32)) (d : Nat)  (σ : aH) : Lq G d M_14 (17, [some (.ref 90)], [], σ) = Lq G d M_14 (18, [some (.ref 90)], [.int (0 : Int32)], σ) :=
  (aUn_eq (tkd G.1 G.2) tmi (aRun (tkd G.1 G.2) tmi tmt d) M_14 [] 1 (17, [some (.ref 90)], [], σ)).trans rfl
set_option maxRecDepth 20000 in
theorem q_14_5975 (G : Nat × (Nat → Int32)) (d : Nat) (s0 : Int32) (σ : aH) : Lq G d M_14 (18, [some (.ref 90)], [.int s0], σ) = aNar .boolean (s0) (some (.inl (some (.int s0)), σ)) :=
  (aUn_eq (tkd G.1 G.2) tmi (aRun (tkd G.1 G.2) tmi tmt d) M_14 [] 1 (18, [some (.ref 90)], [.int s0], σ)).trans rfl
set_option maxRecDepth 20000 in
theorem q_14_5976 (G : Nat × (Nat → Int32)) (d : Nat)  (σ : aH) : Lq G d M_14 (6, [some (.ref 90)], [], σ) = Lq G d M_14 (10, [some (.ref 90)], [.int (0 : Int32)], σ) :=
  (aUn_eq (tkd G.1 G.2) tmi (aRun (tkd G.1 G.2) tmi tmt d) M_14 [] 2 (6, [some (.ref 90)], [], σ)).trans rfl
set_option maxRecDepth 20000 in
theorem q_14_5977 (G : Nat × (Nat → Int32)) (d : Nat) (s0 : Int32) (σ : aH) : Lq G d M_14 (10, [some (.ref 90)], [.int s0], σ) = if s0 = 0 then Lq G d M_14 (13, [some (.ref 90)], [], σ) else Lq G d M_14 (17, [some (.ref 90)], [], σ) :=
  (aUn_eq (tkd G.1 G.2) tmi (aRun (tkd G.1 G.2) tmi tmt d) M_14 [] 1 (10, [some (.ref 90)], [.int s0], σ)).trans rfl
set_option maxRecDepth 20000 in
theorem q_14_5978 (G : Nat × (Nat → Int32)) (d : Nat)  (σ : aH) : Lq G d M_14 (13, [some (.ref 90)], [], σ) = Lq G d M_14 (18, [some (.ref 90)], [.int (1 : Int32)], σ) :=
  (aUn_eq (tkd G.1 G.2) tmi (aRun (tkd G.1 G.2) tmi tmt d) M_14 [] 2 (13, [some (.ref 90)], [], σ)).trans rfl
set_option maxRecDepth 20000 in
theorem q_14_5979 (G : Nat × (Nat → Int32)) (d : Nat)  (σ : aH) : Lq G d M_14 (0, [some (.ref 92)], [], σ) = Lq G d M_14 (3, [some (.ref 92)], [.int (1 : Int32)], σ) :=
  (aUn_eq (tkd G.1 G.2) tmi (aRun (tkd G.1 G.2) tmi tmt d) M_14 [] 1 (0, [some (.ref 92)], [], σ)).trans rfl
set_option maxRecDepth 20000 in
theorem q_14_5980 (G : Nat × (Nat → Int32)) (d : Nat) (s0 : Int32) (σ : aH) : Lq G d M_14 (3, [some (.ref 92)], [.int s0], σ) = if s0 = 0 then Lq G d M_14 (17, [some (.ref 92)], [], σ) else Lq G d M_14 (6, [some (.ref 92)], [], σ) :=
  (aUn_eq (tkd G.1 G.2) tmi (aRun (tkd G.1 G.2) tmi tmt d) M_14 [] 1 (3, [some (.ref 92)], [.int s0], σ)).trans rfl
set_option maxRecDepth 20000 in
theorem q_14_5981 (G : Nat × (Nat → Int32)) (d : Nat)  (σ : aH) : Lq G d M_14 (17, [some (.ref 92)], [], σ) = Lq G d M_14 (18, [some (.ref 92)], [.int (0 : Int32)], σ) :=
  (aUn_eq (tkd G.1 G.2) tmi (aRun (tkd G.1 G.2) tmi tmt d) M_14 [] 1 (17, [some (.ref 92)], [], σ)).trans rfl
set_option maxRecDepth 20000 in
theorem q_14_5982 (G : Nat × (Nat → Int32)) (d : Nat) (s0 : Int32) (σ : aH) : Lq G d M_14 (18, [some (.ref 92)], [.int s0], σ) = aNar .boolean (s0) (some (.inl (some (.int s0)), σ)) :=
  (aUn_eq (tkd G.1 G.2) tmi (aRun (tkd G.1 G.2) tmi tmt d) M_14 [] 1 (18, [some (.ref 92)], [.int s0], σ)).trans rfl
set_option maxRecDepth 20000 in
theorem q_14_5983 (G : Nat × (Nat → Int32)) (d : Nat)  (σ : aH) : Lq G d M_14 (6, [some (.ref 92)], [], σ) = Lq G d M_14 (10, [some (.ref 92)], [.int (0 : Int32)], σ) :=
  (aUn_eq (tkd G.1 G.2) tmi (aRun (tkd G.1 G.2) tmi tmt d) M_14 [] 2 (6, [some (.ref 92)], [], σ)).trans rfl
set_option maxRecDepth 20000 in
theorem q_14_5984 (G : Nat × (Nat → Int32)) (d : Nat) (s0 : Int32) (σ : aH) : Lq G d M_14 (10, [some (.ref 92)], [.int s0], σ) = if s0 = 0 then Lq G d M_14 (13, [some (.ref 92)], [], σ) else Lq G d M_14 (17, [some (.ref 92)], [], σ) :=
  (aUn_eq (tkd G.1 G.2) tmi (aRun (tkd G.1 G.2) tmi tmt d) M_14 [] 1 (10, [some (.ref 92)], [.int s0], σ)).trans rfl
set_option maxRecDepth 20000 in
theorem q_14_5985 (G : Nat × (Nat → Int32)) (d : Nat)  (σ : aH) : Lq G d M_14 (13, [some (.ref 92)], [], σ) = Lq G d M_14 (18, [some (.ref 92)], [.int (1 : Int32)], σ) :=
  (aUn_eq (tkd G.1 G.2) tmi (aRun (tkd G.1 G.2) tmi tmt d) M_14 [] 2 (13, [some (.ref 92)], [], σ)).trans rfl
set_option maxRecDepth 20000 in
theorem q_14_5986 (G : Nat × (Nat → Int32)) (d : Nat)  (σ : aH) : Lq G d M_14 (0, [some (.ref 94)], [], σ) = Lq G d M_14 (3, [some (.ref 94)], [.int (1 : Int32)], σ) :=
  (aUn_eq (tkd G.1 G.2) tmi (aRun (tkd G.1 G.2) tmi tmt d) M_14 [] 1 (0, [some (.ref 94)], [], σ)).trans rfl
set_option maxRecDepth 20000 in
theorem q_14_5987 (G : Nat × (Nat → Int32)) (d : Nat) (s0 : Int32) (σ : aH) : Lq G d M_14 (3, [some (.ref 94)], [.int s0], σ) = if s0 = 0 then Lq G d M_14 (17, [some (.ref 94)], [], σ) else Lq G d M_14 (6, [some (.ref 94)], [], σ) :=
  (aUn_eq (tkd G.1 G.2) tmi (aRun (tkd G.1 G.2) tmi tmt d) M_14 [] 1 (3, [some (.ref 94)], [.int s0], σ)).trans rfl
set_option maxRecDepth 20000 in
theorem q_14_5988 (G : Nat × (Nat → Int32)) (d : Nat)  (σ : aH) : Lq G d M_14 (17, [some (.ref 94)], [], σ) = Lq G d M_14 (18, [some (.ref 94)], [.int (0 : Int32)], σ) :=
  (aUn_eq (tkd G.1 G.2) tmi (aRun (tkd G.1 G.2) tmi tmt d) M_14 [] 1 (17, [some (.ref 94)], [], σ)).trans rfl
set_option maxRecDepth 20000 in
theorem q_14_5989 (G : Nat × (Nat → Int32)) (d : Nat) (s0 : Int32) (σ : aH) : Lq G d M_14 (18, [some (.ref 94)], [.int s0], σ) = aNar .boolean (s0) (some (.inl (some (.int s0)), σ)) :=
  (aUn_eq (tkd G.1 G.2) tmi (aRun (tkd G.1 G.2) tmi tmt d) M_14 [] 1 (18, [some (.ref 94)], [.int s0], σ)).trans rfl
set_option maxRecDepth 20000 in
theorem q_14_5990 (G : Nat × (Nat → Int32)) (d : Nat)  (σ : aH) : Lq G d M_14 (6, [some (.ref 94)], [], σ) = Lq G d M_14 (10, [some (.ref 94)], [.int (0 : Int32)], σ) :=
  (aUn_eq (tkd G.1 G.2) tmi (aRun (tkd G.1 G.2) tmi tmt d) M_14 [] 2 (6, [some (.ref 94)], [], σ)).trans rfl
set_option maxRecDepth 20000 in
theorem q_14_5991 (G : Nat × (Nat → Int32)) (d : Nat) (s0 : Int32) (σ : aH) : Lq G d M_14 (10, [some (.ref 94)], [.int s0], σ) = if s0 = 0 then Lq G d M_14 (13, [some (.ref 94)], [], σ) else Lq G d M_14 (17, [some (.ref 94)], [], σ) :=
  (aUn_eq (tkd G.1 G.2) tmi (aRun (tkd G.1 G.2) tmi tmt d) M_14 [] 1 (10, [some (.ref 94)], [.int s0], σ)).trans rfl
set_option maxRecDepth 20000 in
theorem q_14_5992 (G : Nat × (Nat → Int32)) (d : Nat)  (σ : aH) : Lq G d M_14 (13, [some (.ref 94)], [], σ) = Lq G d M_14 (18, [some (.ref 94)], [.int (1 : Int32)], σ) :=
  (aUn_eq (tkd G.1 G.2) tmi (aRun (tkd G.1 G.2) tmi tmt d) M_14 [] 2 (13, [some (.ref 94)], [], σ)).trans rfl
set_option maxRecDepth 20000 in
theorem q_14_5993 (G : Nat × (Nat → Int32)) (d : Nat)  (σ : aH) : Lq G d M_14 (0, [some (.ref 96)], [], σ) = Lq G d M_14 (3, [some (.ref 96)], [.int (1 : Int32)], σ) :=
  (aUn_eq (tkd G.1 G.2) tmi (aRun (tkd G.1 G.2) tmi tmt d) M_14 [] 1 (0, [some (.ref 96)], [], σ)).trans rfl
set_option maxRecDepth 20000 in
theorem q_14_5994 (G : Nat × (Nat → Int32)) (d : Nat) (s0 : Int32) (σ : aH) : Lq G d M_14 (3, [some (.ref 96)], [.int s0], σ) = if s0 = 0 then Lq G d M_14 (17, [some (.ref 96)], [], σ) else Lq G d M_14 (6, [some (.ref 96)], [], σ) :=
  (aUn_eq (tkd G.1 G.2) tmi (aRun (tkd G.1 G.2) tmi tmt d) M_14 [] 1 (3, [some (.ref 96)], [.int s0], σ)).trans rfl
set_option maxRecDepth 20000 in
theorem q_14_5995 (G : Nat × (Nat → Int32)) (d : Nat)  (σ : aH) : Lq G d M_14 (17, [some (.ref 96)], [], σ) = Lq G d M_14 (18, [some (.ref 96)], [.int (0 : Int32)], σ) :=
  (aUn_eq (tkd G.1 G.2) tmi (aRun (tkd G.1 G.2) tmi tmt d) M_14 [] 1 (17, [some (.ref 96)], [], σ)).trans rfl
set_option maxRecDepth 20000 in
theorem q_14_5996 (G : Nat × (Nat → Int32)) (d : Nat) (s0 : Int32) (σ : aH) : Lq G d M_14 (18, [some (.ref 96)], [.int s0], σ) = aNar .boolean (s0) (some (.inl (some (.int s0)), σ)) :=
  (aUn_eq (tkd G.1 G.2) tmi (aRun (tkd G.1 G.2) tmi tmt d) M_14 [] 1 (18, [some (.ref 96)], [.int s0], σ)).trans rfl
set_option maxRecDepth 20000 in
theorem q_14_5997 (G : Nat × (Nat → Int32)) (d : Nat)  (σ : aH) : Lq G d M_14 (6, [some (.ref 96)], [], σ) = Lq G d M_14 (10, [some (.ref 96)], [.int (0 : Int32)], σ) :=
  (aUn_eq (tkd G.1 G.2) tmi (aRun (tkd G.1 G.2) tmi tmt d) M_14 [] 2 (6, [some (.ref 96)], [], σ)).trans rfl
set_option maxRecDepth 20000 in
theorem q_14_5998 (G : Nat × (Nat → Int32)) (d : Nat) (s0 : Int32) (σ : aH) : Lq G d M_14 (10, [some (.ref 96)], [.int s0], σ) = if s0 = 0 then Lq G d M_14 (13, [some (.ref 96)], [], σ) else Lq G d M_14 (17, [some (.ref 96)], [], σ) :=
  (aUn_eq (tkd G.1 G.2) tmi (aRun (tkd G.1 G.2) tmi tmt d) M_14 [] 1 (10, [some (.ref 96)], [.int s0], σ)).trans rfl
set_option maxRecDepth 20000 in
theorem q_14_5999 (G : Nat × (Nat → Int32)) (d : Nat)  (σ : aH) : Lq G d M_14 (13, [some (.ref 96)], [], σ) = Lq G d M_14 (18, [some (.ref 96)], [.int (1 : Int32)], σ) :=
  (aUn_eq (tkd G.1 G.2) tmi (aRun (tkd G.1 G.2) tmi tmt d) M_14 [] 2 (13, [some (.ref 96)], [], σ)).trans rfl
